theorem dX5_sees_0 : decode cX5_sees 0 = .ok (.aload_n 0, 1) := by decide +kernel
theorem dX5_sees_1 : decode cX5_sees 1 = .ok (.getfield 50, 3) := by decide +kernel
theorem dX5_sees_4 : decode cX5_sees 4 = .ok (.ifCond .ge 20, 3) := by decide +kernel
theorem dX5_sees_24 : decode cX5_sees 24 = .ok (.iconst 0, 1) := by decide +kernel
theorem dX5_sees_25 : decode cX5_sees 25 = .ok (.ireturn, 1) := by decide +kernel
theorem dX5_fail_0 : decode cX5_fail 0 = .ok (.aload_n 0, 1) := by decide +kernel
theorem dX5_fail_1 : decode cX5_fail 1 = .ok (.getfield 50, 3) := by decide +kernel
theorem dX5_fail_4 : decode cX5_fail 4 = .ok (.ifCond .ge 16, 3) := by decide +kernel
theorem dX5_fail_20 : decode cX5_fail 20 = .ok (.return_, 1) := by decide +kernel
theorem dX5_readOne_0 : decode cX5_readOne 0 = .ok (.aload_n 0, 1) := by decide +kernel
theorem dX5_readOne_1 : decode cX5_readOne 1 = .ok (.bipush 12, 2) := by decide +kernel
set_option maxRecDepth 20000 in
theorem ggX5_readOne_X5_sees : GoodIn wsX5_readOne wsX5_sees := goodIn_r _ [10, 4, 5, 3, 58, 59, 60, 61, 62, 63, 64, 65] (by decide +kernel) (by decide +kernel)
set_option maxRecDepth 20000 in
theorem gX5_readOne_X5_sees : GoodIn wsX5_readOne (wsV RX5 64 RX5 yX5_sees wsX5_sees) := goodIn_app (goodIn_of _ (by decide +kernel)) ggX5_readOne_X5_sees
theorem dX5_readOne_3 : decode cX5_readOne 3 = .ok (.invokevirtual 64, 3) := by decide +kernel
theorem dX5_readOne_6 : decode cX5_readOne 6 = .ok (.ifCond .eq 26, 3) := by decide +kernel
theorem dX5_readOne_32 : decode cX5_readOne 32 = .ok (.aload_n 0, 1) := by decide +kernel
theorem dX5_readOne_33 : decode cX5_readOne 33 = .ok (.getfield 50, 3) := by decide +kernel
theorem dX5_readOne_36 : decode cX5_readOne 36 = .ok (.ifCond .ge 53, 3) := by decide +kernel
theorem dX5_readOne_89 : decode cX5_readOne 89 = .ok (.aload_n 0, 1) := by decide +kernel
theorem dX5_readOne_90 : decode cX5_readOne 90 = .ok (.bipush 45, 2) := by decide +kernel
theorem dX5_readOne_92 : decode cX5_readOne 92 = .ok (.invokevirtual 64, 3) := by decide +kernel
theorem dX5_readOne_95 : decode cX5_readOne 95 = .ok (.ifCond .eq 31, 3) := by decide +kernel
theorem dX5_readOne_126 : decode cX5_readOne 126 = .ok (.aload_n 0, 1) := by decide +kernel
theorem dX5_readOne_127 : decode cX5_readOne 127 = .ok (.bipush 40, 2) := by decide +kernel
theorem dX5_readOne_129 : decode cX5_readOne 129 = .ok (.invokevirtual 64, 3) := by decide +kernel
theorem dX5_readOne_132 : decode cX5_readOne 132 = .ok (.ifCond .eq 28, 3) := by decide +kernel
theorem dX5_readOne_160 : decode cX5_readOne 160 = .ok (.aload_n 0, 1) := by decide +kernel
set_option maxRecDepth 20000 in
theorem ggX5_readOne_X5_fail : GoodIn wsX5_readOne wsX5_fail := goodIn_r _ [35, 4, 36, 3, 58, 59, 60, 61, 62, 63, 64, 65] (by decide +kernel) (by decide +kernel)
set_option maxRecDepth 20000 in
theorem gX5_readOne_X5_fail : GoodIn wsX5_readOne (wsV RX5 71 RX5 yX5_fail wsX5_fail) := goodIn_app (goodIn_of _ (by decide +kernel)) ggX5_readOne_X5_fail
theorem dX5_readOne_161 : decode cX5_readOne 161 = .ok (.invokevirtual 71, 3) := by decide +kernel
theorem dX5_readOne_164 : decode cX5_readOne 164 = .ok (.return_, 1) := by decide +kernel
theorem dX5_readTerm_0 : decode cX5_readTerm 0 = .ok (.aload_n 0, 1) := by decide +kernel
theorem dX5_readTerm_1 : decode cX5_readTerm 1 = .ok (.iload_n 1, 1) := by decide +kernel
set_option maxRecDepth 20000 in
theorem ggX5_readTerm_X5_readOne : GoodIn wsX5_readTerm wsX5_readOne := goodIn_r _ [45, 1, 46, 12, 10, 11, 6, 7, 8, 5, 9, 17, 18, 19, 20, 21, 22, 23, 13, 14, 15, 16, 2, 3, 4, 47, 48, 49, 50, 51, 52, 53, 37, 38, 39, 40, 41, 24, 25, 26, 27, 28, 29, 30, 31, 32, 33, 34, 35, 36, 42, 43, 44, 54, 55, 56, 57, 0, 58, 59, 60, 61, 62, 63, 64, 65, 66, 67, 68] (by decide +kernel) (by decide +kernel)
set_option maxRecDepth 20000 in
theorem gX5_readTerm_X5_readOne : GoodIn wsX5_readTerm (wsV RX5 92 RX5 yX5_readOne wsX5_readOne) := goodIn_app (goodIn_of _ (by decide +kernel)) ggX5_readTerm_X5_readOne
theorem dX5_readTerm_2 : decode cX5_readTerm 2 = .ok (.invokevirtual 92, 3) := by decide +kernel
theorem dX5_readTerm_5 : decode cX5_readTerm 5 = .ok (.iconst 0, 1) := by decide +kernel
theorem dX5_readTerm_6 : decode cX5_readTerm 6 = .ok (.istore_n 2, 1) := by decide +kernel
theorem dX5_readTerm_7 : decode cX5_readTerm 7 = .ok (.iload_n 2, 1) := by decide +kernel
theorem dX5_readTerm_8 : decode cX5_readTerm 8 = .ok (.sipush 160, 3) := by decide +kernel
theorem dX5_readTerm_11 : decode cX5_readTerm 11 = .ok (.if_icmp .ge 36, 3) := by decide +kernel
theorem dX5_readTerm_14 : decode cX5_readTerm 14 = .ok (.aload_n 0, 1) := by decide +kernel
theorem dX5_readTerm_15 : decode cX5_readTerm 15 = .ok (.bipush 42, 2) := by decide +kernel
set_option maxRecDepth 20000 in
theorem ggX5_readTerm_X5_sees : GoodIn wsX5_readTerm wsX5_sees := goodIn_r _ [9, 10, 11, 12, 58, 59, 60, 61, 62, 63, 64, 65] (by decide +kernel) (by decide +kernel)
set_option maxRecDepth 20000 in
theorem gX5_readTerm_X5_sees : GoodIn wsX5_readTerm (wsV RX5 64 RX5 yX5_sees wsX5_sees) := goodIn_app (goodIn_of _ (by decide +kernel)) ggX5_readTerm_X5_sees
theorem dX5_readTerm_17 : decode cX5_readTerm 17 = .ok (.invokevirtual 64, 3) := by decide +kernel
theorem dX5_readTerm_20 : decode cX5_readTerm 20 = .ok (.ifCond .eq 27, 3) := by decide +kernel
theorem dX5_readTerm_47 : decode cX5_readTerm 47 = .ok (.return_, 1) := by decide +kernel
theorem dX5_readSum_0 : decode cX5_readSum 0 = .ok (.aload_n 0, 1) := by decide +kernel
theorem dX5_readSum_1 : decode cX5_readSum 1 = .ok (.iload_n 1, 1) := by decide +kernel
set_option maxRecDepth 20000 in
theorem ggX5_readSum_X5_readTerm : GoodIn wsX5_readSum wsX5_readTerm := goodIn_r _ [57, 1, 47, 48, 49, 5, 6, 7, 8, 9, 10, 11, 12, 13, 14, 15, 16, 17, 18, 19, 20, 21, 22, 23, 24, 25, 26, 27, 28, 29, 30, 31, 32, 33, 34, 35, 36, 37, 38, 39, 40, 41, 42, 43, 44, 45, 46, 50, 51, 52, 53, 54, 55, 56, 0, 2, 3, 4, 58, 59, 60, 61, 62, 63, 64, 65, 66, 67, 68] (by decide +kernel) (by decide +kernel)
set_option maxRecDepth 20000 in
theorem gX5_readSum_X5_readTerm : GoodIn wsX5_readSum (wsV RX5 89 RX5 yX5_readTerm wsX5_readTerm) := goodIn_app (goodIn_of _ (by decide +kernel)) ggX5_readSum_X5_readTerm
theorem dX5_readSum_2 : decode cX5_readSum 2 = .ok (.invokevirtual 89, 3) := by decide +kernel
theorem dX5_readSum_5 : decode cX5_readSum 5 = .ok (.iconst 0, 1) := by decide +kernel
theorem dX5_readSum_6 : decode cX5_readSum 6 = .ok (.istore_n 2, 1) := by decide +kernel
theorem dX5_readSum_7 : decode cX5_readSum 7 = .ok (.iload_n 2, 1) := by decide +kernel
theorem dX5_readSum_8 : decode cX5_readSum 8 = .ok (.sipush 160, 3) := by decide +kernel
theorem dX5_readSum_11 : decode cX5_readSum 11 = .ok (.if_icmp .ge 61, 3) := by decide +kernel
theorem dX5_readSum_14 : decode cX5_readSum 14 = .ok (.aload_n 0, 1) := by decide +kernel
theorem dX5_readSum_15 : decode cX5_readSum 15 = .ok (.bipush 43, 2) := by decide +kernel
set_option maxRecDepth 20000 in
theorem ggX5_readSum_X5_sees : GoodIn wsX5_readSum wsX5_sees := goodIn_r _ [9, 10, 11, 12, 58, 59, 60, 61, 62, 63, 64, 65] (by decide +kernel) (by decide +kernel)
set_option maxRecDepth 20000 in
theorem gX5_readSum_X5_sees : GoodIn wsX5_readSum (wsV RX5 64 RX5 yX5_sees wsX5_sees) := goodIn_app (goodIn_of _ (by decide +kernel)) ggX5_readSum_X5_sees
theorem dX5_readSum_17 : decode cX5_readSum 17 = .ok (.invokevirtual 64, 3) := by decide +kernel
theorem dX5_readSum_20 : decode cX5_readSum 20 = .ok (.ifCond .ne 12, 3) := by decide +kernel
theorem dX5_readSum_23 : decode cX5_readSum 23 = .ok (.aload_n 0, 1) := by decide +kernel
theorem dX5_readSum_24 : decode cX5_readSum 24 = .ok (.bipush 45, 2) := by decide +kernel
theorem dX5_readSum_26 : decode cX5_readSum 26 = .ok (.invokevirtual 64, 3) := by decide +kernel
theorem dX5_readSum_29 : decode cX5_readSum 29 = .ok (.ifCond .eq 43, 3) := by decide +kernel
theorem dX5_readSum_72 : decode cX5_readSum 72 = .ok (.return_, 1) := by decide +kernel
theorem dX5_readCompared_0 : decode cX5_readCompared 0 = .ok (.aload_n 0, 1) := by decide +kernel
theorem dX5_readCompared_1 : decode cX5_readCompared 1 = .ok (.iload_n 1, 1) := by decide +kernel
set_option maxRecDepth 20000 in
theorem ggX5_readCompared_X5_readSum : GoodIn wsX5_readCompared wsX5_readSum := goodIn_r _ [53, 1, 54, 55, 56, 5, 6, 7, 8, 9, 10, 11, 12, 13, 14, 15, 16, 17, 18, 19, 20, 21, 22, 23, 24, 25, 26, 27, 28, 29, 30, 31, 0, 2, 3, 4, 32, 33, 34, 35, 36, 37, 38, 39, 40, 41, 42, 43, 44, 45, 46, 47, 48, 49, 50, 51, 52, 57, 58, 59, 60, 61, 62, 63, 64, 65, 66, 67, 68] (by decide +kernel) (by decide +kernel)
set_option maxRecDepth 20000 in
theorem gX5_readCompared_X5_readSum : GoodIn wsX5_readCompared (wsV RX5 86 RX5 yX5_readSum wsX5_readSum) := goodIn_app (goodIn_of _ (by decide +kernel)) ggX5_readCompared_X5_readSum
theorem dX5_readCompared_2 : decode cX5_readCompared 2 = .ok (.invokevirtual 86, 3) := by decide +kernel
theorem dX5_readCompared_5 : decode cX5_readCompared 5 = .ok (.aload_n 0, 1) := by decide +kernel
theorem dX5_readCompared_6 : decode cX5_readCompared 6 = .ok (.bipush 60, 2) := by decide +kernel
set_option maxRecDepth 20000 in
theorem ggX5_readCompared_X5_sees : GoodIn wsX5_readCompared wsX5_sees := goodIn_r _ [9, 10, 11, 12, 58, 59, 60, 61, 62, 63, 64, 65] (by decide +kernel) (by decide +kernel)
set_option maxRecDepth 20000 in
theorem gX5_readCompared_X5_sees : GoodIn wsX5_readCompared (wsV RX5 64 RX5 yX5_sees wsX5_sees) := goodIn_app (goodIn_of _ (by decide +kernel)) ggX5_readCompared_X5_sees
theorem dX5_readCompared_8 : decode cX5_readCompared 8 = .ok (.invokevirtual 64, 3) := by decide +kernel
theorem dX5_readCompared_11 : decode cX5_readCompared 11 = .ok (.ifCond .ne 12, 3) := by decide +kernel
theorem dX5_readCompared_14 : decode cX5_readCompared 14 = .ok (.aload_n 0, 1) := by decide +kernel
theorem dX5_readCompared_15 : decode cX5_readCompared 15 = .ok (.bipush 61, 2) := by decide +kernel
theorem dX5_readCompared_17 : decode cX5_readCompared 17 = .ok (.invokevirtual 64, 3) := by decide +kernel
theorem dX5_readCompared_20 : decode cX5_readCompared 20 = .ok (.ifCond .eq 37, 3) := by decide +kernel
theorem dX5_readCompared_57 : decode cX5_readCompared 57 = .ok (.return_, 1) := by decide +kernel
theorem dX5_readNot_0 : decode cX5_readNot 0 = .ok (.aload_n 0, 1) := by decide +kernel
theorem dX5_readNot_1 : decode cX5_readNot 1 = .ok (.bipush 11, 2) := by decide +kernel
set_option maxRecDepth 20000 in
theorem ggX5_readNot_X5_sees : GoodIn wsX5_readNot wsX5_sees := goodIn_r _ [6, 7, 8, 9, 58, 59, 60, 61, 62, 63, 64, 65] (by decide +kernel) (by decide +kernel)
set_option maxRecDepth 20000 in
theorem gX5_readNot_X5_sees : GoodIn wsX5_readNot (wsV RX5 64 RX5 yX5_sees wsX5_sees) := goodIn_app (goodIn_of _ (by decide +kernel)) ggX5_readNot_X5_sees
theorem dX5_readNot_3 : decode cX5_readNot 3 = .ok (.invokevirtual 64, 3) := by decide +kernel
theorem dX5_readNot_6 : decode cX5_readNot 6 = .ok (.ifCond .eq 15, 3) := by decide +kernel
theorem dX5_readNot_21 : decode cX5_readNot 21 = .ok (.aload_n 0, 1) := by decide +kernel
theorem dX5_readNot_22 : decode cX5_readNot 22 = .ok (.bipush 11, 2) := by decide +kernel
theorem dX5_readNot_24 : decode cX5_readNot 24 = .ok (.invokevirtual 64, 3) := by decide +kernel
theorem dX5_readNot_27 : decode cX5_readNot 27 = .ok (.ifCond .eq 26, 3) := by decide +kernel
theorem dX5_readNot_53 : decode cX5_readNot 53 = .ok (.aload_n 0, 1) := by decide +kernel
theorem dX5_readNot_54 : decode cX5_readNot 54 = .ok (.iload_n 1, 1) := by decide +kernel
set_option maxRecDepth 20000 in
theorem ggX5_readNot_X5_readCompared : GoodIn wsX5_readNot wsX5_readCompared := goodIn_r _ [37, 1, 38, 39, 40, 5, 2, 3, 4, 6, 7, 8, 9, 15, 16, 17, 18, 22, 23, 24, 25, 26, 27, 28, 32, 19, 20, 21, 33, 34, 35, 36, 0, 10, 11, 12, 13, 14, 29, 30, 31, 41, 42, 43, 44, 45, 46, 47, 48, 49, 50, 51, 52, 53, 54, 55, 56, 57, 58, 59, 60, 61, 62, 63, 64, 65, 66, 67, 68] (by decide +kernel) (by decide +kernel)
set_option maxRecDepth 20000 in
theorem gX5_readNot_X5_readCompared : GoodIn wsX5_readNot (wsV RX5 83 RX5 yX5_readCompared wsX5_readCompared) := goodIn_app (goodIn_of _ (by decide +kernel)) ggX5_readNot_X5_readCompared
theorem dX5_readNot_55 : decode cX5_readNot 55 = .ok (.invokevirtual 83, 3) := by decide +kernel
theorem dX5_readNot_58 : decode cX5_readNot 58 = .ok (.return_, 1) := by decide +kernel
theorem dX5_readBoth_0 : decode cX5_readBoth 0 = .ok (.aload_n 0, 1) := by decide +kernel
theorem dX5_readBoth_1 : decode cX5_readBoth 1 = .ok (.iload_n 1, 1) := by decide +kernel
set_option maxRecDepth 20000 in
theorem ggX5_readBoth_X5_readNot : GoodIn wsX5_readBoth wsX5_readNot := goodIn_r _ [32, 1, 6, 7, 8, 5, 9, 10, 11, 12, 33, 34, 35, 36, 37, 13, 14, 15, 16, 2, 3, 4, 17, 18, 19, 20, 21, 22, 23, 38, 39, 40, 0, 24, 25, 26, 27, 28, 29, 30, 31, 41, 42, 43, 44, 45, 46, 47, 48, 49, 50, 51, 52, 53, 54, 55, 56, 57, 58, 59, 60, 61, 62, 63, 64, 65, 66, 67, 68] (by decide +kernel) (by decide +kernel)
set_option maxRecDepth 20000 in
theorem gX5_readBoth_X5_readNot : GoodIn wsX5_readBoth (wsV RX5 80 RX5 yX5_readNot wsX5_readNot) := goodIn_app (goodIn_of _ (by decide +kernel)) ggX5_readBoth_X5_readNot
theorem dX5_readBoth_2 : decode cX5_readBoth 2 = .ok (.invokevirtual 80, 3) := by decide +kernel
theorem dX5_readBoth_5 : decode cX5_readBoth 5 = .ok (.iconst 0, 1) := by decide +kernel
theorem dX5_readBoth_6 : decode cX5_readBoth 6 = .ok (.istore_n 2, 1) := by decide +kernel
theorem dX5_readBoth_7 : decode cX5_readBoth 7 = .ok (.iload_n 2, 1) := by decide +kernel
theorem dX5_readBoth_8 : decode cX5_readBoth 8 = .ok (.sipush 160, 3) := by decide +kernel
theorem dX5_readBoth_11 : decode cX5_readBoth 11 = .ok (.if_icmp .ge 36, 3) := by decide +kernel
theorem dX5_readBoth_14 : decode cX5_readBoth 14 = .ok (.aload_n 0, 1) := by decide +kernel
theorem dX5_readBoth_15 : decode cX5_readBoth 15 = .ok (.bipush 10, 2) := by decide +kernel
set_option maxRecDepth 20000 in
theorem ggX5_readBoth_X5_sees : GoodIn wsX5_readBoth wsX5_sees := goodIn_r _ [9, 10, 11, 12, 58, 59, 60, 61, 62, 63, 64, 65] (by decide +kernel) (by decide +kernel)
set_option maxRecDepth 20000 in
theorem gX5_readBoth_X5_sees : GoodIn wsX5_readBoth (wsV RX5 64 RX5 yX5_sees wsX5_sees) := goodIn_app (goodIn_of _ (by decide +kernel)) ggX5_readBoth_X5_sees
theorem dX5_readBoth_17 : decode cX5_readBoth 17 = .ok (.invokevirtual 64, 3) := by decide +kernel
theorem dX5_readBoth_20 : decode cX5_readBoth 20 = .ok (.ifCond .eq 27, 3) := by decide +kernel
theorem dX5_readBoth_47 : decode cX5_readBoth 47 = .ok (.return_, 1) := by decide +kernel
theorem dX5_readChoice_0 : decode cX5_readChoice 0 = .ok (.aload_n 0, 1) := by decide +kernel
theorem dX5_readChoice_1 : decode cX5_readChoice 1 = .ok (.iload_n 1, 1) := by decide +kernel
set_option maxRecDepth 20000 in
theorem ggX5_readChoice_X5_readBoth : GoodIn wsX5_readChoice wsX5_readBoth := goodIn_r _ [24, 1, 25, 26, 27, 5, 6, 7, 8, 9, 10, 11, 12, 13, 14, 15, 16, 17, 18, 19, 20, 21, 22, 23, 0, 2, 3, 4, 28, 29, 30, 31, 32, 33, 34, 35, 36, 37, 38, 39, 40, 41, 42, 43, 44, 45, 46, 47, 48, 49, 50, 51, 52, 53, 54, 55, 56, 57, 58, 59, 60, 61, 62, 63, 64, 65, 66, 67, 68] (by decide +kernel) (by decide +kernel)
set_option maxRecDepth 20000 in
theorem gX5_readChoice_X5_readBoth : GoodIn wsX5_readChoice (wsV RX5 74 RX5 yX5_readBoth wsX5_readBoth) := goodIn_app (goodIn_of _ (by decide +kernel)) ggX5_readChoice_X5_readBoth
theorem dX5_readChoice_2 : decode cX5_readChoice 2 = .ok (.invokevirtual 74, 3) := by decide +kernel
theorem dX5_readChoice_5 : decode cX5_readChoice 5 = .ok (.iconst 0, 1) := by decide +kernel
theorem dX5_readChoice_6 : decode cX5_readChoice 6 = .ok (.istore_n 2, 1) := by decide +kernel
theorem dX5_readChoice_7 : decode cX5_readChoice 7 = .ok (.iload_n 2, 1) := by decide +kernel
theorem dX5_readChoice_8 : decode cX5_readChoice 8 = .ok (.sipush 160, 3) := by decide +kernel
theorem dX5_readChoice_11 : decode cX5_readChoice 11 = .ok (.if_icmp .ge 36, 3) := by decide +kernel
theorem dX5_readChoice_14 : decode cX5_readChoice 14 = .ok (.aload_n 0, 1) := by decide +kernel
theorem dX5_readChoice_15 : decode cX5_readChoice 15 = .ok (.bipush 9, 2) := by decide +kernel
set_option maxRecDepth 20000 in
theorem ggX5_readChoice_X5_sees : GoodIn wsX5_readChoice wsX5_sees := goodIn_r _ [9, 10, 11, 12, 58, 59, 60, 61, 62, 63, 64, 65] (by decide +kernel) (by decide +kernel)
set_option maxRecDepth 20000 in
theorem gX5_readChoice_X5_sees : GoodIn wsX5_readChoice (wsV RX5 64 RX5 yX5_sees wsX5_sees) := goodIn_app (goodIn_of _ (by decide +kernel)) ggX5_readChoice_X5_sees
theorem dX5_readChoice_17 : decode cX5_readChoice 17 = .ok (.invokevirtual 64, 3) := by decide +kernel
theorem dX5_readChoice_20 : decode cX5_readChoice 20 = .ok (.ifCond .eq 27, 3) := by decide +kernel
theorem dX5_readChoice_47 : decode cX5_readChoice 47 = .ok (.return_, 1) := by decide +kernel
theorem dX5_need_0 : decode cX5_need 0 = .ok (.aload_n 0, 1) := by decide +kernel
theorem dX5_need_1 : decode cX5_need 1 = .ok (.iload_n 1, 1) := by decide +kernel
set_option maxRecDepth 20000 in
theorem ggX5_need_X5_sees : GoodIn wsX5_need wsX5_sees := goodIn_r _ [5, 6, 7, 8, 18, 19, 20, 21, 22, 23, 24, 25] (by decide +kernel) (by decide +kernel)
set_option maxRecDepth 20000 in
theorem gX5_need_X5_sees : GoodIn wsX5_need (wsV RX5 64 RX5 yX5_sees wsX5_sees) := goodIn_app (goodIn_of _ (by decide +kernel)) ggX5_need_X5_sees
theorem dX5_need_2 : decode cX5_need 2 = .ok (.invokevirtual 64, 3) := by decide +kernel
theorem dX5_need_5 : decode cX5_need 5 = .ok (.ifCond .eq 10, 3) := by decide +kernel
theorem dX5_need_15 : decode cX5_need 15 = .ok (.aload_n 0, 1) := by decide +kernel
set_option maxRecDepth 20000 in
theorem ggX5_need_X5_fail : GoodIn wsX5_need wsX5_fail := goodIn_r _ [16, 6, 17, 8, 18, 19, 20, 21, 22, 23, 24, 25] (by decide +kernel) (by decide +kernel)
set_option maxRecDepth 20000 in
theorem gX5_need_X5_fail : GoodIn wsX5_need (wsV RX5 71 RX5 yX5_fail wsX5_fail) := goodIn_app (goodIn_of _ (by decide +kernel)) ggX5_need_X5_fail
theorem dX5_need_16 : decode cX5_need 16 = .ok (.invokevirtual 71, 3) := by decide +kernel
theorem dX5_need_19 : decode cX5_need 19 = .ok (.return_, 1) := by decide +kernel
theorem dX5_sees_7 : decode cX5_sees 7 = .ok (.aload_n 0, 1) := by decide +kernel
theorem dX5_sees_8 : decode cX5_sees 8 = .ok (.getfield 15, 3) := by decide +kernel
theorem dX5_sees_11 : decode cX5_sees 11 = .ok (.aload_n 0, 1) := by decide +kernel
theorem dX5_sees_12 : decode cX5_sees 12 = .ok (.getfield 47, 3) := by decide +kernel
theorem dX5_sees_15 : decode cX5_sees 15 = .ok (.iaload, 1) := by decide +kernel
theorem dX5_sees_16 : decode cX5_sees 16 = .ok (.iload_n 1, 1) := by decide +kernel
theorem dX5_sees_17 : decode cX5_sees 17 = .ok (.if_icmp .ne 7, 3) := by decide +kernel
theorem dX5_fail_7 : decode cX5_fail 7 = .ok (.aload_n 0, 1) := by decide +kernel
theorem dX5_fail_8 : decode cX5_fail 8 = .ok (.aload_n 0, 1) := by decide +kernel
theorem dX5_fail_9 : decode cX5_fail 9 = .ok (.getfield 18, 3) := by decide +kernel
theorem dX5_fail_12 : decode cX5_fail 12 = .ok (.aload_n 0, 1) := by decide +kernel
theorem dX5_fail_13 : decode cX5_fail 13 = .ok (.getfield 47, 3) := by decide +kernel
theorem dX5_fail_16 : decode cX5_fail 16 = .ok (.iaload, 1) := by decide +kernel
theorem dX5_fail_17 : decode cX5_fail 17 = .ok (.putfield 50, 3) := by decide +kernel
theorem dX5_cutTokens_0 : decode cX5_cutTokens 0 = .ok (.iconst 0, 1) := by decide +kernel
theorem dX5_cutTokens_1 : decode cX5_cutTokens 1 = .ok (.istore_n 1, 1) := by decide +kernel
theorem dX5_cutTokens_2 : decode cX5_cutTokens 2 = .ok (.iconst 0, 1) := by decide +kernel
theorem dX5_cutTokens_3 : decode cX5_cutTokens 3 = .ok (.istore_n 2, 1) := by decide +kernel
theorem dX5_cutTokens_4 : decode cX5_cutTokens 4 = .ok (.iload_n 2, 1) := by decide +kernel
theorem dX5_cutTokens_5 : decode cX5_cutTokens 5 = .ok (.aload_n 0, 1) := by decide +kernel
theorem dX5_cutTokens_6 : decode cX5_cutTokens 6 = .ok (.getfield 37, 3) := by decide +kernel
theorem dX5_cutTokens_9 : decode cX5_cutTokens 9 = .ok (.if_icmp .ge 48, 3) := by decide +kernel
theorem dX5_cutTokens_57 : decode cX5_cutTokens 57 = .ok (.aload_n 0, 1) := by decide +kernel
theorem dX5_cutTokens_58 : decode cX5_cutTokens 58 = .ok (.getfield 15, 3) := by decide +kernel
theorem dX5_cutTokens_61 : decode cX5_cutTokens 61 = .ok (.iload_n 1, 1) := by decide +kernel
theorem dX5_cutTokens_62 : decode cX5_cutTokens 62 = .ok (.iconst 0, 1) := by decide +kernel
theorem dX5_cutTokens_63 : decode cX5_cutTokens 63 = .ok (.iastore, 1) := by decide +kernel
theorem dX5_cutTokens_64 : decode cX5_cutTokens 64 = .ok (.aload_n 0, 1) := by decide +kernel
theorem dX5_cutTokens_65 : decode cX5_cutTokens 65 = .ok (.getfield 18, 3) := by decide +kernel
theorem dX5_cutTokens_68 : decode cX5_cutTokens 68 = .ok (.iload_n 1, 1) := by decide +kernel
theorem dX5_cutTokens_69 : decode cX5_cutTokens 69 = .ok (.aload_n 0, 1) := by decide +kernel
theorem dX5_cutTokens_70 : decode cX5_cutTokens 70 = .ok (.getfield 37, 3) := by decide +kernel
theorem dX5_cutTokens_73 : decode cX5_cutTokens 73 = .ok (.iastore, 1) := by decide +kernel
theorem dX5_cutTokens_74 : decode cX5_cutTokens 74 = .ok (.return_, 1) := by decide +kernel
theorem dX9_clear_0 : decode cX9_clear 0 = .ok (.aload_n 0, 1) := by decide +kernel
theorem dX9_clear_1 : decode cX9_clear 1 = .ok (.iconst 0, 1) := by decide +kernel
theorem dX9_clear_2 : decode cX9_clear 2 = .ok (.putfield 15, 3) := by decide +kernel
theorem dX9_clear_5 : decode cX9_clear 5 = .ok (.aload_n 0, 1) := by decide +kernel
theorem dX9_clear_6 : decode cX9_clear 6 = .ok (.iconst 0, 1) := by decide +kernel
theorem dX9_clear_7 : decode cX9_clear 7 = .ok (.putfield 19, 3) := by decide +kernel
theorem dX9_clear_10 : decode cX9_clear 10 = .ok (.return_, 1) := by decide +kernel
theorem dX5_readAll_0 : decode cX5_readAll 0 = .ok (.aload_n 0, 1) := by decide +kernel
theorem dX5_readAll_1 : decode cX5_readAll 1 = .ok (.aload_n 1, 1) := by decide +kernel
theorem dX5_readAll_2 : decode cX5_readAll 2 = .ok (.putfield 11, 3) := by decide +kernel
theorem dX5_readAll_5 : decode cX5_readAll 5 = .ok (.aload_n 0, 1) := by decide +kernel
theorem dX5_readAll_6 : decode cX5_readAll 6 = .ok (.iload_n 2, 1) := by decide +kernel
theorem dX5_readAll_7 : decode cX5_readAll 7 = .ok (.aload_n 1, 1) := by decide +kernel
theorem dX5_readAll_8 : decode cX5_readAll 8 = .ok (.arraylength, 1) := by decide +kernel
theorem dX5_readAll_9 : decode cX5_readAll 9 = .ok (.invokestatic 31, 3) := by decide +kernel
theorem dX5_readAll_12 : decode cX5_readAll 12 = .ok (.putfield 37, 3) := by decide +kernel
theorem dX5_readAll_15 : decode cX5_readAll 15 = .ok (.aload_n 0, 1) := by decide +kernel
set_option maxRecDepth 20000 in
theorem ggX5_readAll_X5_cutTokens : GoodIn wsX5_readAll wsX5_cutTokens := goodIn_r _ [16, 6, 1, 17, 18, 19, 20, 15, 21, 22, 23, 24, 25, 26, 27, 28, 29, 30, 31, 32, 33, 34, 35, 36, 37, 38, 39, 40, 41, 42, 43, 44, 45, 46, 47, 48, 49, 50, 51, 52, 53, 54, 55, 56, 57, 58, 59, 60, 61, 62, 63, 64, 65, 66, 67, 68, 69, 70, 71, 72, 73, 74, 75, 76, 77, 78, 79, 80, 81, 82, 83, 84, 85, 86, 87, 88, 89, 90, 91, 92, 93, 94, 95, 152, 153, 154, 155, 156, 157, 158, 159] (by decide +kernel) (by decide +kernel)
set_option maxRecDepth 20000 in
theorem gX5_readAll_X5_cutTokens : GoodIn wsX5_readAll (wsV RX5 41 RX5 yX5_cutTokens wsX5_cutTokens) := goodIn_app (goodIn_of _ (by decide +kernel)) ggX5_readAll_X5_cutTokens
theorem dX5_readAll_16 : decode cX5_readAll 16 = .ok (.invokevirtual 41, 3) := by decide +kernel
theorem dX5_readAll_19 : decode cX5_readAll 19 = .ok (.aload_n 0, 1) := by decide +kernel
theorem dX5_readAll_20 : decode cX5_readAll 20 = .ok (.getfield 27, 3) := by decide +kernel
set_option maxRecDepth 20000 in
theorem ggX5_readAll_X9_clear : GoodIn wsX5_readAll wsX9_clear := goodIn_r _ [100, 101, 102, 160, 161, 162] (by decide +kernel) (by decide +kernel)
set_option maxRecDepth 20000 in
theorem gX5_readAll_X9_clear : GoodIn wsX5_readAll (wsV RX5 44 RX9 yX9_clear wsX9_clear) := goodIn_app (goodIn_of _ (by decide +kernel)) ggX5_readAll_X9_clear
theorem dX5_readAll_23 : decode cX5_readAll 23 = .ok (.invokevirtual 44, 3) := by decide +kernel
theorem dX5_readAll_26 : decode cX5_readAll 26 = .ok (.aload_n 0, 1) := by decide +kernel
theorem dX5_readAll_27 : decode cX5_readAll 27 = .ok (.iconst 0, 1) := by decide +kernel
theorem dX5_readAll_28 : decode cX5_readAll 28 = .ok (.putfield 47, 3) := by decide +kernel
theorem dX5_readAll_31 : decode cX5_readAll 31 = .ok (.aload_n 0, 1) := by decide +kernel
theorem dX5_readAll_32 : decode cX5_readAll 32 = .ok (.iconst (-1), 1) := by decide +kernel
theorem dX5_readAll_33 : decode cX5_readAll 33 = .ok (.putfield 50, 3) := by decide +kernel
theorem dX5_readAll_36 : decode cX5_readAll 36 = .ok (.aload_n 0, 1) := by decide +kernel
theorem dX5_readAll_37 : decode cX5_readAll 37 = .ok (.bipush 7, 2) := by decide +kernel
set_option maxRecDepth 20000 in
theorem ggX5_readAll_X5_need : GoodIn wsX5_readAll wsX5_need := goodIn_r _ [106, 107, 108, 109, 15, 110, 9, 18, 8, 111, 112, 113, 114, 115, 116, 117, 118, 17, 152, 153, 154, 155, 156, 157, 158, 159] (by decide +kernel) (by decide +kernel)
set_option maxRecDepth 20000 in
theorem gX5_readAll_X5_need : GoodIn wsX5_readAll (wsV RX5 53 RX5 yX5_need wsX5_need) := goodIn_app (goodIn_of _ (by decide +kernel)) ggX5_readAll_X5_need
theorem dX5_readAll_39 : decode cX5_readAll 39 = .ok (.invokevirtual 53, 3) := by decide +kernel
theorem dX5_readAll_42 : decode cX5_readAll 42 = .ok (.aload_n 0, 1) := by decide +kernel
theorem dX5_readAll_43 : decode cX5_readAll 43 = .ok (.iconst 0, 1) := by decide +kernel
set_option maxRecDepth 20000 in
theorem ggX5_readAll_X5_readChoice : GoodIn wsX5_readAll wsX5_readChoice := goodIn_r _ [122, 7, 123, 124, 125, 15, 107, 108, 109, 110, 9, 18, 8, 111, 112, 113, 114, 126, 127, 128, 99, 129, 101, 130, 131, 132, 133, 134, 135, 136, 137, 138, 139, 115, 116, 117, 118, 17, 140, 141, 142, 143, 26, 144, 145, 146, 119, 120, 121, 103, 104, 105, 106, 147, 148, 149, 150, 151, 152, 153, 154, 155, 156, 157, 158, 159, 160, 161, 162] (by decide +kernel) (by decide +kernel)
set_option maxRecDepth 20000 in
theorem gX5_readAll_X5_readChoice : GoodIn wsX5_readAll (wsV RX5 57 RX5 yX5_readChoice wsX5_readChoice) := goodIn_app (goodIn_of _ (by decide +kernel)) ggX5_readAll_X5_readChoice
theorem dX5_readAll_44 : decode cX5_readAll 44 = .ok (.invokevirtual 57, 3) := by decide +kernel
theorem dX5_readAll_47 : decode cX5_readAll 47 = .ok (.aload_n 0, 1) := by decide +kernel
theorem dX5_readAll_48 : decode cX5_readAll 48 = .ok (.bipush 59, 2) := by decide +kernel
theorem dX5_readAll_50 : decode cX5_readAll 50 = .ok (.invokevirtual 53, 3) := by decide +kernel
theorem dX5_readAll_53 : decode cX5_readAll 53 = .ok (.aload_n 0, 1) := by decide +kernel
theorem dX5_readAll_54 : decode cX5_readAll 54 = .ok (.getfield 27, 3) := by decide +kernel
theorem dX5_readAll_57 : decode cX5_readAll 57 = .ok (.aload_n 0, 1) := by decide +kernel
theorem dX5_readAll_58 : decode cX5_readAll 58 = .ok (.getfield 27, 3) := by decide +kernel
theorem dX5_readAll_61 : decode cX5_readAll 61 = .ok (.getfield 60, 3) := by decide +kernel
theorem dX5_readAll_64 : decode cX5_readAll 64 = .ok (.putfield 61, 3) := by decide +kernel
theorem dX5_readAll_67 : decode cX5_readAll 67 = .ok (.aload_n 0, 1) := by decide +kernel
theorem dX5_readAll_68 : decode cX5_readAll 68 = .ok (.bipush 8, 2) := by decide +kernel
theorem dX5_readAll_70 : decode cX5_readAll 70 = .ok (.invokevirtual 53, 3) := by decide +kernel
theorem dX5_readAll_73 : decode cX5_readAll 73 = .ok (.aload_n 0, 1) := by decide +kernel
theorem dX5_readAll_74 : decode cX5_readAll 74 = .ok (.iconst 0, 1) := by decide +kernel
theorem dX5_readAll_75 : decode cX5_readAll 75 = .ok (.invokevirtual 57, 3) := by decide +kernel
theorem dX5_readAll_78 : decode cX5_readAll 78 = .ok (.aload_n 0, 1) := by decide +kernel
theorem dX5_readAll_79 : decode cX5_readAll 79 = .ok (.bipush 59, 2) := by decide +kernel
theorem dX5_readAll_81 : decode cX5_readAll 81 = .ok (.invokevirtual 53, 3) := by decide +kernel
theorem dX5_readAll_84 : decode cX5_readAll 84 = .ok (.aload_n 0, 1) := by decide +kernel
theorem dX5_readAll_85 : decode cX5_readAll 85 = .ok (.iconst 0, 1) := by decide +kernel
theorem dX5_readAll_86 : decode cX5_readAll 86 = .ok (.invokevirtual 53, 3) := by decide +kernel
theorem dX5_readAll_89 : decode cX5_readAll 89 = .ok (.aload_n 0, 1) := by decide +kernel
theorem dX5_readAll_90 : decode cX5_readAll 90 = .ok (.getfield 50, 3) := by decide +kernel
theorem dX5_readAll_93 : decode cX5_readAll 93 = .ok (.ireturn, 1) := by decide +kernel
theorem dX3_readTape_0 : decode cX3_readTape 0 = .ok (.aload_n 0, 1) := by decide +kernel
theorem dX3_readTape_1 : decode cX3_readTape 1 = .ok (.getfield 38, 3) := by decide +kernel
theorem dX3_readTape_4 : decode cX3_readTape 4 = .ok (.bipush 6, 2) := by decide +kernel
theorem dX3_readTape_6 : decode cX3_readTape 6 = .ok (.if_icmp .lt 6, 3) := by decide +kernel
theorem dX3_readTape_12 : decode cX3_readTape 12 = .ok (.aload_n 0, 1) := by decide +kernel
theorem dX3_readTape_13 : decode cX3_readTape 13 = .ok (.getfield 24, 3) := by decide +kernel
theorem dX3_readTape_16 : decode cX3_readTape 16 = .ok (.aload_n 0, 1) := by decide +kernel
theorem dX3_readTape_17 : decode cX3_readTape 17 = .ok (.getfield 9, 3) := by decide +kernel
theorem dX3_readTape_20 : decode cX3_readTape 20 = .ok (.aload_n 0, 1) := by decide +kernel
theorem dX3_readTape_21 : decode cX3_readTape 21 = .ok (.getfield 42, 3) := by decide +kernel
set_option maxRecDepth 20000 in
theorem ggX3_readTape_X5_readAll : GoodIn wsX3_readTape wsX5_readAll := goodIn_r _ [11, 12, 13, 14, 15, 16, 17, 18, 19, 20, 21, 22, 23, 24, 25, 10, 26, 27, 28, 29, 30, 31, 32, 33, 34, 35, 36, 37, 38, 39, 40, 41, 42, 43, 44, 45, 46, 47, 48, 49, 50, 51, 52, 53, 54, 55, 56, 57, 58, 59, 60, 61, 62, 63, 64, 65, 66, 67, 68, 69, 70, 71, 72, 73, 74, 75, 76, 77, 78, 79, 80, 81, 82, 83, 84, 85, 86, 87, 88, 89, 90, 91, 92, 93, 94, 95, 96, 97, 98, 99, 100, 101, 102, 103, 104, 105, 106, 107, 108, 109, 110, 111, 112, 113, 114, 115, 116, 117, 118, 119, 120, 121, 122, 123, 124, 125, 126, 127, 128, 129, 130, 131, 132, 133, 134, 135, 136, 137, 138, 139, 140, 141, 142, 143, 144, 145, 146, 147, 148, 149, 150, 151, 152, 153, 154, 155, 156, 157, 158, 159, 160, 161, 178, 179, 180, 181, 182, 183, 184, 185, 186, 187, 188] (by decide +kernel) (by decide +kernel)
set_option maxRecDepth 20000 in
theorem gX3_readTape_X5_readAll : GoodIn wsX3_readTape (wsV RX3 47 RX5 yX5_readAll wsX5_readAll) := goodIn_app (goodIn_of _ (by decide +kernel)) ggX3_readTape_X5_readAll
theorem dX3_readTape_24 : decode cX3_readTape 24 = .ok (.invokevirtual 47, 3) := by decide +kernel
theorem dX3_readTape_27 : decode cX3_readTape 27 = .ok (.istore_n 1, 1) := by decide +kernel
theorem dX3_readTape_28 : decode cX3_readTape 28 = .ok (.aload_n 0, 1) := by decide +kernel
theorem dX3_readTape_29 : decode cX3_readTape 29 = .ok (.iconst 0, 1) := by decide +kernel
theorem dX3_readTape_30 : decode cX3_readTape 30 = .ok (.putfield 42, 3) := by decide +kernel
theorem dX3_readTape_33 : decode cX3_readTape 33 = .ok (.iload_n 1, 1) := by decide +kernel
theorem dX3_readTape_34 : decode cX3_readTape 34 = .ok (.ifCond .lt 8, 3) := by decide +kernel
theorem dX3_readTape_37 : decode cX3_readTape 37 = .ok (.bipush (-100), 2) := by decide +kernel
theorem dX3_readTape_39 : decode cX3_readTape 39 = .ok (.iload_n 1, 1) := by decide +kernel
theorem dX3_readTape_40 : decode cX3_readTape 40 = .ok (.isub, 1) := by decide +kernel
theorem dX3_readTape_41 : decode cX3_readTape 41 = .ok (.ireturn, 1) := by decide +kernel
theorem dX11_text_0 : decode cX11_text 0 = .ok (.aload_n 0, 1) := by decide +kernel
theorem dX11_text_1 : decode cX11_text 1 = .ok (.getfield 46, 3) := by decide +kernel
set_option maxRecDepth 20000 in
theorem ggX11_text_X3_readTape : GoodIn wsX11_text wsX3_readTape := goodIn_r _ [6, 7, 8, 9, 10, 11, 12, 13, 14, 15, 16, 17, 18, 19, 20, 21, 22, 23, 24, 25, 26, 27, 28, 29, 30, 31, 32, 33, 34, 35, 36, 37, 38, 39, 40, 41, 42, 43, 44, 45, 46, 47, 48, 49, 50, 51, 52, 53, 54, 55, 56, 57, 58, 59, 60, 61, 62, 63, 64, 65, 66, 67, 68, 69, 70, 71, 72, 73, 74, 75, 76, 77, 78, 79, 80, 81, 82, 83, 84, 85, 86, 87, 88, 89, 90, 91, 92, 93, 94, 95, 96, 97, 98, 99, 100, 101, 102, 103, 104, 105, 106, 107, 108, 109, 110, 111, 112, 113, 114, 115, 116, 117, 118, 119, 120, 121, 122, 123, 124, 125, 126, 127, 128, 129, 130, 131, 132, 133, 134, 135, 136, 137, 138, 139, 140, 141, 142, 143, 144, 145, 146, 147, 148, 149, 150, 151, 152, 153, 154, 155, 156, 157, 158, 159, 160, 161, 162, 163, 164, 165, 166, 167, 168, 169, 170, 171, 172, 173, 174, 175, 189, 190, 191, 192, 193, 194, 195, 196, 197, 198, 199, 200, 201, 202, 203, 204, 205, 206, 207] (by decide +kernel) (by decide +kernel)
set_option maxRecDepth 20000 in
theorem gX11_text_X3_readTape : GoodIn wsX11_text (wsV RX11 277 RX3 yX3_readTape wsX3_readTape) := goodIn_app (goodIn_of _ (by decide +kernel)) ggX11_text_X3_readTape
theorem dX11_text_4 : decode cX11_text 4 = .ok (.invokevirtual 277, 3) := by decide +kernel
theorem dX11_text_7 : decode cX11_text 7 = .ok (.ireturn, 1) := by decide +kernel
set_option maxHeartbeats 1000000 in
set_option maxRecDepth 100000 in
theorem rt_X5_seesF (l : Launch) (dC : Nat → ClassId) (dI : Nat → Nat → Nat) (h1 a0 : Nat) (ax : Nat → Nat) (p0 : Int32) : Met l yX5_sees wsX5_sees ({ frames := 0, cells := 0, slots := 0, locals := 0 }) (va_Pc [.ref h1, .int p0] (fun U => va_P (dC, dI) vwCl [(h1, .inr (5, [.ref a0, .int 0, .ref (ax 2), .ref (ax 3), .ref (ax 4), .ref (ax 5), .int 0, .int 0]))] U.heap ∧ va_K (dC, dI) vwCl [] U)) (vp_Si (fun r : Int32 => r = 0)) 0 0 (fun _ => False) := by
  refine Met.ofW (cc := cX5_sees) (maxL := 2) (ret := (some .boolean)) (by decide) rfl ?_
  intro p e s m args below meth c s₁ B hml hv
  obtain ⟨rfl, hP, hK⟩ := hv
  have hx := B.exec
  have hb := B.bytes
  have hr := B.returns
  have hts := atoms_spec (ws := wsX5_sees) B.pre
  have hown : s.vm.findClass RX5 = some m.cls := findClass_of_methodNamed B.named
  have hlocks := B.notSynchronized
  have hl := lv_entry ([.ref h1, .int p0]) (n := 2) (Nat.le_of_ble_eq_true rfl)
  rw [lg_entry_eq]
  generalize (lg_sl ([.ref h1, .int p0]) ++ List.replicate (2 - (lg_sl ([.ref h1, .int p0])).length) Slot.unset).toArray = ls at hl ⊢
  have hl : lv_has ls 2 [(0, .ref h1), (1, .int p0)] := hl
  refine lv_aload_n hx hb dX5_sees_0 rfl (lv_at hl 0 rfl) ?_
  refine va_get (D := (dC, dI)) (ci := 5) (v := .int 0) (C := RX5) (T := TX5) (N := 8) hx hb hts (by decide +kernel) hown hK hP 0 rfl rfl 7 (by decide) (hts (.fieldLink RX5 50 "RedTent$Reader" "fault" "I") (by decide +kernel)) (fun _ h9 => h9) rfl dX5_sees_1 ?_
  refine lv_if_ge (tgt := 24) hx hb dX5_sees_4 (by decide) (fun _ => ?_) (fun c9 => absurd (by decide) c9)
  refine lv_iconst (v := 0) hx hb dX5_sees_24 (by decide) ?_
  exact W.zret (v := 0) hx hb hr rfl (fun t ht hW => ⟨0, rfl, rfl, ht⟩) (fun _ h => absurd h List.not_mem_nil) dX5_sees_25
set_option maxHeartbeats 1000000 in
set_option maxRecDepth 100000 in
theorem rt_X5_failF (l : Launch) (dC : Nat → ClassId) (dI : Nat → Nat → Nat) (h1 a0 : Nat) (ax : Nat → Nat) : Met l yX5_fail wsX5_fail ({ frames := 0, cells := 0, slots := 0, locals := 0 }) (va_Pc [.ref h1] (fun U => va_P (dC, dI) vwCl [(h1, .inr (5, [.ref a0, .int 0, .ref (ax 2), .ref (ax 3), .ref (ax 4), .ref (ax 5), .int 0, .int 0]))] U.heap ∧ va_K (dC, dI) vwCl [] U)) (va_Sv (fun r : Unit => True)) 0 0 (fun _ => False) := by
  refine Met.ofW (cc := cX5_fail) (maxL := 1) (ret := none) (by decide) rfl ?_
  intro p e s m args below meth c s₁ B hml hv
  obtain ⟨rfl, hP, hK⟩ := hv
  have hx := B.exec
  have hb := B.bytes
  have hr := B.returns
  have hts := atoms_spec (ws := wsX5_fail) B.pre
  have hown : s.vm.findClass RX5 = some m.cls := findClass_of_methodNamed B.named
  have hlocks := B.notSynchronized
  have hl := lv_entry ([.ref h1]) (n := 1) (Nat.le_of_ble_eq_true rfl)
  rw [lg_entry_eq]
  generalize (lg_sl ([.ref h1]) ++ List.replicate (1 - (lg_sl ([.ref h1])).length) Slot.unset).toArray = ls at hl ⊢
  have hl : lv_has ls 1 [(0, .ref h1)] := hl
  refine lv_aload_n hx hb dX5_fail_0 rfl (lv_at hl 0 rfl) ?_
  refine va_get (D := (dC, dI)) (ci := 5) (v := .int 0) (C := RX5) (T := TX5) (N := 8) hx hb hts (by decide +kernel) hown hK hP 0 rfl rfl 7 (by decide) (hts (.fieldLink RX5 50 "RedTent$Reader" "fault" "I") (by decide +kernel)) (fun _ h9 => h9) rfl dX5_fail_1 ?_
  refine lv_if_ge (tgt := 20) hx hb dX5_fail_4 (by decide) (fun _ => ?_) (fun c9 => absurd (by decide) c9)
  exact W.vret hx hb hr (fun t ht hW => ⟨rfl, trivial, ht⟩) (fun _ h => absurd h List.not_mem_nil) dX5_fail_20
set_option maxHeartbeats 1000000 in
set_option maxRecDepth 100000 in
theorem rt_X5_readOneF (l : Launch) (dC : Nat → ClassId) (dI : Nat → Nat → Nat) (h1 a0 : Nat) (ax : Nat → Nat) (p0 : Int32) : Met l yX5_readOne wsX5_readOne ({ frames := 1, cells := 0, slots := 0, locals := 21 }) (va_Pc [.ref h1, .int p0] (fun U => va_P (dC, dI) vwCl [(h1, .inr (5, [.ref a0, .int 0, .ref (ax 2), .ref (ax 3), .ref (ax 4), .ref (ax 5), .int 0, .int 0]))] U.heap ∧ va_K (dC, dI) vwCl [] U)) (va_Sv (fun r : Unit => True)) 0 0 (fun _ => False) := by
  refine Met.ofW (cc := cX5_readOne) (maxL := 2) (ret := none) (by decide) rfl ?_
  intro p e s m args below meth c s₁ B hml hv
  obtain ⟨rfl, hP, hK⟩ := hv
  have hx := B.exec
  have hb := B.bytes
  have hr := B.returns
  have hts := atoms_spec (ws := wsX5_readOne) B.pre
  have hown : s.vm.findClass RX5 = some m.cls := findClass_of_methodNamed B.named
  have hlocks := B.notSynchronized
  have hl := lv_entry ([.ref h1, .int p0]) (n := 2) (Nat.le_of_ble_eq_true rfl)
  rw [lg_entry_eq]
  generalize (lg_sl ([.ref h1, .int p0]) ++ List.replicate (2 - (lg_sl ([.ref h1, .int p0])).length) Slot.unset).toArray = ls at hl ⊢
  have hl : lv_has ls 2 [(0, .ref h1), (1, .int p0)] := hl
  refine lv_aload_n hx hb dX5_readOne_0 rfl (lv_at hl 0 rfl) ?_
  refine lv_bipush (v := 12) hx hb dX5_readOne_1 (by decide) ?_
  have hPc := hP.sub (ws' := [(h1, .inr (5, [.ref a0, .int 0, .ref (ax 2), .ref (ax 3), .ref (ax 4), .ref (ax 5), .int 0, .int 0]))]) [0] rfl
  have hKc := hK.sub (tys' := []) [] rfl
  refine vp_callSi (va_Run.run (va_runV (As := [.int 12]) (rest := []) ⟨hx, hb, hml, hown, hts⟩ (rt_X5_seesF l dC dI h1 a0 ax 12) (cwV 1 hts gX5_readOne_X5_sees rfl rfl rfl (by decide +kernel) ⟨Nat.le_of_ble_eq_true rfl, Nat.le_of_ble_eq_true rfl⟩) ⟨fun a U g mk q => by obtain ⟨q0, qP, qK⟩ := q; exact ⟨q0, qP, va_K.moved (u := U) (U := U.calling g mk a) (Vm.Alike.refl U.vm) qK⟩, va_recv hKc hPc (ci := 5) (q0 := 0) rfl rfl, fun U hU hW => ⟨rfl, by rw [hU]; exact hPc, va_K.moved hW.alike hKc⟩⟩ rfl rfl hl.1 rfl (lv_room (Nat.le_of_ble_eq_true rfl)) dX5_readOne_3 ⟨by decide +kernel, by decide +kernel⟩)) (fun r_1 hr_1 => ?_)
  obtain rfl := hr_1
  refine lv_if_eq (tgt := 32) hx hb dX5_readOne_6 (by decide) (fun _ => ?_) (fun c9 => absurd (by decide) c9)
  refine lv_aload_n hx hb dX5_readOne_32 rfl (lv_at hl 0 rfl) ?_
  refine va_get (D := (dC, dI)) (ci := 5) (v := .int 0) (C := RX5) (T := TX5) (N := 8) hx hb hts (by decide +kernel) hown hK hP 0 rfl rfl 7 (by decide) (hts (.fieldLink RX5 50 "RedTent$Reader" "fault" "I") (by decide +kernel)) (fun _ h9 => h9) rfl dX5_readOne_33 ?_
  refine lv_if_ge (tgt := 89) hx hb dX5_readOne_36 (by decide) (fun _ => ?_) (fun c9 => absurd (by decide) c9)
  refine lv_aload_n hx hb dX5_readOne_89 rfl (lv_at hl 0 rfl) ?_
  refine lv_bipush (v := 45) hx hb dX5_readOne_90 (by decide) ?_
  have hPc := hP.sub (ws' := [(h1, .inr (5, [.ref a0, .int 0, .ref (ax 2), .ref (ax 3), .ref (ax 4), .ref (ax 5), .int 0, .int 0]))]) [0] rfl
  have hKc := hK.sub (tys' := []) [] rfl
  refine vp_callSi (va_Run.run (va_runV (As := [.int 45]) (rest := []) ⟨hx, hb, hml, hown, hts⟩ (rt_X5_seesF l dC dI h1 a0 ax 45) (cwV 1 hts gX5_readOne_X5_sees rfl rfl rfl (by decide +kernel) ⟨Nat.le_of_ble_eq_true rfl, Nat.le_of_ble_eq_true rfl⟩) ⟨fun a U g mk q => by obtain ⟨q0, qP, qK⟩ := q; exact ⟨q0, qP, va_K.moved (u := U) (U := U.calling g mk a) (Vm.Alike.refl U.vm) qK⟩, va_recv hKc hPc (ci := 5) (q0 := 0) rfl rfl, fun U hU hW => ⟨rfl, by rw [hU]; exact hPc, va_K.moved hW.alike hKc⟩⟩ rfl rfl hl.1 rfl (lv_room (Nat.le_of_ble_eq_true rfl)) dX5_readOne_92 ⟨by decide +kernel, by decide +kernel⟩)) (fun r_2 hr_2 => ?_)
  obtain rfl := hr_2
  refine lv_if_eq (tgt := 126) hx hb dX5_readOne_95 (by decide) (fun _ => ?_) (fun c9 => absurd (by decide) c9)
  refine lv_aload_n hx hb dX5_readOne_126 rfl (lv_at hl 0 rfl) ?_
  refine lv_bipush (v := 40) hx hb dX5_readOne_127 (by decide) ?_
  have hPc := hP.sub (ws' := [(h1, .inr (5, [.ref a0, .int 0, .ref (ax 2), .ref (ax 3), .ref (ax 4), .ref (ax 5), .int 0, .int 0]))]) [0] rfl
  have hKc := hK.sub (tys' := []) [] rfl
  refine vp_callSi (va_Run.run (va_runV (As := [.int 40]) (rest := []) ⟨hx, hb, hml, hown, hts⟩ (rt_X5_seesF l dC dI h1 a0 ax 40) (cwV 1 hts gX5_readOne_X5_sees rfl rfl rfl (by decide +kernel) ⟨Nat.le_of_ble_eq_true rfl, Nat.le_of_ble_eq_true rfl⟩) ⟨fun a U g mk q => by obtain ⟨q0, qP, qK⟩ := q; exact ⟨q0, qP, va_K.moved (u := U) (U := U.calling g mk a) (Vm.Alike.refl U.vm) qK⟩, va_recv hKc hPc (ci := 5) (q0 := 0) rfl rfl, fun U hU hW => ⟨rfl, by rw [hU]; exact hPc, va_K.moved hW.alike hKc⟩⟩ rfl rfl hl.1 rfl (lv_room (Nat.le_of_ble_eq_true rfl)) dX5_readOne_129 ⟨by decide +kernel, by decide +kernel⟩)) (fun r_3 hr_3 => ?_)
  obtain rfl := hr_3
  refine lv_if_eq (tgt := 160) hx hb dX5_readOne_132 (by decide) (fun _ => ?_) (fun c9 => absurd (by decide) c9)
  refine lv_aload_n hx hb dX5_readOne_160 rfl (lv_at hl 0 rfl) ?_
  have hPc := hP.sub (ws' := [(h1, .inr (5, [.ref a0, .int 0, .ref (ax 2), .ref (ax 3), .ref (ax 4), .ref (ax 5), .int 0, .int 0]))]) [0] rfl
  have hKc := hK.sub (tys' := []) [] rfl
  refine va_csv (va_Run.run (va_runV (As := []) (rest := []) ⟨hx, hb, hml, hown, hts⟩ (rt_X5_failF l dC dI h1 a0 ax) (cwV 0 hts gX5_readOne_X5_fail rfl rfl rfl (by decide +kernel) ⟨Nat.le_of_ble_eq_true rfl, Nat.le_of_ble_eq_true rfl⟩) ⟨fun a U g mk q => by obtain ⟨q0, qP, qK⟩ := q; exact ⟨q0, qP, va_K.moved (u := U) (U := U.calling g mk a) (Vm.Alike.refl U.vm) qK⟩, va_recv hKc hPc (ci := 5) (q0 := 0) rfl rfl, fun U hU hW => ⟨rfl, by rw [hU]; exact hPc, va_K.moved hW.alike hKc⟩⟩ rfl rfl hl.1 rfl (lv_room (Nat.le_of_ble_eq_true rfl)) dX5_readOne_161 ⟨by decide +kernel, by decide +kernel⟩)) (fun hr_4 => ?_)
  exact W.vret hx hb hr (fun t ht hW => ⟨rfl, trivial, ht⟩) (fun _ h => absurd h List.not_mem_nil) dX5_readOne_164
set_option maxHeartbeats 1000000 in
set_option maxRecDepth 100000 in
theorem rt_X5_readTermF (l : Launch) (dC : Nat → ClassId) (dI : Nat → Nat → Nat) (h1 a0 : Nat) (ax : Nat → Nat) (p0 : Int32) : Met l yX5_readTerm wsX5_readTerm ({ frames := 2, cells := 0, slots := 0, locals := 42 }) (va_Pc [.ref h1, .int p0] (fun U => va_P (dC, dI) vwCl [(h1, .inr (5, [.ref a0, .int 0, .ref (ax 2), .ref (ax 3), .ref (ax 4), .ref (ax 5), .int 0, .int 0]))] U.heap ∧ va_K (dC, dI) vwCl [] U)) (va_Sv (fun r : Unit => True)) 0 0 (fun _ => False) := by
  refine Met.ofW (cc := cX5_readTerm) (maxL := 3) (ret := none) (by decide) rfl ?_
  intro p e s m args below meth c s₁ B hml hv
  obtain ⟨rfl, hP, hK⟩ := hv
  have hx := B.exec
  have hb := B.bytes
  have hr := B.returns
  have hts := atoms_spec (ws := wsX5_readTerm) B.pre
  have hown : s.vm.findClass RX5 = some m.cls := findClass_of_methodNamed B.named
  have hlocks := B.notSynchronized
  have hl := lv_entry ([.ref h1, .int p0]) (n := 3) (Nat.le_of_ble_eq_true rfl)
  rw [lg_entry_eq]
  generalize (lg_sl ([.ref h1, .int p0]) ++ List.replicate (3 - (lg_sl ([.ref h1, .int p0])).length) Slot.unset).toArray = ls at hl ⊢
  have hl : lv_has ls 3 [(0, .ref h1), (1, .int p0)] := hl
  refine lv_aload_n hx hb dX5_readTerm_0 rfl (lv_at hl 0 rfl) ?_
  refine lv_iload_n hx hb dX5_readTerm_1 rfl (lv_at hl 1 rfl) ?_
  have hPc := hP.sub (ws' := [(h1, .inr (5, [.ref a0, .int 0, .ref (ax 2), .ref (ax 3), .ref (ax 4), .ref (ax 5), .int 0, .int 0]))]) [0] rfl
  have hKc := hK.sub (tys' := []) [] rfl
  refine va_csv (va_Run.run (va_runV (As := [.int p0]) (rest := []) ⟨hx, hb, hml, hown, hts⟩ (rt_X5_readOneF l dC dI h1 a0 ax p0) (cwV 1 hts gX5_readTerm_X5_readOne rfl rfl rfl (by decide +kernel) ⟨Nat.le_of_ble_eq_true rfl, Nat.le_of_ble_eq_true rfl⟩) ⟨fun a U g mk q => by obtain ⟨q0, qP, qK⟩ := q; exact ⟨q0, qP, va_K.moved (u := U) (U := U.calling g mk a) (Vm.Alike.refl U.vm) qK⟩, va_recv hKc hPc (ci := 5) (q0 := 0) rfl rfl, fun U hU hW => ⟨rfl, by rw [hU]; exact hPc, va_K.moved hW.alike hKc⟩⟩ rfl rfl hl.1 rfl (lv_room (Nat.le_of_ble_eq_true rfl)) dX5_readTerm_2 ⟨by decide +kernel, by decide +kernel⟩)) (fun hr_1 => ?_)
  refine lv_iconst (v := 0) hx hb dX5_readTerm_5 (by decide) ?_
  refine lv_istore_n (lv' := [(2, .int 0), (0, .ref h1), (1, .int p0)]) hx hb dX5_readTerm_6 rfl hl (by decide) rfl (fun ls hl => ?_)
  refine lv_iload_n hx hb dX5_readTerm_7 rfl (lv_at hl 0 rfl) ?_
  refine lv_sipush (v := 160) hx hb dX5_readTerm_8 (by decide) ?_
  refine lv_icmp_ge (tgt := 47) hx hb dX5_readTerm_11 (by decide) (fun c9 => absurd c9 (by decide)) (fun _ => ?_)
  refine lv_aload_n hx hb dX5_readTerm_14 rfl (lv_at hl 1 rfl) ?_
  refine lv_bipush (v := 42) hx hb dX5_readTerm_15 (by decide) ?_
  have hPc := hP.sub (ws' := [(h1, .inr (5, [.ref a0, .int 0, .ref (ax 2), .ref (ax 3), .ref (ax 4), .ref (ax 5), .int 0, .int 0]))]) [0] rfl
  have hKc := hK.sub (tys' := []) [] rfl
  refine vp_callSi (va_Run.run (va_runV (As := [.int 42]) (rest := []) ⟨hx, hb, hml, hown, hts⟩ (rt_X5_seesF l dC dI h1 a0 ax 42) (cwV 1 hts gX5_readTerm_X5_sees rfl rfl rfl (by decide +kernel) ⟨Nat.le_of_ble_eq_true rfl, Nat.le_of_ble_eq_true rfl⟩) ⟨fun a U g mk q => by obtain ⟨q0, qP, qK⟩ := q; exact ⟨q0, qP, va_K.moved (u := U) (U := U.calling g mk a) (Vm.Alike.refl U.vm) qK⟩, va_recv hKc hPc (ci := 5) (q0 := 0) rfl rfl, fun U hU hW => ⟨rfl, by rw [hU]; exact hPc, va_K.moved hW.alike hKc⟩⟩ rfl rfl hl.1 rfl (lv_room (Nat.le_of_ble_eq_true rfl)) dX5_readTerm_17 ⟨by decide +kernel, by decide +kernel⟩)) (fun r_2 hr_2 => ?_)
  obtain rfl := hr_2
  refine lv_if_eq (tgt := 47) hx hb dX5_readTerm_20 (by decide) (fun _ => ?_) (fun c9 => absurd (by decide) c9)
  exact W.vret hx hb hr (fun t ht hW => ⟨rfl, trivial, ht⟩) (fun _ h => absurd h List.not_mem_nil) dX5_readTerm_47
set_option maxHeartbeats 1000000 in
set_option maxRecDepth 100000 in
theorem rt_X5_readSumF (l : Launch) (dC : Nat → ClassId) (dI : Nat → Nat → Nat) (h1 a0 : Nat) (ax : Nat → Nat) (p0 : Int32) : Met l yX5_readSum wsX5_readSum ({ frames := 3, cells := 0, slots := 0, locals := 64 }) (va_Pc [.ref h1, .int p0] (fun U => va_P (dC, dI) vwCl [(h1, .inr (5, [.ref a0, .int 0, .ref (ax 2), .ref (ax 3), .ref (ax 4), .ref (ax 5), .int 0, .int 0]))] U.heap ∧ va_K (dC, dI) vwCl [] U)) (va_Sv (fun r : Unit => True)) 0 0 (fun _ => False) := by
  refine Met.ofW (cc := cX5_readSum) (maxL := 4) (ret := none) (by decide) rfl ?_
  intro p e s m args below meth c s₁ B hml hv
  obtain ⟨rfl, hP, hK⟩ := hv
  have hx := B.exec
  have hb := B.bytes
  have hr := B.returns
  have hts := atoms_spec (ws := wsX5_readSum) B.pre
  have hown : s.vm.findClass RX5 = some m.cls := findClass_of_methodNamed B.named
  have hlocks := B.notSynchronized
  have hl := lv_entry ([.ref h1, .int p0]) (n := 4) (Nat.le_of_ble_eq_true rfl)
  rw [lg_entry_eq]
  generalize (lg_sl ([.ref h1, .int p0]) ++ List.replicate (4 - (lg_sl ([.ref h1, .int p0])).length) Slot.unset).toArray = ls at hl ⊢
  have hl : lv_has ls 4 [(0, .ref h1), (1, .int p0)] := hl
  refine lv_aload_n hx hb dX5_readSum_0 rfl (lv_at hl 0 rfl) ?_
  refine lv_iload_n hx hb dX5_readSum_1 rfl (lv_at hl 1 rfl) ?_
  have hPc := hP.sub (ws' := [(h1, .inr (5, [.ref a0, .int 0, .ref (ax 2), .ref (ax 3), .ref (ax 4), .ref (ax 5), .int 0, .int 0]))]) [0] rfl
  have hKc := hK.sub (tys' := []) [] rfl
  refine va_csv (va_Run.run (va_runV (As := [.int p0]) (rest := []) ⟨hx, hb, hml, hown, hts⟩ (rt_X5_readTermF l dC dI h1 a0 ax p0) (cwV 1 hts gX5_readSum_X5_readTerm rfl rfl rfl (by decide +kernel) ⟨Nat.le_of_ble_eq_true rfl, Nat.le_of_ble_eq_true rfl⟩) ⟨fun a U g mk q => by obtain ⟨q0, qP, qK⟩ := q; exact ⟨q0, qP, va_K.moved (u := U) (U := U.calling g mk a) (Vm.Alike.refl U.vm) qK⟩, va_recv hKc hPc (ci := 5) (q0 := 0) rfl rfl, fun U hU hW => ⟨rfl, by rw [hU]; exact hPc, va_K.moved hW.alike hKc⟩⟩ rfl rfl hl.1 rfl (lv_room (Nat.le_of_ble_eq_true rfl)) dX5_readSum_2 ⟨by decide +kernel, by decide +kernel⟩)) (fun hr_1 => ?_)
  refine lv_iconst (v := 0) hx hb dX5_readSum_5 (by decide) ?_
  refine lv_istore_n (lv' := [(2, .int 0), (0, .ref h1), (1, .int p0)]) hx hb dX5_readSum_6 rfl hl (by decide) rfl (fun ls hl => ?_)
  refine lv_iload_n hx hb dX5_readSum_7 rfl (lv_at hl 0 rfl) ?_
  refine lv_sipush (v := 160) hx hb dX5_readSum_8 (by decide) ?_
  refine lv_icmp_ge (tgt := 72) hx hb dX5_readSum_11 (by decide) (fun c9 => absurd c9 (by decide)) (fun _ => ?_)
  refine lv_aload_n hx hb dX5_readSum_14 rfl (lv_at hl 1 rfl) ?_
  refine lv_bipush (v := 43) hx hb dX5_readSum_15 (by decide) ?_
  have hPc := hP.sub (ws' := [(h1, .inr (5, [.ref a0, .int 0, .ref (ax 2), .ref (ax 3), .ref (ax 4), .ref (ax 5), .int 0, .int 0]))]) [0] rfl
  have hKc := hK.sub (tys' := []) [] rfl
  refine vp_callSi (va_Run.run (va_runV (As := [.int 43]) (rest := []) ⟨hx, hb, hml, hown, hts⟩ (rt_X5_seesF l dC dI h1 a0 ax 43) (cwV 1 hts gX5_readSum_X5_sees rfl rfl rfl (by decide +kernel) ⟨Nat.le_of_ble_eq_true rfl, Nat.le_of_ble_eq_true rfl⟩) ⟨fun a U g mk q => by obtain ⟨q0, qP, qK⟩ := q; exact ⟨q0, qP, va_K.moved (u := U) (U := U.calling g mk a) (Vm.Alike.refl U.vm) qK⟩, va_recv hKc hPc (ci := 5) (q0 := 0) rfl rfl, fun U hU hW => ⟨rfl, by rw [hU]; exact hPc, va_K.moved hW.alike hKc⟩⟩ rfl rfl hl.1 rfl (lv_room (Nat.le_of_ble_eq_true rfl)) dX5_readSum_17 ⟨by decide +kernel, by decide +kernel⟩)) (fun r_2 hr_2 => ?_)
  obtain rfl := hr_2
  refine lv_if_ne (tgt := 32) hx hb dX5_readSum_20 (by decide) (fun c9 => absurd (by decide) c9) (fun _ => ?_)
  refine lv_aload_n hx hb dX5_readSum_23 rfl (lv_at hl 1 rfl) ?_
  refine lv_bipush (v := 45) hx hb dX5_readSum_24 (by decide) ?_
  have hPc := hP.sub (ws' := [(h1, .inr (5, [.ref a0, .int 0, .ref (ax 2), .ref (ax 3), .ref (ax 4), .ref (ax 5), .int 0, .int 0]))]) [0] rfl
  have hKc := hK.sub (tys' := []) [] rfl
  refine vp_callSi (va_Run.run (va_runV (As := [.int 45]) (rest := []) ⟨hx, hb, hml, hown, hts⟩ (rt_X5_seesF l dC dI h1 a0 ax 45) (cwV 1 hts gX5_readSum_X5_sees rfl rfl rfl (by decide +kernel) ⟨Nat.le_of_ble_eq_true rfl, Nat.le_of_ble_eq_true rfl⟩) ⟨fun a U g mk q => by obtain ⟨q0, qP, qK⟩ := q; exact ⟨q0, qP, va_K.moved (u := U) (U := U.calling g mk a) (Vm.Alike.refl U.vm) qK⟩, va_recv hKc hPc (ci := 5) (q0 := 0) rfl rfl, fun U hU hW => ⟨rfl, by rw [hU]; exact hPc, va_K.moved hW.alike hKc⟩⟩ rfl rfl hl.1 rfl (lv_room (Nat.le_of_ble_eq_true rfl)) dX5_readSum_26 ⟨by decide +kernel, by decide +kernel⟩)) (fun r_3 hr_3 => ?_)
  obtain rfl := hr_3
  refine lv_if_eq (tgt := 72) hx hb dX5_readSum_29 (by decide) (fun _ => ?_) (fun c9 => absurd (by decide) c9)
  exact W.vret hx hb hr (fun t ht hW => ⟨rfl, trivial, ht⟩) (fun _ h => absurd h List.not_mem_nil) dX5_readSum_72
set_option maxHeartbeats 1000000 in
set_option maxRecDepth 100000 in
theorem rt_X5_readComparedF (l : Launch) (dC : Nat → ClassId) (dI : Nat → Nat → Nat) (h1 a0 : Nat) (ax : Nat → Nat) (p0 : Int32) : Met l yX5_readCompared wsX5_readCompared ({ frames := 4, cells := 0, slots := 0, locals := 87 }) (va_Pc [.ref h1, .int p0] (fun U => va_P (dC, dI) vwCl [(h1, .inr (5, [.ref a0, .int 0, .ref (ax 2), .ref (ax 3), .ref (ax 4), .ref (ax 5), .int 0, .int 0]))] U.heap ∧ va_K (dC, dI) vwCl [] U)) (va_Sv (fun r : Unit => True)) 0 0 (fun _ => False) := by
  refine Met.ofW (cc := cX5_readCompared) (maxL := 3) (ret := none) (by decide) rfl ?_
  intro p e s m args below meth c s₁ B hml hv
  obtain ⟨rfl, hP, hK⟩ := hv
  have hx := B.exec
  have hb := B.bytes
  have hr := B.returns
  have hts := atoms_spec (ws := wsX5_readCompared) B.pre
  have hown : s.vm.findClass RX5 = some m.cls := findClass_of_methodNamed B.named
  have hlocks := B.notSynchronized
  have hl := lv_entry ([.ref h1, .int p0]) (n := 3) (Nat.le_of_ble_eq_true rfl)
  rw [lg_entry_eq]
  generalize (lg_sl ([.ref h1, .int p0]) ++ List.replicate (3 - (lg_sl ([.ref h1, .int p0])).length) Slot.unset).toArray = ls at hl ⊢
  have hl : lv_has ls 3 [(0, .ref h1), (1, .int p0)] := hl
  refine lv_aload_n hx hb dX5_readCompared_0 rfl (lv_at hl 0 rfl) ?_
  refine lv_iload_n hx hb dX5_readCompared_1 rfl (lv_at hl 1 rfl) ?_
  have hPc := hP.sub (ws' := [(h1, .inr (5, [.ref a0, .int 0, .ref (ax 2), .ref (ax 3), .ref (ax 4), .ref (ax 5), .int 0, .int 0]))]) [0] rfl
  have hKc := hK.sub (tys' := []) [] rfl
  refine va_csv (va_Run.run (va_runV (As := [.int p0]) (rest := []) ⟨hx, hb, hml, hown, hts⟩ (rt_X5_readSumF l dC dI h1 a0 ax p0) (cwV 1 hts gX5_readCompared_X5_readSum rfl rfl rfl (by decide +kernel) ⟨Nat.le_of_ble_eq_true rfl, Nat.le_of_ble_eq_true rfl⟩) ⟨fun a U g mk q => by obtain ⟨q0, qP, qK⟩ := q; exact ⟨q0, qP, va_K.moved (u := U) (U := U.calling g mk a) (Vm.Alike.refl U.vm) qK⟩, va_recv hKc hPc (ci := 5) (q0 := 0) rfl rfl, fun U hU hW => ⟨rfl, by rw [hU]; exact hPc, va_K.moved hW.alike hKc⟩⟩ rfl rfl hl.1 rfl (lv_room (Nat.le_of_ble_eq_true rfl)) dX5_readCompared_2 ⟨by decide +kernel, by decide +kernel⟩)) (fun hr_1 => ?_)
  refine lv_aload_n hx hb dX5_readCompared_5 rfl (lv_at hl 0 rfl) ?_
  refine lv_bipush (v := 60) hx hb dX5_readCompared_6 (by decide) ?_
  have hPc := hP.sub (ws' := [(h1, .inr (5, [.ref a0, .int 0, .ref (ax 2), .ref (ax 3), .ref (ax 4), .ref (ax 5), .int 0, .int 0]))]) [0] rfl
  have hKc := hK.sub (tys' := []) [] rfl
  refine vp_callSi (va_Run.run (va_runV (As := [.int 60]) (rest := []) ⟨hx, hb, hml, hown, hts⟩ (rt_X5_seesF l dC dI h1 a0 ax 60) (cwV 1 hts gX5_readCompared_X5_sees rfl rfl rfl (by decide +kernel) ⟨Nat.le_of_ble_eq_true rfl, Nat.le_of_ble_eq_true rfl⟩) ⟨fun a U g mk q => by obtain ⟨q0, qP, qK⟩ := q; exact ⟨q0, qP, va_K.moved (u := U) (U := U.calling g mk a) (Vm.Alike.refl U.vm) qK⟩, va_recv hKc hPc (ci := 5) (q0 := 0) rfl rfl, fun U hU hW => ⟨rfl, by rw [hU]; exact hPc, va_K.moved hW.alike hKc⟩⟩ rfl rfl hl.1 rfl (lv_room (Nat.le_of_ble_eq_true rfl)) dX5_readCompared_8 ⟨by decide +kernel, by decide +kernel⟩)) (fun r_2 hr_2 => ?_)
  obtain rfl := hr_2
  refine lv_if_ne (tgt := 23) hx hb dX5_readCompared_11 (by decide) (fun c9 => absurd (by decide) c9) (fun _ => ?_)
  refine lv_aload_n hx hb dX5_readCompared_14 rfl (lv_at hl 0 rfl) ?_
  refine lv_bipush (v := 61) hx hb dX5_readCompared_15 (by decide) ?_
  have hPc := hP.sub (ws' := [(h1, .inr (5, [.ref a0, .int 0, .ref (ax 2), .ref (ax 3), .ref (ax 4), .ref (ax 5), .int 0, .int 0]))]) [0] rfl
  have hKc := hK.sub (tys' := []) [] rfl
  refine vp_callSi (va_Run.run (va_runV (As := [.int 61]) (rest := []) ⟨hx, hb, hml, hown, hts⟩ (rt_X5_seesF l dC dI h1 a0 ax 61) (cwV 1 hts gX5_readCompared_X5_sees rfl rfl rfl (by decide +kernel) ⟨Nat.le_of_ble_eq_true rfl, Nat.le_of_ble_eq_true rfl⟩) ⟨fun a U g mk q => by obtain ⟨q0, qP, qK⟩ := q; exact ⟨q0, qP, va_K.moved (u := U) (U := U.calling g mk a) (Vm.Alike.refl U.vm) qK⟩, va_recv hKc hPc (ci := 5) (q0 := 0) rfl rfl, fun U hU hW => ⟨rfl, by rw [hU]; exact hPc, va_K.moved hW.alike hKc⟩⟩ rfl rfl hl.1 rfl (lv_room (Nat.le_of_ble_eq_true rfl)) dX5_readCompared_17 ⟨by decide +kernel, by decide +kernel⟩)) (fun r_3 hr_3 => ?_)
  obtain rfl := hr_3
  refine lv_if_eq (tgt := 57) hx hb dX5_readCompared_20 (by decide) (fun _ => ?_) (fun c9 => absurd (by decide) c9)
  exact W.vret hx hb hr (fun t ht hW => ⟨rfl, trivial, ht⟩) (fun _ h => absurd h List.not_mem_nil) dX5_readCompared_57
set_option maxHeartbeats 1000000 in
set_option maxRecDepth 100000 in
theorem rt_X5_readNotF (l : Launch) (dC : Nat → ClassId) (dI : Nat → Nat → Nat) (h1 a0 : Nat) (ax : Nat → Nat) (p0 : Int32) : Met l yX5_readNot wsX5_readNot ({ frames := 5, cells := 0, slots := 0, locals := 109 }) (va_Pc [.ref h1, .int p0] (fun U => va_P (dC, dI) vwCl [(h1, .inr (5, [.ref a0, .int 0, .ref (ax 2), .ref (ax 3), .ref (ax 4), .ref (ax 5), .int 0, .int 0]))] U.heap ∧ va_K (dC, dI) vwCl [] U)) (va_Sv (fun r : Unit => True)) 0 0 (fun _ => False) := by
  refine Met.ofW (cc := cX5_readNot) (maxL := 2) (ret := none) (by decide) rfl ?_
  intro p e s m args below meth c s₁ B hml hv
  obtain ⟨rfl, hP, hK⟩ := hv
  have hx := B.exec
  have hb := B.bytes
  have hr := B.returns
  have hts := atoms_spec (ws := wsX5_readNot) B.pre
  have hown : s.vm.findClass RX5 = some m.cls := findClass_of_methodNamed B.named
  have hlocks := B.notSynchronized
  have hl := lv_entry ([.ref h1, .int p0]) (n := 2) (Nat.le_of_ble_eq_true rfl)
  rw [lg_entry_eq]
  generalize (lg_sl ([.ref h1, .int p0]) ++ List.replicate (2 - (lg_sl ([.ref h1, .int p0])).length) Slot.unset).toArray = ls at hl ⊢
  have hl : lv_has ls 2 [(0, .ref h1), (1, .int p0)] := hl
  refine lv_aload_n hx hb dX5_readNot_0 rfl (lv_at hl 0 rfl) ?_
  refine lv_bipush (v := 11) hx hb dX5_readNot_1 (by decide) ?_
  have hPc := hP.sub (ws' := [(h1, .inr (5, [.ref a0, .int 0, .ref (ax 2), .ref (ax 3), .ref (ax 4), .ref (ax 5), .int 0, .int 0]))]) [0] rfl
  have hKc := hK.sub (tys' := []) [] rfl
  refine vp_callSi (va_Run.run (va_runV (As := [.int 11]) (rest := []) ⟨hx, hb, hml, hown, hts⟩ (rt_X5_seesF l dC dI h1 a0 ax 11) (cwV 1 hts gX5_readNot_X5_sees rfl rfl rfl (by decide +kernel) ⟨Nat.le_of_ble_eq_true rfl, Nat.le_of_ble_eq_true rfl⟩) ⟨fun a U g mk q => by obtain ⟨q0, qP, qK⟩ := q; exact ⟨q0, qP, va_K.moved (u := U) (U := U.calling g mk a) (Vm.Alike.refl U.vm) qK⟩, va_recv hKc hPc (ci := 5) (q0 := 0) rfl rfl, fun U hU hW => ⟨rfl, by rw [hU]; exact hPc, va_K.moved hW.alike hKc⟩⟩ rfl rfl hl.1 rfl (lv_room (Nat.le_of_ble_eq_true rfl)) dX5_readNot_3 ⟨by decide +kernel, by decide +kernel⟩)) (fun r_1 hr_1 => ?_)
  obtain rfl := hr_1
  refine lv_if_eq (tgt := 21) hx hb dX5_readNot_6 (by decide) (fun _ => ?_) (fun c9 => absurd (by decide) c9)
  refine lv_aload_n hx hb dX5_readNot_21 rfl (lv_at hl 0 rfl) ?_
  refine lv_bipush (v := 11) hx hb dX5_readNot_22 (by decide) ?_
  have hPc := hP.sub (ws' := [(h1, .inr (5, [.ref a0, .int 0, .ref (ax 2), .ref (ax 3), .ref (ax 4), .ref (ax 5), .int 0, .int 0]))]) [0] rfl
  have hKc := hK.sub (tys' := []) [] rfl
  refine vp_callSi (va_Run.run (va_runV (As := [.int 11]) (rest := []) ⟨hx, hb, hml, hown, hts⟩ (rt_X5_seesF l dC dI h1 a0 ax 11) (cwV 1 hts gX5_readNot_X5_sees rfl rfl rfl (by decide +kernel) ⟨Nat.le_of_ble_eq_true rfl, Nat.le_of_ble_eq_true rfl⟩) ⟨fun a U g mk q => by obtain ⟨q0, qP, qK⟩ := q; exact ⟨q0, qP, va_K.moved (u := U) (U := U.calling g mk a) (Vm.Alike.refl U.vm) qK⟩, va_recv hKc hPc (ci := 5) (q0 := 0) rfl rfl, fun U hU hW => ⟨rfl, by rw [hU]; exact hPc, va_K.moved hW.alike hKc⟩⟩ rfl rfl hl.1 rfl (lv_room (Nat.le_of_ble_eq_true rfl)) dX5_readNot_24 ⟨by decide +kernel, by decide +kernel⟩)) (fun r_2 hr_2 => ?_)
  obtain rfl := hr_2
  refine lv_if_eq (tgt := 53) hx hb dX5_readNot_27 (by decide) (fun _ => ?_) (fun c9 => absurd (by decide) c9)
  refine lv_aload_n hx hb dX5_readNot_53 rfl (lv_at hl 0 rfl) ?_
  refine lv_iload_n hx hb dX5_readNot_54 rfl (lv_at hl 1 rfl) ?_
  have hPc := hP.sub (ws' := [(h1, .inr (5, [.ref a0, .int 0, .ref (ax 2), .ref (ax 3), .ref (ax 4), .ref (ax 5), .int 0, .int 0]))]) [0] rfl
  have hKc := hK.sub (tys' := []) [] rfl
  refine va_csv (va_Run.run (va_runV (As := [.int p0]) (rest := []) ⟨hx, hb, hml, hown, hts⟩ (rt_X5_readComparedF l dC dI h1 a0 ax p0) (cwV 1 hts gX5_readNot_X5_readCompared rfl rfl rfl (by decide +kernel) ⟨Nat.le_of_ble_eq_true rfl, Nat.le_of_ble_eq_true rfl⟩) ⟨fun a U g mk q => by obtain ⟨q0, qP, qK⟩ := q; exact ⟨q0, qP, va_K.moved (u := U) (U := U.calling g mk a) (Vm.Alike.refl U.vm) qK⟩, va_recv hKc hPc (ci := 5) (q0 := 0) rfl rfl, fun U hU hW => ⟨rfl, by rw [hU]; exact hPc, va_K.moved hW.alike hKc⟩⟩ rfl rfl hl.1 rfl (lv_room (Nat.le_of_ble_eq_true rfl)) dX5_readNot_55 ⟨by decide +kernel, by decide +kernel⟩)) (fun hr_3 => ?_)
  exact W.vret hx hb hr (fun t ht hW => ⟨rfl, trivial, ht⟩) (fun _ h => absurd h List.not_mem_nil) dX5_readNot_58
set_option maxHeartbeats 1000000 in
set_option maxRecDepth 100000 in
theorem rt_X5_readBothF (l : Launch) (dC : Nat → ClassId) (dI : Nat → Nat → Nat) (h1 a0 : Nat) (ax : Nat → Nat) (p0 : Int32) : Met l yX5_readBoth wsX5_readBoth ({ frames := 6, cells := 0, slots := 0, locals := 130 }) (va_Pc [.ref h1, .int p0] (fun U => va_P (dC, dI) vwCl [(h1, .inr (5, [.ref a0, .int 0, .ref (ax 2), .ref (ax 3), .ref (ax 4), .ref (ax 5), .int 0, .int 0]))] U.heap ∧ va_K (dC, dI) vwCl [] U)) (va_Sv (fun r : Unit => True)) 0 0 (fun _ => False) := by
  refine Met.ofW (cc := cX5_readBoth) (maxL := 3) (ret := none) (by decide) rfl ?_
  intro p e s m args below meth c s₁ B hml hv
  obtain ⟨rfl, hP, hK⟩ := hv
  have hx := B.exec
  have hb := B.bytes
  have hr := B.returns
  have hts := atoms_spec (ws := wsX5_readBoth) B.pre
  have hown : s.vm.findClass RX5 = some m.cls := findClass_of_methodNamed B.named
  have hlocks := B.notSynchronized
  have hl := lv_entry ([.ref h1, .int p0]) (n := 3) (Nat.le_of_ble_eq_true rfl)
  rw [lg_entry_eq]
  generalize (lg_sl ([.ref h1, .int p0]) ++ List.replicate (3 - (lg_sl ([.ref h1, .int p0])).length) Slot.unset).toArray = ls at hl ⊢
  have hl : lv_has ls 3 [(0, .ref h1), (1, .int p0)] := hl
  refine lv_aload_n hx hb dX5_readBoth_0 rfl (lv_at hl 0 rfl) ?_
  refine lv_iload_n hx hb dX5_readBoth_1 rfl (lv_at hl 1 rfl) ?_
  have hPc := hP.sub (ws' := [(h1, .inr (5, [.ref a0, .int 0, .ref (ax 2), .ref (ax 3), .ref (ax 4), .ref (ax 5), .int 0, .int 0]))]) [0] rfl
  have hKc := hK.sub (tys' := []) [] rfl
  refine va_csv (va_Run.run (va_runV (As := [.int p0]) (rest := []) ⟨hx, hb, hml, hown, hts⟩ (rt_X5_readNotF l dC dI h1 a0 ax p0) (cwV 1 hts gX5_readBoth_X5_readNot rfl rfl rfl (by decide +kernel) ⟨Nat.le_of_ble_eq_true rfl, Nat.le_of_ble_eq_true rfl⟩) ⟨fun a U g mk q => by obtain ⟨q0, qP, qK⟩ := q; exact ⟨q0, qP, va_K.moved (u := U) (U := U.calling g mk a) (Vm.Alike.refl U.vm) qK⟩, va_recv hKc hPc (ci := 5) (q0 := 0) rfl rfl, fun U hU hW => ⟨rfl, by rw [hU]; exact hPc, va_K.moved hW.alike hKc⟩⟩ rfl rfl hl.1 rfl (lv_room (Nat.le_of_ble_eq_true rfl)) dX5_readBoth_2 ⟨by decide +kernel, by decide +kernel⟩)) (fun hr_1 => ?_)
  refine lv_iconst (v := 0) hx hb dX5_readBoth_5 (by decide) ?_
  refine lv_istore_n (lv' := [(2, .int 0), (0, .ref h1), (1, .int p0)]) hx hb dX5_readBoth_6 rfl hl (by decide) rfl (fun ls hl => ?_)
  refine lv_iload_n hx hb dX5_readBoth_7 rfl (lv_at hl 0 rfl) ?_
  refine lv_sipush (v := 160) hx hb dX5_readBoth_8 (by decide) ?_
  refine lv_icmp_ge (tgt := 47) hx hb dX5_readBoth_11 (by decide) (fun c9 => absurd c9 (by decide)) (fun _ => ?_)
  refine lv_aload_n hx hb dX5_readBoth_14 rfl (lv_at hl 1 rfl) ?_
  refine lv_bipush (v := 10) hx hb dX5_readBoth_15 (by decide) ?_
  have hPc := hP.sub (ws' := [(h1, .inr (5, [.ref a0, .int 0, .ref (ax 2), .ref (ax 3), .ref (ax 4), .ref (ax 5), .int 0, .int 0]))]) [0] rfl
  have hKc := hK.sub (tys' := []) [] rfl
  refine vp_callSi (va_Run.run (va_runV (As := [.int 10]) (rest := []) ⟨hx, hb, hml, hown, hts⟩ (rt_X5_seesF l dC dI h1 a0 ax 10) (cwV 1 hts gX5_readBoth_X5_sees rfl rfl rfl (by decide +kernel) ⟨Nat.le_of_ble_eq_true rfl, Nat.le_of_ble_eq_true rfl⟩) ⟨fun a U g mk q => by obtain ⟨q0, qP, qK⟩ := q; exact ⟨q0, qP, va_K.moved (u := U) (U := U.calling g mk a) (Vm.Alike.refl U.vm) qK⟩, va_recv hKc hPc (ci := 5) (q0 := 0) rfl rfl, fun U hU hW => ⟨rfl, by rw [hU]; exact hPc, va_K.moved hW.alike hKc⟩⟩ rfl rfl hl.1 rfl (lv_room (Nat.le_of_ble_eq_true rfl)) dX5_readBoth_17 ⟨by decide +kernel, by decide +kernel⟩)) (fun r_2 hr_2 => ?_)
  obtain rfl := hr_2
  refine lv_if_eq (tgt := 47) hx hb dX5_readBoth_20 (by decide) (fun _ => ?_) (fun c9 => absurd (by decide) c9)
  exact W.vret hx hb hr (fun t ht hW => ⟨rfl, trivial, ht⟩) (fun _ h => absurd h List.not_mem_nil) dX5_readBoth_47
set_option maxHeartbeats 1000000 in
set_option maxRecDepth 100000 in
theorem rt_X5_readChoiceF (l : Launch) (dC : Nat → ClassId) (dI : Nat → Nat → Nat) (h1 a0 : Nat) (ax : Nat → Nat) (p0 : Int32) : Met l yX5_readChoice wsX5_readChoice ({ frames := 7, cells := 0, slots := 0, locals := 152 }) (va_Pc [.ref h1, .int p0] (fun U => va_P (dC, dI) vwCl [(h1, .inr (5, [.ref a0, .int 0, .ref (ax 2), .ref (ax 3), .ref (ax 4), .ref (ax 5), .int 0, .int 0]))] U.heap ∧ va_K (dC, dI) vwCl [] U)) (va_Sv (fun r : Unit => True)) 0 0 (fun _ => False) := by
  refine Met.ofW (cc := cX5_readChoice) (maxL := 3) (ret := none) (by decide) rfl ?_
  intro p e s m args below meth c s₁ B hml hv
  obtain ⟨rfl, hP, hK⟩ := hv
  have hx := B.exec
  have hb := B.bytes
  have hr := B.returns
  have hts := atoms_spec (ws := wsX5_readChoice) B.pre
  have hown : s.vm.findClass RX5 = some m.cls := findClass_of_methodNamed B.named
  have hlocks := B.notSynchronized
  have hl := lv_entry ([.ref h1, .int p0]) (n := 3) (Nat.le_of_ble_eq_true rfl)
  rw [lg_entry_eq]
  generalize (lg_sl ([.ref h1, .int p0]) ++ List.replicate (3 - (lg_sl ([.ref h1, .int p0])).length) Slot.unset).toArray = ls at hl ⊢
  have hl : lv_has ls 3 [(0, .ref h1), (1, .int p0)] := hl
  refine lv_aload_n hx hb dX5_readChoice_0 rfl (lv_at hl 0 rfl) ?_
  refine lv_iload_n hx hb dX5_readChoice_1 rfl (lv_at hl 1 rfl) ?_
  have hPc := hP.sub (ws' := [(h1, .inr (5, [.ref a0, .int 0, .ref (ax 2), .ref (ax 3), .ref (ax 4), .ref (ax 5), .int 0, .int 0]))]) [0] rfl
  have hKc := hK.sub (tys' := []) [] rfl
  refine va_csv (va_Run.run (va_runV (As := [.int p0]) (rest := []) ⟨hx, hb, hml, hown, hts⟩ (rt_X5_readBothF l dC dI h1 a0 ax p0) (cwV 1 hts gX5_readChoice_X5_readBoth rfl rfl rfl (by decide +kernel) ⟨Nat.le_of_ble_eq_true rfl, Nat.le_of_ble_eq_true rfl⟩) ⟨fun a U g mk q => by obtain ⟨q0, qP, qK⟩ := q; exact ⟨q0, qP, va_K.moved (u := U) (U := U.calling g mk a) (Vm.Alike.refl U.vm) qK⟩, va_recv hKc hPc (ci := 5) (q0 := 0) rfl rfl, fun U hU hW => ⟨rfl, by rw [hU]; exact hPc, va_K.moved hW.alike hKc⟩⟩ rfl rfl hl.1 rfl (lv_room (Nat.le_of_ble_eq_true rfl)) dX5_readChoice_2 ⟨by decide +kernel, by decide +kernel⟩)) (fun hr_1 => ?_)
  refine lv_iconst (v := 0) hx hb dX5_readChoice_5 (by decide) ?_
  refine lv_istore_n (lv' := [(2, .int 0), (0, .ref h1), (1, .int p0)]) hx hb dX5_readChoice_6 rfl hl (by decide) rfl (fun ls hl => ?_)
  refine lv_iload_n hx hb dX5_readChoice_7 rfl (lv_at hl 0 rfl) ?_
  refine lv_sipush (v := 160) hx hb dX5_readChoice_8 (by decide) ?_
  refine lv_icmp_ge (tgt := 47) hx hb dX5_readChoice_11 (by decide) (fun c9 => absurd c9 (by decide)) (fun _ => ?_)
  refine lv_aload_n hx hb dX5_readChoice_14 rfl (lv_at hl 1 rfl) ?_
  refine lv_bipush (v := 9) hx hb dX5_readChoice_15 (by decide) ?_
  have hPc := hP.sub (ws' := [(h1, .inr (5, [.ref a0, .int 0, .ref (ax 2), .ref (ax 3), .ref (ax 4), .ref (ax 5), .int 0, .int 0]))]) [0] rfl
  have hKc := hK.sub (tys' := []) [] rfl
  refine vp_callSi (va_Run.run (va_runV (As := [.int 9]) (rest := []) ⟨hx, hb, hml, hown, hts⟩ (rt_X5_seesF l dC dI h1 a0 ax 9) (cwV 1 hts gX5_readChoice_X5_sees rfl rfl rfl (by decide +kernel) ⟨Nat.le_of_ble_eq_true rfl, Nat.le_of_ble_eq_true rfl⟩) ⟨fun a U g mk q => by obtain ⟨q0, qP, qK⟩ := q; exact ⟨q0, qP, va_K.moved (u := U) (U := U.calling g mk a) (Vm.Alike.refl U.vm) qK⟩, va_recv hKc hPc (ci := 5) (q0 := 0) rfl rfl, fun U hU hW => ⟨rfl, by rw [hU]; exact hPc, va_K.moved hW.alike hKc⟩⟩ rfl rfl hl.1 rfl (lv_room (Nat.le_of_ble_eq_true rfl)) dX5_readChoice_17 ⟨by decide +kernel, by decide +kernel⟩)) (fun r_2 hr_2 => ?_)
  obtain rfl := hr_2
  refine lv_if_eq (tgt := 47) hx hb dX5_readChoice_20 (by decide) (fun _ => ?_) (fun c9 => absurd (by decide) c9)
  exact W.vret hx hb hr (fun t ht hW => ⟨rfl, trivial, ht⟩) (fun _ h => absurd h List.not_mem_nil) dX5_readChoice_47
set_option maxHeartbeats 1000000 in
set_option maxRecDepth 100000 in
theorem rt_X5_needF (l : Launch) (dC : Nat → ClassId) (dI : Nat → Nat → Nat) (h1 a0 : Nat) (ax : Nat → Nat) (p0 : Int32) : Met l yX5_need wsX5_need ({ frames := 1, cells := 0, slots := 0, locals := 21 }) (va_Pc [.ref h1, .int p0] (fun U => va_P (dC, dI) vwCl [(h1, .inr (5, [.ref a0, .int 0, .ref (ax 2), .ref (ax 3), .ref (ax 4), .ref (ax 5), .int 0, .int 0]))] U.heap ∧ va_K (dC, dI) vwCl [] U)) (va_Sv (fun r : Unit => True)) 0 0 (fun _ => False) := by
  refine Met.ofW (cc := cX5_need) (maxL := 2) (ret := none) (by decide) rfl ?_
  intro p e s m args below meth c s₁ B hml hv
  obtain ⟨rfl, hP, hK⟩ := hv
  have hx := B.exec
  have hb := B.bytes
  have hr := B.returns
  have hts := atoms_spec (ws := wsX5_need) B.pre
  have hown : s.vm.findClass RX5 = some m.cls := findClass_of_methodNamed B.named
  have hlocks := B.notSynchronized
  have hl := lv_entry ([.ref h1, .int p0]) (n := 2) (Nat.le_of_ble_eq_true rfl)
  rw [lg_entry_eq]
  generalize (lg_sl ([.ref h1, .int p0]) ++ List.replicate (2 - (lg_sl ([.ref h1, .int p0])).length) Slot.unset).toArray = ls at hl ⊢
  have hl : lv_has ls 2 [(0, .ref h1), (1, .int p0)] := hl
  refine lv_aload_n hx hb dX5_need_0 rfl (lv_at hl 0 rfl) ?_
  refine lv_iload_n hx hb dX5_need_1 rfl (lv_at hl 1 rfl) ?_
  have hPc := hP.sub (ws' := [(h1, .inr (5, [.ref a0, .int 0, .ref (ax 2), .ref (ax 3), .ref (ax 4), .ref (ax 5), .int 0, .int 0]))]) [0] rfl
  have hKc := hK.sub (tys' := []) [] rfl
  refine vp_callSi (va_Run.run (va_runV (As := [.int p0]) (rest := []) ⟨hx, hb, hml, hown, hts⟩ (rt_X5_seesF l dC dI h1 a0 ax p0) (cwV 1 hts gX5_need_X5_sees rfl rfl rfl (by decide +kernel) ⟨Nat.le_of_ble_eq_true rfl, Nat.le_of_ble_eq_true rfl⟩) ⟨fun a U g mk q => by obtain ⟨q0, qP, qK⟩ := q; exact ⟨q0, qP, va_K.moved (u := U) (U := U.calling g mk a) (Vm.Alike.refl U.vm) qK⟩, va_recv hKc hPc (ci := 5) (q0 := 0) rfl rfl, fun U hU hW => ⟨rfl, by rw [hU]; exact hPc, va_K.moved hW.alike hKc⟩⟩ rfl rfl hl.1 rfl (lv_room (Nat.le_of_ble_eq_true rfl)) dX5_need_2 ⟨by decide +kernel, by decide +kernel⟩)) (fun r_1 hr_1 => ?_)
  obtain rfl := hr_1
  refine lv_if_eq (tgt := 15) hx hb dX5_need_5 (by decide) (fun _ => ?_) (fun c9 => absurd (by decide) c9)
  refine lv_aload_n hx hb dX5_need_15 rfl (lv_at hl 0 rfl) ?_
  have hPc := hP.sub (ws' := [(h1, .inr (5, [.ref a0, .int 0, .ref (ax 2), .ref (ax 3), .ref (ax 4), .ref (ax 5), .int 0, .int 0]))]) [0] rfl
  have hKc := hK.sub (tys' := []) [] rfl
  refine va_csv (va_Run.run (va_runV (As := []) (rest := []) ⟨hx, hb, hml, hown, hts⟩ (rt_X5_failF l dC dI h1 a0 ax) (cwV 0 hts gX5_need_X5_fail rfl rfl rfl (by decide +kernel) ⟨Nat.le_of_ble_eq_true rfl, Nat.le_of_ble_eq_true rfl⟩) ⟨fun a U g mk q => by obtain ⟨q0, qP, qK⟩ := q; exact ⟨q0, qP, va_K.moved (u := U) (U := U.calling g mk a) (Vm.Alike.refl U.vm) qK⟩, va_recv hKc hPc (ci := 5) (q0 := 0) rfl rfl, fun U hU hW => ⟨rfl, by rw [hU]; exact hPc, va_K.moved hW.alike hKc⟩⟩ rfl rfl hl.1 rfl (lv_room (Nat.le_of_ble_eq_true rfl)) dX5_need_16 ⟨by decide +kernel, by decide +kernel⟩)) (fun hr_2 => ?_)
  exact W.vret hx hb hr (fun t ht hW => ⟨rfl, trivial, ht⟩) (fun _ h => absurd h List.not_mem_nil) dX5_need_19
set_option maxHeartbeats 1000000 in
set_option maxRecDepth 100000 in
theorem rt_X5_sees0 (l : Launch) (dC : Nat → ClassId) (dI : Nat → Nat → Nat) (h1 a0 : Nat) (ax : Nat → Nat) (cA : ClassId) (f : Nat → Int32) (hf : f 0 = 0) : Met l yX5_sees wsX5_sees ({ frames := 0, cells := 0, slots := 0, locals := 0 }) (va_Pc [.ref h1, .int 7] (fun U => va_P (dC, dI) vwCl [(h1, .inr (5, [.ref a0, .int 0, .ref (ax 2), .ref (ax 3), .ref (ax 4), .ref (ax 5), .int 0, .int (-1)])), (ax 2, .inl (cA, 161, .inl f))] U.heap ∧ va_K (dC, dI) vwCl [(cA, .int)] U)) (vp_Si (fun r : Int32 => r = 0)) 0 0 (fun _ => False) := by
  refine Met.ofW (cc := cX5_sees) (maxL := 2) (ret := (some .boolean)) (by decide) rfl ?_
  intro p e s m args below meth c s₁ B hml hv
  obtain ⟨rfl, hP, hK⟩ := hv
  have hx := B.exec
  have hb := B.bytes
  have hr := B.returns
  have hts := atoms_spec (ws := wsX5_sees) B.pre
  have hown : s.vm.findClass RX5 = some m.cls := findClass_of_methodNamed B.named
  have hlocks := B.notSynchronized
  have hl := lv_entry ([.ref h1, .int 7]) (n := 2) (Nat.le_of_ble_eq_true rfl)
  rw [lg_entry_eq]
  generalize (lg_sl ([.ref h1, .int 7]) ++ List.replicate (2 - (lg_sl ([.ref h1, .int 7])).length) Slot.unset).toArray = ls at hl ⊢
  have hl : lv_has ls 2 [(0, .ref h1), (1, .int 7)] := hl
  refine lv_aload_n hx hb dX5_sees_0 rfl (lv_at hl 0 rfl) ?_
  refine va_get (D := (dC, dI)) (ci := 5) (v := .int (-1)) (C := RX5) (T := TX5) (N := 8) hx hb hts (by decide +kernel) hown hK hP 0 rfl rfl 7 (by decide) (hts (.fieldLink RX5 50 "RedTent$Reader" "fault" "I") (by decide +kernel)) (fun _ h9 => h9) rfl dX5_sees_1 ?_
  refine lv_if_ge (tgt := 24) hx hb dX5_sees_4 (by decide) (fun c9 => absurd c9 (by decide)) (fun _ => ?_)
  refine lv_aload_n hx hb dX5_sees_7 rfl (lv_at hl 0 rfl) ?_
  refine va_get (D := (dC, dI)) (ci := 5) (v := .ref (ax 2)) (C := RX5) (T := TX5) (N := 8) hx hb hts (by decide +kernel) hown hK hP 0 rfl rfl 2 (by decide) (hts (.fieldLink RX5 15 "RedTent$Reader" "tokens" "[I") (by decide +kernel)) (fun _ h9 => h9) rfl dX5_sees_8 ?_
  refine lv_aload_n hx hb dX5_sees_11 rfl (lv_at hl 0 rfl) ?_
  refine va_get (D := (dC, dI)) (ci := 5) (v := .int 0) (C := RX5) (T := TX5) (N := 8) hx hb hts (by decide +kernel) hown hK hP 0 rfl rfl 6 (by decide) (hts (.fieldLink RX5 47 "RedTent$Reader" "at" "I") (by decide +kernel)) (fun _ h9 => h9) rfl dX5_sees_12 ?_
  refine va_iald hx hb hK hP 1 0 rfl rfl (by unfold vp_in; decide) dX5_sees_15 ?_
  rw [show f (0 : Int32).toNatClampNeg = 0 from hf]
  refine lv_iload_n hx hb dX5_sees_16 rfl (lv_at hl 1 rfl) ?_
  refine lv_icmp_ne (tgt := 24) hx hb dX5_sees_17 (by decide) (fun _ => ?_) (fun c9 => absurd c9 (by decide))
  refine lv_iconst (v := 0) hx hb dX5_sees_24 (by decide) ?_
  exact W.zret (v := 0) hx hb hr rfl (fun t ht hW => ⟨0, rfl, rfl, ht⟩) (fun _ h => absurd h List.not_mem_nil) dX5_sees_25
set_option maxHeartbeats 1000000 in
set_option maxRecDepth 100000 in
theorem rt_X5_fail0 (l : Launch) (dC : Nat → ClassId) (dI : Nat → Nat → Nat) (sz : Nat) (h1 a0 : Nat) (ax : Nat → Nat) (cB : ClassId) (g : Nat → Int32) (hg : g 0 = 0) : Met l yX5_fail wsX5_fail ({ frames := 0, cells := 0, slots := 0, locals := 0 }) (va_Pc [.ref h1] (fun U => U.heap.size = sz ∧ va_P (dC, dI) vwCl [(h1, .inr (5, [.ref a0, .int 0, .ref (ax 2), .ref (ax 3), .ref (ax 4), .ref (ax 5), .int 0, .int (-1)])), (ax 3, .inl (cB, 161, .inl g))] U.heap ∧ va_K (dC, dI) vwCl [(cB, .int)] U ∧ va_D (fun _ => True) [(h1, .inr (5, [.ref a0, .int 0, .ref (ax 2), .ref (ax 3), .ref (ax 4), .ref (ax 5), .int 0, .int (-1)])), (ax 3, .inl (cB, 161, .inl g))])) (va_Qv (fun u : Unit => match u with | () => True) (fun (u : Unit) (t : State) => match u with | () => va_P (dC, dI) vwCl [(h1, .inr (5, [.ref a0, .int 0, .ref (ax 2), .ref (ax 3), .ref (ax 4), .ref (ax 5), .int 0, .int 0])), (ax 3, .inl (cB, 161, .inl g))] t.heap ∧ va_D (va_A [(h1, .inr (5, [.ref a0, .int 0, .ref (ax 2), .ref (ax 3), .ref (ax 4), .ref (ax 5), .int 0, .int (-1)])), (ax 3, .inl (cB, 161, .inl g))] sz) [(h1, .inr (5, [.ref a0, .int 0, .ref (ax 2), .ref (ax 3), .ref (ax 4), .ref (ax 5), .int 0, .int 0])), (ax 3, .inl (cB, 161, .inl g))]) (va_A [(h1, .inr (5, [.ref a0, .int 0, .ref (ax 2), .ref (ax 3), .ref (ax 4), .ref (ax 5), .int 0, .int (-1)])), (ax 3, .inl (cB, 161, .inl g))] sz)) 0 0 (va_A [(h1, .inr (5, [.ref a0, .int 0, .ref (ax 2), .ref (ax 3), .ref (ax 4), .ref (ax 5), .int 0, .int (-1)])), (ax 3, .inl (cB, 161, .inl g))] sz) := by
  refine Met.ofW (cc := cX5_fail) (maxL := 1) (ret := none) (by decide) rfl ?_
  intro p e s m args below meth c s₁ B hml hv
  obtain ⟨rfl, hsz, hP, hK, hD0⟩ := hv
  have hx := B.exec
  have hb := B.bytes
  have hr := B.returns
  have hts := atoms_spec (ws := wsX5_fail) B.pre
  have hown : s.vm.findClass RX5 = some m.cls := findClass_of_methodNamed B.named
  have hlocks := B.notSynchronized
  subst hsz
  have hD := hD0.self (sz := s.heap.size)
  generalize hAe : va_A [(h1, .inr (5, [.ref a0, .int 0, .ref (ax 2), .ref (ax 3), .ref (ax 4), .ref (ax 5), .int 0, .int (-1)])), (ax 3, .inl (cB, 161, .inl g))] s.heap.size = A at hD  ⊢
  have hA : ∀ q : Nat, s.heap.size ≤ q → A q := fun q h => by rw [← hAe]; exact Or.inr h
  have hS : va_S A s.heap s.heap [] := va_S.rf
  have hl := lv_entry ([.ref h1]) (n := 1) (Nat.le_of_ble_eq_true rfl)
  rw [lg_entry_eq]
  generalize (lg_sl ([.ref h1]) ++ List.replicate (1 - (lg_sl ([.ref h1])).length) Slot.unset).toArray = ls at hl ⊢
  have hl : lv_has ls 1 [(0, .ref h1)] := hl
  refine lv_aload_n hx hb dX5_fail_0 rfl (lv_at hl 0 rfl) ?_
  refine va_get (D := (dC, dI)) (ci := 5) (v := .int (-1)) (C := RX5) (T := TX5) (N := 8) hx hb hts (by decide +kernel) hown hK hP 0 rfl rfl 7 (by decide) (hts (.fieldLink RX5 50 "RedTent$Reader" "fault" "I") (by decide +kernel)) (fun _ h9 => h9) rfl dX5_fail_1 ?_
  refine lv_if_ge (tgt := 20) hx hb dX5_fail_4 (by decide) (fun c9 => absurd c9 (by decide)) (fun _ => ?_)
  refine lv_aload_n hx hb dX5_fail_7 rfl (lv_at hl 0 rfl) ?_
  refine lv_aload_n hx hb dX5_fail_8 rfl (lv_at hl 0 rfl) ?_
  refine va_get (D := (dC, dI)) (ci := 5) (v := .ref (ax 3)) (C := RX5) (T := TX5) (N := 8) hx hb hts (by decide +kernel) hown hK hP 0 rfl rfl 3 (by decide) (hts (.fieldLink RX5 18 "RedTent$Reader" "starts" "[I") (by decide +kernel)) (fun _ h9 => h9) rfl dX5_fail_9 ?_
  refine lv_aload_n hx hb dX5_fail_12 rfl (lv_at hl 0 rfl) ?_
  refine va_get (D := (dC, dI)) (ci := 5) (v := .int 0) (C := RX5) (T := TX5) (N := 8) hx hb hts (by decide +kernel) hown hK hP 0 rfl rfl 6 (by decide) (hts (.fieldLink RX5 47 "RedTent$Reader" "at" "I") (by decide +kernel)) (fun _ h9 => h9) rfl dX5_fail_13 ?_
  refine va_iald hx hb hK hP 1 0 rfl rfl (by unfold vp_in; decide) dX5_fail_16 ?_
  rw [show g (0 : Int32).toNatClampNeg = 0 from hg]
  refine va_put (D := (dC, dI)) (ci := 5) (v := .int 0) (ty := .int) (C := RX5) (T := TX5) (N := 8) hx hb hts (by decide +kernel) tyX5 tyX5_ok nmX5 hown hK hP hD hS 0 rfl rfl 7 (by decide) (hts (.fieldLink RX5 50 "RedTent$Reader" "fault" "I") (by decide +kernel)) (fun _ h9 => h9) rfl (by decide +kernel) rfl rfl (Nat.le_of_ble_eq_true rfl) dX5_fail_17 (fun H locs hP hD hS => ?_)
  have hP : va_P (dC, dI) vwCl [(h1, .inr (5, [.ref a0, .int 0, .ref (ax 2), .ref (ax 3), .ref (ax 4), .ref (ax 5), .int 0, .int 0])), (ax 3, .inl (cB, 161, .inl g))] H := hP
  have hD : va_D A [(h1, .inr (5, [.ref a0, .int 0, .ref (ax 2), .ref (ax 3), .ref (ax 4), .ref (ax 5), .int 0, .int 0])), (ax 3, .inl (cB, 161, .inl g))] := hD
  have hP9 := hP.sub (ws' := [(h1, .inr (5, [.ref a0, .int 0, .ref (ax 2), .ref (ax 3), .ref (ax 4), .ref (ax 5), .int 0, .int 0])), (ax 3, .inl (cB, 161, .inl g))]) [0, 1] rfl
  have hD9 := hD.sub (ws' := [(h1, .inr (5, [.ref a0, .int 0, .ref (ax 2), .ref (ax 3), .ref (ax 4), .ref (ax 5), .int 0, .int 0])), (ax 3, .inl (cB, 161, .inl g))]) [0, 1] (by decide) rfl
  refine W.widen (k := 0) (n := 0) (by decide +kernel) (by decide +kernel) ?_
  exact W.vret hx hb hr (fun t ht hW => ⟨⟨(), rfl, trivial, by rw [ht]; exact hP9, hD9⟩, hS.F ht⟩) hS.2.2 dX5_fail_20
set_option maxHeartbeats 1000000 in
set_option maxRecDepth 100000 in
theorem rt_X5_need0 (l : Launch) (dC : Nat → ClassId) (dI : Nat → Nat → Nat) (sz : Nat) (h1 a0 : Nat) (ax : Nat → Nat) (cA cB : ClassId) (f g : Nat → Int32) (hf : f 0 = 0) (hg : g 0 = 0) : Met l yX5_need wsX5_need ({ frames := 1, cells := 0, slots := 0, locals := 21 }) (va_Pc [.ref h1, .int 7] (fun U => U.heap.size = sz ∧ va_P (dC, dI) vwCl [(h1, .inr (5, [.ref a0, .int 0, .ref (ax 2), .ref (ax 3), .ref (ax 4), .ref (ax 5), .int 0, .int (-1)])), (ax 2, .inl (cA, 161, .inl f)), (ax 3, .inl (cB, 161, .inl g))] U.heap ∧ va_K (dC, dI) vwCl [(cA, .int), (cB, .int)] U ∧ va_D (fun _ => True) [(h1, .inr (5, [.ref a0, .int 0, .ref (ax 2), .ref (ax 3), .ref (ax 4), .ref (ax 5), .int 0, .int (-1)])), (ax 2, .inl (cA, 161, .inl f)), (ax 3, .inl (cB, 161, .inl g))])) (va_Qv (fun u : Unit => match u with | () => True) (fun (u : Unit) (t : State) => match u with | () => va_P (dC, dI) vwCl [(h1, .inr (5, [.ref a0, .int 0, .ref (ax 2), .ref (ax 3), .ref (ax 4), .ref (ax 5), .int 0, .int 0])), (ax 2, .inl (cA, 161, .inl f)), (ax 3, .inl (cB, 161, .inl g))] t.heap ∧ va_D (va_A [(h1, .inr (5, [.ref a0, .int 0, .ref (ax 2), .ref (ax 3), .ref (ax 4), .ref (ax 5), .int 0, .int (-1)])), (ax 2, .inl (cA, 161, .inl f)), (ax 3, .inl (cB, 161, .inl g))] sz) [(h1, .inr (5, [.ref a0, .int 0, .ref (ax 2), .ref (ax 3), .ref (ax 4), .ref (ax 5), .int 0, .int 0])), (ax 2, .inl (cA, 161, .inl f)), (ax 3, .inl (cB, 161, .inl g))]) (va_A [(h1, .inr (5, [.ref a0, .int 0, .ref (ax 2), .ref (ax 3), .ref (ax 4), .ref (ax 5), .int 0, .int (-1)])), (ax 2, .inl (cA, 161, .inl f)), (ax 3, .inl (cB, 161, .inl g))] sz)) 0 0 (va_A [(h1, .inr (5, [.ref a0, .int 0, .ref (ax 2), .ref (ax 3), .ref (ax 4), .ref (ax 5), .int 0, .int (-1)])), (ax 2, .inl (cA, 161, .inl f)), (ax 3, .inl (cB, 161, .inl g))] sz) := by
  refine Met.ofW (cc := cX5_need) (maxL := 2) (ret := none) (by decide) rfl ?_
  intro p e s m args below meth c s₁ B hml hv
  obtain ⟨rfl, hsz, hP, hK, hD0⟩ := hv
  have hx := B.exec
  have hb := B.bytes
  have hr := B.returns
  have hts := atoms_spec (ws := wsX5_need) B.pre
  have hown : s.vm.findClass RX5 = some m.cls := findClass_of_methodNamed B.named
  have hlocks := B.notSynchronized
  subst hsz
  have hD := hD0.self (sz := s.heap.size)
  generalize hAe : va_A [(h1, .inr (5, [.ref a0, .int 0, .ref (ax 2), .ref (ax 3), .ref (ax 4), .ref (ax 5), .int 0, .int (-1)])), (ax 2, .inl (cA, 161, .inl f)), (ax 3, .inl (cB, 161, .inl g))] s.heap.size = A at hD  ⊢
  have hA : ∀ q : Nat, s.heap.size ≤ q → A q := fun q h => by rw [← hAe]; exact Or.inr h
  have hS : va_S A s.heap s.heap [] := va_S.rf
  have hl := lv_entry ([.ref h1, .int 7]) (n := 2) (Nat.le_of_ble_eq_true rfl)
  rw [lg_entry_eq]
  generalize (lg_sl ([.ref h1, .int 7]) ++ List.replicate (2 - (lg_sl ([.ref h1, .int 7])).length) Slot.unset).toArray = ls at hl ⊢
  have hl : lv_has ls 2 [(0, .ref h1), (1, .int 7)] := hl
  refine lv_aload_n hx hb dX5_need_0 rfl (lv_at hl 0 rfl) ?_
  refine lv_iload_n hx hb dX5_need_1 rfl (lv_at hl 1 rfl) ?_
  have hPc := hP.sub (ws' := [(h1, .inr (5, [.ref a0, .int 0, .ref (ax 2), .ref (ax 3), .ref (ax 4), .ref (ax 5), .int 0, .int (-1)])), (ax 2, .inl (cA, 161, .inl f))]) [0, 1] rfl
  have hKc := hK.sub (tys' := [(cA, .int)]) [0] rfl
  refine vp_callSi (va_Run.run (va_runV (As := [.int 7]) (rest := []) ⟨hx, hb, hml, hown, hts⟩ (rt_X5_sees0 l dC dI h1 a0 ax cA f hf) (cwV 1 hts gX5_need_X5_sees rfl rfl rfl (by decide +kernel) ⟨Nat.le_of_ble_eq_true rfl, Nat.le_of_ble_eq_true rfl⟩) ⟨fun a U g mk q => by obtain ⟨q0, qP, qK⟩ := q; exact ⟨q0, qP, va_K.moved (u := U) (U := U.calling g mk a) (Vm.Alike.refl U.vm) qK⟩, va_recv hKc hPc (ci := 5) (q0 := 0) rfl rfl, fun U hU hW => ⟨rfl, by rw [hU]; exact hPc, va_K.moved hW.alike hKc⟩⟩ rfl rfl hl.1 rfl (lv_room (Nat.le_of_ble_eq_true rfl)) dX5_need_2 ⟨by decide +kernel, by decide +kernel⟩)) (fun r_1 hr_1 => ?_)
  obtain rfl := hr_1
  refine lv_if_eq (tgt := 15) hx hb dX5_need_5 (by decide) (fun _ => ?_) (fun c9 => absurd (by decide) c9)
  refine lv_aload_n hx hb dX5_need_15 rfl (lv_at hl 0 rfl) ?_
  have hPc := hP.sub (ws' := [(h1, .inr (5, [.ref a0, .int 0, .ref (ax 2), .ref (ax 3), .ref (ax 4), .ref (ax 5), .int 0, .int (-1)])), (ax 3, .inl (cB, 161, .inl g))]) [0, 2] rfl
  have hKc := hK.sub (tys' := [(cB, .int)]) [1] rfl
  have hDc := hD.sub (ws' := [(h1, .inr (5, [.ref a0, .int 0, .ref (ax 2), .ref (ax 3), .ref (ax 4), .ref (ax 5), .int 0, .int (-1)])), (ax 3, .inl (cB, 161, .inl g))]) [0, 2] (by decide) rfl
  have hFc := va_free (wc := [(h1, .inr (5, [.ref a0, .int 0, .ref (ax 2), .ref (ax 3), .ref (ax 4), .ref (ax 5), .int 0, .int (-1)])), (ax 3, .inl (cB, 161, .inl g))]) hD hS hA [0, 2] rfl
  refine va_callv (va_runV (As := []) (rest := []) ⟨hx, hb, hml, hown, hts⟩ (rt_X5_fail0 l dC dI s.heap.size h1 a0 ax cB g hg) (cwV 0 hts gX5_need_X5_fail rfl rfl rfl (by decide +kernel) ⟨Nat.le_of_ble_eq_true rfl, Nat.le_of_ble_eq_true rfl⟩) ⟨fun a U g mk q => by obtain ⟨q0, q1, qP, qK, qD⟩ := q; exact ⟨q0, q1, qP, va_K.moved (u := U) (U := U.calling g mk a) (Vm.Alike.refl U.vm) qK, qD⟩, va_recv hKc hPc (ci := 5) (q0 := 0) rfl rfl, fun U hU hW => ⟨rfl, by rw [hU], by rw [hU]; exact hPc, va_K.moved hW.alike hKc, hDc.weaken (fun _ _ _ _ => trivial)⟩⟩ rfl rfl hl.1 rfl (lv_room (Nat.le_of_ble_eq_true rfl)) dX5_need_16 ⟨by decide +kernel, by decide +kernel⟩) hS (fun q _ h => hFc q h) hFc (fun u t H1 locs ht hvm hr_2 hB hz1 hk1 hS => ?_)
  obtain ⟨⟩ := u
  obtain ⟨hP1, hD1⟩ := hB
  rw [ht] at hP1
  obtain ⟨hP, hD⟩ := va_join (wr := [(ax 2, .inl (cA, 161, .inl f))]) (w1 := [(h1, .inr (5, [.ref a0, .int 0, .ref (ax 2), .ref (ax 3), .ref (ax 4), .ref (ax 5), .int 0, .int 0])), (ax 3, .inl (cB, 161, .inl g))]) hP hD [0, 2] [1] rfl rfl (by decide) (by decide) hk1 hFc hP1 hD1
  generalize H1 = H at hP hS ⊢
  have hP : va_P (dC, dI) vwCl [(ax 2, .inl (cA, 161, .inl f)), (h1, .inr (5, [.ref a0, .int 0, .ref (ax 2), .ref (ax 3), .ref (ax 4), .ref (ax 5), .int 0, .int 0])), (ax 3, .inl (cB, 161, .inl g))] H := hP
  have hD : va_D A [(ax 2, .inl (cA, 161, .inl f)), (h1, .inr (5, [.ref a0, .int 0, .ref (ax 2), .ref (ax 3), .ref (ax 4), .ref (ax 5), .int 0, .int 0])), (ax 3, .inl (cB, 161, .inl g))] := hD
  have hP9 := hP.sub (ws' := [(h1, .inr (5, [.ref a0, .int 0, .ref (ax 2), .ref (ax 3), .ref (ax 4), .ref (ax 5), .int 0, .int 0])), (ax 2, .inl (cA, 161, .inl f)), (ax 3, .inl (cB, 161, .inl g))]) [1, 0, 2] rfl
  have hD9 := hD.sub (ws' := [(h1, .inr (5, [.ref a0, .int 0, .ref (ax 2), .ref (ax 3), .ref (ax 4), .ref (ax 5), .int 0, .int 0])), (ax 2, .inl (cA, 161, .inl f)), (ax 3, .inl (cB, 161, .inl g))]) [1, 0, 2] (by decide) rfl
  refine W.widen (k := 0) (n := 0) (by decide +kernel) (by decide +kernel) ?_
  exact W.vret hx hb hr (fun t ht hW => ⟨⟨(), rfl, trivial, by rw [ht]; exact hP9, hD9⟩, hS.F ht⟩) hS.2.2 dX5_need_19
set_option maxHeartbeats 1000000 in
set_option maxRecDepth 100000 in
theorem rt_X5_cut0 (l : Launch) (dC : Nat → ClassId) (dI : Nat → Nat → Nat) (sz : Nat) (h1 a0 : Nat) (ax : Nat → Nat) (cA cB : ClassId) (f g : Nat → Int32) : Met l yX5_cutTokens wsX5_cutTokens ({ frames := 0, cells := 0, slots := 0, locals := 0 }) (va_Pc [.ref h1] (fun U => U.heap.size = sz ∧ va_P (dC, dI) vwCl [(h1, .inr (5, [.ref a0, .int 0, .ref (ax 2), .ref (ax 3), .ref (ax 4), .ref (ax 5), .int 0, .int 0])), (ax 2, .inl (cA, 161, .inl f)), (ax 3, .inl (cB, 161, .inl g))] U.heap ∧ va_K (dC, dI) vwCl [(cA, .int), (cB, .int)] U ∧ va_D (fun _ => True) [(h1, .inr (5, [.ref a0, .int 0, .ref (ax 2), .ref (ax 3), .ref (ax 4), .ref (ax 5), .int 0, .int 0])), (ax 2, .inl (cA, 161, .inl f)), (ax 3, .inl (cB, 161, .inl g))])) (va_Qv (fun u : (Nat → Int32) × (Nat → Int32) => match u with | (f2, g2) => f2 0 = 0 ∧ g2 0 = 0) (fun (u : (Nat → Int32) × (Nat → Int32)) (t : State) => match u with | (f2, g2) => va_P (dC, dI) vwCl [(h1, .inr (5, [.ref a0, .int 0, .ref (ax 2), .ref (ax 3), .ref (ax 4), .ref (ax 5), .int 0, .int 0])), (ax 2, .inl (cA, 161, .inl f2)), (ax 3, .inl (cB, 161, .inl g2))] t.heap ∧ va_D (va_A [(h1, .inr (5, [.ref a0, .int 0, .ref (ax 2), .ref (ax 3), .ref (ax 4), .ref (ax 5), .int 0, .int 0])), (ax 2, .inl (cA, 161, .inl f)), (ax 3, .inl (cB, 161, .inl g))] sz) [(h1, .inr (5, [.ref a0, .int 0, .ref (ax 2), .ref (ax 3), .ref (ax 4), .ref (ax 5), .int 0, .int 0])), (ax 2, .inl (cA, 161, .inl f2)), (ax 3, .inl (cB, 161, .inl g2))]) (va_A [(h1, .inr (5, [.ref a0, .int 0, .ref (ax 2), .ref (ax 3), .ref (ax 4), .ref (ax 5), .int 0, .int 0])), (ax 2, .inl (cA, 161, .inl f)), (ax 3, .inl (cB, 161, .inl g))] sz)) 0 0 (va_A [(h1, .inr (5, [.ref a0, .int 0, .ref (ax 2), .ref (ax 3), .ref (ax 4), .ref (ax 5), .int 0, .int 0])), (ax 2, .inl (cA, 161, .inl f)), (ax 3, .inl (cB, 161, .inl g))] sz) := by
  refine Met.ofW (cc := cX5_cutTokens) (maxL := 3) (ret := none) (by decide) rfl ?_
  intro p e s m args below meth c s₁ B hml hv
  obtain ⟨rfl, hsz, hP, hK, hD0⟩ := hv
  have hx := B.exec
  have hb := B.bytes
  have hr := B.returns
  have hts := atoms_spec (ws := wsX5_cutTokens) B.pre
  have hown : s.vm.findClass RX5 = some m.cls := findClass_of_methodNamed B.named
  have hlocks := B.notSynchronized
  subst hsz
  have hD := hD0.self (sz := s.heap.size)
  generalize hAe : va_A [(h1, .inr (5, [.ref a0, .int 0, .ref (ax 2), .ref (ax 3), .ref (ax 4), .ref (ax 5), .int 0, .int 0])), (ax 2, .inl (cA, 161, .inl f)), (ax 3, .inl (cB, 161, .inl g))] s.heap.size = A at hD  ⊢
  have hA : ∀ q : Nat, s.heap.size ≤ q → A q := fun q h => by rw [← hAe]; exact Or.inr h
  have hS : va_S A s.heap s.heap [] := va_S.rf
  have hl := lv_entry ([.ref h1]) (n := 3) (Nat.le_of_ble_eq_true rfl)
  rw [lg_entry_eq]
  generalize (lg_sl ([.ref h1]) ++ List.replicate (3 - (lg_sl ([.ref h1])).length) Slot.unset).toArray = ls at hl ⊢
  have hl : lv_has ls 3 [(0, .ref h1)] := hl
  refine lv_iconst (v := 0) hx hb dX5_cutTokens_0 (by decide) ?_
  refine lv_istore_n (lv' := [(1, .int 0), (0, .ref h1)]) hx hb dX5_cutTokens_1 rfl hl (by decide) rfl (fun ls hl => ?_)
  refine lv_iconst (v := 0) hx hb dX5_cutTokens_2 (by decide) ?_
  refine lv_istore_n (lv' := [(2, .int 0), (1, .int 0), (0, .ref h1)]) hx hb dX5_cutTokens_3 rfl hl (by decide) rfl (fun ls hl => ?_)
  refine lv_iload_n hx hb dX5_cutTokens_4 rfl (lv_at hl 0 rfl) ?_
  refine lv_aload_n hx hb dX5_cutTokens_5 rfl (lv_at hl 2 rfl) ?_
  refine va_get (D := (dC, dI)) (ci := 5) (v := .int 0) (C := RX5) (T := TX5) (N := 8) hx hb hts (by decide +kernel) hown hK hP 0 rfl rfl 1 (by decide) (hts (.fieldLink RX5 37 "RedTent$Reader" "size" "I") (by decide +kernel)) (fun _ h9 => h9) rfl dX5_cutTokens_6 ?_
  refine lv_icmp_ge (tgt := 57) hx hb dX5_cutTokens_9 (by decide) (fun _ => ?_) (fun c9 => absurd (by decide) c9)
  refine lv_aload_n hx hb dX5_cutTokens_57 rfl (lv_at hl 2 rfl) ?_
  refine va_get (D := (dC, dI)) (ci := 5) (v := .ref (ax 2)) (C := RX5) (T := TX5) (N := 8) hx hb hts (by decide +kernel) hown hK hP 0 rfl rfl 2 (by decide) (hts (.fieldLink RX5 15 "RedTent$Reader" "tokens" "[I") (by decide +kernel)) (fun _ h9 => h9) rfl dX5_cutTokens_58 ?_
  refine lv_iload_n hx hb dX5_cutTokens_61 rfl (lv_at hl 1 rfl) ?_
  refine lv_iconst (v := 0) hx hb dX5_cutTokens_62 (by decide) ?_
  refine va_iast hx hb hK hP hD hS 1 0 rfl rfl (by unfold vp_in; decide) dX5_cutTokens_63 (fun H locs hP hD hS => ?_)
  have hP : va_P (dC, dI) vwCl [(h1, .inr (5, [.ref a0, .int 0, .ref (ax 2), .ref (ax 3), .ref (ax 4), .ref (ax 5), .int 0, .int 0])), (ax 2, .inl (cA, 161, .inl (upd f (0 : Int32).toNatClampNeg 0))), (ax 3, .inl (cB, 161, .inl g))] H := hP
  have hD : va_D A [(h1, .inr (5, [.ref a0, .int 0, .ref (ax 2), .ref (ax 3), .ref (ax 4), .ref (ax 5), .int 0, .int 0])), (ax 2, .inl (cA, 161, .inl (upd f (0 : Int32).toNatClampNeg 0))), (ax 3, .inl (cB, 161, .inl g))] := hD
  refine lv_aload_n hx hb dX5_cutTokens_64 rfl (lv_at hl 2 rfl) ?_
  refine va_get (D := (dC, dI)) (ci := 5) (v := .ref (ax 3)) (C := RX5) (T := TX5) (N := 8) hx hb hts (by decide +kernel) hown hK hP 0 rfl rfl 3 (by decide) (hts (.fieldLink RX5 18 "RedTent$Reader" "starts" "[I") (by decide +kernel)) (fun _ h9 => h9) rfl dX5_cutTokens_65 ?_
  refine lv_iload_n hx hb dX5_cutTokens_68 rfl (lv_at hl 1 rfl) ?_
  refine lv_aload_n hx hb dX5_cutTokens_69 rfl (lv_at hl 2 rfl) ?_
  refine va_get (D := (dC, dI)) (ci := 5) (v := .int 0) (C := RX5) (T := TX5) (N := 8) hx hb hts (by decide +kernel) hown hK hP 0 rfl rfl 1 (by decide) (hts (.fieldLink RX5 37 "RedTent$Reader" "size" "I") (by decide +kernel)) (fun _ h9 => h9) rfl dX5_cutTokens_70 ?_
  refine va_iast hx hb hK hP hD hS 2 1 rfl rfl (by unfold vp_in; decide) dX5_cutTokens_73 (fun H locs hP hD hS => ?_)
  have hP : va_P (dC, dI) vwCl [(h1, .inr (5, [.ref a0, .int 0, .ref (ax 2), .ref (ax 3), .ref (ax 4), .ref (ax 5), .int 0, .int 0])), (ax 2, .inl (cA, 161, .inl (upd f (0 : Int32).toNatClampNeg 0))), (ax 3, .inl (cB, 161, .inl (upd g (0 : Int32).toNatClampNeg 0)))] H := hP
  have hD : va_D A [(h1, .inr (5, [.ref a0, .int 0, .ref (ax 2), .ref (ax 3), .ref (ax 4), .ref (ax 5), .int 0, .int 0])), (ax 2, .inl (cA, 161, .inl (upd f (0 : Int32).toNatClampNeg 0))), (ax 3, .inl (cB, 161, .inl (upd g (0 : Int32).toNatClampNeg 0)))] := hD
  have hP9 := hP.sub (ws' := [(h1, .inr (5, [.ref a0, .int 0, .ref (ax 2), .ref (ax 3), .ref (ax 4), .ref (ax 5), .int 0, .int 0])), (ax 2, .inl (cA, 161, .inl (upd f (0 : Int32).toNatClampNeg 0))), (ax 3, .inl (cB, 161, .inl (upd g (0 : Int32).toNatClampNeg 0)))]) [0, 1, 2] rfl
  have hD9 := hD.sub (ws' := [(h1, .inr (5, [.ref a0, .int 0, .ref (ax 2), .ref (ax 3), .ref (ax 4), .ref (ax 5), .int 0, .int 0])), (ax 2, .inl (cA, 161, .inl (upd f (0 : Int32).toNatClampNeg 0))), (ax 3, .inl (cB, 161, .inl (upd g (0 : Int32).toNatClampNeg 0)))]) [0, 1, 2] (by decide) rfl
  refine W.widen (k := 0) (n := 0) (by decide +kernel) (by decide +kernel) ?_
  exact W.vret hx hb hr (fun t ht hW => ⟨⟨(upd f (0 : Int32).toNatClampNeg 0, upd g (0 : Int32).toNatClampNeg 0), rfl, ⟨pk_us, pk_us⟩, by rw [ht]; exact hP9, hD9⟩, hS.F ht⟩) hS.2.2 dX5_cutTokens_74
set_option maxHeartbeats 1000000 in
set_option maxRecDepth 100000 in
theorem rt_X9_clear (l : Launch) (dC : Nat → ClassId) (dI : Nat → Nat → Nat) (sz : Nat) (h1 : Nat) (ay : Nat → Nat) : Met l yX9_clear wsX9_clear ({ frames := 0, cells := 0, slots := 0, locals := 0 }) (va_Pc [.ref h1] (fun U => U.heap.size = sz ∧ va_P (dC, dI) vwCl [(h1, .inr (9, [.ref (ay 0), .int 0, .int 0]))] U.heap ∧ va_K (dC, dI) vwCl [] U ∧ va_D (fun _ => True) [(h1, .inr (9, [.ref (ay 0), .int 0, .int 0]))])) (va_Qv (fun u : Unit => match u with | () => True) (fun (u : Unit) (t : State) => match u with | () => va_P (dC, dI) vwCl [(h1, .inr (9, [.ref (ay 0), .int 0, .int 0]))] t.heap ∧ va_D (va_A [(h1, .inr (9, [.ref (ay 0), .int 0, .int 0]))] sz) [(h1, .inr (9, [.ref (ay 0), .int 0, .int 0]))]) (va_A [(h1, .inr (9, [.ref (ay 0), .int 0, .int 0]))] sz)) 0 0 (va_A [(h1, .inr (9, [.ref (ay 0), .int 0, .int 0]))] sz) := by
  refine Met.ofW (cc := cX9_clear) (maxL := 1) (ret := none) (by decide) rfl ?_
  intro p e s m args below meth c s₁ B hml hv
  obtain ⟨rfl, hsz, hP, hK, hD0⟩ := hv
  have hx := B.exec
  have hb := B.bytes
  have hr := B.returns
  have hts := atoms_spec (ws := wsX9_clear) B.pre
  have hown : s.vm.findClass RX9 = some m.cls := findClass_of_methodNamed B.named
  have hlocks := B.notSynchronized
  subst hsz
  have hD := hD0.self (sz := s.heap.size)
  generalize hAe : va_A [(h1, .inr (9, [.ref (ay 0), .int 0, .int 0]))] s.heap.size = A at hD  ⊢
  have hA : ∀ q : Nat, s.heap.size ≤ q → A q := fun q h => by rw [← hAe]; exact Or.inr h
  have hS : va_S A s.heap s.heap [] := va_S.rf
  have hl := lv_entry ([.ref h1]) (n := 1) (Nat.le_of_ble_eq_true rfl)
  rw [lg_entry_eq]
  generalize (lg_sl ([.ref h1]) ++ List.replicate (1 - (lg_sl ([.ref h1])).length) Slot.unset).toArray = ls at hl ⊢
  have hl : lv_has ls 1 [(0, .ref h1)] := hl
  refine lv_aload_n hx hb dX9_clear_0 rfl (lv_at hl 0 rfl) ?_
  refine lv_iconst (v := 0) hx hb dX9_clear_1 (by decide) ?_
  refine va_put (D := (dC, dI)) (ci := 9) (v := .int 0) (ty := .int) (C := RX9) (T := TX9) (N := 3) hx hb hts (by decide +kernel) tyX9 tyX9_ok nmX9 hown hK hP hD hS 0 rfl rfl 1 (by decide) (hts (.fieldLink RX9 15 "RedTent$Text" "size" "I") (by decide +kernel)) (fun _ h9 => h9) rfl (by decide +kernel) rfl rfl (Nat.le_of_ble_eq_true rfl) dX9_clear_2 (fun H locs hP hD hS => ?_)
  have hP : va_P (dC, dI) vwCl [(h1, .inr (9, [.ref (ay 0), .int 0, .int 0]))] H := hP
  have hD : va_D A [(h1, .inr (9, [.ref (ay 0), .int 0, .int 0]))] := hD
  refine lv_aload_n hx hb dX9_clear_5 rfl (lv_at hl 0 rfl) ?_
  refine lv_iconst (v := 0) hx hb dX9_clear_6 (by decide) ?_
  refine va_put (D := (dC, dI)) (ci := 9) (v := .int 0) (ty := .int) (C := RX9) (T := TX9) (N := 3) hx hb hts (by decide +kernel) tyX9 tyX9_ok nmX9 hown hK hP hD hS 0 rfl rfl 2 (by decide) (hts (.fieldLink RX9 19 "RedTent$Text" "goFrom" "I") (by decide +kernel)) (fun _ h9 => h9) rfl (by decide +kernel) rfl rfl (Nat.le_of_ble_eq_true rfl) dX9_clear_7 (fun H locs hP hD hS => ?_)
  have hP : va_P (dC, dI) vwCl [(h1, .inr (9, [.ref (ay 0), .int 0, .int 0]))] H := hP
  have hD : va_D A [(h1, .inr (9, [.ref (ay 0), .int 0, .int 0]))] := hD
  have hP9 := hP.sub (ws' := [(h1, .inr (9, [.ref (ay 0), .int 0, .int 0]))]) [0] rfl
  have hD9 := hD.sub (ws' := [(h1, .inr (9, [.ref (ay 0), .int 0, .int 0]))]) [0] (by decide) rfl
  refine W.widen (k := 0) (n := 0) (by decide +kernel) (by decide +kernel) ?_
  exact W.vret hx hb hr (fun t ht hW => ⟨⟨(), rfl, trivial, by rw [ht]; exact hP9, hD9⟩, hS.F ht⟩) hS.2.2 dX9_clear_10
set_option maxHeartbeats 1000000 in
set_option maxRecDepth 100000 in
theorem rt_X5_readAll (l : Launch) (dC : Nat → ClassId) (dI : Nat → Nat → Nat) (sz : Nat) (h1 h2 a0 : Nat) (ax ay : Nat → Nat) (cA cB cC : ClassId) (f g ft : Nat → Int32) : Met l yX5_readAll wsX5_readAll ({ frames := 8, cells := 0, slots := 0, locals := 174 }) (va_Pc [.ref h1, .ref h2, .int 0] (fun U => U.heap.size = sz ∧ va_P (dC, dI) vwCl [(h1, .inr (5, [.ref a0, .int 0, .ref (ax 2), .ref (ax 3), .ref (ax 4), .ref (ax 5), .int 0, .int 0])), (ax 2, .inl (cA, 161, .inl f)), (ax 3, .inl (cB, 161, .inl g)), (ax 5, .inr (9, [.ref (ay 0), .int 0, .int 0])), (h2, .inl (cC, 160, .inl ft))] U.heap ∧ va_K (dC, dI) vwCl [(cA, .int), (cB, .int), (cC, .int)] U ∧ va_D (fun _ => True) [(h1, .inr (5, [.ref a0, .int 0, .ref (ax 2), .ref (ax 3), .ref (ax 4), .ref (ax 5), .int 0, .int 0])), (ax 2, .inl (cA, 161, .inl f)), (ax 3, .inl (cB, 161, .inl g)), (ax 5, .inr (9, [.ref (ay 0), .int 0, .int 0])), (h2, .inl (cC, 160, .inl ft))])) (va_Qi (fun (r : Int32) (u : Unit) => match u with | () => r = 0) (fun (u : Unit) (t : State) => match u with | () => True) (va_A [(h1, .inr (5, [.ref a0, .int 0, .ref (ax 2), .ref (ax 3), .ref (ax 4), .ref (ax 5), .int 0, .int 0])), (ax 2, .inl (cA, 161, .inl f)), (ax 3, .inl (cB, 161, .inl g)), (ax 5, .inr (9, [.ref (ay 0), .int 0, .int 0])), (h2, .inl (cC, 160, .inl ft))] sz)) 0 0 (va_A [(h1, .inr (5, [.ref a0, .int 0, .ref (ax 2), .ref (ax 3), .ref (ax 4), .ref (ax 5), .int 0, .int 0])), (ax 2, .inl (cA, 161, .inl f)), (ax 3, .inl (cB, 161, .inl g)), (ax 5, .inr (9, [.ref (ay 0), .int 0, .int 0])), (h2, .inl (cC, 160, .inl ft))] sz) := by
  refine Met.ofW (cc := cX5_readAll) (maxL := 3) (ret := (some .int)) (by decide) rfl ?_
  intro p e s m args below meth c s₁ B hml hv
  obtain ⟨rfl, hsz, hP, hK, hD0⟩ := hv
  have hx := B.exec
  have hb := B.bytes
  have hr := B.returns
  have hts := atoms_spec (ws := wsX5_readAll) B.pre
  have hown : s.vm.findClass RX5 = some m.cls := findClass_of_methodNamed B.named
  have hlocks := B.notSynchronized
  subst hsz
  have hD := hD0.self (sz := s.heap.size)
  generalize hAe : va_A [(h1, .inr (5, [.ref a0, .int 0, .ref (ax 2), .ref (ax 3), .ref (ax 4), .ref (ax 5), .int 0, .int 0])), (ax 2, .inl (cA, 161, .inl f)), (ax 3, .inl (cB, 161, .inl g)), (ax 5, .inr (9, [.ref (ay 0), .int 0, .int 0])), (h2, .inl (cC, 160, .inl ft))] s.heap.size = A at hD  ⊢
  have hA : ∀ q : Nat, s.heap.size ≤ q → A q := fun q h => by rw [← hAe]; exact Or.inr h
  have hS : va_S A s.heap s.heap [] := va_S.rf
  have hl := lv_entry ([.ref h1, .ref h2, .int 0]) (n := 3) (Nat.le_of_ble_eq_true rfl)
  rw [lg_entry_eq]
  generalize (lg_sl ([.ref h1, .ref h2, .int 0]) ++ List.replicate (3 - (lg_sl ([.ref h1, .ref h2, .int 0])).length) Slot.unset).toArray = ls at hl ⊢
  have hl : lv_has ls 3 [(0, .ref h1), (1, .ref h2), (2, .int 0)] := hl
  refine lv_aload_n hx hb dX5_readAll_0 rfl (lv_at hl 0 rfl) ?_
  refine lv_aload_n hx hb dX5_readAll_1 rfl (lv_at hl 1 rfl) ?_
  refine va_put (D := (dC, dI)) (ci := 5) (v := .ref h2) (ty := .array .int) (C := RX5) (T := TX5) (N := 8) hx hb hts (by decide +kernel) tyX5 tyX5_ok nmX5 hown hK hP hD hS 0 rfl rfl 0 (by decide) (hts (.fieldLink RX5 11 "RedTent$Reader" "bytes" "[I") (by decide +kernel)) (fun _ h9 => h9) rfl (by decide +kernel) rfl rfl (Nat.le_of_ble_eq_true rfl) dX5_readAll_2 (fun H locs hP hD hS => ?_)
  have hP : va_P (dC, dI) vwCl [(h1, .inr (5, [.ref h2, .int 0, .ref (ax 2), .ref (ax 3), .ref (ax 4), .ref (ax 5), .int 0, .int 0])), (ax 2, .inl (cA, 161, .inl f)), (ax 3, .inl (cB, 161, .inl g)), (ax 5, .inr (9, [.ref (ay 0), .int 0, .int 0])), (h2, .inl (cC, 160, .inl ft))] H := hP
  have hD : va_D A [(h1, .inr (5, [.ref h2, .int 0, .ref (ax 2), .ref (ax 3), .ref (ax 4), .ref (ax 5), .int 0, .int 0])), (ax 2, .inl (cA, 161, .inl f)), (ax 3, .inl (cB, 161, .inl g)), (ax 5, .inr (9, [.ref (ay 0), .int 0, .int 0])), (h2, .inl (cC, 160, .inl ft))] := hD
  refine lv_aload_n hx hb dX5_readAll_5 rfl (lv_at hl 0 rfl) ?_
  refine lv_iload_n hx hb dX5_readAll_6 rfl (lv_at hl 2 rfl) ?_
  refine lv_aload_n hx hb dX5_readAll_7 rfl (lv_at hl 1 rfl) ?_
  refine va_alen (v := 160) hx hb hK hP 4 2 rfl rfl rfl dX5_readAll_8 ?_
  refine va_mmin hx hb (by rw [hml]; exact hl.1.symm) hown (hts (.methodLink RX5 31 Lib.Math.min.name) (by decide +kernel)) (hts (.static Lib.Math.min.name) (by decide +kernel)) (hts (.initialized "java/lang/Math") (by decide +kernel)) (hts (.code Lib.Math.min.name Lib.Math.min.code 2 (some .int)) (by decide +kernel)) (Nat.le_of_ble_eq_true rfl) (Nat.le_of_ble_eq_true rfl) (Nat.le_of_ble_eq_true rfl) (Nat.le_of_ble_eq_true rfl) dX5_readAll_9 ?_
  refine lv_topi (fun x_1 ex_1 => ?_)
  obtain rfl : x_1 = 0 := ex_1.trans (by decide)
  refine va_put (D := (dC, dI)) (ci := 5) (v := .int 0) (ty := .int) (C := RX5) (T := TX5) (N := 8) hx hb hts (by decide +kernel) tyX5 tyX5_ok nmX5 hown hK hP hD hS 0 rfl rfl 1 (by decide) (hts (.fieldLink RX5 37 "RedTent$Reader" "size" "I") (by decide +kernel)) (fun _ h9 => h9) rfl (by decide +kernel) rfl rfl (Nat.le_of_ble_eq_true rfl) dX5_readAll_12 (fun H locs hP hD hS => ?_)
  have hP : va_P (dC, dI) vwCl [(h1, .inr (5, [.ref h2, .int 0, .ref (ax 2), .ref (ax 3), .ref (ax 4), .ref (ax 5), .int 0, .int 0])), (ax 2, .inl (cA, 161, .inl f)), (ax 3, .inl (cB, 161, .inl g)), (ax 5, .inr (9, [.ref (ay 0), .int 0, .int 0])), (h2, .inl (cC, 160, .inl ft))] H := hP
  have hD : va_D A [(h1, .inr (5, [.ref h2, .int 0, .ref (ax 2), .ref (ax 3), .ref (ax 4), .ref (ax 5), .int 0, .int 0])), (ax 2, .inl (cA, 161, .inl f)), (ax 3, .inl (cB, 161, .inl g)), (ax 5, .inr (9, [.ref (ay 0), .int 0, .int 0])), (h2, .inl (cC, 160, .inl ft))] := hD
  refine lv_aload_n hx hb dX5_readAll_15 rfl (lv_at hl 0 rfl) ?_
  have hPc := hP.sub (ws' := [(h1, .inr (5, [.ref h2, .int 0, .ref (ax 2), .ref (ax 3), .ref (ax 4), .ref (ax 5), .int 0, .int 0])), (ax 2, .inl (cA, 161, .inl f)), (ax 3, .inl (cB, 161, .inl g))]) [0, 1, 2] rfl
  have hKc := hK.sub (tys' := [(cA, .int), (cB, .int)]) [0, 1] rfl
  have hDc := hD.sub (ws' := [(h1, .inr (5, [.ref h2, .int 0, .ref (ax 2), .ref (ax 3), .ref (ax 4), .ref (ax 5), .int 0, .int 0])), (ax 2, .inl (cA, 161, .inl f)), (ax 3, .inl (cB, 161, .inl g))]) [0, 1, 2] (by decide) rfl
  have hFc := va_free (wc := [(h1, .inr (5, [.ref h2, .int 0, .ref (ax 2), .ref (ax 3), .ref (ax 4), .ref (ax 5), .int 0, .int 0])), (ax 2, .inl (cA, 161, .inl f)), (ax 3, .inl (cB, 161, .inl g))]) hD hS hA [0, 1, 2] rfl
  refine va_callv (va_runV (As := []) (rest := []) ⟨hx, hb, hml, hown, hts⟩ (rt_X5_cut0 l dC dI H.size h1 h2 ax cA cB f g) (cwV 0 hts gX5_readAll_X5_cutTokens rfl rfl rfl (by decide +kernel) ⟨Nat.le_of_ble_eq_true rfl, Nat.le_of_ble_eq_true rfl⟩) ⟨fun a U g mk q => by obtain ⟨q0, q1, qP, qK, qD⟩ := q; exact ⟨q0, q1, qP, va_K.moved (u := U) (U := U.calling g mk a) (Vm.Alike.refl U.vm) qK, qD⟩, va_recv hKc hPc (ci := 5) (q0 := 0) rfl rfl, fun U hU hW => ⟨rfl, by rw [hU], by rw [hU]; exact hPc, va_K.moved hW.alike hKc, hDc.weaken (fun _ _ _ _ => trivial)⟩⟩ rfl rfl hl.1 rfl (lv_room (Nat.le_of_ble_eq_true rfl)) dX5_readAll_16 ⟨by decide +kernel, by decide +kernel⟩) hS (fun q _ h => hFc q h) hFc (fun u t H1 locs ht hvm hr_2 hB hz1 hk1 hS => ?_)
  obtain ⟨f2_3, g2_4⟩ := u
  obtain ⟨hP1, hD1⟩ := hB
  rw [ht] at hP1
  obtain ⟨hP, hD⟩ := va_join (wr := [(ax 5, .inr (9, [.ref (ay 0), .int 0, .int 0])), (h2, .inl (cC, 160, .inl ft))]) (w1 := [(h1, .inr (5, [.ref h2, .int 0, .ref (ax 2), .ref (ax 3), .ref (ax 4), .ref (ax 5), .int 0, .int 0])), (ax 2, .inl (cA, 161, .inl f2_3)), (ax 3, .inl (cB, 161, .inl g2_4))]) hP hD [0, 1, 2] [3, 4] rfl rfl (by decide) (by decide) hk1 hFc hP1 hD1
  generalize H1 = H at hP hS ⊢
  have hP : va_P (dC, dI) vwCl [(ax 5, .inr (9, [.ref (ay 0), .int 0, .int 0])), (h2, .inl (cC, 160, .inl ft)), (h1, .inr (5, [.ref h2, .int 0, .ref (ax 2), .ref (ax 3), .ref (ax 4), .ref (ax 5), .int 0, .int 0])), (ax 2, .inl (cA, 161, .inl f2_3)), (ax 3, .inl (cB, 161, .inl g2_4))] H := hP
  have hD : va_D A [(ax 5, .inr (9, [.ref (ay 0), .int 0, .int 0])), (h2, .inl (cC, 160, .inl ft)), (h1, .inr (5, [.ref h2, .int 0, .ref (ax 2), .ref (ax 3), .ref (ax 4), .ref (ax 5), .int 0, .int 0])), (ax 2, .inl (cA, 161, .inl f2_3)), (ax 3, .inl (cB, 161, .inl g2_4))] := hD
  try dsimp only at hr_2
  obtain ⟨hf_5, hg_6⟩ := hr_2
  refine lv_aload_n hx hb dX5_readAll_19 rfl (lv_at hl 0 rfl) ?_
  refine va_get (D := (dC, dI)) (ci := 5) (v := .ref (ax 5)) (C := RX5) (T := TX5) (N := 8) hx hb hts (by decide +kernel) hown hK hP 2 rfl rfl 5 (by decide) (hts (.fieldLink RX5 27 "RedTent$Reader" "made" "LRedTent$Text;") (by decide +kernel)) (fun _ h9 => h9) rfl dX5_readAll_20 ?_
  have hPc := hP.sub (ws' := [(ax 5, .inr (9, [.ref (ay 0), .int 0, .int 0]))]) [0] rfl
  have hKc := hK.sub (tys' := []) [] rfl
  have hDc := hD.sub (ws' := [(ax 5, .inr (9, [.ref (ay 0), .int 0, .int 0]))]) [0] (by decide) rfl
  have hFc := va_free (wc := [(ax 5, .inr (9, [.ref (ay 0), .int 0, .int 0]))]) hD hS hA [0] rfl
  refine va_callv (va_runV (As := []) (rest := []) ⟨hx, hb, hml, hown, hts⟩ (rt_X9_clear l dC dI H.size (ax 5) ay) (cwV 0 hts gX5_readAll_X9_clear rfl rfl rfl (by decide +kernel) ⟨Nat.le_of_ble_eq_true rfl, Nat.le_of_ble_eq_true rfl⟩) ⟨fun a U g mk q => by obtain ⟨q0, q1, qP, qK, qD⟩ := q; exact ⟨q0, q1, qP, va_K.moved (u := U) (U := U.calling g mk a) (Vm.Alike.refl U.vm) qK, qD⟩, va_recv hKc hPc (ci := 9) (q0 := 0) rfl rfl, fun U hU hW => ⟨rfl, by rw [hU], by rw [hU]; exact hPc, va_K.moved hW.alike hKc, hDc.weaken (fun _ _ _ _ => trivial)⟩⟩ rfl rfl hl.1 rfl (lv_room (Nat.le_of_ble_eq_true rfl)) dX5_readAll_23 ⟨by decide +kernel, by decide +kernel⟩) hS (fun q _ h => hFc q h) hFc (fun u t H1 locs ht hvm hr_7 hB hz1 hk1 hS => ?_)
  obtain ⟨⟩ := u
  obtain ⟨hP1, hD1⟩ := hB
  rw [ht] at hP1
  obtain ⟨hP, hD⟩ := va_join (wr := [(h2, .inl (cC, 160, .inl ft)), (h1, .inr (5, [.ref h2, .int 0, .ref (ax 2), .ref (ax 3), .ref (ax 4), .ref (ax 5), .int 0, .int 0])), (ax 2, .inl (cA, 161, .inl f2_3)), (ax 3, .inl (cB, 161, .inl g2_4))]) (w1 := [(ax 5, .inr (9, [.ref (ay 0), .int 0, .int 0]))]) hP hD [0] [1, 2, 3, 4] rfl rfl (by decide) (by decide) hk1 hFc hP1 hD1
  generalize H1 = H at hP hS ⊢
  have hP : va_P (dC, dI) vwCl [(h2, .inl (cC, 160, .inl ft)), (h1, .inr (5, [.ref h2, .int 0, .ref (ax 2), .ref (ax 3), .ref (ax 4), .ref (ax 5), .int 0, .int 0])), (ax 2, .inl (cA, 161, .inl f2_3)), (ax 3, .inl (cB, 161, .inl g2_4)), (ax 5, .inr (9, [.ref (ay 0), .int 0, .int 0]))] H := hP
  have hD : va_D A [(h2, .inl (cC, 160, .inl ft)), (h1, .inr (5, [.ref h2, .int 0, .ref (ax 2), .ref (ax 3), .ref (ax 4), .ref (ax 5), .int 0, .int 0])), (ax 2, .inl (cA, 161, .inl f2_3)), (ax 3, .inl (cB, 161, .inl g2_4)), (ax 5, .inr (9, [.ref (ay 0), .int 0, .int 0]))] := hD
  refine lv_aload_n hx hb dX5_readAll_26 rfl (lv_at hl 0 rfl) ?_
  refine lv_iconst (v := 0) hx hb dX5_readAll_27 (by decide) ?_
  refine va_put (D := (dC, dI)) (ci := 5) (v := .int 0) (ty := .int) (C := RX5) (T := TX5) (N := 8) hx hb hts (by decide +kernel) tyX5 tyX5_ok nmX5 hown hK hP hD hS 1 rfl rfl 6 (by decide) (hts (.fieldLink RX5 47 "RedTent$Reader" "at" "I") (by decide +kernel)) (fun _ h9 => h9) rfl (by decide +kernel) rfl rfl (Nat.le_of_ble_eq_true rfl) dX5_readAll_28 (fun H locs hP hD hS => ?_)
  have hP : va_P (dC, dI) vwCl [(h2, .inl (cC, 160, .inl ft)), (h1, .inr (5, [.ref h2, .int 0, .ref (ax 2), .ref (ax 3), .ref (ax 4), .ref (ax 5), .int 0, .int 0])), (ax 2, .inl (cA, 161, .inl f2_3)), (ax 3, .inl (cB, 161, .inl g2_4)), (ax 5, .inr (9, [.ref (ay 0), .int 0, .int 0]))] H := hP
  have hD : va_D A [(h2, .inl (cC, 160, .inl ft)), (h1, .inr (5, [.ref h2, .int 0, .ref (ax 2), .ref (ax 3), .ref (ax 4), .ref (ax 5), .int 0, .int 0])), (ax 2, .inl (cA, 161, .inl f2_3)), (ax 3, .inl (cB, 161, .inl g2_4)), (ax 5, .inr (9, [.ref (ay 0), .int 0, .int 0]))] := hD
  refine lv_aload_n hx hb dX5_readAll_31 rfl (lv_at hl 0 rfl) ?_
  refine lv_iconst (v := (-1)) hx hb dX5_readAll_32 (by decide) ?_
  refine va_put (D := (dC, dI)) (ci := 5) (v := .int (-1)) (ty := .int) (C := RX5) (T := TX5) (N := 8) hx hb hts (by decide +kernel) tyX5 tyX5_ok nmX5 hown hK hP hD hS 1 rfl rfl 7 (by decide) (hts (.fieldLink RX5 50 "RedTent$Reader" "fault" "I") (by decide +kernel)) (fun _ h9 => h9) rfl (by decide +kernel) rfl rfl (Nat.le_of_ble_eq_true rfl) dX5_readAll_33 (fun H locs hP hD hS => ?_)
  have hP : va_P (dC, dI) vwCl [(h2, .inl (cC, 160, .inl ft)), (h1, .inr (5, [.ref h2, .int 0, .ref (ax 2), .ref (ax 3), .ref (ax 4), .ref (ax 5), .int 0, .int (-1)])), (ax 2, .inl (cA, 161, .inl f2_3)), (ax 3, .inl (cB, 161, .inl g2_4)), (ax 5, .inr (9, [.ref (ay 0), .int 0, .int 0]))] H := hP
  have hD : va_D A [(h2, .inl (cC, 160, .inl ft)), (h1, .inr (5, [.ref h2, .int 0, .ref (ax 2), .ref (ax 3), .ref (ax 4), .ref (ax 5), .int 0, .int (-1)])), (ax 2, .inl (cA, 161, .inl f2_3)), (ax 3, .inl (cB, 161, .inl g2_4)), (ax 5, .inr (9, [.ref (ay 0), .int 0, .int 0]))] := hD
  refine lv_aload_n hx hb dX5_readAll_36 rfl (lv_at hl 0 rfl) ?_
  refine lv_bipush (v := 7) hx hb dX5_readAll_37 (by decide) ?_
  have hPc := hP.sub (ws' := [(h1, .inr (5, [.ref h2, .int 0, .ref (ax 2), .ref (ax 3), .ref (ax 4), .ref (ax 5), .int 0, .int (-1)])), (ax 2, .inl (cA, 161, .inl f2_3)), (ax 3, .inl (cB, 161, .inl g2_4))]) [1, 2, 3] rfl
  have hKc := hK.sub (tys' := [(cA, .int), (cB, .int)]) [0, 1] rfl
  have hDc := hD.sub (ws' := [(h1, .inr (5, [.ref h2, .int 0, .ref (ax 2), .ref (ax 3), .ref (ax 4), .ref (ax 5), .int 0, .int (-1)])), (ax 2, .inl (cA, 161, .inl f2_3)), (ax 3, .inl (cB, 161, .inl g2_4))]) [1, 2, 3] (by decide) rfl
  have hFc := va_free (wc := [(h1, .inr (5, [.ref h2, .int 0, .ref (ax 2), .ref (ax 3), .ref (ax 4), .ref (ax 5), .int 0, .int (-1)])), (ax 2, .inl (cA, 161, .inl f2_3)), (ax 3, .inl (cB, 161, .inl g2_4))]) hD hS hA [1, 2, 3] rfl
  refine va_callv (va_runV (As := [.int 7]) (rest := []) ⟨hx, hb, hml, hown, hts⟩ (rt_X5_need0 l dC dI H.size h1 h2 ax cA cB f2_3 g2_4 hf_5 hg_6) (cwV 1 hts gX5_readAll_X5_need rfl rfl rfl (by decide +kernel) ⟨Nat.le_of_ble_eq_true rfl, Nat.le_of_ble_eq_true rfl⟩) ⟨fun a U g mk q => by obtain ⟨q0, q1, qP, qK, qD⟩ := q; exact ⟨q0, q1, qP, va_K.moved (u := U) (U := U.calling g mk a) (Vm.Alike.refl U.vm) qK, qD⟩, va_recv hKc hPc (ci := 5) (q0 := 0) rfl rfl, fun U hU hW => ⟨rfl, by rw [hU], by rw [hU]; exact hPc, va_K.moved hW.alike hKc, hDc.weaken (fun _ _ _ _ => trivial)⟩⟩ rfl rfl hl.1 rfl (lv_room (Nat.le_of_ble_eq_true rfl)) dX5_readAll_39 ⟨by decide +kernel, by decide +kernel⟩) hS (fun q _ h => hFc q h) hFc (fun u t H1 locs ht hvm hr_8 hB hz1 hk1 hS => ?_)
  obtain ⟨⟩ := u
  obtain ⟨hP1, hD1⟩ := hB
  rw [ht] at hP1
  obtain ⟨hP, hD⟩ := va_join (wr := [(h2, .inl (cC, 160, .inl ft)), (ax 5, .inr (9, [.ref (ay 0), .int 0, .int 0]))]) (w1 := [(h1, .inr (5, [.ref h2, .int 0, .ref (ax 2), .ref (ax 3), .ref (ax 4), .ref (ax 5), .int 0, .int 0])), (ax 2, .inl (cA, 161, .inl f2_3)), (ax 3, .inl (cB, 161, .inl g2_4))]) hP hD [1, 2, 3] [0, 4] rfl rfl (by decide) (by decide) hk1 hFc hP1 hD1
  generalize H1 = H at hP hS ⊢
  have hP : va_P (dC, dI) vwCl [(h2, .inl (cC, 160, .inl ft)), (ax 5, .inr (9, [.ref (ay 0), .int 0, .int 0])), (h1, .inr (5, [.ref h2, .int 0, .ref (ax 2), .ref (ax 3), .ref (ax 4), .ref (ax 5), .int 0, .int 0])), (ax 2, .inl (cA, 161, .inl f2_3)), (ax 3, .inl (cB, 161, .inl g2_4))] H := hP
  have hD : va_D A [(h2, .inl (cC, 160, .inl ft)), (ax 5, .inr (9, [.ref (ay 0), .int 0, .int 0])), (h1, .inr (5, [.ref h2, .int 0, .ref (ax 2), .ref (ax 3), .ref (ax 4), .ref (ax 5), .int 0, .int 0])), (ax 2, .inl (cA, 161, .inl f2_3)), (ax 3, .inl (cB, 161, .inl g2_4))] := hD
  refine lv_aload_n hx hb dX5_readAll_42 rfl (lv_at hl 0 rfl) ?_
  refine lv_iconst (v := 0) hx hb dX5_readAll_43 (by decide) ?_
  have hPc := hP.sub (ws' := [(h1, .inr (5, [.ref h2, .int 0, .ref (ax 2), .ref (ax 3), .ref (ax 4), .ref (ax 5), .int 0, .int 0]))]) [2] rfl
  have hKc := hK.sub (tys' := []) [] rfl
  refine va_csv (va_Run.run (va_runV (As := [.int 0]) (rest := []) ⟨hx, hb, hml, hown, hts⟩ (rt_X5_readChoiceF l dC dI h1 h2 ax 0) (cwV 1 hts gX5_readAll_X5_readChoice rfl rfl rfl (by decide +kernel) ⟨Nat.le_of_ble_eq_true rfl, Nat.le_of_ble_eq_true rfl⟩) ⟨fun a U g mk q => by obtain ⟨q0, qP, qK⟩ := q; exact ⟨q0, qP, va_K.moved (u := U) (U := U.calling g mk a) (Vm.Alike.refl U.vm) qK⟩, va_recv hKc hPc (ci := 5) (q0 := 0) rfl rfl, fun U hU hW => ⟨rfl, by rw [hU]; exact hPc, va_K.moved hW.alike hKc⟩⟩ rfl rfl hl.1 rfl (lv_room (Nat.le_of_ble_eq_true rfl)) dX5_readAll_44 ⟨by decide +kernel, by decide +kernel⟩)) (fun hr_9 => ?_)
  refine lv_aload_n hx hb dX5_readAll_47 rfl (lv_at hl 0 rfl) ?_
  refine lv_bipush (v := 59) hx hb dX5_readAll_48 (by decide) ?_
  have hPc := hP.sub (ws' := [(h1, .inr (5, [.ref h2, .int 0, .ref (ax 2), .ref (ax 3), .ref (ax 4), .ref (ax 5), .int 0, .int 0]))]) [2] rfl
  have hKc := hK.sub (tys' := []) [] rfl
  refine va_csv (va_Run.run (va_runV (As := [.int 59]) (rest := []) ⟨hx, hb, hml, hown, hts⟩ (rt_X5_needF l dC dI h1 h2 ax 59) (cwV 1 hts gX5_readAll_X5_need rfl rfl rfl (by decide +kernel) ⟨Nat.le_of_ble_eq_true rfl, Nat.le_of_ble_eq_true rfl⟩) ⟨fun a U g mk q => by obtain ⟨q0, qP, qK⟩ := q; exact ⟨q0, qP, va_K.moved (u := U) (U := U.calling g mk a) (Vm.Alike.refl U.vm) qK⟩, va_recv hKc hPc (ci := 5) (q0 := 0) rfl rfl, fun U hU hW => ⟨rfl, by rw [hU]; exact hPc, va_K.moved hW.alike hKc⟩⟩ rfl rfl hl.1 rfl (lv_room (Nat.le_of_ble_eq_true rfl)) dX5_readAll_50 ⟨by decide +kernel, by decide +kernel⟩)) (fun hr_10 => ?_)
  refine lv_aload_n hx hb dX5_readAll_53 rfl (lv_at hl 0 rfl) ?_
  refine va_get (D := (dC, dI)) (ci := 5) (v := .ref (ax 5)) (C := RX5) (T := TX5) (N := 8) hx hb hts (by decide +kernel) hown hK hP 2 rfl rfl 5 (by decide) (hts (.fieldLink RX5 27 "RedTent$Reader" "made" "LRedTent$Text;") (by decide +kernel)) (fun _ h9 => h9) rfl dX5_readAll_54 ?_
  refine lv_aload_n hx hb dX5_readAll_57 rfl (lv_at hl 0 rfl) ?_
  refine va_get (D := (dC, dI)) (ci := 5) (v := .ref (ax 5)) (C := RX5) (T := TX5) (N := 8) hx hb hts (by decide +kernel) hown hK hP 2 rfl rfl 5 (by decide) (hts (.fieldLink RX5 27 "RedTent$Reader" "made" "LRedTent$Text;") (by decide +kernel)) (fun _ h9 => h9) rfl dX5_readAll_58 ?_
  refine va_get (D := (dC, dI)) (ci := 9) (v := .int 0) (C := RX9) (T := TX9) (N := 3) hx hb hts (by decide +kernel) hown hK hP 1 rfl rfl 1 (by decide) (hts (.fieldLink RX5 60 "RedTent$Text" "size" "I") (by decide +kernel)) (fun _ h9 => h9) rfl dX5_readAll_61 ?_
  refine va_put (D := (dC, dI)) (ci := 9) (v := .int 0) (ty := .int) (C := RX9) (T := TX9) (N := 3) hx hb hts (by decide +kernel) tyX9 tyX9_ok nmX9 hown hK hP hD hS 1 rfl rfl 2 (by decide) (hts (.fieldLink RX5 61 "RedTent$Text" "goFrom" "I") (by decide +kernel)) (fun _ h9 => h9) rfl (by decide +kernel) rfl rfl (Nat.le_of_ble_eq_true rfl) dX5_readAll_64 (fun H locs hP hD hS => ?_)
  have hP : va_P (dC, dI) vwCl [(h2, .inl (cC, 160, .inl ft)), (ax 5, .inr (9, [.ref (ay 0), .int 0, .int 0])), (h1, .inr (5, [.ref h2, .int 0, .ref (ax 2), .ref (ax 3), .ref (ax 4), .ref (ax 5), .int 0, .int 0])), (ax 2, .inl (cA, 161, .inl f2_3)), (ax 3, .inl (cB, 161, .inl g2_4))] H := hP
  have hD : va_D A [(h2, .inl (cC, 160, .inl ft)), (ax 5, .inr (9, [.ref (ay 0), .int 0, .int 0])), (h1, .inr (5, [.ref h2, .int 0, .ref (ax 2), .ref (ax 3), .ref (ax 4), .ref (ax 5), .int 0, .int 0])), (ax 2, .inl (cA, 161, .inl f2_3)), (ax 3, .inl (cB, 161, .inl g2_4))] := hD
  refine lv_aload_n hx hb dX5_readAll_67 rfl (lv_at hl 0 rfl) ?_
  refine lv_bipush (v := 8) hx hb dX5_readAll_68 (by decide) ?_
  have hPc := hP.sub (ws' := [(h1, .inr (5, [.ref h2, .int 0, .ref (ax 2), .ref (ax 3), .ref (ax 4), .ref (ax 5), .int 0, .int 0]))]) [2] rfl
  have hKc := hK.sub (tys' := []) [] rfl
  refine va_csv (va_Run.run (va_runV (As := [.int 8]) (rest := []) ⟨hx, hb, hml, hown, hts⟩ (rt_X5_needF l dC dI h1 h2 ax 8) (cwV 1 hts gX5_readAll_X5_need rfl rfl rfl (by decide +kernel) ⟨Nat.le_of_ble_eq_true rfl, Nat.le_of_ble_eq_true rfl⟩) ⟨fun a U g mk q => by obtain ⟨q0, qP, qK⟩ := q; exact ⟨q0, qP, va_K.moved (u := U) (U := U.calling g mk a) (Vm.Alike.refl U.vm) qK⟩, va_recv hKc hPc (ci := 5) (q0 := 0) rfl rfl, fun U hU hW => ⟨rfl, by rw [hU]; exact hPc, va_K.moved hW.alike hKc⟩⟩ rfl rfl hl.1 rfl (lv_room (Nat.le_of_ble_eq_true rfl)) dX5_readAll_70 ⟨by decide +kernel, by decide +kernel⟩)) (fun hr_11 => ?_)
  refine lv_aload_n hx hb dX5_readAll_73 rfl (lv_at hl 0 rfl) ?_
  refine lv_iconst (v := 0) hx hb dX5_readAll_74 (by decide) ?_
  have hPc := hP.sub (ws' := [(h1, .inr (5, [.ref h2, .int 0, .ref (ax 2), .ref (ax 3), .ref (ax 4), .ref (ax 5), .int 0, .int 0]))]) [2] rfl
  have hKc := hK.sub (tys' := []) [] rfl
  refine va_csv (va_Run.run (va_runV (As := [.int 0]) (rest := []) ⟨hx, hb, hml, hown, hts⟩ (rt_X5_readChoiceF l dC dI h1 h2 ax 0) (cwV 1 hts gX5_readAll_X5_readChoice rfl rfl rfl (by decide +kernel) ⟨Nat.le_of_ble_eq_true rfl, Nat.le_of_ble_eq_true rfl⟩) ⟨fun a U g mk q => by obtain ⟨q0, qP, qK⟩ := q; exact ⟨q0, qP, va_K.moved (u := U) (U := U.calling g mk a) (Vm.Alike.refl U.vm) qK⟩, va_recv hKc hPc (ci := 5) (q0 := 0) rfl rfl, fun U hU hW => ⟨rfl, by rw [hU]; exact hPc, va_K.moved hW.alike hKc⟩⟩ rfl rfl hl.1 rfl (lv_room (Nat.le_of_ble_eq_true rfl)) dX5_readAll_75 ⟨by decide +kernel, by decide +kernel⟩)) (fun hr_12 => ?_)
  refine lv_aload_n hx hb dX5_readAll_78 rfl (lv_at hl 0 rfl) ?_
  refine lv_bipush (v := 59) hx hb dX5_readAll_79 (by decide) ?_
  have hPc := hP.sub (ws' := [(h1, .inr (5, [.ref h2, .int 0, .ref (ax 2), .ref (ax 3), .ref (ax 4), .ref (ax 5), .int 0, .int 0]))]) [2] rfl
  have hKc := hK.sub (tys' := []) [] rfl
  refine va_csv (va_Run.run (va_runV (As := [.int 59]) (rest := []) ⟨hx, hb, hml, hown, hts⟩ (rt_X5_needF l dC dI h1 h2 ax 59) (cwV 1 hts gX5_readAll_X5_need rfl rfl rfl (by decide +kernel) ⟨Nat.le_of_ble_eq_true rfl, Nat.le_of_ble_eq_true rfl⟩) ⟨fun a U g mk q => by obtain ⟨q0, qP, qK⟩ := q; exact ⟨q0, qP, va_K.moved (u := U) (U := U.calling g mk a) (Vm.Alike.refl U.vm) qK⟩, va_recv hKc hPc (ci := 5) (q0 := 0) rfl rfl, fun U hU hW => ⟨rfl, by rw [hU]; exact hPc, va_K.moved hW.alike hKc⟩⟩ rfl rfl hl.1 rfl (lv_room (Nat.le_of_ble_eq_true rfl)) dX5_readAll_81 ⟨by decide +kernel, by decide +kernel⟩)) (fun hr_13 => ?_)
  refine lv_aload_n hx hb dX5_readAll_84 rfl (lv_at hl 0 rfl) ?_
  refine lv_iconst (v := 0) hx hb dX5_readAll_85 (by decide) ?_
  have hPc := hP.sub (ws' := [(h1, .inr (5, [.ref h2, .int 0, .ref (ax 2), .ref (ax 3), .ref (ax 4), .ref (ax 5), .int 0, .int 0]))]) [2] rfl
  have hKc := hK.sub (tys' := []) [] rfl
  refine va_csv (va_Run.run (va_runV (As := [.int 0]) (rest := []) ⟨hx, hb, hml, hown, hts⟩ (rt_X5_needF l dC dI h1 h2 ax 0) (cwV 1 hts gX5_readAll_X5_need rfl rfl rfl (by decide +kernel) ⟨Nat.le_of_ble_eq_true rfl, Nat.le_of_ble_eq_true rfl⟩) ⟨fun a U g mk q => by obtain ⟨q0, qP, qK⟩ := q; exact ⟨q0, qP, va_K.moved (u := U) (U := U.calling g mk a) (Vm.Alike.refl U.vm) qK⟩, va_recv hKc hPc (ci := 5) (q0 := 0) rfl rfl, fun U hU hW => ⟨rfl, by rw [hU]; exact hPc, va_K.moved hW.alike hKc⟩⟩ rfl rfl hl.1 rfl (lv_room (Nat.le_of_ble_eq_true rfl)) dX5_readAll_86 ⟨by decide +kernel, by decide +kernel⟩)) (fun hr_14 => ?_)
  refine lv_aload_n hx hb dX5_readAll_89 rfl (lv_at hl 0 rfl) ?_
  refine va_get (D := (dC, dI)) (ci := 5) (v := .int 0) (C := RX5) (T := TX5) (N := 8) hx hb hts (by decide +kernel) hown hK hP 2 rfl rfl 7 (by decide) (hts (.fieldLink RX5 50 "RedTent$Reader" "fault" "I") (by decide +kernel)) (fun _ h9 => h9) rfl dX5_readAll_90 ?_
  refine W.widen (k := 0) (n := 0) (by decide +kernel) (by decide +kernel) ?_
  exact W.iret (v := 0) hx hb hr (fun t ht hW => ⟨⟨0, (), rfl, rfl, trivial⟩, hS.F ht⟩) hS.2.2 dX5_readAll_93
set_option maxHeartbeats 1000000 in
set_option maxRecDepth 100000 in
theorem rt_X3_readTape (l : Launch) (dC : Nat → ClassId) (dI : Nat → Nat → Nat) (sz : Nat) (h0 a0 : Nat) (ao ax ay : Nat → Nat) (cA cB cC : ClassId) (f g ft : Nat → Int32) : Met l yX3_readTape wsX3_readTape ({ frames := 9, cells := 0, slots := 0, locals := 196 }) (va_Pc [.ref h0] (fun U => U.heap.size = sz ∧ va_P (dC, dI) vwCl [(h0, .inr (3, [.ref (ao 0), .int 0, .ref (ao 2), .int 1, .int 0, .ref (ao 5), .ref (ao 6), .ref (ao 7)])), (ao 5, .inr (5, [.ref a0, .int 0, .ref (ax 2), .ref (ax 3), .ref (ax 4), .ref (ax 5), .int 0, .int 0])), (ax 2, .inl (cA, 161, .inl f)), (ax 3, .inl (cB, 161, .inl g)), (ax 5, .inr (9, [.ref (ay 0), .int 0, .int 0])), (ao 0, .inl (cC, 160, .inl ft))] U.heap ∧ va_K (dC, dI) vwCl [(cA, .int), (cB, .int), (cC, .int)] U ∧ va_D (fun _ => True) [(h0, .inr (3, [.ref (ao 0), .int 0, .ref (ao 2), .int 1, .int 0, .ref (ao 5), .ref (ao 6), .ref (ao 7)])), (ao 5, .inr (5, [.ref a0, .int 0, .ref (ax 2), .ref (ax 3), .ref (ax 4), .ref (ax 5), .int 0, .int 0])), (ax 2, .inl (cA, 161, .inl f)), (ax 3, .inl (cB, 161, .inl g)), (ax 5, .inr (9, [.ref (ay 0), .int 0, .int 0])), (ao 0, .inl (cC, 160, .inl ft))])) (va_Qi (fun (r : Int32) (u : Unit) => match u with | () => r = (-100)) (fun (u : Unit) (t : State) => match u with | () => True) (va_A [(h0, .inr (3, [.ref (ao 0), .int 0, .ref (ao 2), .int 1, .int 0, .ref (ao 5), .ref (ao 6), .ref (ao 7)])), (ao 5, .inr (5, [.ref a0, .int 0, .ref (ax 2), .ref (ax 3), .ref (ax 4), .ref (ax 5), .int 0, .int 0])), (ax 2, .inl (cA, 161, .inl f)), (ax 3, .inl (cB, 161, .inl g)), (ax 5, .inr (9, [.ref (ay 0), .int 0, .int 0])), (ao 0, .inl (cC, 160, .inl ft))] sz)) 0 0 (va_A [(h0, .inr (3, [.ref (ao 0), .int 0, .ref (ao 2), .int 1, .int 0, .ref (ao 5), .ref (ao 6), .ref (ao 7)])), (ao 5, .inr (5, [.ref a0, .int 0, .ref (ax 2), .ref (ax 3), .ref (ax 4), .ref (ax 5), .int 0, .int 0])), (ax 2, .inl (cA, 161, .inl f)), (ax 3, .inl (cB, 161, .inl g)), (ax 5, .inr (9, [.ref (ay 0), .int 0, .int 0])), (ao 0, .inl (cC, 160, .inl ft))] sz) := by
  refine Met.ofW (cc := cX3_readTape) (maxL := 2) (ret := (some .int)) (by decide) rfl ?_
  intro p e s m args below meth c s₁ B hml hv
  obtain ⟨rfl, hsz, hP, hK, hD0⟩ := hv
  have hx := B.exec
  have hb := B.bytes
  have hr := B.returns
  have hts := atoms_spec (ws := wsX3_readTape) B.pre
  have hown : s.vm.findClass RX3 = some m.cls := findClass_of_methodNamed B.named
  have hlocks := B.notSynchronized
  subst hsz
  have hD := hD0.self (sz := s.heap.size)
  generalize hAe : va_A [(h0, .inr (3, [.ref (ao 0), .int 0, .ref (ao 2), .int 1, .int 0, .ref (ao 5), .ref (ao 6), .ref (ao 7)])), (ao 5, .inr (5, [.ref a0, .int 0, .ref (ax 2), .ref (ax 3), .ref (ax 4), .ref (ax 5), .int 0, .int 0])), (ax 2, .inl (cA, 161, .inl f)), (ax 3, .inl (cB, 161, .inl g)), (ax 5, .inr (9, [.ref (ay 0), .int 0, .int 0])), (ao 0, .inl (cC, 160, .inl ft))] s.heap.size = A at hD  ⊢
  have hA : ∀ q : Nat, s.heap.size ≤ q → A q := fun q h => by rw [← hAe]; exact Or.inr h
  have hS : va_S A s.heap s.heap [] := va_S.rf
  have hl := lv_entry ([.ref h0]) (n := 2) (Nat.le_of_ble_eq_true rfl)
  rw [lg_entry_eq]
  generalize (lg_sl ([.ref h0]) ++ List.replicate (2 - (lg_sl ([.ref h0])).length) Slot.unset).toArray = ls at hl ⊢
  have hl : lv_has ls 2 [(0, .ref h0)] := hl
  refine lv_aload_n hx hb dX3_readTape_0 rfl (lv_at hl 0 rfl) ?_
  refine va_get (D := (dC, dI)) (ci := 3) (v := .int 1) (C := RX3) (T := TX3) (N := 8) hx hb hts (by decide +kernel) hown hK hP 0 rfl rfl 3 (by decide) (hts (.fieldLink RX3 38 "RedTent$Orders" "textCount" "I") (by decide +kernel)) (fun _ h9 => h9) rfl dX3_readTape_1 ?_
  refine lv_bipush (v := 6) hx hb dX3_readTape_4 (by decide) ?_
  refine lv_icmp_lt (tgt := 12) hx hb dX3_readTape_6 (by decide) (fun _ => ?_) (fun c9 => absurd (by decide) c9)
  refine lv_aload_n hx hb dX3_readTape_12 rfl (lv_at hl 0 rfl) ?_
  refine va_get (D := (dC, dI)) (ci := 3) (v := .ref (ao 5)) (C := RX3) (T := TX3) (N := 8) hx hb hts (by decide +kernel) hown hK hP 0 rfl rfl 5 (by decide) (hts (.fieldLink RX3 24 "RedTent$Orders" "reader" "LRedTent$Reader;") (by decide +kernel)) (fun _ h9 => h9) rfl dX3_readTape_13 ?_
  refine lv_aload_n hx hb dX3_readTape_16 rfl (lv_at hl 0 rfl) ?_
  refine va_get (D := (dC, dI)) (ci := 3) (v := .ref (ao 0)) (C := RX3) (T := TX3) (N := 8) hx hb hts (by decide +kernel) hown hK hP 0 rfl rfl 0 (by decide) (hts (.fieldLink RX3 9 "RedTent$Orders" "tape" "[I") (by decide +kernel)) (fun _ h9 => h9) rfl dX3_readTape_17 ?_
  refine lv_aload_n hx hb dX3_readTape_20 rfl (lv_at hl 0 rfl) ?_
  refine va_get (D := (dC, dI)) (ci := 3) (v := .int 0) (C := RX3) (T := TX3) (N := 8) hx hb hts (by decide +kernel) hown hK hP 0 rfl rfl 1 (by decide) (hts (.fieldLink RX3 42 "RedTent$Orders" "tapeSize" "I") (by decide +kernel)) (fun _ h9 => h9) rfl dX3_readTape_21 ?_
  have hPc := hP.sub (ws' := [(ao 5, .inr (5, [.ref a0, .int 0, .ref (ax 2), .ref (ax 3), .ref (ax 4), .ref (ax 5), .int 0, .int 0])), (ax 2, .inl (cA, 161, .inl f)), (ax 3, .inl (cB, 161, .inl g)), (ax 5, .inr (9, [.ref (ay 0), .int 0, .int 0])), (ao 0, .inl (cC, 160, .inl ft))]) [1, 2, 3, 4, 5] rfl
  have hKc := hK.sub (tys' := [(cA, .int), (cB, .int), (cC, .int)]) [0, 1, 2] rfl
  have hDc := hD.sub (ws' := [(ao 5, .inr (5, [.ref a0, .int 0, .ref (ax 2), .ref (ax 3), .ref (ax 4), .ref (ax 5), .int 0, .int 0])), (ax 2, .inl (cA, 161, .inl f)), (ax 3, .inl (cB, 161, .inl g)), (ax 5, .inr (9, [.ref (ay 0), .int 0, .int 0])), (ao 0, .inl (cC, 160, .inl ft))]) [1, 2, 3, 4, 5] (by decide) rfl
  have hFc := va_free (wc := [(ao 5, .inr (5, [.ref a0, .int 0, .ref (ax 2), .ref (ax 3), .ref (ax 4), .ref (ax 5), .int 0, .int 0])), (ax 2, .inl (cA, 161, .inl f)), (ax 3, .inl (cB, 161, .inl g)), (ax 5, .inr (9, [.ref (ay 0), .int 0, .int 0])), (ao 0, .inl (cC, 160, .inl ft))]) hD hS hA [1, 2, 3, 4, 5] rfl
  refine va_calli (va_runV (As := [.ref (ao 0), .int 0]) (rest := []) ⟨hx, hb, hml, hown, hts⟩ (rt_X5_readAll l dC dI s.heap.size (ao 5) (ao 0) a0 ax ay cA cB cC f g ft) (cwV 2 hts gX3_readTape_X5_readAll rfl rfl rfl (by decide +kernel) ⟨Nat.le_of_ble_eq_true rfl, Nat.le_of_ble_eq_true rfl⟩) ⟨fun a U g mk q => by obtain ⟨q0, q1, qP, qK, qD⟩ := q; exact ⟨q0, q1, qP, va_K.moved (u := U) (U := U.calling g mk a) (Vm.Alike.refl U.vm) qK, qD⟩, va_recv hKc hPc (ci := 5) (q0 := 0) rfl rfl, fun U hU hW => ⟨rfl, by rw [hU], by rw [hU]; exact hPc, va_K.moved hW.alike hKc, hDc.weaken (fun _ _ _ _ => trivial)⟩⟩ rfl rfl hl.1 rfl (lv_room (Nat.le_of_ble_eq_true rfl)) dX3_readTape_24 ⟨by decide +kernel, by decide +kernel⟩) hS (fun q _ h => hFc q h) hFc (fun r_1 u t H1 locs ht hvm hr_1 hB hz1 hk1 hS => ?_)
  obtain ⟨⟩ := u
  have hP1 : va_P (dC, dI) vwCl [] H1 := fun k q h => by simp at h
  have hD1 : va_D (va_A [(ao 5, .inr (5, [.ref a0, .int 0, .ref (ax 2), .ref (ax 3), .ref (ax 4), .ref (ax 5), .int 0, .int 0])), (ax 2, .inl (cA, 161, .inl f)), (ax 3, .inl (cB, 161, .inl g)), (ax 5, .inr (9, [.ref (ay 0), .int 0, .int 0])), (ao 0, .inl (cC, 160, .inl ft))] s.heap.size) [] := ⟨fun i j p q h => by simp at h, fun k q h => by simp at h⟩
  obtain ⟨hP, hD⟩ := va_join (wr := [(h0, .inr (3, [.ref (ao 0), .int 0, .ref (ao 2), .int 1, .int 0, .ref (ao 5), .ref (ao 6), .ref (ao 7)]))]) (w1 := []) hP hD [1, 2, 3, 4, 5] [0] rfl rfl (by decide) (by decide) hk1 hFc hP1 hD1
  generalize H1 = H at hP hS ⊢
  have hP : va_P (dC, dI) vwCl [(h0, .inr (3, [.ref (ao 0), .int 0, .ref (ao 2), .int 1, .int 0, .ref (ao 5), .ref (ao 6), .ref (ao 7)]))] H := hP
  have hD : va_D A [(h0, .inr (3, [.ref (ao 0), .int 0, .ref (ao 2), .int 1, .int 0, .ref (ao 5), .ref (ao 6), .ref (ao 7)]))] := hD
  try dsimp only at hr_1
  obtain rfl := hr_1
  refine lv_istore_n (lv' := [(1, .int 0), (0, .ref h0)]) hx hb dX3_readTape_27 rfl hl (by decide) rfl (fun ls hl => ?_)
  refine lv_aload_n hx hb dX3_readTape_28 rfl (lv_at hl 1 rfl) ?_
  refine lv_iconst (v := 0) hx hb dX3_readTape_29 (by decide) ?_
  refine va_put (D := (dC, dI)) (ci := 3) (v := .int 0) (ty := .int) (C := RX3) (T := TX3) (N := 8) hx hb hts (by decide +kernel) tyX3 tyX3_ok nmX3 hown hK hP hD hS 0 rfl rfl 1 (by decide) (hts (.fieldLink RX3 42 "RedTent$Orders" "tapeSize" "I") (by decide +kernel)) (fun _ h9 => h9) rfl (by decide +kernel) rfl rfl (Nat.le_of_ble_eq_true rfl) dX3_readTape_30 (fun H locs hP hD hS => ?_)
  have hP : va_P (dC, dI) vwCl [(h0, .inr (3, [.ref (ao 0), .int 0, .ref (ao 2), .int 1, .int 0, .ref (ao 5), .ref (ao 6), .ref (ao 7)]))] H := hP
  have hD : va_D A [(h0, .inr (3, [.ref (ao 0), .int 0, .ref (ao 2), .int 1, .int 0, .ref (ao 5), .ref (ao 6), .ref (ao 7)]))] := hD
  refine lv_iload_n hx hb dX3_readTape_33 rfl (lv_at hl 0 rfl) ?_
  refine lv_if_lt (tgt := 42) hx hb dX3_readTape_34 (by decide) (fun c9 => absurd c9 (by decide)) (fun _ => ?_)
  refine lv_bipush (v := (-100)) hx hb dX3_readTape_37 (by decide) ?_
  refine lv_iload_n hx hb dX3_readTape_39 rfl (lv_at hl 0 rfl) ?_
  refine lv_isub hx hb dX3_readTape_40 ?_
  refine lv_topi (fun y_2 ey_2 => ?_)
  obtain rfl : y_2 = (-100) := ey_2.trans (by decide)
  refine W.widen (k := 0) (n := 0) (by decide +kernel) (by decide +kernel) ?_
  exact W.iret (v := (-100)) hx hb hr (fun t ht hW => ⟨⟨(-100), (), rfl, rfl, trivial⟩, hS.F ht⟩) hS.2.2 dX3_readTape_41
set_option maxHeartbeats 1000000 in
set_option maxRecDepth 100000 in
theorem rt_X11_text (l : Launch) (dC : Nat → ClassId) (dI : Nat → Nat → Nat) (sz : Nat) (h0 : Nat) (ad : Nat → Nat) (a0 : Nat) (ao ax ay : Nat → Nat) (cA cB cC : ClassId) (f g ft : Nat → Int32) : Met l yX11_text wsX11_text ({ frames := 10, cells := 0, slots := 0, locals := 217 }) (va_Pc [.ref h0] (fun U => U.heap.size = sz ∧ va_P (dC, dI) vwCl [(h0, .inr (11, [.ref (ad 0), .ref (ad 1), .ref (ad 2), .ref (ad 3), .ref (ad 4), .ref (ad 5), .ref (ad 6), .ref (ad 7), .ref (ad 8), .int 0, .int 0, .int 0, .int 0])), (ad 5, .inr (3, [.ref (ao 0), .int 0, .ref (ao 2), .int 1, .int 0, .ref (ao 5), .ref (ao 6), .ref (ao 7)])), (ao 5, .inr (5, [.ref a0, .int 0, .ref (ax 2), .ref (ax 3), .ref (ax 4), .ref (ax 5), .int 0, .int 0])), (ax 2, .inl (cA, 161, .inl f)), (ax 3, .inl (cB, 161, .inl g)), (ax 5, .inr (9, [.ref (ay 0), .int 0, .int 0])), (ao 0, .inl (cC, 160, .inl ft))] U.heap ∧ va_K (dC, dI) vwCl [(cA, .int), (cB, .int), (cC, .int)] U ∧ va_D (fun _ => True) [(h0, .inr (11, [.ref (ad 0), .ref (ad 1), .ref (ad 2), .ref (ad 3), .ref (ad 4), .ref (ad 5), .ref (ad 6), .ref (ad 7), .ref (ad 8), .int 0, .int 0, .int 0, .int 0])), (ad 5, .inr (3, [.ref (ao 0), .int 0, .ref (ao 2), .int 1, .int 0, .ref (ao 5), .ref (ao 6), .ref (ao 7)])), (ao 5, .inr (5, [.ref a0, .int 0, .ref (ax 2), .ref (ax 3), .ref (ax 4), .ref (ax 5), .int 0, .int 0])), (ax 2, .inl (cA, 161, .inl f)), (ax 3, .inl (cB, 161, .inl g)), (ax 5, .inr (9, [.ref (ay 0), .int 0, .int 0])), (ao 0, .inl (cC, 160, .inl ft))])) (va_Qi (fun (r : Int32) (u : Unit) => match u with | () => r = (-100)) (fun (u : Unit) (t : State) => match u with | () => True) (va_A [(h0, .inr (11, [.ref (ad 0), .ref (ad 1), .ref (ad 2), .ref (ad 3), .ref (ad 4), .ref (ad 5), .ref (ad 6), .ref (ad 7), .ref (ad 8), .int 0, .int 0, .int 0, .int 0])), (ad 5, .inr (3, [.ref (ao 0), .int 0, .ref (ao 2), .int 1, .int 0, .ref (ao 5), .ref (ao 6), .ref (ao 7)])), (ao 5, .inr (5, [.ref a0, .int 0, .ref (ax 2), .ref (ax 3), .ref (ax 4), .ref (ax 5), .int 0, .int 0])), (ax 2, .inl (cA, 161, .inl f)), (ax 3, .inl (cB, 161, .inl g)), (ax 5, .inr (9, [.ref (ay 0), .int 0, .int 0])), (ao 0, .inl (cC, 160, .inl ft))] sz)) 0 0 (va_A [(h0, .inr (11, [.ref (ad 0), .ref (ad 1), .ref (ad 2), .ref (ad 3), .ref (ad 4), .ref (ad 5), .ref (ad 6), .ref (ad 7), .ref (ad 8), .int 0, .int 0, .int 0, .int 0])), (ad 5, .inr (3, [.ref (ao 0), .int 0, .ref (ao 2), .int 1, .int 0, .ref (ao 5), .ref (ao 6), .ref (ao 7)])), (ao 5, .inr (5, [.ref a0, .int 0, .ref (ax 2), .ref (ax 3), .ref (ax 4), .ref (ax 5), .int 0, .int 0])), (ax 2, .inl (cA, 161, .inl f)), (ax 3, .inl (cB, 161, .inl g)), (ax 5, .inr (9, [.ref (ay 0), .int 0, .int 0])), (ao 0, .inl (cC, 160, .inl ft))] sz) := by
  refine Met.ofW (cc := cX11_text) (maxL := 1) (ret := (some .int)) (by decide) rfl ?_
  intro p e s m args below meth c s₁ B hml hv
  obtain ⟨rfl, hsz, hP, hK, hD0⟩ := hv
  have hx := B.exec
  have hb := B.bytes
  have hr := B.returns
  have hts := atoms_spec (ws := wsX11_text) B.pre
  have hown : s.vm.findClass RX11 = some m.cls := findClass_of_methodNamed B.named
  have hlocks := B.notSynchronized
  subst hsz
  have hD := hD0.self (sz := s.heap.size)
  generalize hAe : va_A [(h0, .inr (11, [.ref (ad 0), .ref (ad 1), .ref (ad 2), .ref (ad 3), .ref (ad 4), .ref (ad 5), .ref (ad 6), .ref (ad 7), .ref (ad 8), .int 0, .int 0, .int 0, .int 0])), (ad 5, .inr (3, [.ref (ao 0), .int 0, .ref (ao 2), .int 1, .int 0, .ref (ao 5), .ref (ao 6), .ref (ao 7)])), (ao 5, .inr (5, [.ref a0, .int 0, .ref (ax 2), .ref (ax 3), .ref (ax 4), .ref (ax 5), .int 0, .int 0])), (ax 2, .inl (cA, 161, .inl f)), (ax 3, .inl (cB, 161, .inl g)), (ax 5, .inr (9, [.ref (ay 0), .int 0, .int 0])), (ao 0, .inl (cC, 160, .inl ft))] s.heap.size = A at hD  ⊢
  have hA : ∀ q : Nat, s.heap.size ≤ q → A q := fun q h => by rw [← hAe]; exact Or.inr h
  have hS : va_S A s.heap s.heap [] := va_S.rf
  have hl := lv_entry ([.ref h0]) (n := 1) (Nat.le_of_ble_eq_true rfl)
  rw [lg_entry_eq]
  generalize (lg_sl ([.ref h0]) ++ List.replicate (1 - (lg_sl ([.ref h0])).length) Slot.unset).toArray = ls at hl ⊢
  have hl : lv_has ls 1 [(0, .ref h0)] := hl
  refine lv_aload_n hx hb dX11_text_0 rfl (lv_at hl 0 rfl) ?_
  refine va_get (D := (dC, dI)) (ci := 11) (v := .ref (ad 5)) (C := RX11) (T := TX11) (N := 13) hx hb hts (by decide +kernel) hown hK hP 0 rfl rfl 5 (by decide) (hts (.fieldLink RX11 46 "RedTent" "orders" "LRedTent$Orders;") (by decide +kernel)) (fun _ h9 => h9) rfl dX11_text_1 ?_
  have hPc := hP.sub (ws' := [(ad 5, .inr (3, [.ref (ao 0), .int 0, .ref (ao 2), .int 1, .int 0, .ref (ao 5), .ref (ao 6), .ref (ao 7)])), (ao 5, .inr (5, [.ref a0, .int 0, .ref (ax 2), .ref (ax 3), .ref (ax 4), .ref (ax 5), .int 0, .int 0])), (ax 2, .inl (cA, 161, .inl f)), (ax 3, .inl (cB, 161, .inl g)), (ax 5, .inr (9, [.ref (ay 0), .int 0, .int 0])), (ao 0, .inl (cC, 160, .inl ft))]) [1, 2, 3, 4, 5, 6] rfl
  have hKc := hK.sub (tys' := [(cA, .int), (cB, .int), (cC, .int)]) [0, 1, 2] rfl
  have hDc := hD.sub (ws' := [(ad 5, .inr (3, [.ref (ao 0), .int 0, .ref (ao 2), .int 1, .int 0, .ref (ao 5), .ref (ao 6), .ref (ao 7)])), (ao 5, .inr (5, [.ref a0, .int 0, .ref (ax 2), .ref (ax 3), .ref (ax 4), .ref (ax 5), .int 0, .int 0])), (ax 2, .inl (cA, 161, .inl f)), (ax 3, .inl (cB, 161, .inl g)), (ax 5, .inr (9, [.ref (ay 0), .int 0, .int 0])), (ao 0, .inl (cC, 160, .inl ft))]) [1, 2, 3, 4, 5, 6] (by decide) rfl
  have hFc := va_free (wc := [(ad 5, .inr (3, [.ref (ao 0), .int 0, .ref (ao 2), .int 1, .int 0, .ref (ao 5), .ref (ao 6), .ref (ao 7)])), (ao 5, .inr (5, [.ref a0, .int 0, .ref (ax 2), .ref (ax 3), .ref (ax 4), .ref (ax 5), .int 0, .int 0])), (ax 2, .inl (cA, 161, .inl f)), (ax 3, .inl (cB, 161, .inl g)), (ax 5, .inr (9, [.ref (ay 0), .int 0, .int 0])), (ao 0, .inl (cC, 160, .inl ft))]) hD hS hA [1, 2, 3, 4, 5, 6] rfl
  refine va_calli (va_runV (As := []) (rest := []) ⟨hx, hb, hml, hown, hts⟩ (rt_X3_readTape l dC dI s.heap.size (ad 5) a0 ao ax ay cA cB cC f g ft) (cwV 0 hts gX11_text_X3_readTape rfl rfl rfl (by decide +kernel) ⟨Nat.le_of_ble_eq_true rfl, Nat.le_of_ble_eq_true rfl⟩) ⟨fun a U g mk q => by obtain ⟨q0, q1, qP, qK, qD⟩ := q; exact ⟨q0, q1, qP, va_K.moved (u := U) (U := U.calling g mk a) (Vm.Alike.refl U.vm) qK, qD⟩, va_recv hKc hPc (ci := 3) (q0 := 0) rfl rfl, fun U hU hW => ⟨rfl, by rw [hU], by rw [hU]; exact hPc, va_K.moved hW.alike hKc, hDc.weaken (fun _ _ _ _ => trivial)⟩⟩ rfl rfl hl.1 rfl (lv_room (Nat.le_of_ble_eq_true rfl)) dX11_text_4 ⟨by decide +kernel, by decide +kernel⟩) hS (fun q _ h => hFc q h) hFc (fun r_1 u t H1 locs ht hvm hr_1 hB hz1 hk1 hS => ?_)
  obtain ⟨⟩ := u
  have hP1 : va_P (dC, dI) vwCl [] H1 := fun k q h => by simp at h
  have hD1 : va_D (va_A [(ad 5, .inr (3, [.ref (ao 0), .int 0, .ref (ao 2), .int 1, .int 0, .ref (ao 5), .ref (ao 6), .ref (ao 7)])), (ao 5, .inr (5, [.ref a0, .int 0, .ref (ax 2), .ref (ax 3), .ref (ax 4), .ref (ax 5), .int 0, .int 0])), (ax 2, .inl (cA, 161, .inl f)), (ax 3, .inl (cB, 161, .inl g)), (ax 5, .inr (9, [.ref (ay 0), .int 0, .int 0])), (ao 0, .inl (cC, 160, .inl ft))] s.heap.size) [] := ⟨fun i j p q h => by simp at h, fun k q h => by simp at h⟩
  obtain ⟨hP, hD⟩ := va_join (wr := [(h0, .inr (11, [.ref (ad 0), .ref (ad 1), .ref (ad 2), .ref (ad 3), .ref (ad 4), .ref (ad 5), .ref (ad 6), .ref (ad 7), .ref (ad 8), .int 0, .int 0, .int 0, .int 0]))]) (w1 := []) hP hD [1, 2, 3, 4, 5, 6] [0] rfl rfl (by decide) (by decide) hk1 hFc hP1 hD1
  generalize H1 = H at hP hS ⊢
  have hP : va_P (dC, dI) vwCl [(h0, .inr (11, [.ref (ad 0), .ref (ad 1), .ref (ad 2), .ref (ad 3), .ref (ad 4), .ref (ad 5), .ref (ad 6), .ref (ad 7), .ref (ad 8), .int 0, .int 0, .int 0, .int 0]))] H := hP
  have hD : va_D A [(h0, .inr (11, [.ref (ad 0), .ref (ad 1), .ref (ad 2), .ref (ad 3), .ref (ad 4), .ref (ad 5), .ref (ad 6), .ref (ad 7), .ref (ad 8), .int 0, .int 0, .int 0, .int 0]))] := hD
  try dsimp only at hr_1
  obtain rfl := hr_1
  refine W.widen (k := 0) (n := 0) (by decide +kernel) (by decide +kernel) ?_
  exact W.iret (v := (-100)) hx hb hr (fun t ht hW => ⟨⟨(-100), (), rfl, rfl, trivial⟩, hS.F ht⟩) hS.2.2 dX11_text_7

theorem dX5_readNot_35 : decode cX5_readNot 35 = .ok (.iload_n 1, 1) := by decide +kernel
theorem dX5_readNot_36 : decode cX5_readNot 36 = .ok (.iconst 1, 1) := by decide +kernel
theorem dX5_readNot_37 : decode cX5_readNot 37 = .ok (.iadd, 1) := by decide +kernel
theorem dX5_readNot_38 : decode cX5_readNot 38 = .ok (.invokevirtual 80, 3) := by decide +kernel
theorem dX5_readNot_41 : decode cX5_readNot 41 = .ok (.aload_n 0, 1) := by decide +kernel
theorem dX5_readNot_42 : decode cX5_readNot 42 = .ok (.getfield 27, 3) := by decide +kernel
theorem dX5_readNot_45 : decode cX5_readNot 45 = .ok (.bipush (-13), 2) := by decide +kernel
theorem dX5_readNot_47 : decode cX5_readNot 47 = .ok (.invokevirtual 77, 3) := by decide +kernel
theorem dX5_readNot_50 : decode cX5_readNot 50 = .ok (.goto 8, 3) := by decide +kernel
theorem dX5_readNot_53 : decode cX5_readNot 53 = .ok (.aload_n 0, 1) := by decide +kernel
theorem dX5_readNot_54 : decode cX5_readNot 54 = .ok (.iload_n 1, 1) := by decide +kernel
theorem dX5_readNot_55 : decode cX5_readNot 55 = .ok (.invokevirtual 83, 3) := by decide +kernel
theorem dX5_readNot_58 : decode cX5_readNot 58 = .ok (.return_, 1) := by decide +kernel
set_option maxRecDepth 20000 in
theorem ggX5_readCompared_X5_readSum : GoodIn wsX5_readCompared wsX5_readSum := goodIn_r _ [53, 1, 54, 55, 56, 5, 6, 7, 8, 9, 10, 11, 12, 13, 14, 15, 16, 17, 18, 19, 20, 21, 22, 23, 24, 25, 26, 27, 28, 29, 30, 31, 0, 2, 3, 4, 32, 33, 34, 35, 36, 37, 38, 39, 40, 41, 42, 43, 44, 45, 46, 47, 48, 49, 50, 51, 52, 57, 58, 59, 60, 61, 62, 63, 64, 65, 66, 67, 68] (by decide +kernel) (by decide +kernel)
set_option maxRecDepth 20000 in
theorem gX5_readCompared_X5_readSum : GoodIn wsX5_readCompared (wsV RX5 86 RX5 yX5_readSum wsX5_readSum) := goodIn_app (goodIn_of _ (by decide +kernel)) ggX5_readCompared_X5_readSum
set_option maxRecDepth 20000 in
theorem ggX5_readCompared_X5_sees : GoodIn wsX5_readCompared wsX5_sees := goodIn_r _ [9, 10, 11, 12, 58, 59, 60, 61, 62, 63, 64, 65] (by decide +kernel) (by decide +kernel)
set_option maxRecDepth 20000 in
theorem gX5_readCompared_X5_sees : GoodIn wsX5_readCompared (wsV RX5 64 RX5 yX5_sees wsX5_sees) := goodIn_app (goodIn_of _ (by decide +kernel)) ggX5_readCompared_X5_sees
set_option maxRecDepth 20000 in
theorem ggX5_readCompared_X5_advance : GoodIn wsX5_readCompared wsX5_advance := goodIn_r _ [16, 12, 11, 58, 59, 60, 61, 62, 63, 64, 65] (by decide +kernel) (by decide +kernel)
set_option maxRecDepth 20000 in
theorem gX5_readCompared_X5_advance : GoodIn wsX5_readCompared (wsV RX5 68 RX5 yX5_advance wsX5_advance) := goodIn_app (goodIn_of _ (by decide +kernel)) ggX5_readCompared_X5_advance
set_option maxRecDepth 20000 in
theorem ggX5_readCompared_X9_addStep : GoodIn wsX5_readCompared wsX9_addStep := goodIn_r _ [21, 22, 23, 66, 67, 68] (by decide +kernel) (by decide +kernel)
set_option maxRecDepth 20000 in
theorem gX5_readCompared_X9_addStep : GoodIn wsX5_readCompared (wsV RX5 77 RX9 yX9_addStep wsX9_addStep) := goodIn_app (goodIn_of _ (by decide +kernel)) ggX5_readCompared_X9_addStep
theorem dX5_readCompared_0 : decode cX5_readCompared 0 = .ok (.aload_n 0, 1) := by decide +kernel
theorem dX5_readCompared_1 : decode cX5_readCompared 1 = .ok (.iload_n 1, 1) := by decide +kernel
theorem dX5_readCompared_2 : decode cX5_readCompared 2 = .ok (.invokevirtual 86, 3) := by decide +kernel
theorem dX5_readCompared_5 : decode cX5_readCompared 5 = .ok (.aload_n 0, 1) := by decide +kernel
theorem dX5_readCompared_6 : decode cX5_readCompared 6 = .ok (.bipush 60, 2) := by decide +kernel
theorem dX5_readCompared_8 : decode cX5_readCompared 8 = .ok (.invokevirtual 64, 3) := by decide +kernel
theorem dX5_readCompared_11 : decode cX5_readCompared 11 = .ok (.ifCond .ne 12, 3) := by decide +kernel
theorem dX5_readCompared_14 : decode cX5_readCompared 14 = .ok (.aload_n 0, 1) := by decide +kernel
theorem dX5_readCompared_15 : decode cX5_readCompared 15 = .ok (.bipush 61, 2) := by decide +kernel
theorem dX5_readCompared_17 : decode cX5_readCompared 17 = .ok (.invokevirtual 64, 3) := by decide +kernel
theorem dX5_readCompared_20 : decode cX5_readCompared 20 = .ok (.ifCond .eq 37, 3) := by decide +kernel
theorem dX5_readCompared_23 : decode cX5_readCompared 23 = .ok (.aload_n 0, 1) := by decide +kernel
theorem dX5_readCompared_24 : decode cX5_readCompared 24 = .ok (.bipush 60, 2) := by decide +kernel
theorem dX5_readCompared_26 : decode cX5_readCompared 26 = .ok (.invokevirtual 64, 3) := by decide +kernel
theorem dX5_readCompared_29 : decode cX5_readCompared 29 = .ok (.ifCond .eq 8, 3) := by decide +kernel
theorem dX5_readCompared_32 : decode cX5_readCompared 32 = .ok (.bipush (-14), 2) := by decide +kernel
theorem dX5_readCompared_34 : decode cX5_readCompared 34 = .ok (.goto 5, 3) := by decide +kernel
theorem dX5_readCompared_37 : decode cX5_readCompared 37 = .ok (.bipush (-15), 2) := by decide +kernel
theorem dX5_readCompared_39 : decode cX5_readCompared 39 = .ok (.istore_n 2, 1) := by decide +kernel
theorem dX5_readCompared_40 : decode cX5_readCompared 40 = .ok (.aload_n 0, 1) := by decide +kernel
theorem dX5_readCompared_41 : decode cX5_readCompared 41 = .ok (.invokevirtual 68, 3) := by decide +kernel
theorem dX5_readCompared_44 : decode cX5_readCompared 44 = .ok (.aload_n 0, 1) := by decide +kernel
theorem dX5_readCompared_45 : decode cX5_readCompared 45 = .ok (.iload_n 1, 1) := by decide +kernel
theorem dX5_readCompared_46 : decode cX5_readCompared 46 = .ok (.invokevirtual 86, 3) := by decide +kernel
theorem dX5_readCompared_49 : decode cX5_readCompared 49 = .ok (.aload_n 0, 1) := by decide +kernel
theorem dX5_readCompared_50 : decode cX5_readCompared 50 = .ok (.getfield 27, 3) := by decide +kernel
theorem dX5_readCompared_53 : decode cX5_readCompared 53 = .ok (.iload_n 2, 1) := by decide +kernel
theorem dX5_readCompared_54 : decode cX5_readCompared 54 = .ok (.invokevirtual 77, 3) := by decide +kernel
theorem dX5_readCompared_57 : decode cX5_readCompared 57 = .ok (.return_, 1) := by decide +kernel
set_option maxRecDepth 20000 in
theorem ggX5_readSum_X5_readTerm : GoodIn wsX5_readSum wsX5_readTerm := goodIn_r _ [57, 1, 47, 48, 49, 5, 6, 7, 8, 9, 10, 11, 12, 13, 14, 15, 16, 17, 18, 19, 20, 21, 22, 23, 24, 25, 26, 27, 28, 29, 30, 31, 32, 33, 34, 35, 36, 37, 38, 39, 40, 41, 42, 43, 44, 45, 46, 50, 51, 52, 53, 54, 55, 56, 0, 2, 3, 4, 58, 59, 60, 61, 62, 63, 64, 65, 66, 67, 68] (by decide +kernel) (by decide +kernel)
set_option maxRecDepth 20000 in
theorem gX5_readSum_X5_readTerm : GoodIn wsX5_readSum (wsV RX5 89 RX5 yX5_readTerm wsX5_readTerm) := goodIn_app (goodIn_of _ (by decide +kernel)) ggX5_readSum_X5_readTerm
set_option maxRecDepth 20000 in
theorem ggX5_readSum_X5_sees : GoodIn wsX5_readSum wsX5_sees := goodIn_r _ [9, 10, 11, 12, 58, 59, 60, 61, 62, 63, 64, 65] (by decide +kernel) (by decide +kernel)
set_option maxRecDepth 20000 in
theorem gX5_readSum_X5_sees : GoodIn wsX5_readSum (wsV RX5 64 RX5 yX5_sees wsX5_sees) := goodIn_app (goodIn_of _ (by decide +kernel)) ggX5_readSum_X5_sees
set_option maxRecDepth 20000 in
theorem ggX5_readSum_X5_advance : GoodIn wsX5_readSum wsX5_advance := goodIn_r _ [16, 12, 11, 58, 59, 60, 61, 62, 63, 64, 65] (by decide +kernel) (by decide +kernel)
set_option maxRecDepth 20000 in
theorem gX5_readSum_X5_advance : GoodIn wsX5_readSum (wsV RX5 68 RX5 yX5_advance wsX5_advance) := goodIn_app (goodIn_of _ (by decide +kernel)) ggX5_readSum_X5_advance
set_option maxRecDepth 20000 in
theorem ggX5_readSum_X9_addStep : GoodIn wsX5_readSum wsX9_addStep := goodIn_r _ [21, 22, 23, 66, 67, 68] (by decide +kernel) (by decide +kernel)
set_option maxRecDepth 20000 in
theorem gX5_readSum_X9_addStep : GoodIn wsX5_readSum (wsV RX5 77 RX9 yX9_addStep wsX9_addStep) := goodIn_app (goodIn_of _ (by decide +kernel)) ggX5_readSum_X9_addStep
theorem dX5_readSum_0 : decode cX5_readSum 0 = .ok (.aload_n 0, 1) := by decide +kernel
theorem dX5_readSum_1 : decode cX5_readSum 1 = .ok (.iload_n 1, 1) := by decide +kernel
theorem dX5_readSum_2 : decode cX5_readSum 2 = .ok (.invokevirtual 89, 3) := by decide +kernel
theorem dX5_readSum_5 : decode cX5_readSum 5 = .ok (.iconst 0, 1) := by decide +kernel
theorem dX5_readSum_6 : decode cX5_readSum 6 = .ok (.istore_n 2, 1) := by decide +kernel
theorem dX5_readSum_7 : decode cX5_readSum 7 = .ok (.iload_n 2, 1) := by decide +kernel
theorem dX5_readSum_8 : decode cX5_readSum 8 = .ok (.sipush 160, 3) := by decide +kernel
theorem dX5_readSum_11 : decode cX5_readSum 11 = .ok (.if_icmp .ge 61, 3) := by decide +kernel
theorem dX5_readSum_14 : decode cX5_readSum 14 = .ok (.aload_n 0, 1) := by decide +kernel
theorem dX5_readSum_15 : decode cX5_readSum 15 = .ok (.bipush 43, 2) := by decide +kernel
theorem dX5_readSum_17 : decode cX5_readSum 17 = .ok (.invokevirtual 64, 3) := by decide +kernel
theorem dX5_readSum_20 : decode cX5_readSum 20 = .ok (.ifCond .ne 12, 3) := by decide +kernel
theorem dX5_readSum_23 : decode cX5_readSum 23 = .ok (.aload_n 0, 1) := by decide +kernel
theorem dX5_readSum_24 : decode cX5_readSum 24 = .ok (.bipush 45, 2) := by decide +kernel
theorem dX5_readSum_26 : decode cX5_readSum 26 = .ok (.invokevirtual 64, 3) := by decide +kernel
theorem dX5_readSum_29 : decode cX5_readSum 29 = .ok (.ifCond .eq 43, 3) := by decide +kernel
theorem dX5_readSum_32 : decode cX5_readSum 32 = .ok (.aload_n 0, 1) := by decide +kernel
theorem dX5_readSum_33 : decode cX5_readSum 33 = .ok (.bipush 43, 2) := by decide +kernel
theorem dX5_readSum_35 : decode cX5_readSum 35 = .ok (.invokevirtual 64, 3) := by decide +kernel
theorem dX5_readSum_38 : decode cX5_readSum 38 = .ok (.ifCond .eq 8, 3) := by decide +kernel
theorem dX5_readSum_41 : decode cX5_readSum 41 = .ok (.bipush (-16), 2) := by decide +kernel
theorem dX5_readSum_43 : decode cX5_readSum 43 = .ok (.goto 5, 3) := by decide +kernel
theorem dX5_readSum_46 : decode cX5_readSum 46 = .ok (.bipush (-17), 2) := by decide +kernel
theorem dX5_readSum_48 : decode cX5_readSum 48 = .ok (.istore_n 3, 1) := by decide +kernel
theorem dX5_readSum_49 : decode cX5_readSum 49 = .ok (.aload_n 0, 1) := by decide +kernel
theorem dX5_readSum_50 : decode cX5_readSum 50 = .ok (.invokevirtual 68, 3) := by decide +kernel
theorem dX5_readSum_53 : decode cX5_readSum 53 = .ok (.aload_n 0, 1) := by decide +kernel
theorem dX5_readSum_54 : decode cX5_readSum 54 = .ok (.iload_n 1, 1) := by decide +kernel
theorem dX5_readSum_55 : decode cX5_readSum 55 = .ok (.invokevirtual 89, 3) := by decide +kernel
theorem dX5_readSum_58 : decode cX5_readSum 58 = .ok (.aload_n 0, 1) := by decide +kernel
theorem dX5_readSum_59 : decode cX5_readSum 59 = .ok (.getfield 27, 3) := by decide +kernel
theorem dX5_readSum_62 : decode cX5_readSum 62 = .ok (.iload_n 3, 1) := by decide +kernel
theorem dX5_readSum_63 : decode cX5_readSum 63 = .ok (.invokevirtual 77, 3) := by decide +kernel
theorem dX5_readSum_66 : decode cX5_readSum 66 = .ok (.iinc 2 1, 3) := by decide +kernel
theorem dX5_readSum_69 : decode cX5_readSum 69 = .ok (.goto (-62), 3) := by decide +kernel
theorem dX5_readSum_72 : decode cX5_readSum 72 = .ok (.return_, 1) := by decide +kernel
set_option maxRecDepth 20000 in
theorem ggX5_readTerm_X5_readOne : GoodIn wsX5_readTerm wsX5_readOne := goodIn_r _ [45, 1, 46, 12, 10, 11, 6, 7, 8, 5, 9, 17, 18, 19, 20, 21, 22, 23, 13, 14, 15, 16, 2, 3, 4, 47, 48, 49, 50, 51, 52, 53, 37, 38, 39, 40, 41, 24, 25, 26, 27, 28, 29, 30, 31, 32, 33, 34, 35, 36, 42, 43, 44, 54, 55, 56, 57, 0, 58, 59, 60, 61, 62, 63, 64, 65, 66, 67, 68] (by decide +kernel) (by decide +kernel)
set_option maxRecDepth 20000 in
theorem gX5_readTerm_X5_readOne : GoodIn wsX5_readTerm (wsV RX5 92 RX5 yX5_readOne wsX5_readOne) := goodIn_app (goodIn_of _ (by decide +kernel)) ggX5_readTerm_X5_readOne
set_option maxRecDepth 20000 in
theorem ggX5_readTerm_X5_sees : GoodIn wsX5_readTerm wsX5_sees := goodIn_r _ [9, 10, 11, 12, 58, 59, 60, 61, 62, 63, 64, 65] (by decide +kernel) (by decide +kernel)
set_option maxRecDepth 20000 in
theorem gX5_readTerm_X5_sees : GoodIn wsX5_readTerm (wsV RX5 64 RX5 yX5_sees wsX5_sees) := goodIn_app (goodIn_of _ (by decide +kernel)) ggX5_readTerm_X5_sees
set_option maxRecDepth 20000 in
theorem ggX5_readTerm_X5_advance : GoodIn wsX5_readTerm wsX5_advance := goodIn_r _ [16, 12, 11, 58, 59, 60, 61, 62, 63, 64, 65] (by decide +kernel) (by decide +kernel)
set_option maxRecDepth 20000 in
theorem gX5_readTerm_X5_advance : GoodIn wsX5_readTerm (wsV RX5 68 RX5 yX5_advance wsX5_advance) := goodIn_app (goodIn_of _ (by decide +kernel)) ggX5_readTerm_X5_advance
set_option maxRecDepth 20000 in
theorem ggX5_readTerm_X9_addStep : GoodIn wsX5_readTerm wsX9_addStep := goodIn_r _ [21, 22, 23, 66, 67, 68] (by decide +kernel) (by decide +kernel)
set_option maxRecDepth 20000 in
theorem gX5_readTerm_X9_addStep : GoodIn wsX5_readTerm (wsV RX5 77 RX9 yX9_addStep wsX9_addStep) := goodIn_app (goodIn_of _ (by decide +kernel)) ggX5_readTerm_X9_addStep
theorem dX5_readTerm_0 : decode cX5_readTerm 0 = .ok (.aload_n 0, 1) := by decide +kernel
theorem dX5_readTerm_1 : decode cX5_readTerm 1 = .ok (.iload_n 1, 1) := by decide +kernel
theorem dX5_readTerm_2 : decode cX5_readTerm 2 = .ok (.invokevirtual 92, 3) := by decide +kernel
theorem dX5_readTerm_5 : decode cX5_readTerm 5 = .ok (.iconst 0, 1) := by decide +kernel
theorem dX5_readTerm_6 : decode cX5_readTerm 6 = .ok (.istore_n 2, 1) := by decide +kernel
theorem dX5_readTerm_7 : decode cX5_readTerm 7 = .ok (.iload_n 2, 1) := by decide +kernel
theorem dX5_readTerm_8 : decode cX5_readTerm 8 = .ok (.sipush 160, 3) := by decide +kernel
theorem dX5_readTerm_11 : decode cX5_readTerm 11 = .ok (.if_icmp .ge 36, 3) := by decide +kernel
theorem dX5_readTerm_14 : decode cX5_readTerm 14 = .ok (.aload_n 0, 1) := by decide +kernel
theorem dX5_readTerm_15 : decode cX5_readTerm 15 = .ok (.bipush 42, 2) := by decide +kernel
theorem dX5_readTerm_17 : decode cX5_readTerm 17 = .ok (.invokevirtual 64, 3) := by decide +kernel
theorem dX5_readTerm_20 : decode cX5_readTerm 20 = .ok (.ifCond .eq 27, 3) := by decide +kernel
theorem dX5_readTerm_23 : decode cX5_readTerm 23 = .ok (.aload_n 0, 1) := by decide +kernel
theorem dX5_readTerm_24 : decode cX5_readTerm 24 = .ok (.invokevirtual 68, 3) := by decide +kernel
theorem dX5_readTerm_27 : decode cX5_readTerm 27 = .ok (.aload_n 0, 1) := by decide +kernel
theorem dX5_readTerm_28 : decode cX5_readTerm 28 = .ok (.iload_n 1, 1) := by decide +kernel
theorem dX5_readTerm_29 : decode cX5_readTerm 29 = .ok (.invokevirtual 92, 3) := by decide +kernel
theorem dX5_readTerm_32 : decode cX5_readTerm 32 = .ok (.aload_n 0, 1) := by decide +kernel
theorem dX5_readTerm_33 : decode cX5_readTerm 33 = .ok (.getfield 27, 3) := by decide +kernel
theorem dX5_readTerm_36 : decode cX5_readTerm 36 = .ok (.bipush (-18), 2) := by decide +kernel
theorem dX5_readTerm_38 : decode cX5_readTerm 38 = .ok (.invokevirtual 77, 3) := by decide +kernel
theorem dX5_readTerm_41 : decode cX5_readTerm 41 = .ok (.iinc 2 1, 3) := by decide +kernel
theorem dX5_readTerm_44 : decode cX5_readTerm 44 = .ok (.goto (-37), 3) := by decide +kernel
theorem dX5_readTerm_47 : decode cX5_readTerm 47 = .ok (.return_, 1) := by decide +kernel
set_option maxRecDepth 20000 in
theorem ggX5_readOne_X5_sees : GoodIn wsX5_readOne wsX5_sees := goodIn_r _ [10, 4, 5, 3, 58, 59, 60, 61, 62, 63, 64, 65] (by decide +kernel) (by decide +kernel)
set_option maxRecDepth 20000 in
theorem gX5_readOne_X5_sees : GoodIn wsX5_readOne (wsV RX5 64 RX5 yX5_sees wsX5_sees) := goodIn_app (goodIn_of _ (by decide +kernel)) ggX5_readOne_X5_sees
set_option maxRecDepth 20000 in
theorem ggX5_readOne_X9_addStep : GoodIn wsX5_readOne wsX9_addStep := goodIn_r _ [15, 16, 17, 66, 67, 68] (by decide +kernel) (by decide +kernel)
set_option maxRecDepth 20000 in
theorem gX5_readOne_X9_addStep : GoodIn wsX5_readOne (wsV RX5 77 RX9 yX9_addStep wsX9_addStep) := goodIn_app (goodIn_of _ (by decide +kernel)) ggX5_readOne_X9_addStep
set_option maxRecDepth 20000 in
theorem ggX5_readOne_X5_advance : GoodIn wsX5_readOne wsX5_advance := goodIn_r _ [21, 3, 5, 58, 59, 60, 61, 62, 63, 64, 65] (by decide +kernel) (by decide +kernel)
set_option maxRecDepth 20000 in
theorem gX5_readOne_X5_advance : GoodIn wsX5_readOne (wsV RX5 68 RX5 yX5_advance wsX5_advance) := goodIn_app (goodIn_of _ (by decide +kernel)) ggX5_readOne_X5_advance
set_option maxRecDepth 20000 in
theorem ggX5_readOne_X5_readOne : GoodIn wsX5_readOne wsX5_readOne := goodIn_r _ [0, 1, 2, 3, 4, 5, 6, 7, 8, 9, 10, 11, 12, 13, 14, 15, 16, 17, 18, 19, 20, 21, 22, 23, 24, 25, 26, 27, 28, 29, 30, 31, 32, 33, 34, 35, 36, 37, 38, 39, 40, 41, 42, 43, 44, 45, 46, 47, 48, 49, 50, 51, 52, 53, 54, 55, 56, 57, 58, 59, 60, 61, 62, 63, 64, 65, 66, 67, 68] (by decide +kernel) (by decide +kernel)
set_option maxRecDepth 20000 in
theorem gX5_readOne_X5_readOne : GoodIn wsX5_readOne (wsV RX5 92 RX5 yX5_readOne wsX5_readOne) := goodIn_app (goodIn_of _ (by decide +kernel)) ggX5_readOne_X5_readOne
set_option maxRecDepth 20000 in
theorem ggX5_readOne_X5_readChoice : GoodIn wsX5_readOne wsX5_readChoice := goodIn_r _ [41, 1, 42, 43, 44, 9, 6, 7, 8, 10, 4, 5, 3, 18, 19, 20, 21, 11, 12, 13, 14, 15, 16, 17, 37, 38, 39, 40, 45, 46, 47, 48, 49, 32, 33, 34, 35, 36, 50, 51, 52, 0, 2, 22, 23, 24, 25, 26, 27, 28, 29, 30, 31, 53, 54, 55, 56, 57, 58, 59, 60, 61, 62, 63, 64, 65, 66, 67, 68] (by decide +kernel) (by decide +kernel)
set_option maxRecDepth 20000 in
theorem gX5_readOne_X5_readChoice : GoodIn wsX5_readOne (wsV RX5 57 RX5 yX5_readChoice wsX5_readChoice) := goodIn_app (goodIn_of _ (by decide +kernel)) ggX5_readOne_X5_readChoice
set_option maxRecDepth 20000 in
theorem ggX5_readOne_X5_need : GoodIn wsX5_readOne wsX5_need := goodIn_r _ [31, 6, 7, 8, 9, 10, 4, 5, 3, 18, 19, 20, 21, 32, 33, 34, 35, 36, 58, 59, 60, 61, 62, 63, 64, 65] (by decide +kernel) (by decide +kernel)
set_option maxRecDepth 20000 in
theorem gX5_readOne_X5_need : GoodIn wsX5_readOne (wsV RX5 53 RX5 yX5_need wsX5_need) := goodIn_app (goodIn_of _ (by decide +kernel)) ggX5_readOne_X5_need
set_option maxRecDepth 20000 in
theorem ggX5_readOne_X5_fail : GoodIn wsX5_readOne wsX5_fail := goodIn_r _ [35, 4, 36, 3, 58, 59, 60, 61, 62, 63, 64, 65] (by decide +kernel) (by decide +kernel)
set_option maxRecDepth 20000 in
theorem gX5_readOne_X5_fail : GoodIn wsX5_readOne (wsV RX5 71 RX5 yX5_fail wsX5_fail) := goodIn_app (goodIn_of _ (by decide +kernel)) ggX5_readOne_X5_fail
theorem dX5_readOne_0 : decode cX5_readOne 0 = .ok (.aload_n 0, 1) := by decide +kernel
theorem dX5_readOne_1 : decode cX5_readOne 1 = .ok (.bipush 12, 2) := by decide +kernel
theorem dX5_readOne_3 : decode cX5_readOne 3 = .ok (.invokevirtual 64, 3) := by decide +kernel
theorem dX5_readOne_6 : decode cX5_readOne 6 = .ok (.ifCond .eq 26, 3) := by decide +kernel
theorem dX5_readOne_9 : decode cX5_readOne 9 = .ok (.aload_n 0, 1) := by decide +kernel
theorem dX5_readOne_10 : decode cX5_readOne 10 = .ok (.getfield 27, 3) := by decide +kernel
theorem dX5_readOne_13 : decode cX5_readOne 13 = .ok (.aload_n 0, 1) := by decide +kernel
theorem dX5_readOne_14 : decode cX5_readOne 14 = .ok (.getfield 21, 3) := by decide +kernel
theorem dX5_readOne_17 : decode cX5_readOne 17 = .ok (.aload_n 0, 1) := by decide +kernel
theorem dX5_readOne_18 : decode cX5_readOne 18 = .ok (.getfield 47, 3) := by decide +kernel
theorem dX5_readOne_21 : decode cX5_readOne 21 = .ok (.iaload, 1) := by decide +kernel
theorem dX5_readOne_22 : decode cX5_readOne 22 = .ok (.invokevirtual 77, 3) := by decide +kernel
theorem dX5_readOne_25 : decode cX5_readOne 25 = .ok (.aload_n 0, 1) := by decide +kernel
theorem dX5_readOne_26 : decode cX5_readOne 26 = .ok (.invokevirtual 68, 3) := by decide +kernel
theorem dX5_readOne_29 : decode cX5_readOne 29 = .ok (.goto 135, 3) := by decide +kernel
theorem dX5_readOne_32 : decode cX5_readOne 32 = .ok (.aload_n 0, 1) := by decide +kernel
theorem dX5_readOne_33 : decode cX5_readOne 33 = .ok (.getfield 50, 3) := by decide +kernel
theorem dX5_readOne_36 : decode cX5_readOne 36 = .ok (.ifCond .ge 53, 3) := by decide +kernel
theorem dX5_readOne_39 : decode cX5_readOne 39 = .ok (.aload_n 0, 1) := by decide +kernel
theorem dX5_readOne_40 : decode cX5_readOne 40 = .ok (.getfield 15, 3) := by decide +kernel
theorem dX5_readOne_43 : decode cX5_readOne 43 = .ok (.aload_n 0, 1) := by decide +kernel
theorem dX5_readOne_44 : decode cX5_readOne 44 = .ok (.getfield 47, 3) := by decide +kernel
theorem dX5_readOne_47 : decode cX5_readOne 47 = .ok (.iaload, 1) := by decide +kernel
theorem dX5_readOne_48 : decode cX5_readOne 48 = .ok (.ifCond .le 41, 3) := by decide +kernel
theorem dX5_readOne_51 : decode cX5_readOne 51 = .ok (.aload_n 0, 1) := by decide +kernel
theorem dX5_readOne_52 : decode cX5_readOne 52 = .ok (.getfield 15, 3) := by decide +kernel
theorem dX5_readOne_55 : decode cX5_readOne 55 = .ok (.aload_n 0, 1) := by decide +kernel
theorem dX5_readOne_56 : decode cX5_readOne 56 = .ok (.getfield 47, 3) := by decide +kernel
theorem dX5_readOne_59 : decode cX5_readOne 59 = .ok (.iaload, 1) := by decide +kernel
theorem dX5_readOne_60 : decode cX5_readOne 60 = .ok (.bipush 6, 2) := by decide +kernel
theorem dX5_readOne_62 : decode cX5_readOne 62 = .ok (.if_icmp .gt 27, 3) := by decide +kernel
theorem dX5_readOne_65 : decode cX5_readOne 65 = .ok (.aload_n 0, 1) := by decide +kernel
theorem dX5_readOne_66 : decode cX5_readOne 66 = .ok (.getfield 27, 3) := by decide +kernel
theorem dX5_readOne_69 : decode cX5_readOne 69 = .ok (.aload_n 0, 1) := by decide +kernel
theorem dX5_readOne_70 : decode cX5_readOne 70 = .ok (.getfield 15, 3) := by decide +kernel
theorem dX5_readOne_73 : decode cX5_readOne 73 = .ok (.aload_n 0, 1) := by decide +kernel
theorem dX5_readOne_74 : decode cX5_readOne 74 = .ok (.getfield 47, 3) := by decide +kernel
theorem dX5_readOne_77 : decode cX5_readOne 77 = .ok (.iaload, 1) := by decide +kernel
theorem dX5_readOne_78 : decode cX5_readOne 78 = .ok (.ineg, 1) := by decide +kernel
theorem dX5_readOne_79 : decode cX5_readOne 79 = .ok (.invokevirtual 77, 3) := by decide +kernel
theorem dX5_readOne_82 : decode cX5_readOne 82 = .ok (.aload_n 0, 1) := by decide +kernel
theorem dX5_readOne_83 : decode cX5_readOne 83 = .ok (.invokevirtual 68, 3) := by decide +kernel
theorem dX5_readOne_86 : decode cX5_readOne 86 = .ok (.goto 78, 3) := by decide +kernel
theorem dX5_readOne_89 : decode cX5_readOne 89 = .ok (.aload_n 0, 1) := by decide +kernel
theorem dX5_readOne_90 : decode cX5_readOne 90 = .ok (.bipush 45, 2) := by decide +kernel
theorem dX5_readOne_92 : decode cX5_readOne 92 = .ok (.invokevirtual 64, 3) := by decide +kernel
theorem dX5_readOne_95 : decode cX5_readOne 95 = .ok (.ifCond .eq 31, 3) := by decide +kernel
theorem dX5_readOne_98 : decode cX5_readOne 98 = .ok (.iload_n 1, 1) := by decide +kernel
theorem dX5_readOne_99 : decode cX5_readOne 99 = .ok (.iconst 5, 1) := by decide +kernel
theorem dX5_readOne_100 : decode cX5_readOne 100 = .ok (.if_icmp .ge 26, 3) := by decide +kernel
theorem dX5_readOne_103 : decode cX5_readOne 103 = .ok (.aload_n 0, 1) := by decide +kernel
theorem dX5_readOne_104 : decode cX5_readOne 104 = .ok (.invokevirtual 68, 3) := by decide +kernel
theorem dX5_readOne_107 : decode cX5_readOne 107 = .ok (.aload_n 0, 1) := by decide +kernel
theorem dX5_readOne_108 : decode cX5_readOne 108 = .ok (.iload_n 1, 1) := by decide +kernel
theorem dX5_readOne_109 : decode cX5_readOne 109 = .ok (.iconst 1, 1) := by decide +kernel
theorem dX5_readOne_110 : decode cX5_readOne 110 = .ok (.iadd, 1) := by decide +kernel
theorem dX5_readOne_111 : decode cX5_readOne 111 = .ok (.invokevirtual 92, 3) := by decide +kernel
theorem dX5_readOne_114 : decode cX5_readOne 114 = .ok (.aload_n 0, 1) := by decide +kernel
theorem dX5_readOne_115 : decode cX5_readOne 115 = .ok (.getfield 27, 3) := by decide +kernel
theorem dX5_readOne_118 : decode cX5_readOne 118 = .ok (.bipush (-19), 2) := by decide +kernel
theorem dX5_readOne_120 : decode cX5_readOne 120 = .ok (.invokevirtual 77, 3) := by decide +kernel
theorem dX5_readOne_123 : decode cX5_readOne 123 = .ok (.goto 41, 3) := by decide +kernel
theorem dX5_readOne_126 : decode cX5_readOne 126 = .ok (.aload_n 0, 1) := by decide +kernel
theorem dX5_readOne_127 : decode cX5_readOne 127 = .ok (.bipush 40, 2) := by decide +kernel
theorem dX5_readOne_129 : decode cX5_readOne 129 = .ok (.invokevirtual 64, 3) := by decide +kernel
theorem dX5_readOne_132 : decode cX5_readOne 132 = .ok (.ifCond .eq 28, 3) := by decide +kernel
theorem dX5_readOne_135 : decode cX5_readOne 135 = .ok (.iload_n 1, 1) := by decide +kernel
theorem dX5_readOne_136 : decode cX5_readOne 136 = .ok (.iconst 5, 1) := by decide +kernel
theorem dX5_readOne_137 : decode cX5_readOne 137 = .ok (.if_icmp .ge 23, 3) := by decide +kernel
theorem dX5_readOne_140 : decode cX5_readOne 140 = .ok (.aload_n 0, 1) := by decide +kernel
theorem dX5_readOne_141 : decode cX5_readOne 141 = .ok (.invokevirtual 68, 3) := by decide +kernel
theorem dX5_readOne_144 : decode cX5_readOne 144 = .ok (.aload_n 0, 1) := by decide +kernel
theorem dX5_readOne_145 : decode cX5_readOne 145 = .ok (.iload_n 1, 1) := by decide +kernel
theorem dX5_readOne_146 : decode cX5_readOne 146 = .ok (.iconst 1, 1) := by decide +kernel
theorem dX5_readOne_147 : decode cX5_readOne 147 = .ok (.iadd, 1) := by decide +kernel
theorem dX5_readOne_148 : decode cX5_readOne 148 = .ok (.invokevirtual 57, 3) := by decide +kernel
theorem dX5_readOne_151 : decode cX5_readOne 151 = .ok (.aload_n 0, 1) := by decide +kernel
theorem dX5_readOne_152 : decode cX5_readOne 152 = .ok (.bipush 41, 2) := by decide +kernel
theorem dX5_readOne_154 : decode cX5_readOne 154 = .ok (.invokevirtual 53, 3) := by decide +kernel
theorem dX5_readOne_157 : decode cX5_readOne 157 = .ok (.goto 7, 3) := by decide +kernel
theorem dX5_readOne_160 : decode cX5_readOne 160 = .ok (.aload_n 0, 1) := by decide +kernel
theorem dX5_readOne_161 : decode cX5_readOne 161 = .ok (.invokevirtual 71, 3) := by decide +kernel
theorem dX5_readOne_164 : decode cX5_readOne 164 = .ok (.return_, 1) := by decide +kernel
set_option maxRecDepth 20000 in
theorem ggX5_cutTokens_X5_isBlank : GoodIn wsX5_cutTokens wsX5_isBlank := goodIn_r _ [8] (by decide +kernel) (by decide +kernel)
set_option maxRecDepth 20000 in
theorem gX5_cutTokens_X5_isBlank : GoodIn wsX5_cutTokens (va_wsS RX5 95 yX5_isBlank wsX5_isBlank) := goodIn_app (goodIn_of _ (by decide +kernel)) ggX5_cutTokens_X5_isBlank
set_option maxRecDepth 20000 in
theorem ggX5_cutTokens_X5_cutOne : GoodIn wsX5_cutTokens wsX5_cutOne := goodIn_r _ [12, 1, 2, 4, 13, 14, 15, 7, 16, 17, 18, 19, 20, 21, 22, 23, 24, 25, 26, 27, 28, 29, 30, 31, 32, 33, 34, 35, 36, 37, 38, 39, 40, 41, 42, 43, 44, 45, 46, 47, 48, 49, 50, 51, 52, 53, 54, 55, 56, 57, 58, 59, 60, 61, 62, 63, 64, 65, 66, 67, 68, 69, 70, 71, 72, 73, 74, 75, 76, 77, 78, 79, 80, 81, 82, 83, 84, 85, 86, 87, 88, 89, 90] (by decide +kernel) (by decide +kernel)
set_option maxRecDepth 20000 in
theorem gX5_cutTokens_X5_cutOne : GoodIn wsX5_cutTokens (wsV RX5 98 RX5 yX5_cutOne wsX5_cutOne) := goodIn_app (goodIn_of _ (by decide +kernel)) ggX5_cutTokens_X5_cutOne
theorem dX5_cutTokens_0 : decode cX5_cutTokens 0 = .ok (.iconst 0, 1) := by decide +kernel
theorem dX5_cutTokens_1 : decode cX5_cutTokens 1 = .ok (.istore_n 1, 1) := by decide +kernel
theorem dX5_cutTokens_2 : decode cX5_cutTokens 2 = .ok (.iconst 0, 1) := by decide +kernel
theorem dX5_cutTokens_3 : decode cX5_cutTokens 3 = .ok (.istore_n 2, 1) := by decide +kernel
theorem dX5_cutTokens_4 : decode cX5_cutTokens 4 = .ok (.iload_n 2, 1) := by decide +kernel
theorem dX5_cutTokens_5 : decode cX5_cutTokens 5 = .ok (.aload_n 0, 1) := by decide +kernel
theorem dX5_cutTokens_6 : decode cX5_cutTokens 6 = .ok (.getfield 37, 3) := by decide +kernel
theorem dX5_cutTokens_9 : decode cX5_cutTokens 9 = .ok (.if_icmp .ge 48, 3) := by decide +kernel
theorem dX5_cutTokens_12 : decode cX5_cutTokens 12 = .ok (.iload_n 1, 1) := by decide +kernel
theorem dX5_cutTokens_13 : decode cX5_cutTokens 13 = .ok (.sipush 160, 3) := by decide +kernel
theorem dX5_cutTokens_16 : decode cX5_cutTokens 16 = .ok (.if_icmp .ge 41, 3) := by decide +kernel
theorem dX5_cutTokens_19 : decode cX5_cutTokens 19 = .ok (.aload_n 0, 1) := by decide +kernel
theorem dX5_cutTokens_20 : decode cX5_cutTokens 20 = .ok (.getfield 11, 3) := by decide +kernel
theorem dX5_cutTokens_23 : decode cX5_cutTokens 23 = .ok (.iload_n 2, 1) := by decide +kernel
theorem dX5_cutTokens_24 : decode cX5_cutTokens 24 = .ok (.iaload, 1) := by decide +kernel
theorem dX5_cutTokens_25 : decode cX5_cutTokens 25 = .ok (.invokestatic 95, 3) := by decide +kernel
theorem dX5_cutTokens_28 : decode cX5_cutTokens 28 = .ok (.ifCond .eq 9, 3) := by decide +kernel
theorem dX5_cutTokens_31 : decode cX5_cutTokens 31 = .ok (.iinc 2 1, 3) := by decide +kernel
theorem dX5_cutTokens_34 : decode cX5_cutTokens 34 = .ok (.goto (-30), 3) := by decide +kernel
theorem dX5_cutTokens_37 : decode cX5_cutTokens 37 = .ok (.aload_n 0, 1) := by decide +kernel
theorem dX5_cutTokens_38 : decode cX5_cutTokens 38 = .ok (.getfield 18, 3) := by decide +kernel
theorem dX5_cutTokens_41 : decode cX5_cutTokens 41 = .ok (.iload_n 1, 1) := by decide +kernel
theorem dX5_cutTokens_42 : decode cX5_cutTokens 42 = .ok (.iload_n 2, 1) := by decide +kernel
theorem dX5_cutTokens_43 : decode cX5_cutTokens 43 = .ok (.iastore, 1) := by decide +kernel
theorem dX5_cutTokens_44 : decode cX5_cutTokens 44 = .ok (.aload_n 0, 1) := by decide +kernel
theorem dX5_cutTokens_45 : decode cX5_cutTokens 45 = .ok (.iload_n 1, 1) := by decide +kernel
theorem dX5_cutTokens_46 : decode cX5_cutTokens 46 = .ok (.iload_n 2, 1) := by decide +kernel
theorem dX5_cutTokens_47 : decode cX5_cutTokens 47 = .ok (.invokevirtual 98, 3) := by decide +kernel
theorem dX5_cutTokens_50 : decode cX5_cutTokens 50 = .ok (.istore_n 2, 1) := by decide +kernel
theorem dX5_cutTokens_51 : decode cX5_cutTokens 51 = .ok (.iinc 1 1, 3) := by decide +kernel
theorem dX5_cutTokens_54 : decode cX5_cutTokens 54 = .ok (.goto (-50), 3) := by decide +kernel
theorem dX5_cutTokens_57 : decode cX5_cutTokens 57 = .ok (.aload_n 0, 1) := by decide +kernel
theorem dX5_cutTokens_58 : decode cX5_cutTokens 58 = .ok (.getfield 15, 3) := by decide +kernel
theorem dX5_cutTokens_61 : decode cX5_cutTokens 61 = .ok (.iload_n 1, 1) := by decide +kernel
theorem dX5_cutTokens_62 : decode cX5_cutTokens 62 = .ok (.iconst 0, 1) := by decide +kernel
theorem dX5_cutTokens_63 : decode cX5_cutTokens 63 = .ok (.iastore, 1) := by decide +kernel
theorem dX5_cutTokens_64 : decode cX5_cutTokens 64 = .ok (.aload_n 0, 1) := by decide +kernel
theorem dX5_cutTokens_65 : decode cX5_cutTokens 65 = .ok (.getfield 18, 3) := by decide +kernel
theorem dX5_cutTokens_68 : decode cX5_cutTokens 68 = .ok (.iload_n 1, 1) := by decide +kernel
theorem dX5_cutTokens_69 : decode cX5_cutTokens 69 = .ok (.aload_n 0, 1) := by decide +kernel
theorem dX5_cutTokens_70 : decode cX5_cutTokens 70 = .ok (.getfield 37, 3) := by decide +kernel
theorem dX5_cutTokens_73 : decode cX5_cutTokens 73 = .ok (.iastore, 1) := by decide +kernel
theorem dX5_cutTokens_74 : decode cX5_cutTokens 74 = .ok (.return_, 1) := by decide +kernel
set_option maxRecDepth 20000 in
theorem ggX5_cutOne_X5_isLetter : GoodIn wsX5_cutOne wsX5_isLetter := goodIn_r _ [8] (by decide +kernel) (by decide +kernel)
set_option maxRecDepth 20000 in
theorem gX5_cutOne_X5_isLetter : GoodIn wsX5_cutOne (va_wsS RX5 101 yX5_isLetter wsX5_isLetter) := goodIn_app (goodIn_of _ (by decide +kernel)) ggX5_cutOne_X5_isLetter
set_option maxRecDepth 20000 in
theorem ggX5_cutOne_X5_wordOf : GoodIn wsX5_cutOne wsX5_wordOf := goodIn_r _ [12, 13, 14, 7, 15, 16, 17, 18, 19, 2, 20, 21, 22, 23, 24, 25, 26, 27, 28, 29, 30, 31, 32, 33, 34, 35, 36, 37, 38, 39, 40, 41, 42, 43, 44, 45, 46, 47, 48, 49, 50, 51, 52, 53, 54, 55, 56, 57, 58, 59, 60, 61, 62, 63, 64, 65, 66, 67, 68, 75, 76, 77, 78, 79, 80, 81, 82] (by decide +kernel) (by decide +kernel)
set_option maxRecDepth 20000 in
theorem gX5_cutOne_X5_wordOf : GoodIn wsX5_cutOne (wsV RX5 104 RX5 yX5_wordOf wsX5_wordOf) := goodIn_app (goodIn_of _ (by decide +kernel)) ggX5_cutOne_X5_wordOf
set_option maxRecDepth 20000 in
theorem ggX5_cutOne_X5_isDigit : GoodIn wsX5_cutOne wsX5_isDigit := goodIn_r _ [71] (by decide +kernel) (by decide +kernel)
set_option maxRecDepth 20000 in
theorem gX5_cutOne_X5_isDigit : GoodIn wsX5_cutOne (va_wsS RX5 107 yX5_isDigit wsX5_isDigit) := goodIn_app (goodIn_of _ (by decide +kernel)) ggX5_cutOne_X5_isDigit
set_option maxRecDepth 20000 in
theorem ggX5_cutOne_X5_isSign : GoodIn wsX5_cutOne wsX5_isSign := goodIn_r _ [74] (by decide +kernel) (by decide +kernel)
set_option maxRecDepth 20000 in
theorem gX5_cutOne_X5_isSign : GoodIn wsX5_cutOne (va_wsS RX5 110 yX5_isSign wsX5_isSign) := goodIn_app (goodIn_of _ (by decide +kernel)) ggX5_cutOne_X5_isSign
theorem dX5_cutOne_0 : decode cX5_cutOne 0 = .ok (.iload_n 2, 1) := by decide +kernel
theorem dX5_cutOne_1 : decode cX5_cutOne 1 = .ok (.istore_n 3, 1) := by decide +kernel
theorem dX5_cutOne_2 : decode cX5_cutOne 2 = .ok (.iconst 0, 1) := by decide +kernel
theorem dX5_cutOne_3 : decode cX5_cutOne 3 = .ok (.istore 4, 2) := by decide +kernel
theorem dX5_cutOne_5 : decode cX5_cutOne 5 = .ok (.iload_n 3, 1) := by decide +kernel
theorem dX5_cutOne_6 : decode cX5_cutOne 6 = .ok (.aload_n 0, 1) := by decide +kernel
theorem dX5_cutOne_7 : decode cX5_cutOne 7 = .ok (.getfield 37, 3) := by decide +kernel
theorem dX5_cutOne_10 : decode cX5_cutOne 10 = .ok (.if_icmp .ge 21, 3) := by decide +kernel
theorem dX5_cutOne_13 : decode cX5_cutOne 13 = .ok (.aload_n 0, 1) := by decide +kernel
theorem dX5_cutOne_14 : decode cX5_cutOne 14 = .ok (.getfield 11, 3) := by decide +kernel
theorem dX5_cutOne_17 : decode cX5_cutOne 17 = .ok (.iload_n 3, 1) := by decide +kernel
theorem dX5_cutOne_18 : decode cX5_cutOne 18 = .ok (.iaload, 1) := by decide +kernel
theorem dX5_cutOne_19 : decode cX5_cutOne 19 = .ok (.invokestatic 101, 3) := by decide +kernel
theorem dX5_cutOne_22 : decode cX5_cutOne 22 = .ok (.ifCond .eq 9, 3) := by decide +kernel
theorem dX5_cutOne_25 : decode cX5_cutOne 25 = .ok (.iinc 3 1, 3) := by decide +kernel
theorem dX5_cutOne_28 : decode cX5_cutOne 28 = .ok (.goto (-23), 3) := by decide +kernel
theorem dX5_cutOne_31 : decode cX5_cutOne 31 = .ok (.iload_n 3, 1) := by decide +kernel
theorem dX5_cutOne_32 : decode cX5_cutOne 32 = .ok (.iload_n 2, 1) := by decide +kernel
theorem dX5_cutOne_33 : decode cX5_cutOne 33 = .ok (.if_icmp .le 17, 3) := by decide +kernel
theorem dX5_cutOne_36 : decode cX5_cutOne 36 = .ok (.aload_n 0, 1) := by decide +kernel
theorem dX5_cutOne_37 : decode cX5_cutOne 37 = .ok (.getfield 15, 3) := by decide +kernel
theorem dX5_cutOne_40 : decode cX5_cutOne 40 = .ok (.iload_n 1, 1) := by decide +kernel
theorem dX5_cutOne_41 : decode cX5_cutOne 41 = .ok (.aload_n 0, 1) := by decide +kernel
theorem dX5_cutOne_42 : decode cX5_cutOne 42 = .ok (.iload_n 2, 1) := by decide +kernel
theorem dX5_cutOne_43 : decode cX5_cutOne 43 = .ok (.iload_n 3, 1) := by decide +kernel
theorem dX5_cutOne_44 : decode cX5_cutOne 44 = .ok (.invokevirtual 104, 3) := by decide +kernel
theorem dX5_cutOne_47 : decode cX5_cutOne 47 = .ok (.iastore, 1) := by decide +kernel
theorem dX5_cutOne_48 : decode cX5_cutOne 48 = .ok (.iload_n 3, 1) := by decide +kernel
theorem dX5_cutOne_49 : decode cX5_cutOne 49 = .ok (.ireturn, 1) := by decide +kernel
theorem dX5_cutOne_50 : decode cX5_cutOne 50 = .ok (.iload_n 3, 1) := by decide +kernel
theorem dX5_cutOne_51 : decode cX5_cutOne 51 = .ok (.aload_n 0, 1) := by decide +kernel
theorem dX5_cutOne_52 : decode cX5_cutOne 52 = .ok (.getfield 37, 3) := by decide +kernel
theorem dX5_cutOne_55 : decode cX5_cutOne 55 = .ok (.if_icmp .ge 38, 3) := by decide +kernel
theorem dX5_cutOne_58 : decode cX5_cutOne 58 = .ok (.aload_n 0, 1) := by decide +kernel
theorem dX5_cutOne_59 : decode cX5_cutOne 59 = .ok (.getfield 11, 3) := by decide +kernel
theorem dX5_cutOne_62 : decode cX5_cutOne 62 = .ok (.iload_n 3, 1) := by decide +kernel
theorem dX5_cutOne_63 : decode cX5_cutOne 63 = .ok (.iaload, 1) := by decide +kernel
theorem dX5_cutOne_64 : decode cX5_cutOne 64 = .ok (.invokestatic 107, 3) := by decide +kernel
theorem dX5_cutOne_67 : decode cX5_cutOne 67 = .ok (.ifCond .eq 26, 3) := by decide +kernel
theorem dX5_cutOne_70 : decode cX5_cutOne 70 = .ok (.iload 4, 2) := by decide +kernel
theorem dX5_cutOne_72 : decode cX5_cutOne 72 = .ok (.bipush 10, 2) := by decide +kernel
theorem dX5_cutOne_74 : decode cX5_cutOne 74 = .ok (.imul, 1) := by decide +kernel
theorem dX5_cutOne_75 : decode cX5_cutOne 75 = .ok (.aload_n 0, 1) := by decide +kernel
theorem dX5_cutOne_76 : decode cX5_cutOne 76 = .ok (.getfield 11, 3) := by decide +kernel
theorem dX5_cutOne_79 : decode cX5_cutOne 79 = .ok (.iload_n 3, 1) := by decide +kernel
theorem dX5_cutOne_80 : decode cX5_cutOne 80 = .ok (.iaload, 1) := by decide +kernel
theorem dX5_cutOne_81 : decode cX5_cutOne 81 = .ok (.iadd, 1) := by decide +kernel
theorem dX5_cutOne_82 : decode cX5_cutOne 82 = .ok (.bipush 48, 2) := by decide +kernel
theorem dX5_cutOne_84 : decode cX5_cutOne 84 = .ok (.isub, 1) := by decide +kernel
theorem dX5_cutOne_85 : decode cX5_cutOne 85 = .ok (.istore 4, 2) := by decide +kernel
theorem dX5_cutOne_87 : decode cX5_cutOne 87 = .ok (.iinc 3 1, 3) := by decide +kernel
theorem dX5_cutOne_90 : decode cX5_cutOne 90 = .ok (.goto (-40), 3) := by decide +kernel
theorem dX5_cutOne_93 : decode cX5_cutOne 93 = .ok (.iload_n 3, 1) := by decide +kernel
theorem dX5_cutOne_94 : decode cX5_cutOne 94 = .ok (.iload_n 2, 1) := by decide +kernel
theorem dX5_cutOne_95 : decode cX5_cutOne 95 = .ok (.if_icmp .le 32, 3) := by decide +kernel
theorem dX5_cutOne_98 : decode cX5_cutOne 98 = .ok (.aload_n 0, 1) := by decide +kernel
theorem dX5_cutOne_99 : decode cX5_cutOne 99 = .ok (.getfield 15, 3) := by decide +kernel
theorem dX5_cutOne_102 : decode cX5_cutOne 102 = .ok (.iload_n 1, 1) := by decide +kernel
theorem dX5_cutOne_103 : decode cX5_cutOne 103 = .ok (.iload_n 3, 1) := by decide +kernel
theorem dX5_cutOne_104 : decode cX5_cutOne 104 = .ok (.iload_n 2, 1) := by decide +kernel
theorem dX5_cutOne_105 : decode cX5_cutOne 105 = .ok (.isub, 1) := by decide +kernel
theorem dX5_cutOne_106 : decode cX5_cutOne 106 = .ok (.iconst 4, 1) := by decide +kernel
theorem dX5_cutOne_107 : decode cX5_cutOne 107 = .ok (.if_icmp .gt 8, 3) := by decide +kernel
theorem dX5_cutOne_110 : decode cX5_cutOne 110 = .ok (.bipush 12, 2) := by decide +kernel
theorem dX5_cutOne_112 : decode cX5_cutOne 112 = .ok (.goto 4, 3) := by decide +kernel
theorem dX5_cutOne_115 : decode cX5_cutOne 115 = .ok (.iconst (-1), 1) := by decide +kernel
theorem dX5_cutOne_116 : decode cX5_cutOne 116 = .ok (.iastore, 1) := by decide +kernel
theorem dX5_cutOne_117 : decode cX5_cutOne 117 = .ok (.aload_n 0, 1) := by decide +kernel
theorem dX5_cutOne_118 : decode cX5_cutOne 118 = .ok (.getfield 21, 3) := by decide +kernel
theorem dX5_cutOne_121 : decode cX5_cutOne 121 = .ok (.iload_n 1, 1) := by decide +kernel
theorem dX5_cutOne_122 : decode cX5_cutOne 122 = .ok (.iload 4, 2) := by decide +kernel
theorem dX5_cutOne_124 : decode cX5_cutOne 124 = .ok (.iastore, 1) := by decide +kernel
theorem dX5_cutOne_125 : decode cX5_cutOne 125 = .ok (.iload_n 3, 1) := by decide +kernel
theorem dX5_cutOne_126 : decode cX5_cutOne 126 = .ok (.ireturn, 1) := by decide +kernel
theorem dX5_cutOne_127 : decode cX5_cutOne 127 = .ok (.aload_n 0, 1) := by decide +kernel
theorem dX5_cutOne_128 : decode cX5_cutOne 128 = .ok (.getfield 15, 3) := by decide +kernel
theorem dX5_cutOne_131 : decode cX5_cutOne 131 = .ok (.iload_n 1, 1) := by decide +kernel
theorem dX5_cutOne_132 : decode cX5_cutOne 132 = .ok (.aload_n 0, 1) := by decide +kernel
theorem dX5_cutOne_133 : decode cX5_cutOne 133 = .ok (.getfield 11, 3) := by decide +kernel
theorem dX5_cutOne_136 : decode cX5_cutOne 136 = .ok (.iload_n 2, 1) := by decide +kernel
theorem dX5_cutOne_137 : decode cX5_cutOne 137 = .ok (.iaload, 1) := by decide +kernel
theorem dX5_cutOne_138 : decode cX5_cutOne 138 = .ok (.invokestatic 110, 3) := by decide +kernel
theorem dX5_cutOne_141 : decode cX5_cutOne 141 = .ok (.ifCond .eq 12, 3) := by decide +kernel
theorem dX5_cutOne_144 : decode cX5_cutOne 144 = .ok (.aload_n 0, 1) := by decide +kernel
theorem dX5_cutOne_145 : decode cX5_cutOne 145 = .ok (.getfield 11, 3) := by decide +kernel
theorem dX5_cutOne_148 : decode cX5_cutOne 148 = .ok (.iload_n 2, 1) := by decide +kernel
theorem dX5_cutOne_149 : decode cX5_cutOne 149 = .ok (.iaload, 1) := by decide +kernel
theorem dX5_cutOne_150 : decode cX5_cutOne 150 = .ok (.goto 4, 3) := by decide +kernel
theorem dX5_cutOne_153 : decode cX5_cutOne 153 = .ok (.iconst (-1), 1) := by decide +kernel
theorem dX5_cutOne_154 : decode cX5_cutOne 154 = .ok (.iastore, 1) := by decide +kernel
theorem dX5_cutOne_155 : decode cX5_cutOne 155 = .ok (.iload_n 2, 1) := by decide +kernel
theorem dX5_cutOne_156 : decode cX5_cutOne 156 = .ok (.iconst 1, 1) := by decide +kernel
theorem dX5_cutOne_157 : decode cX5_cutOne 157 = .ok (.iadd, 1) := by decide +kernel
theorem dX5_cutOne_158 : decode cX5_cutOne 158 = .ok (.ireturn, 1) := by decide +kernel
set_option maxRecDepth 20000 in
theorem ggX5_wordOf_X5_nthWord : GoodIn wsX5_wordOf wsX5_nthWord := goodIn_r _ [4] (by decide +kernel) (by decide +kernel)
set_option maxRecDepth 20000 in
theorem gX5_wordOf_X5_nthWord : GoodIn wsX5_wordOf (va_wsS RX5 113 yX5_nthWord wsX5_nthWord) := goodIn_app (goodIn_of _ (by decide +kernel)) ggX5_wordOf_X5_nthWord
set_option maxRecDepth 20000 in
theorem ggX5_wordOf_X5_isSpelt : GoodIn wsX5_wordOf wsX5_isSpelt := goodIn_r _ [8, 9, 10, 11, 12, 13, 14, 15, 16, 17, 18, 19, 20, 21, 22, 23, 24, 25, 26, 27, 28, 29, 30, 31, 32, 33, 34, 35, 36, 37, 38, 39, 40, 41, 42, 43, 44, 45, 46, 47, 48, 49, 50, 51, 52, 53, 54, 55, 56, 57, 58, 59, 60, 61, 62, 63, 64, 65, 66] (by decide +kernel) (by decide +kernel)
set_option maxRecDepth 20000 in
theorem gX5_wordOf_X5_isSpelt : GoodIn wsX5_wordOf (wsV RX5 117 RX5 yX5_isSpelt wsX5_isSpelt) := goodIn_app (goodIn_of _ (by decide +kernel)) ggX5_wordOf_X5_isSpelt
theorem dX5_wordOf_0 : decode cX5_wordOf 0 = .ok (.iconst 1, 1) := by decide +kernel
theorem dX5_wordOf_1 : decode cX5_wordOf 1 = .ok (.istore_n 3, 1) := by decide +kernel
theorem dX5_wordOf_2 : decode cX5_wordOf 2 = .ok (.iload_n 3, 1) := by decide +kernel
theorem dX5_wordOf_3 : decode cX5_wordOf 3 = .ok (.bipush 11, 2) := by decide +kernel
theorem dX5_wordOf_5 : decode cX5_wordOf 5 = .ok (.if_icmp .gt 24, 3) := by decide +kernel
theorem dX5_wordOf_8 : decode cX5_wordOf 8 = .ok (.aload_n 0, 1) := by decide +kernel
theorem dX5_wordOf_9 : decode cX5_wordOf 9 = .ok (.iload_n 3, 1) := by decide +kernel
theorem dX5_wordOf_10 : decode cX5_wordOf 10 = .ok (.invokestatic 113, 3) := by decide +kernel
theorem dX5_wordOf_13 : decode cX5_wordOf 13 = .ok (.iload_n 1, 1) := by decide +kernel
theorem dX5_wordOf_14 : decode cX5_wordOf 14 = .ok (.iload_n 2, 1) := by decide +kernel
theorem dX5_wordOf_15 : decode cX5_wordOf 15 = .ok (.invokevirtual 117, 3) := by decide +kernel
theorem dX5_wordOf_18 : decode cX5_wordOf 18 = .ok (.ifCond .eq 5, 3) := by decide +kernel
theorem dX5_wordOf_21 : decode cX5_wordOf 21 = .ok (.iload_n 3, 1) := by decide +kernel
theorem dX5_wordOf_22 : decode cX5_wordOf 22 = .ok (.ireturn, 1) := by decide +kernel
theorem dX5_wordOf_23 : decode cX5_wordOf 23 = .ok (.iinc 3 1, 3) := by decide +kernel
theorem dX5_wordOf_26 : decode cX5_wordOf 26 = .ok (.goto (-24), 3) := by decide +kernel
theorem dX5_wordOf_29 : decode cX5_wordOf 29 = .ok (.iconst (-1), 1) := by decide +kernel
theorem dX5_wordOf_30 : decode cX5_wordOf 30 = .ok (.ireturn, 1) := by decide +kernel
set_option maxRecDepth 20000 in
theorem ggX5_isSpelt_J0_length_8abf5 : GoodIn wsX5_isSpelt wsJ0_length_8abf5 := goodIn_r _ [6, 7, 8, 9, 10, 5, 11, 12, 13] (by decide +kernel) (by decide +kernel)
set_option maxRecDepth 20000 in
theorem gX5_isSpelt_J0_length_8abf5 : GoodIn wsX5_isSpelt (wsV RX5 121 RJ0 yJ0_length_8abf5 wsJ0_length_8abf5) := goodIn_app (goodIn_of _ (by decide +kernel)) ggX5_isSpelt_J0_length_8abf5
set_option maxRecDepth 20000 in
theorem ggX5_isSpelt_J0_charAt_5068e : GoodIn wsX5_isSpelt wsJ0_charAt_5068e := goodIn_r _ [17, 7, 18, 19, 20, 5, 21, 12, 13, 22, 23, 24, 25, 26, 27, 28, 29, 30, 31, 32, 33, 34, 35, 36, 37, 38, 39, 40, 41, 42, 43, 44, 45, 46, 47, 48, 49, 50] (by decide +kernel) (by decide +kernel)
set_option maxRecDepth 20000 in
theorem gX5_isSpelt_J0_charAt_5068e : GoodIn wsX5_isSpelt (wsV RX5 127 RJ0 yJ0_charAt_5068e wsJ0_charAt_5068e) := goodIn_app (goodIn_of _ (by decide +kernel)) ggX5_isSpelt_J0_charAt_5068e
theorem dX5_isSpelt_0 : decode cX5_isSpelt 0 = .ok (.aload_n 1, 1) := by decide +kernel
theorem dX5_isSpelt_1 : decode cX5_isSpelt 1 = .ok (.invokevirtual 121, 3) := by decide +kernel
theorem dX5_isSpelt_4 : decode cX5_isSpelt 4 = .ok (.iload_n 3, 1) := by decide +kernel
theorem dX5_isSpelt_5 : decode cX5_isSpelt 5 = .ok (.iload_n 2, 1) := by decide +kernel
theorem dX5_isSpelt_6 : decode cX5_isSpelt 6 = .ok (.isub, 1) := by decide +kernel
theorem dX5_isSpelt_7 : decode cX5_isSpelt 7 = .ok (.if_icmp .eq 5, 3) := by decide +kernel
theorem dX5_isSpelt_10 : decode cX5_isSpelt 10 = .ok (.iconst 0, 1) := by decide +kernel
theorem dX5_isSpelt_11 : decode cX5_isSpelt 11 = .ok (.ireturn, 1) := by decide +kernel
theorem dX5_isSpelt_12 : decode cX5_isSpelt 12 = .ok (.iconst 0, 1) := by decide +kernel
theorem dX5_isSpelt_13 : decode cX5_isSpelt 13 = .ok (.istore 4, 2) := by decide +kernel
theorem dX5_isSpelt_15 : decode cX5_isSpelt 15 = .ok (.iload 4, 2) := by decide +kernel
theorem dX5_isSpelt_17 : decode cX5_isSpelt 17 = .ok (.aload_n 1, 1) := by decide +kernel
theorem dX5_isSpelt_18 : decode cX5_isSpelt 18 = .ok (.invokevirtual 121, 3) := by decide +kernel
theorem dX5_isSpelt_21 : decode cX5_isSpelt 21 = .ok (.if_icmp .ge 29, 3) := by decide +kernel
theorem dX5_isSpelt_24 : decode cX5_isSpelt 24 = .ok (.aload_n 1, 1) := by decide +kernel
theorem dX5_isSpelt_25 : decode cX5_isSpelt 25 = .ok (.iload 4, 2) := by decide +kernel
theorem dX5_isSpelt_27 : decode cX5_isSpelt 27 = .ok (.invokevirtual 127, 3) := by decide +kernel
theorem dX5_isSpelt_30 : decode cX5_isSpelt 30 = .ok (.aload_n 0, 1) := by decide +kernel
theorem dX5_isSpelt_31 : decode cX5_isSpelt 31 = .ok (.getfield 11, 3) := by decide +kernel
theorem dX5_isSpelt_34 : decode cX5_isSpelt 34 = .ok (.iload_n 2, 1) := by decide +kernel
theorem dX5_isSpelt_35 : decode cX5_isSpelt 35 = .ok (.iload 4, 2) := by decide +kernel
theorem dX5_isSpelt_37 : decode cX5_isSpelt 37 = .ok (.iadd, 1) := by decide +kernel
theorem dX5_isSpelt_38 : decode cX5_isSpelt 38 = .ok (.iaload, 1) := by decide +kernel
theorem dX5_isSpelt_39 : decode cX5_isSpelt 39 = .ok (.if_icmp .eq 5, 3) := by decide +kernel
theorem dX5_isSpelt_42 : decode cX5_isSpelt 42 = .ok (.iconst 0, 1) := by decide +kernel
theorem dX5_isSpelt_43 : decode cX5_isSpelt 43 = .ok (.ireturn, 1) := by decide +kernel
theorem dX5_isSpelt_44 : decode cX5_isSpelt 44 = .ok (.iinc 4 1, 3) := by decide +kernel
theorem dX5_isSpelt_47 : decode cX5_isSpelt 47 = .ok (.goto (-32), 3) := by decide +kernel
theorem dX5_isSpelt_50 : decode cX5_isSpelt 50 = .ok (.iconst 1, 1) := by decide +kernel
theorem dX5_isSpelt_51 : decode cX5_isSpelt 51 = .ok (.ireturn, 1) := by decide +kernel
theorem dX5_isBlank_0 : decode cX5_isBlank 0 = .ok (.iload_n 0, 1) := by decide +kernel
theorem dX5_isBlank_1 : decode cX5_isBlank 1 = .ok (.bipush 32, 2) := by decide +kernel
theorem dX5_isBlank_3 : decode cX5_isBlank 3 = .ok (.if_icmp .eq 9, 3) := by decide +kernel
theorem dX5_isBlank_6 : decode cX5_isBlank 6 = .ok (.iload_n 0, 1) := by decide +kernel
theorem dX5_isBlank_7 : decode cX5_isBlank 7 = .ok (.bipush 10, 2) := by decide +kernel
theorem dX5_isBlank_9 : decode cX5_isBlank 9 = .ok (.if_icmp .ne 7, 3) := by decide +kernel
theorem dX5_isBlank_12 : decode cX5_isBlank 12 = .ok (.iconst 1, 1) := by decide +kernel
theorem dX5_isBlank_13 : decode cX5_isBlank 13 = .ok (.goto 4, 3) := by decide +kernel
theorem dX5_isBlank_16 : decode cX5_isBlank 16 = .ok (.iconst 0, 1) := by decide +kernel
theorem dX5_isBlank_17 : decode cX5_isBlank 17 = .ok (.ireturn, 1) := by decide +kernel
theorem dX5_isLetter_0 : decode cX5_isLetter 0 = .ok (.iload_n 0, 1) := by decide +kernel
theorem dX5_isLetter_1 : decode cX5_isLetter 1 = .ok (.bipush 97, 2) := by decide +kernel
theorem dX5_isLetter_3 : decode cX5_isLetter 3 = .ok (.if_icmp .lt 13, 3) := by decide +kernel
theorem dX5_isLetter_6 : decode cX5_isLetter 6 = .ok (.iload_n 0, 1) := by decide +kernel
theorem dX5_isLetter_7 : decode cX5_isLetter 7 = .ok (.bipush 122, 2) := by decide +kernel
theorem dX5_isLetter_9 : decode cX5_isLetter 9 = .ok (.if_icmp .gt 7, 3) := by decide +kernel
theorem dX5_isLetter_12 : decode cX5_isLetter 12 = .ok (.iconst 1, 1) := by decide +kernel
theorem dX5_isLetter_13 : decode cX5_isLetter 13 = .ok (.goto 4, 3) := by decide +kernel
theorem dX5_isLetter_16 : decode cX5_isLetter 16 = .ok (.iconst 0, 1) := by decide +kernel
theorem dX5_isLetter_17 : decode cX5_isLetter 17 = .ok (.ireturn, 1) := by decide +kernel
theorem dX5_isDigit_0 : decode cX5_isDigit 0 = .ok (.iload_n 0, 1) := by decide +kernel
theorem dX5_isDigit_1 : decode cX5_isDigit 1 = .ok (.bipush 48, 2) := by decide +kernel
theorem dX5_isDigit_3 : decode cX5_isDigit 3 = .ok (.if_icmp .lt 13, 3) := by decide +kernel
theorem dX5_isDigit_6 : decode cX5_isDigit 6 = .ok (.iload_n 0, 1) := by decide +kernel
theorem dX5_isDigit_7 : decode cX5_isDigit 7 = .ok (.bipush 57, 2) := by decide +kernel
theorem dX5_isDigit_9 : decode cX5_isDigit 9 = .ok (.if_icmp .gt 7, 3) := by decide +kernel
theorem dX5_isDigit_12 : decode cX5_isDigit 12 = .ok (.iconst 1, 1) := by decide +kernel
theorem dX5_isDigit_13 : decode cX5_isDigit 13 = .ok (.goto 4, 3) := by decide +kernel
theorem dX5_isDigit_16 : decode cX5_isDigit 16 = .ok (.iconst 0, 1) := by decide +kernel
theorem dX5_isDigit_17 : decode cX5_isDigit 17 = .ok (.ireturn, 1) := by decide +kernel
theorem dX5_isSign_0 : decode cX5_isSign 0 = .ok (.iload_n 0, 1) := by decide +kernel
theorem dX5_isSign_1 : decode cX5_isSign 1 = .ok (.bipush 40, 2) := by decide +kernel
theorem dX5_isSign_3 : decode cX5_isSign 3 = .ok (.if_icmp .lt 9, 3) := by decide +kernel
theorem dX5_isSign_6 : decode cX5_isSign 6 = .ok (.iload_n 0, 1) := by decide +kernel
theorem dX5_isSign_7 : decode cX5_isSign 7 = .ok (.bipush 43, 2) := by decide +kernel
theorem dX5_isSign_9 : decode cX5_isSign 9 = .ok (.if_icmp .le 21, 3) := by decide +kernel
theorem dX5_isSign_12 : decode cX5_isSign 12 = .ok (.iload_n 0, 1) := by decide +kernel
theorem dX5_isSign_13 : decode cX5_isSign 13 = .ok (.bipush 45, 2) := by decide +kernel
theorem dX5_isSign_15 : decode cX5_isSign 15 = .ok (.if_icmp .eq 15, 3) := by decide +kernel
theorem dX5_isSign_18 : decode cX5_isSign 18 = .ok (.iload_n 0, 1) := by decide +kernel
theorem dX5_isSign_19 : decode cX5_isSign 19 = .ok (.bipush 59, 2) := by decide +kernel
theorem dX5_isSign_21 : decode cX5_isSign 21 = .ok (.if_icmp .lt 13, 3) := by decide +kernel
theorem dX5_isSign_24 : decode cX5_isSign 24 = .ok (.iload_n 0, 1) := by decide +kernel
theorem dX5_isSign_25 : decode cX5_isSign 25 = .ok (.bipush 61, 2) := by decide +kernel
theorem dX5_isSign_27 : decode cX5_isSign 27 = .ok (.if_icmp .gt 7, 3) := by decide +kernel
theorem dX5_isSign_30 : decode cX5_isSign 30 = .ok (.iconst 1, 1) := by decide +kernel
theorem dX5_isSign_31 : decode cX5_isSign 31 = .ok (.goto 4, 3) := by decide +kernel
theorem dX5_isSign_34 : decode cX5_isSign 34 = .ok (.iconst 0, 1) := by decide +kernel
theorem dX5_isSign_35 : decode cX5_isSign 35 = .ok (.ireturn, 1) := by decide +kernel
theorem dX5_nthWord_0 : decode cX5_nthWord 0 = .ok (.iload_n 0, 1) := by decide +kernel
theorem dX5_nthWord_1 : decode cX5_nthWord 1 = .ok (.tableswitch 85 1 10 #[55, 58, 61, 64, 67, 70, 73, 76, 79, 82], 55) := by decide +kernel
theorem dX5_nthWord_56 : decode cX5_nthWord 56 = .ok (.ldc 131, 2) := by decide +kernel
theorem dX5_nthWord_58 : decode cX5_nthWord 58 = .ok (.areturn, 1) := by decide +kernel
theorem dX5_nthWord_59 : decode cX5_nthWord 59 = .ok (.ldc 133, 2) := by decide +kernel
theorem dX5_nthWord_61 : decode cX5_nthWord 61 = .ok (.areturn, 1) := by decide +kernel
theorem dX5_nthWord_62 : decode cX5_nthWord 62 = .ok (.ldc 135, 2) := by decide +kernel
theorem dX5_nthWord_64 : decode cX5_nthWord 64 = .ok (.areturn, 1) := by decide +kernel
theorem dX5_nthWord_65 : decode cX5_nthWord 65 = .ok (.ldc 137, 2) := by decide +kernel
theorem dX5_nthWord_67 : decode cX5_nthWord 67 = .ok (.areturn, 1) := by decide +kernel
theorem dX5_nthWord_68 : decode cX5_nthWord 68 = .ok (.ldc 139, 2) := by decide +kernel
theorem dX5_nthWord_70 : decode cX5_nthWord 70 = .ok (.areturn, 1) := by decide +kernel
theorem dX5_nthWord_71 : decode cX5_nthWord 71 = .ok (.ldc 141, 2) := by decide +kernel
theorem dX5_nthWord_73 : decode cX5_nthWord 73 = .ok (.areturn, 1) := by decide +kernel
theorem dX5_nthWord_74 : decode cX5_nthWord 74 = .ok (.ldc 143, 2) := by decide +kernel
theorem dX5_nthWord_76 : decode cX5_nthWord 76 = .ok (.areturn, 1) := by decide +kernel
theorem dX5_nthWord_77 : decode cX5_nthWord 77 = .ok (.ldc 145, 2) := by decide +kernel
theorem dX5_nthWord_79 : decode cX5_nthWord 79 = .ok (.areturn, 1) := by decide +kernel
theorem dX5_nthWord_80 : decode cX5_nthWord 80 = .ok (.ldc 147, 2) := by decide +kernel
theorem dX5_nthWord_82 : decode cX5_nthWord 82 = .ok (.areturn, 1) := by decide +kernel
theorem dX5_nthWord_83 : decode cX5_nthWord 83 = .ok (.ldc 149, 2) := by decide +kernel
theorem dX5_nthWord_85 : decode cX5_nthWord 85 = .ok (.areturn, 1) := by decide +kernel
theorem dX5_nthWord_86 : decode cX5_nthWord 86 = .ok (.ldc 151, 2) := by decide +kernel
theorem dX5_nthWord_88 : decode cX5_nthWord 88 = .ok (.areturn, 1) := by decide +kernel
theorem dX6_init_0 : decode cX6_init 0 = .ok (.aload_n 0, 1) := by decide +kernel
theorem dX6_init_1 : decode cX6_init 1 = .ok (.invokespecial 3, 3) := by decide +kernel
theorem dX6_init_4 : decode cX6_init 4 = .ok (.aload_n 0, 1) := by decide +kernel
theorem dX6_init_5 : decode cX6_init 5 = .ok (.bipush 16, 2) := by decide +kernel
theorem dX6_init_7 : decode cX6_init 7 = .ok (.newarray .long, 2) := by decide +kernel
theorem dX6_init_9 : decode cX6_init 9 = .ok (.putfield 9, 3) := by decide +kernel
theorem dX6_init_12 : decode cX6_init 12 = .ok (.aload_n 0, 1) := by decide +kernel
theorem dX6_init_13 : decode cX6_init 13 = .ok (.bipush 64, 2) := by decide +kernel
theorem dX6_init_15 : decode cX6_init 15 = .ok (.newarray .long, 2) := by decide +kernel
theorem dX6_init_17 : decode cX6_init 17 = .ok (.putfield 15, 3) := by decide +kernel
theorem dX6_init_20 : decode cX6_init 20 = .ok (.aload_n 0, 1) := by decide +kernel
theorem dX6_init_21 : decode cX6_init 21 = .ok (.iconst 3, 1) := by decide +kernel
theorem dX6_init_22 : decode cX6_init 22 = .ok (.newarray .int, 2) := by decide +kernel
theorem dX6_init_24 : decode cX6_init 24 = .ok (.putfield 18, 3) := by decide +kernel
theorem dX6_init_27 : decode cX6_init 27 = .ok (.aload_n 0, 1) := by decide +kernel
theorem dX6_init_28 : decode cX6_init 28 = .ok (.iconst 3, 1) := by decide +kernel
theorem dX6_init_29 : decode cX6_init 29 = .ok (.newarray .int, 2) := by decide +kernel
theorem dX6_init_31 : decode cX6_init 31 = .ok (.putfield 22, 3) := by decide +kernel
theorem dX6_init_34 : decode cX6_init 34 = .ok (.return_, 1) := by decide +kernel
theorem dX6_addLane_0 : decode cX6_addLane 0 = .ok (.aload_n 0, 1) := by decide +kernel
theorem dX6_addLane_1 : decode cX6_addLane 1 = .ok (.getfield 9, 3) := by decide +kernel
theorem dX6_addLane_4 : decode cX6_addLane 4 = .ok (.aload_n 0, 1) := by decide +kernel
theorem dX6_addLane_5 : decode cX6_addLane 5 = .ok (.getfield 25, 3) := by decide +kernel
theorem dX6_addLane_8 : decode cX6_addLane 8 = .ok (.lload_n 1, 1) := by decide +kernel
theorem dX6_addLane_9 : decode cX6_addLane 9 = .ok (.lastore, 1) := by decide +kernel
theorem dX6_addLane_10 : decode cX6_addLane 10 = .ok (.aload_n 0, 1) := by decide +kernel
theorem dX6_addLane_11 : decode cX6_addLane 11 = .ok (.dup, 1) := by decide +kernel
theorem dX6_addLane_12 : decode cX6_addLane 12 = .ok (.getfield 25, 3) := by decide +kernel
theorem dX6_addLane_15 : decode cX6_addLane 15 = .ok (.dup_x1, 1) := by decide +kernel
theorem dX6_addLane_16 : decode cX6_addLane 16 = .ok (.iconst 1, 1) := by decide +kernel
theorem dX6_addLane_17 : decode cX6_addLane 17 = .ok (.iadd, 1) := by decide +kernel
theorem dX6_addLane_18 : decode cX6_addLane 18 = .ok (.putfield 25, 3) := by decide +kernel
theorem dX6_addLane_21 : decode cX6_addLane 21 = .ok (.ireturn, 1) := by decide +kernel
set_option maxRecDepth 20000 in
theorem ggX6_weigh_X11_has : GoodIn wsX6_weigh wsX11_has := goodIn_r _ [5] (by decide +kernel) (by decide +kernel)
set_option maxRecDepth 20000 in
theorem gX6_weigh_X11_has_n33 : GoodIn wsX6_weigh (wsX11_has) := ggX6_weigh_X11_has
set_option maxRecDepth 20000 in
theorem ggX6_weigh_X6_weightIn : GoodIn wsX6_weigh wsX6_weightIn := goodIn_r _ [10, 11, 12, 13, 14, 15, 3, 4, 5, 16, 17, 18, 19, 20, 21, 29, 30, 31, 32, 33, 34, 35, 36, 37, 38, 39, 40, 41, 42, 43, 22, 23, 24, 25, 26, 27, 28, 44, 45, 46, 47] (by decide +kernel) (by decide +kernel)
set_option maxRecDepth 20000 in
theorem gX6_weigh_X6_weightIn : GoodIn wsX6_weigh (wsV RX6 37 RX6 yX6_weightIn wsX6_weightIn) := goodIn_app (goodIn_of _ (by decide +kernel)) ggX6_weigh_X6_weightIn
theorem dX6_weigh_0 : decode cX6_weigh 0 = .ok (.aload_n 0, 1) := by decide +kernel
theorem dX6_weigh_1 : decode cX6_weigh 1 = .ok (.lconst 0, 1) := by decide +kernel
theorem dX6_weigh_2 : decode cX6_weigh 2 = .ok (.putfield 29, 3) := by decide +kernel
theorem dX6_weigh_5 : decode cX6_weigh 5 = .ok (.iconst 0, 1) := by decide +kernel
theorem dX6_weigh_6 : decode cX6_weigh 6 = .ok (.istore 5, 2) := by decide +kernel
theorem dX6_weigh_8 : decode cX6_weigh 8 = .ok (.iload 5, 2) := by decide +kernel
theorem dX6_weigh_10 : decode cX6_weigh 10 = .ok (.bipush 64, 2) := by decide +kernel
theorem dX6_weigh_12 : decode cX6_weigh 12 = .ok (.if_icmp .ge 54, 3) := by decide +kernel
theorem dX6_weigh_15 : decode cX6_weigh 15 = .ok (.aload_n 0, 1) := by decide +kernel
theorem dX6_weigh_16 : decode cX6_weigh 16 = .ok (.getfield 15, 3) := by decide +kernel
theorem dX6_weigh_19 : decode cX6_weigh 19 = .ok (.iload 5, 2) := by decide +kernel
theorem dX6_weigh_21 : decode cX6_weigh 21 = .ok (.lload_n 2, 1) := by decide +kernel
theorem dX6_weigh_22 : decode cX6_weigh 22 = .ok (.iload 5, 2) := by decide +kernel
theorem dX6_weigh_24 : decode cX6_weigh 24 = .ok (.invokestatic 33, 3) := by decide +kernel
theorem dX6_weigh_27 : decode cX6_weigh 27 = .ok (.ifCond .eq 15, 3) := by decide +kernel
theorem dX6_weigh_30 : decode cX6_weigh 30 = .ok (.aload_n 0, 1) := by decide +kernel
theorem dX6_weigh_31 : decode cX6_weigh 31 = .ok (.aload_n 1, 1) := by decide +kernel
theorem dX6_weigh_32 : decode cX6_weigh 32 = .ok (.iload 5, 2) := by decide +kernel
theorem dX6_weigh_34 : decode cX6_weigh 34 = .ok (.aload 4, 2) := by decide +kernel
theorem dX6_weigh_36 : decode cX6_weigh 36 = .ok (.invokevirtual 37, 3) := by decide +kernel
theorem dX6_weigh_39 : decode cX6_weigh 39 = .ok (.goto 4, 3) := by decide +kernel
theorem dX6_weigh_42 : decode cX6_weigh 42 = .ok (.lconst 0, 1) := by decide +kernel
theorem dX6_weigh_43 : decode cX6_weigh 43 = .ok (.lastore, 1) := by decide +kernel
theorem dX6_weigh_44 : decode cX6_weigh 44 = .ok (.aload_n 0, 1) := by decide +kernel
theorem dX6_weigh_45 : decode cX6_weigh 45 = .ok (.dup, 1) := by decide +kernel
theorem dX6_weigh_46 : decode cX6_weigh 46 = .ok (.getfield 29, 3) := by decide +kernel
theorem dX6_weigh_49 : decode cX6_weigh 49 = .ok (.aload_n 0, 1) := by decide +kernel
theorem dX6_weigh_50 : decode cX6_weigh 50 = .ok (.getfield 15, 3) := by decide +kernel
theorem dX6_weigh_53 : decode cX6_weigh 53 = .ok (.iload 5, 2) := by decide +kernel
theorem dX6_weigh_55 : decode cX6_weigh 55 = .ok (.laload, 1) := by decide +kernel
theorem dX6_weigh_56 : decode cX6_weigh 56 = .ok (.ladd, 1) := by decide +kernel
theorem dX6_weigh_57 : decode cX6_weigh 57 = .ok (.putfield 29, 3) := by decide +kernel
theorem dX6_weigh_60 : decode cX6_weigh 60 = .ok (.iinc 5 1, 3) := by decide +kernel
theorem dX6_weigh_63 : decode cX6_weigh 63 = .ok (.goto (-55), 3) := by decide +kernel
theorem dX6_weigh_66 : decode cX6_weigh 66 = .ok (.return_, 1) := by decide +kernel
set_option maxRecDepth 20000 in
theorem ggX6_weightIn_X11_has : GoodIn wsX6_weightIn wsX11_has := goodIn_r _ [8] (by decide +kernel) (by decide +kernel)
set_option maxRecDepth 20000 in
theorem gX6_weightIn_X11_has_n33 : GoodIn wsX6_weightIn (wsX11_has) := ggX6_weightIn_X11_has
set_option maxRecDepth 20000 in
theorem ggX6_weightIn_X10_fogAt : GoodIn wsX6_weightIn wsX10_fogAt := goodIn_r _ [13, 14, 37, 38, 39, 40] (by decide +kernel) (by decide +kernel)
set_option maxRecDepth 20000 in
theorem gX6_weightIn_X10_fogAt : GoodIn wsX6_weightIn (wsV RX6 52 RX10 yX10_fogAt wsX10_fogAt) := goodIn_app (goodIn_of _ (by decide +kernel)) ggX6_weightIn_X10_fogAt
theorem dX6_weightIn_0 : decode cX6_weightIn 0 = .ok (.lconst 1, 1) := by decide +kernel
theorem dX6_weightIn_1 : decode cX6_weightIn 1 = .ok (.lstore 4, 2) := by decide +kernel
theorem dX6_weightIn_3 : decode cX6_weightIn 3 = .ok (.iconst 0, 1) := by decide +kernel
theorem dX6_weightIn_4 : decode cX6_weightIn 4 = .ok (.istore 6, 2) := by decide +kernel
theorem dX6_weightIn_6 : decode cX6_weightIn 6 = .ok (.iload 6, 2) := by decide +kernel
theorem dX6_weightIn_8 : decode cX6_weightIn 8 = .ok (.aload_n 1, 1) := by decide +kernel
theorem dX6_weightIn_9 : decode cX6_weightIn 9 = .ok (.getfield 41, 3) := by decide +kernel
theorem dX6_weightIn_12 : decode cX6_weightIn 12 = .ok (.if_icmp .ge 55, 3) := by decide +kernel
theorem dX6_weightIn_15 : decode cX6_weightIn 15 = .ok (.aload_n 0, 1) := by decide +kernel
theorem dX6_weightIn_16 : decode cX6_weightIn 16 = .ok (.getfield 9, 3) := by decide +kernel
theorem dX6_weightIn_19 : decode cX6_weightIn 19 = .ok (.aload_n 1, 1) := by decide +kernel
theorem dX6_weightIn_20 : decode cX6_weightIn 20 = .ok (.getfield 46, 3) := by decide +kernel
theorem dX6_weightIn_23 : decode cX6_weightIn 23 = .ok (.iload 6, 2) := by decide +kernel
theorem dX6_weightIn_25 : decode cX6_weightIn 25 = .ok (.iaload, 1) := by decide +kernel
theorem dX6_weightIn_26 : decode cX6_weightIn 26 = .ok (.laload, 1) := by decide +kernel
theorem dX6_weightIn_27 : decode cX6_weightIn 27 = .ok (.iload_n 2, 1) := by decide +kernel
theorem dX6_weightIn_28 : decode cX6_weightIn 28 = .ok (.invokestatic 33, 3) := by decide +kernel
theorem dX6_weightIn_31 : decode cX6_weightIn 31 = .ok (.istore 7, 2) := by decide +kernel
theorem dX6_weightIn_33 : decode cX6_weightIn 33 = .ok (.lload 4, 2) := by decide +kernel
theorem dX6_weightIn_35 : decode cX6_weightIn 35 = .ok (.iload 7, 2) := by decide +kernel
theorem dX6_weightIn_37 : decode cX6_weightIn 37 = .ok (.ifCond .eq 18, 3) := by decide +kernel
theorem dX6_weightIn_40 : decode cX6_weightIn 40 = .ok (.aload_n 3, 1) := by decide +kernel
theorem dX6_weightIn_41 : decode cX6_weightIn 41 = .ok (.aload_n 1, 1) := by decide +kernel
theorem dX6_weightIn_42 : decode cX6_weightIn 42 = .ok (.getfield 49, 3) := by decide +kernel
theorem dX6_weightIn_45 : decode cX6_weightIn 45 = .ok (.iload 6, 2) := by decide +kernel
theorem dX6_weightIn_47 : decode cX6_weightIn 47 = .ok (.iaload, 1) := by decide +kernel
theorem dX6_weightIn_48 : decode cX6_weightIn 48 = .ok (.invokevirtual 52, 3) := by decide +kernel
theorem dX6_weightIn_51 : decode cX6_weightIn 51 = .ok (.i2l, 1) := by decide +kernel
theorem dX6_weightIn_52 : decode cX6_weightIn 52 = .ok (.goto 6, 3) := by decide +kernel
theorem dX6_weightIn_55 : decode cX6_weightIn 55 = .ok (.ldc2_w 58, 3) := by decide +kernel
theorem dX6_weightIn_58 : decode cX6_weightIn 58 = .ok (.lmul, 1) := by decide +kernel
theorem dX6_weightIn_59 : decode cX6_weightIn 59 = .ok (.lstore 4, 2) := by decide +kernel
theorem dX6_weightIn_61 : decode cX6_weightIn 61 = .ok (.iinc 6 1, 3) := by decide +kernel
theorem dX6_weightIn_64 : decode cX6_weightIn 64 = .ok (.goto (-58), 3) := by decide +kernel
theorem dX6_weightIn_67 : decode cX6_weightIn 67 = .ok (.lload 4, 2) := by decide +kernel
theorem dX6_weightIn_69 : decode cX6_weightIn 69 = .ok (.lreturn, 1) := by decide +kernel
set_option maxRecDepth 20000 in
theorem ggX6_shareOf_X6_commonDivisor : GoodIn wsX6_shareOf wsX6_commonDivisor := goodIn_r _ [6] (by decide +kernel) (by decide +kernel)
set_option maxRecDepth 20000 in
theorem gX6_shareOf_X6_commonDivisor : GoodIn wsX6_shareOf (va_wsS RX6 60 yX6_commonDivisor wsX6_commonDivisor) := goodIn_app (goodIn_of _ (by decide +kernel)) ggX6_shareOf_X6_commonDivisor
theorem dX6_shareOf_0 : decode cX6_shareOf 0 = .ok (.aload_n 0, 1) := by decide +kernel
theorem dX6_shareOf_1 : decode cX6_shareOf 1 = .ok (.getfield 15, 3) := by decide +kernel
theorem dX6_shareOf_4 : decode cX6_shareOf 4 = .ok (.iload_n 1, 1) := by decide +kernel
theorem dX6_shareOf_5 : decode cX6_shareOf 5 = .ok (.laload, 1) := by decide +kernel
theorem dX6_shareOf_6 : decode cX6_shareOf 6 = .ok (.lconst 0, 1) := by decide +kernel
theorem dX6_shareOf_7 : decode cX6_shareOf 7 = .ok (.lcmp, 1) := by decide +kernel
theorem dX6_shareOf_8 : decode cX6_shareOf 8 = .ok (.ifCond .eq 12, 3) := by decide +kernel
theorem dX6_shareOf_11 : decode cX6_shareOf 11 = .ok (.aload_n 0, 1) := by decide +kernel
theorem dX6_shareOf_12 : decode cX6_shareOf 12 = .ok (.getfield 29, 3) := by decide +kernel
theorem dX6_shareOf_15 : decode cX6_shareOf 15 = .ok (.lconst 0, 1) := by decide +kernel
theorem dX6_shareOf_16 : decode cX6_shareOf 16 = .ok (.lcmp, 1) := by decide +kernel
theorem dX6_shareOf_17 : decode cX6_shareOf 17 = .ok (.ifCond .ne 6, 3) := by decide +kernel
theorem dX6_shareOf_20 : decode cX6_shareOf 20 = .ok (.iload_n 2, 1) := by decide +kernel
theorem dX6_shareOf_21 : decode cX6_shareOf 21 = .ok (.i2l, 1) := by decide +kernel
theorem dX6_shareOf_22 : decode cX6_shareOf 22 = .ok (.lreturn, 1) := by decide +kernel
theorem dX6_shareOf_23 : decode cX6_shareOf 23 = .ok (.aload_n 0, 1) := by decide +kernel
theorem dX6_shareOf_24 : decode cX6_shareOf 24 = .ok (.getfield 29, 3) := by decide +kernel
theorem dX6_shareOf_27 : decode cX6_shareOf 27 = .ok (.aload_n 0, 1) := by decide +kernel
theorem dX6_shareOf_28 : decode cX6_shareOf 28 = .ok (.getfield 15, 3) := by decide +kernel
theorem dX6_shareOf_31 : decode cX6_shareOf 31 = .ok (.iload_n 1, 1) := by decide +kernel
theorem dX6_shareOf_32 : decode cX6_shareOf 32 = .ok (.laload, 1) := by decide +kernel
theorem dX6_shareOf_33 : decode cX6_shareOf 33 = .ok (.invokestatic 60, 3) := by decide +kernel
theorem dX6_shareOf_36 : decode cX6_shareOf 36 = .ok (.lstore_n 3, 1) := by decide +kernel
theorem dX6_shareOf_37 : decode cX6_shareOf 37 = .ok (.iload_n 2, 1) := by decide +kernel
theorem dX6_shareOf_38 : decode cX6_shareOf 38 = .ok (.ifCond .ne 12, 3) := by decide +kernel
theorem dX6_shareOf_41 : decode cX6_shareOf 41 = .ok (.aload_n 0, 1) := by decide +kernel
theorem dX6_shareOf_42 : decode cX6_shareOf 42 = .ok (.getfield 15, 3) := by decide +kernel
theorem dX6_shareOf_45 : decode cX6_shareOf 45 = .ok (.iload_n 1, 1) := by decide +kernel
theorem dX6_shareOf_46 : decode cX6_shareOf 46 = .ok (.laload, 1) := by decide +kernel
theorem dX6_shareOf_47 : decode cX6_shareOf 47 = .ok (.goto 7, 3) := by decide +kernel
theorem dX6_shareOf_50 : decode cX6_shareOf 50 = .ok (.aload_n 0, 1) := by decide +kernel
theorem dX6_shareOf_51 : decode cX6_shareOf 51 = .ok (.getfield 29, 3) := by decide +kernel
theorem dX6_shareOf_54 : decode cX6_shareOf 54 = .ok (.lload_n 3, 1) := by decide +kernel
theorem dX6_shareOf_55 : decode cX6_shareOf 55 = .ok (.ldiv, 1) := by decide +kernel
theorem dX6_shareOf_56 : decode cX6_shareOf 56 = .ok (.lreturn, 1) := by decide +kernel
theorem dX6_commonDivisor_0 : decode cX6_commonDivisor 0 = .ok (.lload_n 0, 1) := by decide +kernel
theorem dX6_commonDivisor_1 : decode cX6_commonDivisor 1 = .ok (.lstore 4, 2) := by decide +kernel
theorem dX6_commonDivisor_3 : decode cX6_commonDivisor 3 = .ok (.lload_n 2, 1) := by decide +kernel
theorem dX6_commonDivisor_4 : decode cX6_commonDivisor 4 = .ok (.lstore 6, 2) := by decide +kernel
theorem dX6_commonDivisor_6 : decode cX6_commonDivisor 6 = .ok (.iconst 0, 1) := by decide +kernel
theorem dX6_commonDivisor_7 : decode cX6_commonDivisor 7 = .ok (.istore 8, 2) := by decide +kernel
theorem dX6_commonDivisor_9 : decode cX6_commonDivisor 9 = .ok (.iload 8, 2) := by decide +kernel
theorem dX6_commonDivisor_11 : decode cX6_commonDivisor 11 = .ok (.sipush 200, 3) := by decide +kernel
theorem dX6_commonDivisor_14 : decode cX6_commonDivisor 14 = .ok (.if_icmp .ge 31, 3) := by decide +kernel
theorem dX6_commonDivisor_17 : decode cX6_commonDivisor 17 = .ok (.lload 6, 2) := by decide +kernel
theorem dX6_commonDivisor_19 : decode cX6_commonDivisor 19 = .ok (.lconst 0, 1) := by decide +kernel
theorem dX6_commonDivisor_20 : decode cX6_commonDivisor 20 = .ok (.lcmp, 1) := by decide +kernel
theorem dX6_commonDivisor_21 : decode cX6_commonDivisor 21 = .ok (.ifCond .eq 24, 3) := by decide +kernel
theorem dX6_commonDivisor_24 : decode cX6_commonDivisor 24 = .ok (.lload 4, 2) := by decide +kernel
theorem dX6_commonDivisor_26 : decode cX6_commonDivisor 26 = .ok (.lload 6, 2) := by decide +kernel
theorem dX6_commonDivisor_28 : decode cX6_commonDivisor 28 = .ok (.lrem, 1) := by decide +kernel
theorem dX6_commonDivisor_29 : decode cX6_commonDivisor 29 = .ok (.lstore 9, 2) := by decide +kernel
theorem dX6_commonDivisor_31 : decode cX6_commonDivisor 31 = .ok (.lload 6, 2) := by decide +kernel
theorem dX6_commonDivisor_33 : decode cX6_commonDivisor 33 = .ok (.lstore 4, 2) := by decide +kernel
theorem dX6_commonDivisor_35 : decode cX6_commonDivisor 35 = .ok (.lload 9, 2) := by decide +kernel
theorem dX6_commonDivisor_37 : decode cX6_commonDivisor 37 = .ok (.lstore 6, 2) := by decide +kernel
theorem dX6_commonDivisor_39 : decode cX6_commonDivisor 39 = .ok (.iinc 8 1, 3) := by decide +kernel
theorem dX6_commonDivisor_42 : decode cX6_commonDivisor 42 = .ok (.goto (-33), 3) := by decide +kernel
theorem dX6_commonDivisor_45 : decode cX6_commonDivisor 45 = .ok (.lload 4, 2) := by decide +kernel
theorem dX6_commonDivisor_47 : decode cX6_commonDivisor 47 = .ok (.lconst 0, 1) := by decide +kernel
theorem dX6_commonDivisor_48 : decode cX6_commonDivisor 48 = .ok (.lcmp, 1) := by decide +kernel
theorem dX6_commonDivisor_49 : decode cX6_commonDivisor 49 = .ok (.ifCond .ne 7, 3) := by decide +kernel
theorem dX6_commonDivisor_52 : decode cX6_commonDivisor 52 = .ok (.lconst 1, 1) := by decide +kernel
theorem dX6_commonDivisor_53 : decode cX6_commonDivisor 53 = .ok (.goto 5, 3) := by decide +kernel
theorem dX6_commonDivisor_56 : decode cX6_commonDivisor 56 = .ok (.lload 4, 2) := by decide +kernel
theorem dX6_commonDivisor_58 : decode cX6_commonDivisor 58 = .ok (.lreturn, 1) := by decide +kernel
theorem dX6_thousandths_0 : decode cX6_thousandths 0 = .ok (.aload_n 0, 1) := by decide +kernel
theorem dX6_thousandths_1 : decode cX6_thousandths 1 = .ok (.getfield 29, 3) := by decide +kernel
theorem dX6_thousandths_4 : decode cX6_thousandths 4 = .ok (.lconst 0, 1) := by decide +kernel
theorem dX6_thousandths_5 : decode cX6_thousandths 5 = .ok (.lcmp, 1) := by decide +kernel
theorem dX6_thousandths_6 : decode cX6_thousandths 6 = .ok (.ifCond .ne 7, 3) := by decide +kernel
theorem dX6_thousandths_9 : decode cX6_thousandths 9 = .ok (.iconst 0, 1) := by decide +kernel
theorem dX6_thousandths_10 : decode cX6_thousandths 10 = .ok (.goto 17, 3) := by decide +kernel
theorem dX6_thousandths_13 : decode cX6_thousandths 13 = .ok (.ldc2_w 64, 3) := by decide +kernel
theorem dX6_thousandths_16 : decode cX6_thousandths 16 = .ok (.aload_n 0, 1) := by decide +kernel
theorem dX6_thousandths_17 : decode cX6_thousandths 17 = .ok (.getfield 66, 3) := by decide +kernel
theorem dX6_thousandths_20 : decode cX6_thousandths 20 = .ok (.lmul, 1) := by decide +kernel
theorem dX6_thousandths_21 : decode cX6_thousandths 21 = .ok (.aload_n 0, 1) := by decide +kernel
theorem dX6_thousandths_22 : decode cX6_thousandths 22 = .ok (.getfield 29, 3) := by decide +kernel
theorem dX6_thousandths_25 : decode cX6_thousandths 25 = .ok (.ldiv, 1) := by decide +kernel
theorem dX6_thousandths_26 : decode cX6_thousandths 26 = .ok (.l2i, 1) := by decide +kernel
theorem dX6_thousandths_27 : decode cX6_thousandths 27 = .ok (.ireturn, 1) := by decide +kernel
set_option maxRecDepth 20000 in
theorem ggX6_choose_X6_tryLanes : GoodIn wsX6_choose wsX6_tryLanes := goodIn_r _ [7, 8, 9, 10, 11, 12, 13, 6, 14, 15, 2, 16, 17, 18, 19, 20, 21, 22, 23, 3, 4, 5, 24, 25, 26, 27, 28, 29, 30] (by decide +kernel) (by decide +kernel)
set_option maxRecDepth 20000 in
theorem gX6_choose_X6_tryLanes : GoodIn wsX6_choose (wsV RX6 71 RX6 yX6_tryLanes wsX6_tryLanes) := goodIn_app (goodIn_of _ (by decide +kernel)) ggX6_choose_X6_tryLanes
theorem dX6_choose_0 : decode cX6_choose 0 = .ok (.aload_n 0, 1) := by decide +kernel
theorem dX6_choose_1 : decode cX6_choose 1 = .ok (.ldc2_w 69, 3) := by decide +kernel
theorem dX6_choose_4 : decode cX6_choose 4 = .ok (.putfield 66, 3) := by decide +kernel
theorem dX6_choose_7 : decode cX6_choose 7 = .ok (.aload_n 0, 1) := by decide +kernel
theorem dX6_choose_8 : decode cX6_choose 8 = .ok (.iload_n 1, 1) := by decide +kernel
theorem dX6_choose_9 : decode cX6_choose 9 = .ok (.iload_n 2, 1) := by decide +kernel
theorem dX6_choose_10 : decode cX6_choose 10 = .ok (.iconst 0, 1) := by decide +kernel
theorem dX6_choose_11 : decode cX6_choose 11 = .ok (.iconst 0, 1) := by decide +kernel
theorem dX6_choose_12 : decode cX6_choose 12 = .ok (.lconst 0, 1) := by decide +kernel
theorem dX6_choose_13 : decode cX6_choose 13 = .ok (.invokevirtual 71, 3) := by decide +kernel
theorem dX6_choose_16 : decode cX6_choose 16 = .ok (.return_, 1) := by decide +kernel
set_option maxRecDepth 20000 in
theorem ggX6_tryLanes_X6_keepIfBetter : GoodIn wsX6_tryLanes wsX6_keepIfBetter := goodIn_r _ [8, 9, 10, 2, 11, 12, 13, 14, 15, 16, 17, 18, 22, 23, 24, 25, 26, 27, 28] (by decide +kernel) (by decide +kernel)
set_option maxRecDepth 20000 in
theorem gX6_tryLanes_X6_keepIfBetter : GoodIn wsX6_tryLanes (wsV RX6 75 RX6 yX6_keepIfBetter wsX6_keepIfBetter) := goodIn_app (goodIn_of _ (by decide +kernel)) ggX6_tryLanes_X6_keepIfBetter
set_option maxRecDepth 20000 in
theorem ggX6_tryLanes_X6_tryLanes : GoodIn wsX6_tryLanes wsX6_tryLanes := goodIn_r _ [0, 1, 2, 3, 4, 5, 6, 7, 8, 9, 10, 11, 12, 13, 14, 15, 16, 17, 18, 19, 20, 21, 22, 23, 24, 25, 26, 27, 28] (by decide +kernel) (by decide +kernel)
set_option maxRecDepth 20000 in
theorem gX6_tryLanes_X6_tryLanes : GoodIn wsX6_tryLanes (wsV RX6 71 RX6 yX6_tryLanes wsX6_tryLanes) := goodIn_app (goodIn_of _ (by decide +kernel)) ggX6_tryLanes_X6_tryLanes
theorem dX6_tryLanes_0 : decode cX6_tryLanes 0 = .ok (.iload_n 3, 1) := by decide +kernel
theorem dX6_tryLanes_1 : decode cX6_tryLanes 1 = .ok (.iload_n 2, 1) := by decide +kernel
theorem dX6_tryLanes_2 : decode cX6_tryLanes 2 = .ok (.if_icmp .ge 8, 3) := by decide +kernel
theorem dX6_tryLanes_5 : decode cX6_tryLanes 5 = .ok (.iload_n 3, 1) := by decide +kernel
theorem dX6_tryLanes_6 : decode cX6_tryLanes 6 = .ok (.iconst 3, 1) := by decide +kernel
theorem dX6_tryLanes_7 : decode cX6_tryLanes 7 = .ok (.if_icmp .lt 10, 3) := by decide +kernel
theorem dX6_tryLanes_10 : decode cX6_tryLanes 10 = .ok (.aload_n 0, 1) := by decide +kernel
theorem dX6_tryLanes_11 : decode cX6_tryLanes 11 = .ok (.lload 5, 2) := by decide +kernel
theorem dX6_tryLanes_13 : decode cX6_tryLanes 13 = .ok (.invokevirtual 75, 3) := by decide +kernel
theorem dX6_tryLanes_16 : decode cX6_tryLanes 16 = .ok (.return_, 1) := by decide +kernel
theorem dX6_tryLanes_17 : decode cX6_tryLanes 17 = .ok (.iload 4, 2) := by decide +kernel
theorem dX6_tryLanes_19 : decode cX6_tryLanes 19 = .ok (.istore 7, 2) := by decide +kernel
theorem dX6_tryLanes_21 : decode cX6_tryLanes 21 = .ok (.iload 7, 2) := by decide +kernel
theorem dX6_tryLanes_23 : decode cX6_tryLanes 23 = .ok (.aload_n 0, 1) := by decide +kernel
theorem dX6_tryLanes_24 : decode cX6_tryLanes 24 = .ok (.getfield 25, 3) := by decide +kernel
theorem dX6_tryLanes_27 : decode cX6_tryLanes 27 = .ok (.if_icmp .ge 49, 3) := by decide +kernel
theorem dX6_tryLanes_30 : decode cX6_tryLanes 30 = .ok (.iload_n 1, 1) := by decide +kernel
theorem dX6_tryLanes_31 : decode cX6_tryLanes 31 = .ok (.iload 7, 2) := by decide +kernel
theorem dX6_tryLanes_33 : decode cX6_tryLanes 33 = .ok (.ishr, 1) := by decide +kernel
theorem dX6_tryLanes_34 : decode cX6_tryLanes 34 = .ok (.iconst 1, 1) := by decide +kernel
theorem dX6_tryLanes_35 : decode cX6_tryLanes 35 = .ok (.iand, 1) := by decide +kernel
theorem dX6_tryLanes_36 : decode cX6_tryLanes 36 = .ok (.ifCond .eq 34, 3) := by decide +kernel
theorem dX6_tryLanes_39 : decode cX6_tryLanes 39 = .ok (.aload_n 0, 1) := by decide +kernel
theorem dX6_tryLanes_40 : decode cX6_tryLanes 40 = .ok (.getfield 18, 3) := by decide +kernel
theorem dX6_tryLanes_43 : decode cX6_tryLanes 43 = .ok (.iload_n 3, 1) := by decide +kernel
theorem dX6_tryLanes_44 : decode cX6_tryLanes 44 = .ok (.iload 7, 2) := by decide +kernel
theorem dX6_tryLanes_46 : decode cX6_tryLanes 46 = .ok (.iastore, 1) := by decide +kernel
theorem dX6_tryLanes_47 : decode cX6_tryLanes 47 = .ok (.aload_n 0, 1) := by decide +kernel
theorem dX6_tryLanes_48 : decode cX6_tryLanes 48 = .ok (.iload_n 1, 1) := by decide +kernel
theorem dX6_tryLanes_49 : decode cX6_tryLanes 49 = .ok (.iload_n 2, 1) := by decide +kernel
theorem dX6_tryLanes_50 : decode cX6_tryLanes 50 = .ok (.iload_n 3, 1) := by decide +kernel
theorem dX6_tryLanes_51 : decode cX6_tryLanes 51 = .ok (.iconst 1, 1) := by decide +kernel
theorem dX6_tryLanes_52 : decode cX6_tryLanes 52 = .ok (.iadd, 1) := by decide +kernel
theorem dX6_tryLanes_53 : decode cX6_tryLanes 53 = .ok (.iload 7, 2) := by decide +kernel
theorem dX6_tryLanes_55 : decode cX6_tryLanes 55 = .ok (.iconst 1, 1) := by decide +kernel
theorem dX6_tryLanes_56 : decode cX6_tryLanes 56 = .ok (.iadd, 1) := by decide +kernel
theorem dX6_tryLanes_57 : decode cX6_tryLanes 57 = .ok (.lload 5, 2) := by decide +kernel
theorem dX6_tryLanes_59 : decode cX6_tryLanes 59 = .ok (.aload_n 0, 1) := by decide +kernel
theorem dX6_tryLanes_60 : decode cX6_tryLanes 60 = .ok (.getfield 9, 3) := by decide +kernel
theorem dX6_tryLanes_63 : decode cX6_tryLanes 63 = .ok (.iload 7, 2) := by decide +kernel
theorem dX6_tryLanes_65 : decode cX6_tryLanes 65 = .ok (.laload, 1) := by decide +kernel
theorem dX6_tryLanes_66 : decode cX6_tryLanes 66 = .ok (.lor, 1) := by decide +kernel
theorem dX6_tryLanes_67 : decode cX6_tryLanes 67 = .ok (.invokevirtual 71, 3) := by decide +kernel
theorem dX6_tryLanes_70 : decode cX6_tryLanes 70 = .ok (.iinc 7 1, 3) := by decide +kernel
theorem dX6_tryLanes_73 : decode cX6_tryLanes 73 = .ok (.goto (-52), 3) := by decide +kernel
theorem dX6_tryLanes_76 : decode cX6_tryLanes 76 = .ok (.return_, 1) := by decide +kernel
set_option maxRecDepth 20000 in
theorem ggX6_keepIfBetter_X11_has : GoodIn wsX6_keepIfBetter wsX11_has := goodIn_r _ [11] (by decide +kernel) (by decide +kernel)
set_option maxRecDepth 20000 in
theorem gX6_keepIfBetter_X11_has_n33 : GoodIn wsX6_keepIfBetter (wsX11_has) := ggX6_keepIfBetter_X11_has
theorem dX6_keepIfBetter_0 : decode cX6_keepIfBetter 0 = .ok (.lconst 0, 1) := by decide +kernel
theorem dX6_keepIfBetter_1 : decode cX6_keepIfBetter 1 = .ok (.lstore_n 3, 1) := by decide +kernel
theorem dX6_keepIfBetter_2 : decode cX6_keepIfBetter 2 = .ok (.iconst 0, 1) := by decide +kernel
theorem dX6_keepIfBetter_3 : decode cX6_keepIfBetter 3 = .ok (.istore 5, 2) := by decide +kernel
theorem dX6_keepIfBetter_5 : decode cX6_keepIfBetter 5 = .ok (.iload 5, 2) := by decide +kernel
theorem dX6_keepIfBetter_7 : decode cX6_keepIfBetter 7 = .ok (.bipush 64, 2) := by decide +kernel
theorem dX6_keepIfBetter_9 : decode cX6_keepIfBetter 9 = .ok (.if_icmp .ge 28, 3) := by decide +kernel
theorem dX6_keepIfBetter_12 : decode cX6_keepIfBetter 12 = .ok (.lload_n 1, 1) := by decide +kernel
theorem dX6_keepIfBetter_13 : decode cX6_keepIfBetter 13 = .ok (.iload 5, 2) := by decide +kernel
theorem dX6_keepIfBetter_15 : decode cX6_keepIfBetter 15 = .ok (.invokestatic 33, 3) := by decide +kernel
theorem dX6_keepIfBetter_18 : decode cX6_keepIfBetter 18 = .ok (.ifCond .eq 13, 3) := by decide +kernel
theorem dX6_keepIfBetter_21 : decode cX6_keepIfBetter 21 = .ok (.lload_n 3, 1) := by decide +kernel
theorem dX6_keepIfBetter_22 : decode cX6_keepIfBetter 22 = .ok (.aload_n 0, 1) := by decide +kernel
theorem dX6_keepIfBetter_23 : decode cX6_keepIfBetter 23 = .ok (.getfield 15, 3) := by decide +kernel
theorem dX6_keepIfBetter_26 : decode cX6_keepIfBetter 26 = .ok (.iload 5, 2) := by decide +kernel
theorem dX6_keepIfBetter_28 : decode cX6_keepIfBetter 28 = .ok (.laload, 1) := by decide +kernel
theorem dX6_keepIfBetter_29 : decode cX6_keepIfBetter 29 = .ok (.ladd, 1) := by decide +kernel
theorem dX6_keepIfBetter_30 : decode cX6_keepIfBetter 30 = .ok (.lstore_n 3, 1) := by decide +kernel
theorem dX6_keepIfBetter_31 : decode cX6_keepIfBetter 31 = .ok (.iinc 5 1, 3) := by decide +kernel
theorem dX6_keepIfBetter_34 : decode cX6_keepIfBetter 34 = .ok (.goto (-29), 3) := by decide +kernel
theorem dX6_keepIfBetter_37 : decode cX6_keepIfBetter 37 = .ok (.lload_n 3, 1) := by decide +kernel
theorem dX6_keepIfBetter_38 : decode cX6_keepIfBetter 38 = .ok (.aload_n 0, 1) := by decide +kernel
theorem dX6_keepIfBetter_39 : decode cX6_keepIfBetter 39 = .ok (.getfield 66, 3) := by decide +kernel
theorem dX6_keepIfBetter_42 : decode cX6_keepIfBetter 42 = .ok (.lcmp, 1) := by decide +kernel
theorem dX6_keepIfBetter_43 : decode cX6_keepIfBetter 43 = .ok (.ifCond .le 22, 3) := by decide +kernel
theorem dX6_keepIfBetter_46 : decode cX6_keepIfBetter 46 = .ok (.aload_n 0, 1) := by decide +kernel
theorem dX6_keepIfBetter_47 : decode cX6_keepIfBetter 47 = .ok (.lload_n 3, 1) := by decide +kernel
theorem dX6_keepIfBetter_48 : decode cX6_keepIfBetter 48 = .ok (.putfield 66, 3) := by decide +kernel
theorem dX6_keepIfBetter_51 : decode cX6_keepIfBetter 51 = .ok (.aload_n 0, 1) := by decide +kernel
theorem dX6_keepIfBetter_52 : decode cX6_keepIfBetter 52 = .ok (.getfield 18, 3) := by decide +kernel
theorem dX6_keepIfBetter_55 : decode cX6_keepIfBetter 55 = .ok (.iconst 0, 1) := by decide +kernel
theorem dX6_keepIfBetter_56 : decode cX6_keepIfBetter 56 = .ok (.aload_n 0, 1) := by decide +kernel
theorem dX6_keepIfBetter_57 : decode cX6_keepIfBetter 57 = .ok (.getfield 22, 3) := by decide +kernel
theorem dX6_keepIfBetter_60 : decode cX6_keepIfBetter 60 = .ok (.iconst 0, 1) := by decide +kernel
theorem dX6_keepIfBetter_61 : decode cX6_keepIfBetter 61 = .ok (.iconst 3, 1) := by decide +kernel
theorem dX6_keepIfBetter_62 : decode cX6_keepIfBetter 62 = .ok (.invokestatic 79, 3) := by decide +kernel
theorem dX6_keepIfBetter_65 : decode cX6_keepIfBetter 65 = .ok (.return_, 1) := by decide +kernel
theorem dX7_init_0 : decode cX7_init 0 = .ok (.aload_n 0, 1) := by decide +kernel
theorem dX7_init_1 : decode cX7_init 1 = .ok (.invokespecial 3, 3) := by decide +kernel
theorem dX7_init_4 : decode cX7_init 4 = .ok (.aload_n 0, 1) := by decide +kernel
theorem dX7_init_5 : decode cX7_init 5 = .ok (.bipush 40, 2) := by decide +kernel
theorem dX7_init_7 : decode cX7_init 7 = .ok (.newarray .int, 2) := by decide +kernel
theorem dX7_init_9 : decode cX7_init 9 = .ok (.putfield 9, 3) := by decide +kernel
theorem dX7_init_12 : decode cX7_init 12 = .ok (.aload_n 0, 1) := by decide +kernel
theorem dX7_init_13 : decode cX7_init 13 = .ok (.iconst (-1), 1) := by decide +kernel
theorem dX7_init_14 : decode cX7_init 14 = .ok (.putfield 15, 3) := by decide +kernel
theorem dX7_init_17 : decode cX7_init 17 = .ok (.return_, 1) := by decide +kernel
theorem dX7_become_0 : decode cX7_become 0 = .ok (.aload_n 0, 1) := by decide +kernel
theorem dX7_become_1 : decode cX7_become 1 = .ok (.iload_n 1, 1) := by decide +kernel
theorem dX7_become_2 : decode cX7_become 2 = .ok (.putfield 15, 3) := by decide +kernel
theorem dX7_become_5 : decode cX7_become 5 = .ok (.aload_n 0, 1) := by decide +kernel
theorem dX7_become_6 : decode cX7_become 6 = .ok (.iload_n 2, 1) := by decide +kernel
theorem dX7_become_7 : decode cX7_become 7 = .ok (.putfield 19, 3) := by decide +kernel
theorem dX7_become_10 : decode cX7_become 10 = .ok (.iconst 0, 1) := by decide +kernel
theorem dX7_become_11 : decode cX7_become 11 = .ok (.istore_n 3, 1) := by decide +kernel
theorem dX7_become_12 : decode cX7_become 12 = .ok (.iload_n 3, 1) := by decide +kernel
theorem dX7_become_13 : decode cX7_become 13 = .ok (.bipush 40, 2) := by decide +kernel
theorem dX7_become_15 : decode cX7_become 15 = .ok (.if_icmp .ge 16, 3) := by decide +kernel
theorem dX7_become_18 : decode cX7_become 18 = .ok (.aload_n 0, 1) := by decide +kernel
theorem dX7_become_19 : decode cX7_become 19 = .ok (.getfield 9, 3) := by decide +kernel
theorem dX7_become_22 : decode cX7_become 22 = .ok (.iload_n 3, 1) := by decide +kernel
theorem dX7_become_23 : decode cX7_become 23 = .ok (.iconst 0, 1) := by decide +kernel
theorem dX7_become_24 : decode cX7_become 24 = .ok (.iastore, 1) := by decide +kernel
theorem dX7_become_25 : decode cX7_become 25 = .ok (.iinc 3 1, 3) := by decide +kernel
theorem dX7_become_28 : decode cX7_become 28 = .ok (.goto (-16), 3) := by decide +kernel
theorem dX7_become_31 : decode cX7_become 31 = .ok (.return_, 1) := by decide +kernel
theorem dX7_hasItem_0 : decode cX7_hasItem 0 = .ok (.iload_n 1, 1) := by decide +kernel
theorem dX7_hasItem_1 : decode cX7_hasItem 1 = .ok (.ifCond .lt 15, 3) := by decide +kernel
theorem dX7_hasItem_4 : decode cX7_hasItem 4 = .ok (.iload_n 1, 1) := by decide +kernel
theorem dX7_hasItem_5 : decode cX7_hasItem 5 = .ok (.aload_n 0, 1) := by decide +kernel
theorem dX7_hasItem_6 : decode cX7_hasItem 6 = .ok (.getfield 19, 3) := by decide +kernel
theorem dX7_hasItem_9 : decode cX7_hasItem 9 = .ok (.if_icmp .ge 7, 3) := by decide +kernel
theorem dX7_hasItem_12 : decode cX7_hasItem 12 = .ok (.iconst 1, 1) := by decide +kernel
theorem dX7_hasItem_13 : decode cX7_hasItem 13 = .ok (.goto 4, 3) := by decide +kernel
theorem dX7_hasItem_16 : decode cX7_hasItem 16 = .ok (.iconst 0, 1) := by decide +kernel
theorem dX7_hasItem_17 : decode cX7_hasItem 17 = .ok (.ireturn, 1) := by decide +kernel
theorem dX7_hasStretch_0 : decode cX7_hasStretch 0 = .ok (.iload_n 1, 1) := by decide +kernel
theorem dX7_hasStretch_1 : decode cX7_hasStretch 1 = .ok (.ifCond .lt 29, 3) := by decide +kernel
theorem dX7_hasStretch_4 : decode cX7_hasStretch 4 = .ok (.iload_n 2, 1) := by decide +kernel
theorem dX7_hasStretch_5 : decode cX7_hasStretch 5 = .ok (.ifCond .lt 25, 3) := by decide +kernel
theorem dX7_hasStretch_8 : decode cX7_hasStretch 8 = .ok (.iload_n 1, 1) := by decide +kernel
theorem dX7_hasStretch_9 : decode cX7_hasStretch 9 = .ok (.aload_n 0, 1) := by decide +kernel
theorem dX7_hasStretch_10 : decode cX7_hasStretch 10 = .ok (.getfield 19, 3) := by decide +kernel
theorem dX7_hasStretch_13 : decode cX7_hasStretch 13 = .ok (.if_icmp .gt 17, 3) := by decide +kernel
theorem dX7_hasStretch_16 : decode cX7_hasStretch 16 = .ok (.iload_n 2, 1) := by decide +kernel
theorem dX7_hasStretch_17 : decode cX7_hasStretch 17 = .ok (.aload_n 0, 1) := by decide +kernel
theorem dX7_hasStretch_18 : decode cX7_hasStretch 18 = .ok (.getfield 19, 3) := by decide +kernel
theorem dX7_hasStretch_21 : decode cX7_hasStretch 21 = .ok (.iload_n 1, 1) := by decide +kernel
theorem dX7_hasStretch_22 : decode cX7_hasStretch 22 = .ok (.isub, 1) := by decide +kernel
theorem dX7_hasStretch_23 : decode cX7_hasStretch 23 = .ok (.if_icmp .gt 7, 3) := by decide +kernel
theorem dX7_hasStretch_26 : decode cX7_hasStretch 26 = .ok (.iconst 1, 1) := by decide +kernel
theorem dX7_hasStretch_27 : decode cX7_hasStretch 27 = .ok (.goto 4, 3) := by decide +kernel
theorem dX7_hasStretch_30 : decode cX7_hasStretch 30 = .ok (.iconst 0, 1) := by decide +kernel
theorem dX7_hasStretch_31 : decode cX7_hasStretch 31 = .ok (.ireturn, 1) := by decide +kernel
theorem dX7_put_0 : decode cX7_put 0 = .ok (.aload_n 0, 1) := by decide +kernel
theorem dX7_put_1 : decode cX7_put 1 = .ok (.getfield 15, 3) := by decide +kernel
theorem dX7_put_4 : decode cX7_put 4 = .ok (.ifCond .ne 14, 3) := by decide +kernel
theorem dX7_put_7 : decode cX7_put 7 = .ok (.aload_n 0, 1) := by decide +kernel
theorem dX7_put_8 : decode cX7_put 8 = .ok (.getfield 9, 3) := by decide +kernel
theorem dX7_put_11 : decode cX7_put 11 = .ok (.iload_n 1, 1) := by decide +kernel
theorem dX7_put_12 : decode cX7_put 12 = .ok (.iload_n 2, 1) := by decide +kernel
theorem dX7_put_13 : decode cX7_put 13 = .ok (.i2b, 1) := by decide +kernel
theorem dX7_put_14 : decode cX7_put 14 = .ok (.iastore, 1) := by decide +kernel
theorem dX7_put_15 : decode cX7_put 15 = .ok (.goto 29, 3) := by decide +kernel
theorem dX7_put_18 : decode cX7_put 18 = .ok (.aload_n 0, 1) := by decide +kernel
theorem dX7_put_19 : decode cX7_put 19 = .ok (.getfield 15, 3) := by decide +kernel
theorem dX7_put_22 : decode cX7_put 22 = .ok (.iconst 1, 1) := by decide +kernel
theorem dX7_put_23 : decode cX7_put 23 = .ok (.if_icmp .ne 14, 3) := by decide +kernel
theorem dX7_put_26 : decode cX7_put 26 = .ok (.aload_n 0, 1) := by decide +kernel
theorem dX7_put_27 : decode cX7_put 27 = .ok (.getfield 9, 3) := by decide +kernel
theorem dX7_put_30 : decode cX7_put 30 = .ok (.iload_n 1, 1) := by decide +kernel
theorem dX7_put_31 : decode cX7_put 31 = .ok (.iload_n 2, 1) := by decide +kernel
theorem dX7_put_32 : decode cX7_put 32 = .ok (.i2s, 1) := by decide +kernel
theorem dX7_put_33 : decode cX7_put 33 = .ok (.iastore, 1) := by decide +kernel
theorem dX7_put_34 : decode cX7_put 34 = .ok (.goto 10, 3) := by decide +kernel
theorem dX7_put_37 : decode cX7_put 37 = .ok (.aload_n 0, 1) := by decide +kernel
theorem dX7_put_38 : decode cX7_put 38 = .ok (.getfield 9, 3) := by decide +kernel
theorem dX7_put_41 : decode cX7_put 41 = .ok (.iload_n 1, 1) := by decide +kernel
theorem dX7_put_42 : decode cX7_put 42 = .ok (.iload_n 2, 1) := by decide +kernel
theorem dX7_put_43 : decode cX7_put 43 = .ok (.iastore, 1) := by decide +kernel
theorem dX7_put_44 : decode cX7_put 44 = .ok (.return_, 1) := by decide +kernel
theorem dX8_init_0 : decode cX8_init 0 = .ok (.aload_n 0, 1) := by decide +kernel
theorem dX8_init_1 : decode cX8_init 1 = .ok (.invokespecial 3, 3) := by decide +kernel
theorem dX8_init_4 : decode cX8_init 4 = .ok (.aload_n 0, 1) := by decide +kernel
theorem dX8_init_5 : decode cX8_init 5 = .ok (.bipush 20, 2) := by decide +kernel
theorem dX8_init_7 : decode cX8_init 7 = .ok (.newarray .int, 2) := by decide +kernel
theorem dX8_init_9 : decode cX8_init 9 = .ok (.putfield 9, 3) := by decide +kernel
theorem dX8_init_12 : decode cX8_init 12 = .ok (.aload_n 0, 1) := by decide +kernel
theorem dX8_init_13 : decode cX8_init 13 = .ok (.bipush 20, 2) := by decide +kernel
theorem dX8_init_15 : decode cX8_init 15 = .ok (.newarray .int, 2) := by decide +kernel
theorem dX8_init_17 : decode cX8_init 17 = .ok (.putfield 15, 3) := by decide +kernel
theorem dX8_init_20 : decode cX8_init 20 = .ok (.aload_n 0, 1) := by decide +kernel
theorem dX8_init_21 : decode cX8_init 21 = .ok (.bipush 20, 2) := by decide +kernel
theorem dX8_init_23 : decode cX8_init 23 = .ok (.newarray .int, 2) := by decide +kernel
theorem dX8_init_25 : decode cX8_init 25 = .ok (.putfield 18, 3) := by decide +kernel
theorem dX8_init_28 : decode cX8_init 28 = .ok (.return_, 1) := by decide +kernel
theorem dX8_hasStory_0 : decode cX8_hasStory 0 = .ok (.iload_n 1, 1) := by decide +kernel
theorem dX8_hasStory_1 : decode cX8_hasStory 1 = .ok (.ifCond .lt 15, 3) := by decide +kernel
theorem dX8_hasStory_4 : decode cX8_hasStory 4 = .ok (.iload_n 1, 1) := by decide +kernel
theorem dX8_hasStory_5 : decode cX8_hasStory 5 = .ok (.aload_n 0, 1) := by decide +kernel
theorem dX8_hasStory_6 : decode cX8_hasStory 6 = .ok (.getfield 21, 3) := by decide +kernel
theorem dX8_hasStory_9 : decode cX8_hasStory 9 = .ok (.if_icmp .ge 7, 3) := by decide +kernel
theorem dX8_hasStory_12 : decode cX8_hasStory 12 = .ok (.iconst 1, 1) := by decide +kernel
theorem dX8_hasStory_13 : decode cX8_hasStory 13 = .ok (.goto 4, 3) := by decide +kernel
theorem dX8_hasStory_16 : decode cX8_hasStory 16 = .ok (.iconst 0, 1) := by decide +kernel
theorem dX8_hasStory_17 : decode cX8_hasStory 17 = .ok (.ireturn, 1) := by decide +kernel
theorem dX8_addStory_0 : decode cX8_addStory 0 = .ok (.aload_n 0, 1) := by decide +kernel
theorem dX8_addStory_1 : decode cX8_addStory 1 = .ok (.getfield 9, 3) := by decide +kernel
theorem dX8_addStory_4 : decode cX8_addStory 4 = .ok (.aload_n 0, 1) := by decide +kernel
theorem dX8_addStory_5 : decode cX8_addStory 5 = .ok (.getfield 21, 3) := by decide +kernel
theorem dX8_addStory_8 : decode cX8_addStory 8 = .ok (.iload_n 1, 1) := by decide +kernel
theorem dX8_addStory_9 : decode cX8_addStory 9 = .ok (.iastore, 1) := by decide +kernel
theorem dX8_addStory_10 : decode cX8_addStory 10 = .ok (.aload_n 0, 1) := by decide +kernel
theorem dX8_addStory_11 : decode cX8_addStory 11 = .ok (.getfield 15, 3) := by decide +kernel
theorem dX8_addStory_14 : decode cX8_addStory 14 = .ok (.aload_n 0, 1) := by decide +kernel
theorem dX8_addStory_15 : decode cX8_addStory 15 = .ok (.getfield 21, 3) := by decide +kernel
theorem dX8_addStory_18 : decode cX8_addStory 18 = .ok (.iload_n 2, 1) := by decide +kernel
theorem dX8_addStory_19 : decode cX8_addStory 19 = .ok (.iastore, 1) := by decide +kernel
theorem dX8_addStory_20 : decode cX8_addStory 20 = .ok (.aload_n 0, 1) := by decide +kernel
theorem dX8_addStory_21 : decode cX8_addStory 21 = .ok (.getfield 18, 3) := by decide +kernel
theorem dX8_addStory_24 : decode cX8_addStory 24 = .ok (.aload_n 0, 1) := by decide +kernel
theorem dX8_addStory_25 : decode cX8_addStory 25 = .ok (.getfield 21, 3) := by decide +kernel
theorem dX8_addStory_28 : decode cX8_addStory 28 = .ok (.iload_n 3, 1) := by decide +kernel
theorem dX8_addStory_29 : decode cX8_addStory 29 = .ok (.iastore, 1) := by decide +kernel
theorem dX8_addStory_30 : decode cX8_addStory 30 = .ok (.aload_n 0, 1) := by decide +kernel
theorem dX8_addStory_31 : decode cX8_addStory 31 = .ok (.dup, 1) := by decide +kernel
theorem dX8_addStory_32 : decode cX8_addStory 32 = .ok (.getfield 21, 3) := by decide +kernel
theorem dX8_addStory_35 : decode cX8_addStory 35 = .ok (.dup_x1, 1) := by decide +kernel
theorem dX8_addStory_36 : decode cX8_addStory 36 = .ok (.iconst 1, 1) := by decide +kernel
theorem dX8_addStory_37 : decode cX8_addStory 37 = .ok (.iadd, 1) := by decide +kernel
theorem dX8_addStory_38 : decode cX8_addStory 38 = .ok (.putfield 21, 3) := by decide +kernel
theorem dX8_addStory_41 : decode cX8_addStory 41 = .ok (.ireturn, 1) := by decide +kernel
theorem dX9_init_0 : decode cX9_init 0 = .ok (.aload_n 0, 1) := by decide +kernel
theorem dX9_init_1 : decode cX9_init 1 = .ok (.invokespecial 3, 3) := by decide +kernel
theorem dX9_init_4 : decode cX9_init 4 = .ok (.aload_n 0, 1) := by decide +kernel
theorem dX9_init_5 : decode cX9_init 5 = .ok (.sipush 160, 3) := by decide +kernel
theorem dX9_init_8 : decode cX9_init 8 = .ok (.newarray .int, 2) := by decide +kernel
theorem dX9_init_10 : decode cX9_init 10 = .ok (.putfield 9, 3) := by decide +kernel
theorem dX9_init_13 : decode cX9_init 13 = .ok (.return_, 1) := by decide +kernel
theorem dX9_clear_0 : decode cX9_clear 0 = .ok (.aload_n 0, 1) := by decide +kernel
theorem dX9_clear_1 : decode cX9_clear 1 = .ok (.iconst 0, 1) := by decide +kernel
theorem dX9_clear_2 : decode cX9_clear 2 = .ok (.putfield 15, 3) := by decide +kernel
theorem dX9_clear_5 : decode cX9_clear 5 = .ok (.aload_n 0, 1) := by decide +kernel
theorem dX9_clear_6 : decode cX9_clear 6 = .ok (.iconst 0, 1) := by decide +kernel
theorem dX9_clear_7 : decode cX9_clear 7 = .ok (.putfield 19, 3) := by decide +kernel
theorem dX9_clear_10 : decode cX9_clear 10 = .ok (.return_, 1) := by decide +kernel
set_option maxRecDepth 20000 in
theorem ggX9_beFirst_X9_clear : GoodIn wsX9_beFirst wsX9_clear := goodIn_r _ [9, 2, 3, 15, 16, 17] (by decide +kernel) (by decide +kernel)
set_option maxRecDepth 20000 in
theorem gX9_beFirst_X9_clear : GoodIn wsX9_beFirst (wsV RX9 22 RX9 yX9_clear wsX9_clear) := goodIn_app (goodIn_of _ (by decide +kernel)) ggX9_beFirst_X9_clear
set_option maxRecDepth 20000 in
theorem ggX9_beFirst_X9_addStep : GoodIn wsX9_beFirst wsX9_addStep := goodIn_r _ [13, 2, 14, 15, 16, 17] (by decide +kernel) (by decide +kernel)
set_option maxRecDepth 20000 in
theorem gX9_beFirst_X9_addStep : GoodIn wsX9_beFirst (wsV RX9 28 RX9 yX9_addStep wsX9_addStep) := goodIn_app (goodIn_of _ (by decide +kernel)) ggX9_beFirst_X9_addStep
theorem dX9_beFirst_0 : decode cX9_beFirst 0 = .ok (.aload_n 0, 1) := by decide +kernel
theorem dX9_beFirst_1 : decode cX9_beFirst 1 = .ok (.invokevirtual 22, 3) := by decide +kernel
theorem dX9_beFirst_4 : decode cX9_beFirst 4 = .ok (.iconst 0, 1) := by decide +kernel
theorem dX9_beFirst_5 : decode cX9_beFirst 5 = .ok (.istore_n 1, 1) := by decide +kernel
theorem dX9_beFirst_6 : decode cX9_beFirst 6 = .ok (.iload_n 1, 1) := by decide +kernel
theorem dX9_beFirst_7 : decode cX9_beFirst 7 = .ok (.getstatic 25, 3) := by decide +kernel
theorem dX9_beFirst_10 : decode cX9_beFirst 10 = .ok (.arraylength, 1) := by decide +kernel
theorem dX9_beFirst_11 : decode cX9_beFirst 11 = .ok (.if_icmp .ge 18, 3) := by decide +kernel
theorem dX9_beFirst_14 : decode cX9_beFirst 14 = .ok (.aload_n 0, 1) := by decide +kernel
theorem dX9_beFirst_15 : decode cX9_beFirst 15 = .ok (.getstatic 25, 3) := by decide +kernel
theorem dX9_beFirst_18 : decode cX9_beFirst 18 = .ok (.iload_n 1, 1) := by decide +kernel
theorem dX9_beFirst_19 : decode cX9_beFirst 19 = .ok (.iaload, 1) := by decide +kernel
theorem dX9_beFirst_20 : decode cX9_beFirst 20 = .ok (.invokevirtual 28, 3) := by decide +kernel
theorem dX9_beFirst_23 : decode cX9_beFirst 23 = .ok (.iinc 1 1, 3) := by decide +kernel
theorem dX9_beFirst_26 : decode cX9_beFirst 26 = .ok (.goto (-20), 3) := by decide +kernel
theorem dX9_beFirst_29 : decode cX9_beFirst 29 = .ok (.aload_n 0, 1) := by decide +kernel
theorem dX9_beFirst_30 : decode cX9_beFirst 30 = .ok (.aload_n 0, 1) := by decide +kernel
theorem dX9_beFirst_31 : decode cX9_beFirst 31 = .ok (.getfield 15, 3) := by decide +kernel
theorem dX9_beFirst_34 : decode cX9_beFirst 34 = .ok (.putfield 19, 3) := by decide +kernel
theorem dX9_beFirst_37 : decode cX9_beFirst 37 = .ok (.iconst 0, 1) := by decide +kernel
theorem dX9_beFirst_38 : decode cX9_beFirst 38 = .ok (.istore_n 1, 1) := by decide +kernel
theorem dX9_beFirst_39 : decode cX9_beFirst 39 = .ok (.iload_n 1, 1) := by decide +kernel
theorem dX9_beFirst_40 : decode cX9_beFirst 40 = .ok (.getstatic 32, 3) := by decide +kernel
theorem dX9_beFirst_43 : decode cX9_beFirst 43 = .ok (.arraylength, 1) := by decide +kernel
theorem dX9_beFirst_44 : decode cX9_beFirst 44 = .ok (.if_icmp .ge 18, 3) := by decide +kernel
theorem dX9_beFirst_47 : decode cX9_beFirst 47 = .ok (.aload_n 0, 1) := by decide +kernel
theorem dX9_beFirst_48 : decode cX9_beFirst 48 = .ok (.getstatic 32, 3) := by decide +kernel
theorem dX9_beFirst_51 : decode cX9_beFirst 51 = .ok (.iload_n 1, 1) := by decide +kernel
theorem dX9_beFirst_52 : decode cX9_beFirst 52 = .ok (.iaload, 1) := by decide +kernel
theorem dX9_beFirst_53 : decode cX9_beFirst 53 = .ok (.invokevirtual 28, 3) := by decide +kernel
theorem dX9_beFirst_56 : decode cX9_beFirst 56 = .ok (.iinc 1 1, 3) := by decide +kernel
theorem dX9_beFirst_59 : decode cX9_beFirst 59 = .ok (.goto (-20), 3) := by decide +kernel
theorem dX9_beFirst_62 : decode cX9_beFirst 62 = .ok (.return_, 1) := by decide +kernel
theorem dX9_become_0 : decode cX9_become 0 = .ok (.aload_n 1, 1) := by decide +kernel
theorem dX9_become_1 : decode cX9_become 1 = .ok (.getfield 9, 3) := by decide +kernel
theorem dX9_become_4 : decode cX9_become 4 = .ok (.iconst 0, 1) := by decide +kernel
theorem dX9_become_5 : decode cX9_become 5 = .ok (.aload_n 0, 1) := by decide +kernel
theorem dX9_become_6 : decode cX9_become 6 = .ok (.getfield 9, 3) := by decide +kernel
theorem dX9_become_9 : decode cX9_become 9 = .ok (.iconst 0, 1) := by decide +kernel
theorem dX9_become_10 : decode cX9_become 10 = .ok (.sipush 160, 3) := by decide +kernel
theorem dX9_become_13 : decode cX9_become 13 = .ok (.invokestatic 35, 3) := by decide +kernel
theorem dX9_become_16 : decode cX9_become 16 = .ok (.aload_n 0, 1) := by decide +kernel
theorem dX9_become_17 : decode cX9_become 17 = .ok (.aload_n 1, 1) := by decide +kernel
theorem dX9_become_18 : decode cX9_become 18 = .ok (.getfield 15, 3) := by decide +kernel
theorem dX9_become_21 : decode cX9_become 21 = .ok (.putfield 15, 3) := by decide +kernel
theorem dX9_become_24 : decode cX9_become 24 = .ok (.aload_n 0, 1) := by decide +kernel
theorem dX9_become_25 : decode cX9_become 25 = .ok (.aload_n 1, 1) := by decide +kernel
theorem dX9_become_26 : decode cX9_become 26 = .ok (.getfield 19, 3) := by decide +kernel
theorem dX9_become_29 : decode cX9_become 29 = .ok (.putfield 19, 3) := by decide +kernel
theorem dX9_become_32 : decode cX9_become 32 = .ok (.return_, 1) := by decide +kernel
theorem dX9_addStep_0 : decode cX9_addStep 0 = .ok (.aload_n 0, 1) := by decide +kernel
theorem dX9_addStep_1 : decode cX9_addStep 1 = .ok (.getfield 15, 3) := by decide +kernel
theorem dX9_addStep_4 : decode cX9_addStep 4 = .ok (.sipush 160, 3) := by decide +kernel
theorem dX9_addStep_7 : decode cX9_addStep 7 = .ok (.if_icmp .ge 23, 3) := by decide +kernel
theorem dX9_addStep_10 : decode cX9_addStep 10 = .ok (.aload_n 0, 1) := by decide +kernel
theorem dX9_addStep_11 : decode cX9_addStep 11 = .ok (.getfield 9, 3) := by decide +kernel
theorem dX9_addStep_14 : decode cX9_addStep 14 = .ok (.aload_n 0, 1) := by decide +kernel
theorem dX9_addStep_15 : decode cX9_addStep 15 = .ok (.getfield 15, 3) := by decide +kernel
theorem dX9_addStep_18 : decode cX9_addStep 18 = .ok (.iload_n 1, 1) := by decide +kernel
theorem dX9_addStep_19 : decode cX9_addStep 19 = .ok (.iastore, 1) := by decide +kernel
theorem dX9_addStep_20 : decode cX9_addStep 20 = .ok (.aload_n 0, 1) := by decide +kernel
theorem dX9_addStep_21 : decode cX9_addStep 21 = .ok (.dup, 1) := by decide +kernel
theorem dX9_addStep_22 : decode cX9_addStep 22 = .ok (.getfield 15, 3) := by decide +kernel
theorem dX9_addStep_25 : decode cX9_addStep 25 = .ok (.iconst 1, 1) := by decide +kernel
theorem dX9_addStep_26 : decode cX9_addStep 26 = .ok (.iadd, 1) := by decide +kernel
theorem dX9_addStep_27 : decode cX9_addStep 27 = .ok (.putfield 15, 3) := by decide +kernel
theorem dX9_addStep_30 : decode cX9_addStep 30 = .ok (.return_, 1) := by decide +kernel
set_option maxRecDepth 20000 in
theorem ggX9_valueOf_X9_afterStep : GoodIn wsX9_valueOf wsX9_afterStep := goodIn_r _ [7, 8, 9, 6, 10, 11, 12, 13, 14, 15, 16] (by decide +kernel) (by decide +kernel)
set_option maxRecDepth 20000 in
theorem gX9_valueOf_X9_afterStep : GoodIn wsX9_valueOf (va_wsS RX9 41 yX9_afterStep wsX9_afterStep) := goodIn_app (goodIn_of _ (by decide +kernel)) ggX9_valueOf_X9_afterStep
theorem dX9_valueOf_0 : decode cX9_valueOf 0 = .ok (.iload_n 1, 1) := by decide +kernel
theorem dX9_valueOf_1 : decode cX9_valueOf 1 = .ok (.ifCond .ne 7, 3) := by decide +kernel
theorem dX9_valueOf_4 : decode cX9_valueOf 4 = .ok (.iconst 0, 1) := by decide +kernel
theorem dX9_valueOf_5 : decode cX9_valueOf 5 = .ok (.goto 7, 3) := by decide +kernel
theorem dX9_valueOf_8 : decode cX9_valueOf 8 = .ok (.aload_n 0, 1) := by decide +kernel
theorem dX9_valueOf_9 : decode cX9_valueOf 9 = .ok (.getfield 19, 3) := by decide +kernel
theorem dX9_valueOf_12 : decode cX9_valueOf 12 = .ok (.istore 4, 2) := by decide +kernel
theorem dX9_valueOf_14 : decode cX9_valueOf 14 = .ok (.iload_n 1, 1) := by decide +kernel
theorem dX9_valueOf_15 : decode cX9_valueOf 15 = .ok (.ifCond .ne 10, 3) := by decide +kernel
theorem dX9_valueOf_18 : decode cX9_valueOf 18 = .ok (.aload_n 0, 1) := by decide +kernel
theorem dX9_valueOf_19 : decode cX9_valueOf 19 = .ok (.getfield 19, 3) := by decide +kernel
theorem dX9_valueOf_22 : decode cX9_valueOf 22 = .ok (.goto 7, 3) := by decide +kernel
theorem dX9_valueOf_25 : decode cX9_valueOf 25 = .ok (.aload_n 0, 1) := by decide +kernel
theorem dX9_valueOf_26 : decode cX9_valueOf 26 = .ok (.getfield 15, 3) := by decide +kernel
theorem dX9_valueOf_29 : decode cX9_valueOf 29 = .ok (.istore 5, 2) := by decide +kernel
theorem dX9_valueOf_31 : decode cX9_valueOf 31 = .ok (.iconst 0, 1) := by decide +kernel
theorem dX9_valueOf_32 : decode cX9_valueOf 32 = .ok (.istore 6, 2) := by decide +kernel
theorem dX9_valueOf_34 : decode cX9_valueOf 34 = .ok (.iload 4, 2) := by decide +kernel
theorem dX9_valueOf_36 : decode cX9_valueOf 36 = .ok (.istore 7, 2) := by decide +kernel
theorem dX9_valueOf_38 : decode cX9_valueOf 38 = .ok (.iload 7, 2) := by decide +kernel
theorem dX9_valueOf_40 : decode cX9_valueOf 40 = .ok (.iload 5, 2) := by decide +kernel
theorem dX9_valueOf_42 : decode cX9_valueOf 42 = .ok (.if_icmp .ge 25, 3) := by decide +kernel
theorem dX9_valueOf_45 : decode cX9_valueOf 45 = .ok (.aload_n 0, 1) := by decide +kernel
theorem dX9_valueOf_46 : decode cX9_valueOf 46 = .ok (.getfield 9, 3) := by decide +kernel
theorem dX9_valueOf_49 : decode cX9_valueOf 49 = .ok (.iload 7, 2) := by decide +kernel
theorem dX9_valueOf_51 : decode cX9_valueOf 51 = .ok (.iaload, 1) := by decide +kernel
theorem dX9_valueOf_52 : decode cX9_valueOf 52 = .ok (.aload_n 2, 1) := by decide +kernel
theorem dX9_valueOf_53 : decode cX9_valueOf 53 = .ok (.aload_n 3, 1) := by decide +kernel
theorem dX9_valueOf_54 : decode cX9_valueOf 54 = .ok (.iload 6, 2) := by decide +kernel
theorem dX9_valueOf_56 : decode cX9_valueOf 56 = .ok (.invokestatic 41, 3) := by decide +kernel
theorem dX9_valueOf_59 : decode cX9_valueOf 59 = .ok (.istore 6, 2) := by decide +kernel
theorem dX9_valueOf_61 : decode cX9_valueOf 61 = .ok (.iinc 7 1, 3) := by decide +kernel
theorem dX9_valueOf_64 : decode cX9_valueOf 64 = .ok (.goto (-26), 3) := by decide +kernel
theorem dX9_valueOf_67 : decode cX9_valueOf 67 = .ok (.iload 6, 2) := by decide +kernel
theorem dX9_valueOf_69 : decode cX9_valueOf 69 = .ok (.ifCond .le 9, 3) := by decide +kernel
theorem dX9_valueOf_72 : decode cX9_valueOf 72 = .ok (.aload_n 3, 1) := by decide +kernel
theorem dX9_valueOf_73 : decode cX9_valueOf 73 = .ok (.iconst 0, 1) := by decide +kernel
theorem dX9_valueOf_74 : decode cX9_valueOf 74 = .ok (.iaload, 1) := by decide +kernel
theorem dX9_valueOf_75 : decode cX9_valueOf 75 = .ok (.goto 4, 3) := by decide +kernel
theorem dX9_valueOf_78 : decode cX9_valueOf 78 = .ok (.iconst 0, 1) := by decide +kernel
theorem dX9_valueOf_79 : decode cX9_valueOf 79 = .ok (.ireturn, 1) := by decide +kernel
set_option maxRecDepth 20000 in
theorem ggX9_afterStep_X9_put : GoodIn wsX9_afterStep wsX9_put := goodIn_r _ [4] (by decide +kernel) (by decide +kernel)
set_option maxRecDepth 20000 in
theorem gX9_afterStep_X9_put : GoodIn wsX9_afterStep (va_wsS RX9 45 yX9_put wsX9_put) := goodIn_app (goodIn_of _ (by decide +kernel)) ggX9_afterStep_X9_put
set_option maxRecDepth 20000 in
theorem ggX9_afterStep_X9_truth : GoodIn wsX9_afterStep wsX9_truth := goodIn_r _ [7] (by decide +kernel) (by decide +kernel)
set_option maxRecDepth 20000 in
theorem gX9_afterStep_X9_truth : GoodIn wsX9_afterStep (va_wsS RX9 49 yX9_truth wsX9_truth) := goodIn_app (goodIn_of _ (by decide +kernel)) ggX9_afterStep_X9_truth
set_option maxRecDepth 20000 in
theorem ggX9_afterStep_X9_joined : GoodIn wsX9_afterStep wsX9_joined := goodIn_r _ [10, 5, 6, 3, 7] (by decide +kernel) (by decide +kernel)
set_option maxRecDepth 20000 in
theorem gX9_afterStep_X9_joined : GoodIn wsX9_afterStep (va_wsS RX9 53 yX9_joined wsX9_joined) := goodIn_app (goodIn_of _ (by decide +kernel)) ggX9_afterStep_X9_joined
theorem dX9_afterStep_0 : decode cX9_afterStep 0 = .ok (.iload_n 0, 1) := by decide +kernel
theorem dX9_afterStep_1 : decode cX9_afterStep 1 = .ok (.bipush (-6), 2) := by decide +kernel
theorem dX9_afterStep_3 : decode cX9_afterStep 3 = .ok (.if_icmp .lt 22, 3) := by decide +kernel
theorem dX9_afterStep_6 : decode cX9_afterStep 6 = .ok (.iload_n 0, 1) := by decide +kernel
theorem dX9_afterStep_7 : decode cX9_afterStep 7 = .ok (.ifCond .lt 7, 3) := by decide +kernel
theorem dX9_afterStep_10 : decode cX9_afterStep 10 = .ok (.iload_n 0, 1) := by decide +kernel
theorem dX9_afterStep_11 : decode cX9_afterStep 11 = .ok (.goto 8, 3) := by decide +kernel
theorem dX9_afterStep_14 : decode cX9_afterStep 14 = .ok (.aload_n 1, 1) := by decide +kernel
theorem dX9_afterStep_15 : decode cX9_afterStep 15 = .ok (.iconst (-1), 1) := by decide +kernel
theorem dX9_afterStep_16 : decode cX9_afterStep 16 = .ok (.iload_n 0, 1) := by decide +kernel
theorem dX9_afterStep_17 : decode cX9_afterStep 17 = .ok (.isub, 1) := by decide +kernel
theorem dX9_afterStep_18 : decode cX9_afterStep 18 = .ok (.iaload, 1) := by decide +kernel
theorem dX9_afterStep_19 : decode cX9_afterStep 19 = .ok (.aload_n 2, 1) := by decide +kernel
theorem dX9_afterStep_20 : decode cX9_afterStep 20 = .ok (.iload_n 3, 1) := by decide +kernel
theorem dX9_afterStep_21 : decode cX9_afterStep 21 = .ok (.invokestatic 45, 3) := by decide +kernel
theorem dX9_afterStep_24 : decode cX9_afterStep 24 = .ok (.ireturn, 1) := by decide +kernel
theorem dX9_afterStep_25 : decode cX9_afterStep 25 = .ok (.iload_n 0, 1) := by decide +kernel
theorem dX9_afterStep_26 : decode cX9_afterStep 26 = .ok (.bipush (-13), 2) := by decide +kernel
theorem dX9_afterStep_28 : decode cX9_afterStep 28 = .ok (.if_icmp .eq 9, 3) := by decide +kernel
theorem dX9_afterStep_31 : decode cX9_afterStep 31 = .ok (.iload_n 0, 1) := by decide +kernel
theorem dX9_afterStep_32 : decode cX9_afterStep 32 = .ok (.bipush (-19), 2) := by decide +kernel
theorem dX9_afterStep_34 : decode cX9_afterStep 34 = .ok (.if_icmp .ne 45, 3) := by decide +kernel
theorem dX9_afterStep_37 : decode cX9_afterStep 37 = .ok (.iload_n 3, 1) := by decide +kernel
theorem dX9_afterStep_38 : decode cX9_afterStep 38 = .ok (.ifCond .le 39, 3) := by decide +kernel
theorem dX9_afterStep_41 : decode cX9_afterStep 41 = .ok (.aload_n 2, 1) := by decide +kernel
theorem dX9_afterStep_42 : decode cX9_afterStep 42 = .ok (.iload_n 3, 1) := by decide +kernel
theorem dX9_afterStep_43 : decode cX9_afterStep 43 = .ok (.iconst 1, 1) := by decide +kernel
theorem dX9_afterStep_44 : decode cX9_afterStep 44 = .ok (.isub, 1) := by decide +kernel
theorem dX9_afterStep_45 : decode cX9_afterStep 45 = .ok (.iload_n 0, 1) := by decide +kernel
theorem dX9_afterStep_46 : decode cX9_afterStep 46 = .ok (.bipush (-19), 2) := by decide +kernel
theorem dX9_afterStep_48 : decode cX9_afterStep 48 = .ok (.if_icmp .ne 12, 3) := by decide +kernel
theorem dX9_afterStep_51 : decode cX9_afterStep 51 = .ok (.aload_n 2, 1) := by decide +kernel
theorem dX9_afterStep_52 : decode cX9_afterStep 52 = .ok (.iload_n 3, 1) := by decide +kernel
theorem dX9_afterStep_53 : decode cX9_afterStep 53 = .ok (.iconst 1, 1) := by decide +kernel
theorem dX9_afterStep_54 : decode cX9_afterStep 54 = .ok (.isub, 1) := by decide +kernel
theorem dX9_afterStep_55 : decode cX9_afterStep 55 = .ok (.iaload, 1) := by decide +kernel
theorem dX9_afterStep_56 : decode cX9_afterStep 56 = .ok (.ineg, 1) := by decide +kernel
theorem dX9_afterStep_57 : decode cX9_afterStep 57 = .ok (.goto 19, 3) := by decide +kernel
theorem dX9_afterStep_60 : decode cX9_afterStep 60 = .ok (.aload_n 2, 1) := by decide +kernel
theorem dX9_afterStep_61 : decode cX9_afterStep 61 = .ok (.iload_n 3, 1) := by decide +kernel
theorem dX9_afterStep_62 : decode cX9_afterStep 62 = .ok (.iconst 1, 1) := by decide +kernel
theorem dX9_afterStep_63 : decode cX9_afterStep 63 = .ok (.isub, 1) := by decide +kernel
theorem dX9_afterStep_64 : decode cX9_afterStep 64 = .ok (.iaload, 1) := by decide +kernel
theorem dX9_afterStep_65 : decode cX9_afterStep 65 = .ok (.ifCond .ne 7, 3) := by decide +kernel
theorem dX9_afterStep_68 : decode cX9_afterStep 68 = .ok (.iconst 1, 1) := by decide +kernel
theorem dX9_afterStep_69 : decode cX9_afterStep 69 = .ok (.goto 4, 3) := by decide +kernel
theorem dX9_afterStep_72 : decode cX9_afterStep 72 = .ok (.iconst 0, 1) := by decide +kernel
theorem dX9_afterStep_73 : decode cX9_afterStep 73 = .ok (.invokestatic 49, 3) := by decide +kernel
theorem dX9_afterStep_76 : decode cX9_afterStep 76 = .ok (.iastore, 1) := by decide +kernel
theorem dX9_afterStep_77 : decode cX9_afterStep 77 = .ok (.iload_n 3, 1) := by decide +kernel
theorem dX9_afterStep_78 : decode cX9_afterStep 78 = .ok (.ireturn, 1) := by decide +kernel
theorem dX9_afterStep_79 : decode cX9_afterStep 79 = .ok (.iload_n 3, 1) := by decide +kernel
theorem dX9_afterStep_80 : decode cX9_afterStep 80 = .ok (.iconst 2, 1) := by decide +kernel
theorem dX9_afterStep_81 : decode cX9_afterStep 81 = .ok (.if_icmp .ge 5, 3) := by decide +kernel
theorem dX9_afterStep_84 : decode cX9_afterStep 84 = .ok (.iload_n 3, 1) := by decide +kernel
theorem dX9_afterStep_85 : decode cX9_afterStep 85 = .ok (.ireturn, 1) := by decide +kernel
theorem dX9_afterStep_86 : decode cX9_afterStep 86 = .ok (.aload_n 2, 1) := by decide +kernel
theorem dX9_afterStep_87 : decode cX9_afterStep 87 = .ok (.iload_n 3, 1) := by decide +kernel
theorem dX9_afterStep_88 : decode cX9_afterStep 88 = .ok (.iconst 2, 1) := by decide +kernel
theorem dX9_afterStep_89 : decode cX9_afterStep 89 = .ok (.isub, 1) := by decide +kernel
theorem dX9_afterStep_90 : decode cX9_afterStep 90 = .ok (.iload_n 0, 1) := by decide +kernel
theorem dX9_afterStep_91 : decode cX9_afterStep 91 = .ok (.aload_n 2, 1) := by decide +kernel
theorem dX9_afterStep_92 : decode cX9_afterStep 92 = .ok (.iload_n 3, 1) := by decide +kernel
theorem dX9_afterStep_93 : decode cX9_afterStep 93 = .ok (.iconst 2, 1) := by decide +kernel
theorem dX9_afterStep_94 : decode cX9_afterStep 94 = .ok (.isub, 1) := by decide +kernel
theorem dX9_afterStep_95 : decode cX9_afterStep 95 = .ok (.iaload, 1) := by decide +kernel
theorem dX9_afterStep_96 : decode cX9_afterStep 96 = .ok (.aload_n 2, 1) := by decide +kernel
theorem dX9_afterStep_97 : decode cX9_afterStep 97 = .ok (.iload_n 3, 1) := by decide +kernel
theorem dX9_afterStep_98 : decode cX9_afterStep 98 = .ok (.iconst 1, 1) := by decide +kernel
theorem dX9_afterStep_99 : decode cX9_afterStep 99 = .ok (.isub, 1) := by decide +kernel
theorem dX9_afterStep_100 : decode cX9_afterStep 100 = .ok (.iaload, 1) := by decide +kernel
theorem dX9_afterStep_101 : decode cX9_afterStep 101 = .ok (.invokestatic 53, 3) := by decide +kernel
theorem dX9_afterStep_104 : decode cX9_afterStep 104 = .ok (.iastore, 1) := by decide +kernel
theorem dX9_afterStep_105 : decode cX9_afterStep 105 = .ok (.iload_n 3, 1) := by decide +kernel
theorem dX9_afterStep_106 : decode cX9_afterStep 106 = .ok (.iconst 1, 1) := by decide +kernel
theorem dX9_afterStep_107 : decode cX9_afterStep 107 = .ok (.isub, 1) := by decide +kernel
theorem dX9_afterStep_108 : decode cX9_afterStep 108 = .ok (.ireturn, 1) := by decide +kernel
theorem dX9_put_0 : decode cX9_put 0 = .ok (.iload_n 2, 1) := by decide +kernel
theorem dX9_put_1 : decode cX9_put 1 = .ok (.aload_n 1, 1) := by decide +kernel
theorem dX9_put_2 : decode cX9_put 2 = .ok (.arraylength, 1) := by decide +kernel
theorem dX9_put_3 : decode cX9_put 3 = .ok (.if_icmp .lt 5, 3) := by decide +kernel
theorem dX9_put_6 : decode cX9_put 6 = .ok (.iload_n 2, 1) := by decide +kernel
theorem dX9_put_7 : decode cX9_put 7 = .ok (.ireturn, 1) := by decide +kernel
theorem dX9_put_8 : decode cX9_put 8 = .ok (.aload_n 1, 1) := by decide +kernel
theorem dX9_put_9 : decode cX9_put 9 = .ok (.iload_n 2, 1) := by decide +kernel
theorem dX9_put_10 : decode cX9_put 10 = .ok (.iload_n 0, 1) := by decide +kernel
theorem dX9_put_11 : decode cX9_put 11 = .ok (.iastore, 1) := by decide +kernel
theorem dX9_put_12 : decode cX9_put 12 = .ok (.iload_n 2, 1) := by decide +kernel
theorem dX9_put_13 : decode cX9_put 13 = .ok (.iconst 1, 1) := by decide +kernel
theorem dX9_put_14 : decode cX9_put 14 = .ok (.iadd, 1) := by decide +kernel
theorem dX9_put_15 : decode cX9_put 15 = .ok (.ireturn, 1) := by decide +kernel
set_option maxRecDepth 20000 in
theorem ggX9_joined_X9_truth : GoodIn wsX9_joined wsX9_truth := goodIn_r _ [4] (by decide +kernel) (by decide +kernel)
set_option maxRecDepth 20000 in
theorem gX9_joined_X9_truth : GoodIn wsX9_joined (va_wsS RX9 49 yX9_truth wsX9_truth) := goodIn_app (goodIn_of _ (by decide +kernel)) ggX9_joined_X9_truth
theorem dX9_joined_0 : decode cX9_joined 0 = .ok (.iload_n 0, 1) := by decide +kernel
theorem dX9_joined_1 : decode cX9_joined 1 = .ok (.tableswitch 113 (-17) (-11) #[109, 105, 91, 77, 113, 60, 43], 43) := by decide +kernel
theorem dX9_joined_44 : decode cX9_joined 44 = .ok (.iload_n 1, 1) := by decide +kernel
theorem dX9_joined_45 : decode cX9_joined 45 = .ok (.ifCond .ne 7, 3) := by decide +kernel
theorem dX9_joined_48 : decode cX9_joined 48 = .ok (.iload_n 2, 1) := by decide +kernel
theorem dX9_joined_49 : decode cX9_joined 49 = .ok (.ifCond .eq 7, 3) := by decide +kernel
theorem dX9_joined_52 : decode cX9_joined 52 = .ok (.iconst 1, 1) := by decide +kernel
theorem dX9_joined_53 : decode cX9_joined 53 = .ok (.goto 4, 3) := by decide +kernel
theorem dX9_joined_56 : decode cX9_joined 56 = .ok (.iconst 0, 1) := by decide +kernel
theorem dX9_joined_57 : decode cX9_joined 57 = .ok (.invokestatic 49, 3) := by decide +kernel
theorem dX9_joined_60 : decode cX9_joined 60 = .ok (.ireturn, 1) := by decide +kernel
theorem dX9_joined_61 : decode cX9_joined 61 = .ok (.iload_n 1, 1) := by decide +kernel
theorem dX9_joined_62 : decode cX9_joined 62 = .ok (.ifCond .eq 11, 3) := by decide +kernel
theorem dX9_joined_65 : decode cX9_joined 65 = .ok (.iload_n 2, 1) := by decide +kernel
theorem dX9_joined_66 : decode cX9_joined 66 = .ok (.ifCond .eq 7, 3) := by decide +kernel
theorem dX9_joined_69 : decode cX9_joined 69 = .ok (.iconst 1, 1) := by decide +kernel
theorem dX9_joined_70 : decode cX9_joined 70 = .ok (.goto 4, 3) := by decide +kernel
theorem dX9_joined_73 : decode cX9_joined 73 = .ok (.iconst 0, 1) := by decide +kernel
theorem dX9_joined_74 : decode cX9_joined 74 = .ok (.invokestatic 49, 3) := by decide +kernel
theorem dX9_joined_77 : decode cX9_joined 77 = .ok (.ireturn, 1) := by decide +kernel
theorem dX9_joined_78 : decode cX9_joined 78 = .ok (.iload_n 1, 1) := by decide +kernel
theorem dX9_joined_79 : decode cX9_joined 79 = .ok (.iload_n 2, 1) := by decide +kernel
theorem dX9_joined_80 : decode cX9_joined 80 = .ok (.if_icmp .ge 7, 3) := by decide +kernel
theorem dX9_joined_83 : decode cX9_joined 83 = .ok (.iconst 1, 1) := by decide +kernel
theorem dX9_joined_84 : decode cX9_joined 84 = .ok (.goto 4, 3) := by decide +kernel
theorem dX9_joined_87 : decode cX9_joined 87 = .ok (.iconst 0, 1) := by decide +kernel
theorem dX9_joined_88 : decode cX9_joined 88 = .ok (.invokestatic 49, 3) := by decide +kernel
theorem dX9_joined_91 : decode cX9_joined 91 = .ok (.ireturn, 1) := by decide +kernel
theorem dX9_joined_92 : decode cX9_joined 92 = .ok (.iload_n 1, 1) := by decide +kernel
theorem dX9_joined_93 : decode cX9_joined 93 = .ok (.iload_n 2, 1) := by decide +kernel
theorem dX9_joined_94 : decode cX9_joined 94 = .ok (.if_icmp .ne 7, 3) := by decide +kernel
theorem dX9_joined_97 : decode cX9_joined 97 = .ok (.iconst 1, 1) := by decide +kernel
theorem dX9_joined_98 : decode cX9_joined 98 = .ok (.goto 4, 3) := by decide +kernel
theorem dX9_joined_101 : decode cX9_joined 101 = .ok (.iconst 0, 1) := by decide +kernel
theorem dX9_joined_102 : decode cX9_joined 102 = .ok (.invokestatic 49, 3) := by decide +kernel
theorem dX9_joined_105 : decode cX9_joined 105 = .ok (.ireturn, 1) := by decide +kernel
theorem dX9_joined_106 : decode cX9_joined 106 = .ok (.iload_n 1, 1) := by decide +kernel
theorem dX9_joined_107 : decode cX9_joined 107 = .ok (.iload_n 2, 1) := by decide +kernel
theorem dX9_joined_108 : decode cX9_joined 108 = .ok (.iadd, 1) := by decide +kernel
theorem dX9_joined_109 : decode cX9_joined 109 = .ok (.ireturn, 1) := by decide +kernel
theorem dX9_joined_110 : decode cX9_joined 110 = .ok (.iload_n 1, 1) := by decide +kernel
theorem dX9_joined_111 : decode cX9_joined 111 = .ok (.iload_n 2, 1) := by decide +kernel
theorem dX9_joined_112 : decode cX9_joined 112 = .ok (.isub, 1) := by decide +kernel
theorem dX9_joined_113 : decode cX9_joined 113 = .ok (.ireturn, 1) := by decide +kernel
theorem dX9_joined_114 : decode cX9_joined 114 = .ok (.iload_n 1, 1) := by decide +kernel
theorem dX9_joined_115 : decode cX9_joined 115 = .ok (.iload_n 2, 1) := by decide +kernel
theorem dX9_joined_116 : decode cX9_joined 116 = .ok (.imul, 1) := by decide +kernel
theorem dX9_joined_117 : decode cX9_joined 117 = .ok (.ireturn, 1) := by decide +kernel
theorem dX9_truth_0 : decode cX9_truth 0 = .ok (.iload_n 0, 1) := by decide +kernel
theorem dX9_truth_1 : decode cX9_truth 1 = .ok (.ifCond .eq 7, 3) := by decide +kernel
theorem dX9_truth_4 : decode cX9_truth 4 = .ok (.iconst 1, 1) := by decide +kernel
theorem dX9_truth_5 : decode cX9_truth 5 = .ok (.goto 4, 3) := by decide +kernel
theorem dX9_truth_8 : decode cX9_truth 8 = .ok (.iconst 0, 1) := by decide +kernel
theorem dX9_truth_9 : decode cX9_truth 9 = .ok (.ireturn, 1) := by decide +kernel
theorem dX10_init_0 : decode cX10_init 0 = .ok (.aload_n 0, 1) := by decide +kernel
theorem dX10_init_1 : decode cX10_init 1 = .ok (.invokespecial 3, 3) := by decide +kernel
theorem dX10_init_4 : decode cX10_init 4 = .ok (.aload_n 0, 1) := by decide +kernel
theorem dX10_init_5 : decode cX10_init 5 = .ok (.sipush 240, 3) := by decide +kernel
theorem dX10_init_8 : decode cX10_init 8 = .ok (.newarray .int, 2) := by decide +kernel
theorem dX10_init_10 : decode cX10_init 10 = .ok (.putfield 9, 3) := by decide +kernel
theorem dX10_init_13 : decode cX10_init 13 = .ok (.aload_n 0, 1) := by decide +kernel
theorem dX10_init_14 : decode cX10_init 14 = .ok (.sipush 240, 3) := by decide +kernel
theorem dX10_init_17 : decode cX10_init 17 = .ok (.newarray .int, 2) := by decide +kernel
theorem dX10_init_19 : decode cX10_init 19 = .ok (.putfield 15, 3) := by decide +kernel
theorem dX10_init_22 : decode cX10_init 22 = .ok (.iconst 0, 1) := by decide +kernel
theorem dX10_init_23 : decode cX10_init 23 = .ok (.istore_n 1, 1) := by decide +kernel
theorem dX10_init_24 : decode cX10_init 24 = .ok (.iload_n 1, 1) := by decide +kernel
theorem dX10_init_25 : decode cX10_init 25 = .ok (.sipush 240, 3) := by decide +kernel
theorem dX10_init_28 : decode cX10_init 28 = .ok (.if_icmp .ge 18, 3) := by decide +kernel
theorem dX10_init_31 : decode cX10_init 31 = .ok (.aload_n 0, 1) := by decide +kernel
theorem dX10_init_32 : decode cX10_init 32 = .ok (.getfield 9, 3) := by decide +kernel
theorem dX10_init_35 : decode cX10_init 35 = .ok (.iload_n 1, 1) := by decide +kernel
theorem dX10_init_36 : decode cX10_init 36 = .ok (.sipush 2222, 3) := by decide +kernel
theorem dX10_init_39 : decode cX10_init 39 = .ok (.iastore, 1) := by decide +kernel
theorem dX10_init_40 : decode cX10_init 40 = .ok (.iinc 1 1, 3) := by decide +kernel
theorem dX10_init_43 : decode cX10_init 43 = .ok (.goto (-19), 3) := by decide +kernel
theorem dX10_init_46 : decode cX10_init 46 = .ok (.return_, 1) := by decide +kernel
set_option maxRecDepth 20000 in
theorem ggX10_tellWind_X10_setHours : GoodIn wsX10_tellWind wsX10_setHours := goodIn_r _ [6, 7, 8, 9, 10] (by decide +kernel) (by decide +kernel)
set_option maxRecDepth 20000 in
theorem gX10_tellWind_X10_setHours : GoodIn wsX10_tellWind (va_wsS RX10 18 yX10_setHours wsX10_setHours) := goodIn_app (goodIn_of _ (by decide +kernel)) ggX10_tellWind_X10_setHours
theorem dX10_tellWind_0 : decode cX10_tellWind 0 = .ok (.aload_n 0, 1) := by decide +kernel
theorem dX10_tellWind_1 : decode cX10_tellWind 1 = .ok (.getfield 9, 3) := by decide +kernel
theorem dX10_tellWind_4 : decode cX10_tellWind 4 = .ok (.iload_n 1, 1) := by decide +kernel
theorem dX10_tellWind_5 : decode cX10_tellWind 5 = .ok (.iload_n 2, 1) := by decide +kernel
theorem dX10_tellWind_6 : decode cX10_tellWind 6 = .ok (.iload_n 3, 1) := by decide +kernel
theorem dX10_tellWind_7 : decode cX10_tellWind 7 = .ok (.invokestatic 18, 3) := by decide +kernel
theorem dX10_tellWind_10 : decode cX10_tellWind 10 = .ok (.aload_n 0, 1) := by decide +kernel
theorem dX10_tellWind_11 : decode cX10_tellWind 11 = .ok (.dup, 1) := by decide +kernel
theorem dX10_tellWind_12 : decode cX10_tellWind 12 = .ok (.getfield 22, 3) := by decide +kernel
theorem dX10_tellWind_15 : decode cX10_tellWind 15 = .ok (.iconst 1, 1) := by decide +kernel
theorem dX10_tellWind_16 : decode cX10_tellWind 16 = .ok (.iadd, 1) := by decide +kernel
theorem dX10_tellWind_17 : decode cX10_tellWind 17 = .ok (.putfield 22, 3) := by decide +kernel
theorem dX10_tellWind_20 : decode cX10_tellWind 20 = .ok (.return_, 1) := by decide +kernel
set_option maxRecDepth 20000 in
theorem ggX10_tellFog_X10_setHours : GoodIn wsX10_tellFog wsX10_setHours := goodIn_r _ [6, 7, 8, 9, 10] (by decide +kernel) (by decide +kernel)
set_option maxRecDepth 20000 in
theorem gX10_tellFog_X10_setHours : GoodIn wsX10_tellFog (va_wsS RX10 18 yX10_setHours wsX10_setHours) := goodIn_app (goodIn_of _ (by decide +kernel)) ggX10_tellFog_X10_setHours
theorem dX10_tellFog_0 : decode cX10_tellFog 0 = .ok (.aload_n 0, 1) := by decide +kernel
theorem dX10_tellFog_1 : decode cX10_tellFog 1 = .ok (.getfield 15, 3) := by decide +kernel
theorem dX10_tellFog_4 : decode cX10_tellFog 4 = .ok (.iload_n 1, 1) := by decide +kernel
theorem dX10_tellFog_5 : decode cX10_tellFog 5 = .ok (.iload_n 2, 1) := by decide +kernel
theorem dX10_tellFog_6 : decode cX10_tellFog 6 = .ok (.iload_n 3, 1) := by decide +kernel
theorem dX10_tellFog_7 : decode cX10_tellFog 7 = .ok (.invokestatic 18, 3) := by decide +kernel
theorem dX10_tellFog_10 : decode cX10_tellFog 10 = .ok (.aload_n 0, 1) := by decide +kernel
theorem dX10_tellFog_11 : decode cX10_tellFog 11 = .ok (.dup, 1) := by decide +kernel
theorem dX10_tellFog_12 : decode cX10_tellFog 12 = .ok (.getfield 26, 3) := by decide +kernel
theorem dX10_tellFog_15 : decode cX10_tellFog 15 = .ok (.iconst 1, 1) := by decide +kernel
theorem dX10_tellFog_16 : decode cX10_tellFog 16 = .ok (.iadd, 1) := by decide +kernel
theorem dX10_tellFog_17 : decode cX10_tellFog 17 = .ok (.putfield 26, 3) := by decide +kernel
theorem dX10_tellFog_20 : decode cX10_tellFog 20 = .ok (.return_, 1) := by decide +kernel
theorem dX10_setHours_0 : decode cX10_setHours 0 = .ok (.iload_n 1, 1) := by decide +kernel
theorem dX10_setHours_1 : decode cX10_setHours 1 = .ok (.iconst 0, 1) := by decide +kernel
theorem dX10_setHours_2 : decode cX10_setHours 2 = .ok (.invokestatic 29, 3) := by decide +kernel
theorem dX10_setHours_5 : decode cX10_setHours 5 = .ok (.istore 4, 2) := by decide +kernel
theorem dX10_setHours_7 : decode cX10_setHours 7 = .ok (.iload 4, 2) := by decide +kernel
theorem dX10_setHours_9 : decode cX10_setHours 9 = .ok (.iload_n 2, 1) := by decide +kernel
theorem dX10_setHours_10 : decode cX10_setHours 10 = .ok (.if_icmp .ge 21, 3) := by decide +kernel
theorem dX10_setHours_13 : decode cX10_setHours 13 = .ok (.iload 4, 2) := by decide +kernel
theorem dX10_setHours_15 : decode cX10_setHours 15 = .ok (.aload_n 0, 1) := by decide +kernel
theorem dX10_setHours_16 : decode cX10_setHours 16 = .ok (.arraylength, 1) := by decide +kernel
theorem dX10_setHours_17 : decode cX10_setHours 17 = .ok (.if_icmp .ge 14, 3) := by decide +kernel
theorem dX10_setHours_20 : decode cX10_setHours 20 = .ok (.aload_n 0, 1) := by decide +kernel
theorem dX10_setHours_21 : decode cX10_setHours 21 = .ok (.iload 4, 2) := by decide +kernel
theorem dX10_setHours_23 : decode cX10_setHours 23 = .ok (.iload_n 3, 1) := by decide +kernel
theorem dX10_setHours_24 : decode cX10_setHours 24 = .ok (.iastore, 1) := by decide +kernel
theorem dX10_setHours_25 : decode cX10_setHours 25 = .ok (.iinc 4 1, 3) := by decide +kernel
theorem dX10_setHours_28 : decode cX10_setHours 28 = .ok (.goto (-21), 3) := by decide +kernel
theorem dX10_setHours_31 : decode cX10_setHours 31 = .ok (.return_, 1) := by decide +kernel
theorem dX10_fogAt_0 : decode cX10_fogAt 0 = .ok (.iload_n 1, 1) := by decide +kernel
theorem dX10_fogAt_1 : decode cX10_fogAt 1 = .ok (.ifCond .lt 19, 3) := by decide +kernel
theorem dX10_fogAt_4 : decode cX10_fogAt 4 = .ok (.iload_n 1, 1) := by decide +kernel
theorem dX10_fogAt_5 : decode cX10_fogAt 5 = .ok (.sipush 240, 3) := by decide +kernel
theorem dX10_fogAt_8 : decode cX10_fogAt 8 = .ok (.if_icmp .ge 12, 3) := by decide +kernel
theorem dX10_fogAt_11 : decode cX10_fogAt 11 = .ok (.aload_n 0, 1) := by decide +kernel
theorem dX10_fogAt_12 : decode cX10_fogAt 12 = .ok (.getfield 15, 3) := by decide +kernel
theorem dX10_fogAt_15 : decode cX10_fogAt 15 = .ok (.iload_n 1, 1) := by decide +kernel
theorem dX10_fogAt_16 : decode cX10_fogAt 16 = .ok (.iaload, 1) := by decide +kernel
theorem dX10_fogAt_17 : decode cX10_fogAt 17 = .ok (.goto 4, 3) := by decide +kernel
theorem dX10_fogAt_20 : decode cX10_fogAt 20 = .ok (.iconst 0, 1) := by decide +kernel
theorem dX10_fogAt_21 : decode cX10_fogAt 21 = .ok (.ireturn, 1) := by decide +kernel
set_option maxRecDepth 20000 in
theorem ggX10_isClear_X10_fogAt : GoodIn wsX10_isClear wsX10_fogAt := goodIn_r _ [5, 6, 7, 8, 9, 10] (by decide +kernel) (by decide +kernel)
set_option maxRecDepth 20000 in
theorem gX10_isClear_X10_fogAt : GoodIn wsX10_isClear (wsV RX10 35 RX10 yX10_fogAt wsX10_fogAt) := goodIn_app (goodIn_of _ (by decide +kernel)) ggX10_isClear_X10_fogAt
theorem dX10_isClear_0 : decode cX10_isClear 0 = .ok (.iload_n 1, 1) := by decide +kernel
theorem dX10_isClear_1 : decode cX10_isClear 1 = .ok (.istore_n 3, 1) := by decide +kernel
theorem dX10_isClear_2 : decode cX10_isClear 2 = .ok (.iload_n 3, 1) := by decide +kernel
theorem dX10_isClear_3 : decode cX10_isClear 3 = .ok (.iload_n 1, 1) := by decide +kernel
theorem dX10_isClear_4 : decode cX10_isClear 4 = .ok (.iload_n 2, 1) := by decide +kernel
theorem dX10_isClear_5 : decode cX10_isClear 5 = .ok (.iadd, 1) := by decide +kernel
theorem dX10_isClear_6 : decode cX10_isClear 6 = .ok (.if_icmp .ge 21, 3) := by decide +kernel
theorem dX10_isClear_9 : decode cX10_isClear 9 = .ok (.aload_n 0, 1) := by decide +kernel
theorem dX10_isClear_10 : decode cX10_isClear 10 = .ok (.iload_n 3, 1) := by decide +kernel
theorem dX10_isClear_11 : decode cX10_isClear 11 = .ok (.invokevirtual 35, 3) := by decide +kernel
theorem dX10_isClear_14 : decode cX10_isClear 14 = .ok (.bipush 8, 2) := by decide +kernel
theorem dX10_isClear_16 : decode cX10_isClear 16 = .ok (.if_icmp .le 5, 3) := by decide +kernel
theorem dX10_isClear_19 : decode cX10_isClear 19 = .ok (.iconst 0, 1) := by decide +kernel
theorem dX10_isClear_20 : decode cX10_isClear 20 = .ok (.ireturn, 1) := by decide +kernel
theorem dX10_isClear_21 : decode cX10_isClear 21 = .ok (.iinc 3 1, 3) := by decide +kernel
theorem dX10_isClear_24 : decode cX10_isClear 24 = .ok (.goto (-22), 3) := by decide +kernel
theorem dX10_isClear_27 : decode cX10_isClear 27 = .ok (.iconst 1, 1) := by decide +kernel
theorem dX10_isClear_28 : decode cX10_isClear 28 = .ok (.ireturn, 1) := by decide +kernel
set_option maxRecDepth 20000 in
theorem ggX10_blow_X11_byColumns : GoodIn wsX10_blow wsX11_byColumns := goodIn_r _ [4, 5] (by decide +kernel) (by decide +kernel)
set_option maxRecDepth 20000 in
theorem gX10_blow_X11_byColumns_n39 : GoodIn wsX10_blow (wsX11_byColumns) := ggX10_blow_X11_byColumns
set_option maxRecDepth 20000 in
theorem ggX10_blow_X11_byRows : GoodIn wsX10_blow wsX11_byRows := goodIn_r _ [7] (by decide +kernel) (by decide +kernel)
set_option maxRecDepth 20000 in
theorem gX10_blow_X11_byRows_n43 : GoodIn wsX10_blow (wsX11_byRows) := ggX10_blow_X11_byRows
theorem dX10_blow_0 : decode cX10_blow 0 = .ok (.iload_n 1, 1) := by decide +kernel
theorem dX10_blow_1 : decode cX10_blow 1 = .ok (.ifCond .lt 19, 3) := by decide +kernel
theorem dX10_blow_4 : decode cX10_blow 4 = .ok (.iload_n 1, 1) := by decide +kernel
theorem dX10_blow_5 : decode cX10_blow 5 = .ok (.sipush 240, 3) := by decide +kernel
theorem dX10_blow_8 : decode cX10_blow 8 = .ok (.if_icmp .ge 12, 3) := by decide +kernel
theorem dX10_blow_11 : decode cX10_blow 11 = .ok (.aload_n 0, 1) := by decide +kernel
theorem dX10_blow_12 : decode cX10_blow 12 = .ok (.getfield 9, 3) := by decide +kernel
theorem dX10_blow_15 : decode cX10_blow 15 = .ok (.iload_n 1, 1) := by decide +kernel
theorem dX10_blow_16 : decode cX10_blow 16 = .ok (.iaload, 1) := by decide +kernel
theorem dX10_blow_17 : decode cX10_blow 17 = .ok (.goto 6, 3) := by decide +kernel
theorem dX10_blow_20 : decode cX10_blow 20 = .ok (.sipush 2222, 3) := by decide +kernel
theorem dX10_blow_23 : decode cX10_blow 23 = .ok (.istore 5, 2) := by decide +kernel
theorem dX10_blow_25 : decode cX10_blow 25 = .ok (.iload 5, 2) := by decide +kernel
theorem dX10_blow_27 : decode cX10_blow 27 = .ok (.sipush 2222, 3) := by decide +kernel
theorem dX10_blow_30 : decode cX10_blow 30 = .ok (.if_icmp .ne 10, 3) := by decide +kernel
theorem dX10_blow_33 : decode cX10_blow 33 = .ok (.iload 4, 2) := by decide +kernel
theorem dX10_blow_35 : decode cX10_blow 35 = .ok (.ifCond .ne 5, 3) := by decide +kernel
theorem dX10_blow_38 : decode cX10_blow 38 = .ok (.lload_n 2, 1) := by decide +kernel
theorem dX10_blow_39 : decode cX10_blow 39 = .ok (.lreturn, 1) := by decide +kernel
theorem dX10_blow_40 : decode cX10_blow 40 = .ok (.lconst 0, 1) := by decide +kernel
theorem dX10_blow_41 : decode cX10_blow 41 = .ok (.lstore 6, 2) := by decide +kernel
theorem dX10_blow_43 : decode cX10_blow 43 = .ok (.iload 5, 2) := by decide +kernel
theorem dX10_blow_45 : decode cX10_blow 45 = .ok (.sipush 1000, 3) := by decide +kernel
theorem dX10_blow_48 : decode cX10_blow 48 = .ok (.idiv, 1) := by decide +kernel
theorem dX10_blow_49 : decode cX10_blow 49 = .ok (.iconst 2, 1) := by decide +kernel
theorem dX10_blow_50 : decode cX10_blow 50 = .ok (.isub, 1) := by decide +kernel
theorem dX10_blow_51 : decode cX10_blow 51 = .ok (.iload 4, 2) := by decide +kernel
theorem dX10_blow_53 : decode cX10_blow 53 = .ok (.isub, 1) := by decide +kernel
theorem dX10_blow_54 : decode cX10_blow 54 = .ok (.istore 8, 2) := by decide +kernel
theorem dX10_blow_56 : decode cX10_blow 56 = .ok (.iload 8, 2) := by decide +kernel
theorem dX10_blow_58 : decode cX10_blow 58 = .ok (.iload 5, 2) := by decide +kernel
theorem dX10_blow_60 : decode cX10_blow 60 = .ok (.bipush 100, 2) := by decide +kernel
theorem dX10_blow_62 : decode cX10_blow 62 = .ok (.idiv, 1) := by decide +kernel
theorem dX10_blow_63 : decode cX10_blow 63 = .ok (.bipush 10, 2) := by decide +kernel
theorem dX10_blow_65 : decode cX10_blow 65 = .ok (.irem, 1) := by decide +kernel
theorem dX10_blow_66 : decode cX10_blow 66 = .ok (.iconst 2, 1) := by decide +kernel
theorem dX10_blow_67 : decode cX10_blow 67 = .ok (.isub, 1) := by decide +kernel
theorem dX10_blow_68 : decode cX10_blow 68 = .ok (.iload 4, 2) := by decide +kernel
theorem dX10_blow_70 : decode cX10_blow 70 = .ok (.iadd, 1) := by decide +kernel
theorem dX10_blow_71 : decode cX10_blow 71 = .ok (.if_icmp .gt 20, 3) := by decide +kernel
theorem dX10_blow_74 : decode cX10_blow 74 = .ok (.lload 6, 2) := by decide +kernel
theorem dX10_blow_76 : decode cX10_blow 76 = .ok (.lload_n 2, 1) := by decide +kernel
theorem dX10_blow_77 : decode cX10_blow 77 = .ok (.iload 8, 2) := by decide +kernel
theorem dX10_blow_79 : decode cX10_blow 79 = .ok (.invokestatic 39, 3) := by decide +kernel
theorem dX10_blow_82 : decode cX10_blow 82 = .ok (.lor, 1) := by decide +kernel
theorem dX10_blow_83 : decode cX10_blow 83 = .ok (.lstore 6, 2) := by decide +kernel
theorem dX10_blow_85 : decode cX10_blow 85 = .ok (.iinc 8 1, 3) := by decide +kernel
theorem dX10_blow_88 : decode cX10_blow 88 = .ok (.goto (-32), 3) := by decide +kernel
theorem dX10_blow_91 : decode cX10_blow 91 = .ok (.lconst 0, 1) := by decide +kernel
theorem dX10_blow_92 : decode cX10_blow 92 = .ok (.lstore 8, 2) := by decide +kernel
theorem dX10_blow_94 : decode cX10_blow 94 = .ok (.iload 5, 2) := by decide +kernel
theorem dX10_blow_96 : decode cX10_blow 96 = .ok (.bipush 10, 2) := by decide +kernel
theorem dX10_blow_98 : decode cX10_blow 98 = .ok (.idiv, 1) := by decide +kernel
theorem dX10_blow_99 : decode cX10_blow 99 = .ok (.bipush 10, 2) := by decide +kernel
theorem dX10_blow_101 : decode cX10_blow 101 = .ok (.irem, 1) := by decide +kernel
theorem dX10_blow_102 : decode cX10_blow 102 = .ok (.iconst 2, 1) := by decide +kernel
theorem dX10_blow_103 : decode cX10_blow 103 = .ok (.isub, 1) := by decide +kernel
theorem dX10_blow_104 : decode cX10_blow 104 = .ok (.iload 4, 2) := by decide +kernel
theorem dX10_blow_106 : decode cX10_blow 106 = .ok (.isub, 1) := by decide +kernel
theorem dX10_blow_107 : decode cX10_blow 107 = .ok (.istore 10, 2) := by decide +kernel
theorem dX10_blow_109 : decode cX10_blow 109 = .ok (.iload 10, 2) := by decide +kernel
theorem dX10_blow_111 : decode cX10_blow 111 = .ok (.iload 5, 2) := by decide +kernel
theorem dX10_blow_113 : decode cX10_blow 113 = .ok (.bipush 10, 2) := by decide +kernel
theorem dX10_blow_115 : decode cX10_blow 115 = .ok (.irem, 1) := by decide +kernel
theorem dX10_blow_116 : decode cX10_blow 116 = .ok (.iconst 2, 1) := by decide +kernel
theorem dX10_blow_117 : decode cX10_blow 117 = .ok (.isub, 1) := by decide +kernel
theorem dX10_blow_118 : decode cX10_blow 118 = .ok (.iload 4, 2) := by decide +kernel
theorem dX10_blow_120 : decode cX10_blow 120 = .ok (.iadd, 1) := by decide +kernel
theorem dX10_blow_121 : decode cX10_blow 121 = .ok (.if_icmp .gt 21, 3) := by decide +kernel
theorem dX10_blow_124 : decode cX10_blow 124 = .ok (.lload 8, 2) := by decide +kernel
theorem dX10_blow_126 : decode cX10_blow 126 = .ok (.lload 6, 2) := by decide +kernel
theorem dX10_blow_128 : decode cX10_blow 128 = .ok (.iload 10, 2) := by decide +kernel
theorem dX10_blow_130 : decode cX10_blow 130 = .ok (.invokestatic 43, 3) := by decide +kernel
theorem dX10_blow_133 : decode cX10_blow 133 = .ok (.lor, 1) := by decide +kernel
theorem dX10_blow_134 : decode cX10_blow 134 = .ok (.lstore 8, 2) := by decide +kernel
theorem dX10_blow_136 : decode cX10_blow 136 = .ok (.iinc 10 1, 3) := by decide +kernel
theorem dX10_blow_139 : decode cX10_blow 139 = .ok (.goto (-30), 3) := by decide +kernel
theorem dX10_blow_142 : decode cX10_blow 142 = .ok (.lload 8, 2) := by decide +kernel
theorem dX10_blow_144 : decode cX10_blow 144 = .ok (.lreturn, 1) := by decide +kernel
set_option maxRecDepth 20000 in
theorem ggX11_init_X10_init : GoodIn wsX11_init wsX10_init := goodIn_r _ [40, 41, 2, 3, 42, 43, 44, 135, 136, 137, 138] (by decide +kernel) (by decide +kernel)
set_option maxRecDepth 20000 in
theorem gX11_init_X10_init : GoodIn wsX11_init (wsX10_init) := ggX11_init_X10_init
set_option maxRecDepth 20000 in
theorem ggX11_init_X4_init : GoodIn wsX11_init wsX4_init := goodIn_r _ [46, 47, 2, 3, 42, 48, 49, 50, 51, 52, 53, 54, 55, 56, 57, 58, 152, 153, 154, 155, 156, 157, 158, 159, 160, 161, 162, 163, 164] (by decide +kernel) (by decide +kernel)
set_option maxRecDepth 20000 in
theorem gX11_init_X4_init_n24 : GoodIn wsX11_init (wsX4_init) := ggX11_init_X4_init
set_option maxRecDepth 20000 in
theorem ggX11_init_X6_init : GoodIn wsX11_init wsX6_init := goodIn_r _ [60, 61, 2, 3, 54, 62, 63, 42, 64, 65, 165, 166, 167, 168, 169, 170, 171] (by decide +kernel) (by decide +kernel)
set_option maxRecDepth 20000 in
theorem gX11_init_X6_init_n31 : GoodIn wsX11_init (wsX6_init) := ggX11_init_X6_init
set_option maxRecDepth 20000 in
theorem ggX11_init_X2_init : GoodIn wsX11_init wsX2_init := goodIn_r _ [67, 68, 2, 3, 42, 69, 70, 71, 72, 73, 172, 173, 174, 175, 176, 177] (by decide +kernel) (by decide +kernel)
set_option maxRecDepth 20000 in
theorem gX11_init_X2_init_n38 : GoodIn wsX11_init (wsX2_init) := ggX11_init_X2_init
set_option maxRecDepth 20000 in
theorem ggX11_init_X3_init : GoodIn wsX11_init wsX3_init := goodIn_r _ [76, 77, 2, 3, 42, 78, 79, 80, 81, 82, 83, 84, 85, 86, 87, 88, 89, 90, 91, 92, 93, 94, 95, 96, 97, 98, 99, 100, 101, 102, 103, 104, 105, 106, 107, 108, 109, 110, 111, 112, 113, 114, 115, 116, 117, 118, 178, 179, 180, 181, 182, 183, 184, 185, 197, 198, 199, 200, 201, 202, 203, 204, 205, 206, 207] (by decide +kernel) (by decide +kernel)
set_option maxRecDepth 20000 in
theorem gX11_init_X3_init : GoodIn wsX11_init (wsX3_init) := ggX11_init_X3_init
set_option maxRecDepth 20000 in
theorem ggX11_init_X8_init : GoodIn wsX11_init wsX8_init := goodIn_r _ [120, 121, 2, 3, 42, 122, 123, 124, 186, 187, 188, 189] (by decide +kernel) (by decide +kernel)
set_option maxRecDepth 20000 in
theorem gX11_init_X8_init_n52 : GoodIn wsX11_init (wsX8_init) := ggX11_init_X8_init
set_option maxRecDepth 20000 in
theorem ggX11_init_X1_init : GoodIn wsX11_init wsX1_init := goodIn_r _ [126, 127, 2, 3, 128, 42, 129, 190, 191, 192, 193] (by decide +kernel) (by decide +kernel)
set_option maxRecDepth 20000 in
theorem gX11_init_X1_init_n59 : GoodIn wsX11_init (wsX1_init) := ggX11_init_X1_init
set_option maxRecDepth 20000 in
theorem ggX11_init_X7_init : GoodIn wsX11_init wsX7_init := goodIn_r _ [131, 132, 2, 3, 42, 133, 134, 194, 195, 196] (by decide +kernel) (by decide +kernel)
set_option maxRecDepth 20000 in
theorem gX11_init_X7_init_n70 : GoodIn wsX11_init (wsX7_init) := ggX11_init_X7_init
theorem dX11_init_0 : decode cX11_init 0 = .ok (.aload_n 0, 1) := by decide +kernel
theorem dX11_init_1 : decode cX11_init 1 = .ok (.invokespecial 1, 3) := by decide +kernel
theorem dX11_init_4 : decode cX11_init 4 = .ok (.aload_n 0, 1) := by decide +kernel
theorem dX11_init_5 : decode cX11_init 5 = .ok (.new 7, 3) := by decide +kernel
theorem dX11_init_8 : decode cX11_init 8 = .ok (.dup, 1) := by decide +kernel
theorem dX11_init_9 : decode cX11_init 9 = .ok (.invokespecial 9, 3) := by decide +kernel
theorem dX11_init_12 : decode cX11_init 12 = .ok (.putfield 10, 3) := by decide +kernel
theorem dX11_init_15 : decode cX11_init 15 = .ok (.aload_n 0, 1) := by decide +kernel
theorem dX11_init_16 : decode cX11_init 16 = .ok (.bipush 12, 2) := by decide +kernel
theorem dX11_init_18 : decode cX11_init 18 = .ok (.anewarray 16, 3) := by decide +kernel
theorem dX11_init_21 : decode cX11_init 21 = .ok (.putfield 18, 3) := by decide +kernel
theorem dX11_init_24 : decode cX11_init 24 = .ok (.aload_n 0, 1) := by decide +kernel
theorem dX11_init_25 : decode cX11_init 25 = .ok (.new 22, 3) := by decide +kernel
theorem dX11_init_28 : decode cX11_init 28 = .ok (.dup, 1) := by decide +kernel
theorem dX11_init_29 : decode cX11_init 29 = .ok (.invokespecial 24, 3) := by decide +kernel
theorem dX11_init_32 : decode cX11_init 32 = .ok (.putfield 25, 3) := by decide +kernel
theorem dX11_init_35 : decode cX11_init 35 = .ok (.aload_n 0, 1) := by decide +kernel
theorem dX11_init_36 : decode cX11_init 36 = .ok (.new 29, 3) := by decide +kernel
theorem dX11_init_39 : decode cX11_init 39 = .ok (.dup, 1) := by decide +kernel
theorem dX11_init_40 : decode cX11_init 40 = .ok (.invokespecial 31, 3) := by decide +kernel
theorem dX11_init_43 : decode cX11_init 43 = .ok (.putfield 32, 3) := by decide +kernel
theorem dX11_init_46 : decode cX11_init 46 = .ok (.aload_n 0, 1) := by decide +kernel
theorem dX11_init_47 : decode cX11_init 47 = .ok (.new 36, 3) := by decide +kernel
theorem dX11_init_50 : decode cX11_init 50 = .ok (.dup, 1) := by decide +kernel
theorem dX11_init_51 : decode cX11_init 51 = .ok (.invokespecial 38, 3) := by decide +kernel
theorem dX11_init_54 : decode cX11_init 54 = .ok (.putfield 39, 3) := by decide +kernel
theorem dX11_init_57 : decode cX11_init 57 = .ok (.aload_n 0, 1) := by decide +kernel
theorem dX11_init_58 : decode cX11_init 58 = .ok (.new 43, 3) := by decide +kernel
theorem dX11_init_61 : decode cX11_init 61 = .ok (.dup, 1) := by decide +kernel
theorem dX11_init_62 : decode cX11_init 62 = .ok (.invokespecial 45, 3) := by decide +kernel
theorem dX11_init_65 : decode cX11_init 65 = .ok (.putfield 46, 3) := by decide +kernel
theorem dX11_init_68 : decode cX11_init 68 = .ok (.aload_n 0, 1) := by decide +kernel
theorem dX11_init_69 : decode cX11_init 69 = .ok (.new 50, 3) := by decide +kernel
theorem dX11_init_72 : decode cX11_init 72 = .ok (.dup, 1) := by decide +kernel
theorem dX11_init_73 : decode cX11_init 73 = .ok (.invokespecial 52, 3) := by decide +kernel
theorem dX11_init_76 : decode cX11_init 76 = .ok (.putfield 53, 3) := by decide +kernel
theorem dX11_init_79 : decode cX11_init 79 = .ok (.aload_n 0, 1) := by decide +kernel
theorem dX11_init_80 : decode cX11_init 80 = .ok (.new 57, 3) := by decide +kernel
theorem dX11_init_83 : decode cX11_init 83 = .ok (.dup, 1) := by decide +kernel
theorem dX11_init_84 : decode cX11_init 84 = .ok (.invokespecial 59, 3) := by decide +kernel
theorem dX11_init_87 : decode cX11_init 87 = .ok (.putfield 60, 3) := by decide +kernel
theorem dX11_init_90 : decode cX11_init 90 = .ok (.aload_n 0, 1) := by decide +kernel
theorem dX11_init_91 : decode cX11_init 91 = .ok (.iconst 4, 1) := by decide +kernel
theorem dX11_init_92 : decode cX11_init 92 = .ok (.anewarray 64, 3) := by decide +kernel
theorem dX11_init_95 : decode cX11_init 95 = .ok (.putfield 66, 3) := by decide +kernel
theorem dX11_init_98 : decode cX11_init 98 = .ok (.iconst 0, 1) := by decide +kernel
theorem dX11_init_99 : decode cX11_init 99 = .ok (.istore_n 1, 1) := by decide +kernel
theorem dX11_init_100 : decode cX11_init 100 = .ok (.iload_n 1, 1) := by decide +kernel
theorem dX11_init_101 : decode cX11_init 101 = .ok (.iconst 4, 1) := by decide +kernel
theorem dX11_init_102 : decode cX11_init 102 = .ok (.if_icmp .ge 22, 3) := by decide +kernel
theorem dX11_init_105 : decode cX11_init 105 = .ok (.aload_n 0, 1) := by decide +kernel
theorem dX11_init_106 : decode cX11_init 106 = .ok (.getfield 66, 3) := by decide +kernel
theorem dX11_init_109 : decode cX11_init 109 = .ok (.iload_n 1, 1) := by decide +kernel
theorem dX11_init_110 : decode cX11_init 110 = .ok (.new 64, 3) := by decide +kernel
theorem dX11_init_113 : decode cX11_init 113 = .ok (.dup, 1) := by decide +kernel
theorem dX11_init_114 : decode cX11_init 114 = .ok (.invokespecial 70, 3) := by decide +kernel
theorem dX11_init_117 : decode cX11_init 117 = .ok (.aastore, 1) := by decide +kernel
theorem dX11_init_118 : decode cX11_init 118 = .ok (.iinc 1 1, 3) := by decide +kernel
theorem dX11_init_121 : decode cX11_init 121 = .ok (.goto (-21), 3) := by decide +kernel
theorem dX11_init_124 : decode cX11_init 124 = .ok (.return_, 1) := by decide +kernel
set_option maxRecDepth 20000 in
theorem ggX11_pass_X11_bodyAt : GoodIn wsX11_pass wsX11_bodyAt := goodIn_r _ [7, 2, 8, 25, 26, 27, 28, 29, 30, 31, 32, 33, 34, 35, 36, 37] (by decide +kernel) (by decide +kernel)
set_option maxRecDepth 20000 in
theorem gX11_pass_X11_bodyAt : GoodIn wsX11_pass (wsV RX11 78 RX11 yX11_bodyAt wsX11_bodyAt) := goodIn_app (goodIn_of _ (by decide +kernel)) ggX11_pass_X11_bodyAt
set_option maxRecDepth 20000 in
theorem ggX11_pass_X0_eatFor : GoodIn wsX11_pass wsX0_eatFor := goodIn_r _ [13, 14, 15, 16, 17, 18, 19, 20, 21, 12, 22, 23, 24, 38, 39, 40, 41, 42, 43, 44, 45, 46, 47, 48, 49, 50, 51, 52] (by decide +kernel) (by decide +kernel)
set_option maxRecDepth 20000 in
theorem gX11_pass_X0_eatFor : GoodIn wsX11_pass (wsV RX11 82 RX0 yX0_eatFor wsX0_eatFor) := goodIn_app (goodIn_of _ (by decide +kernel)) ggX11_pass_X0_eatFor

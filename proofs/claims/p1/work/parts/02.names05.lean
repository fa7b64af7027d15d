theorem dX11_copy_50 : decode cX11_copy 50 = .ok (.getfield 355, 3) := by decide +kernel
theorem dX11_copy_53 : decode cX11_copy 53 = .ok (.aload 7, 2) := by decide +kernel
theorem dX11_copy_55 : decode cX11_copy 55 = .ok (.getfield 355, 3) := by decide +kernel
theorem dX11_copy_58 : decode cX11_copy 58 = .ok (.if_icmp .eq 6, 3) := by decide +kernel
theorem dX11_copy_61 : decode cX11_copy 61 = .ok (.bipush (-13), 2) := by decide +kernel
theorem dX11_copy_63 : decode cX11_copy 63 = .ok (.ireturn, 1) := by decide +kernel
theorem dX11_copy_64 : decode cX11_copy 64 = .ok (.aload 6, 2) := by decide +kernel
theorem dX11_copy_66 : decode cX11_copy 66 = .ok (.iload_n 2, 1) := by decide +kernel
theorem dX11_copy_67 : decode cX11_copy 67 = .ok (.iload 5, 2) := by decide +kernel
theorem dX11_copy_69 : decode cX11_copy 69 = .ok (.invokevirtual 364, 3) := by decide +kernel
theorem dX11_copy_72 : decode cX11_copy 72 = .ok (.ifCond .eq 15, 3) := by decide +kernel
theorem dX11_copy_75 : decode cX11_copy 75 = .ok (.aload 7, 2) := by decide +kernel
theorem dX11_copy_77 : decode cX11_copy 77 = .ok (.iload 4, 2) := by decide +kernel
theorem dX11_copy_79 : decode cX11_copy 79 = .ok (.iload 5, 2) := by decide +kernel
theorem dX11_copy_81 : decode cX11_copy 81 = .ok (.invokevirtual 364, 3) := by decide +kernel
theorem dX11_copy_84 : decode cX11_copy 84 = .ok (.ifCond .ne 6, 3) := by decide +kernel
theorem dX11_copy_87 : decode cX11_copy 87 = .ok (.bipush (-12), 2) := by decide +kernel
theorem dX11_copy_89 : decode cX11_copy 89 = .ok (.ireturn, 1) := by decide +kernel
theorem dX11_copy_90 : decode cX11_copy 90 = .ok (.aload 6, 2) := by decide +kernel
theorem dX11_copy_92 : decode cX11_copy 92 = .ok (.getfield 367, 3) := by decide +kernel
theorem dX11_copy_95 : decode cX11_copy 95 = .ok (.iload_n 2, 1) := by decide +kernel
theorem dX11_copy_96 : decode cX11_copy 96 = .ok (.aload 7, 2) := by decide +kernel
theorem dX11_copy_98 : decode cX11_copy 98 = .ok (.getfield 367, 3) := by decide +kernel
theorem dX11_copy_101 : decode cX11_copy 101 = .ok (.iload 4, 2) := by decide +kernel
theorem dX11_copy_103 : decode cX11_copy 103 = .ok (.iload 5, 2) := by decide +kernel
theorem dX11_copy_105 : decode cX11_copy 105 = .ok (.invokestatic 370, 3) := by decide +kernel
theorem dX11_copy_108 : decode cX11_copy 108 = .ok (.iload 5, 2) := by decide +kernel
theorem dX11_copy_110 : decode cX11_copy 110 = .ok (.ireturn, 1) := by decide +kernel
set_option maxRecDepth 20000 in
theorem ggX11_fixes_X11_bodyAt : GoodIn wsX11_fixes wsX11_bodyAt := goodIn_r _ [7, 8, 9, 56, 57, 58, 59, 60, 61, 62, 63, 64, 65, 66, 67, 68] (by decide +kernel) (by decide +kernel)
set_option maxRecDepth 20000 in
theorem gX11_fixes_X11_bodyAt : GoodIn wsX11_fixes (wsV RX11 78 RX11 yX11_bodyAt wsX11_bodyAt) := goodIn_app (goodIn_of _ (by decide +kernel)) ggX11_fixes_X11_bodyAt
set_option maxRecDepth 20000 in
theorem ggX11_fixes_X11_sheetAt : GoodIn wsX11_fixes wsX11_sheetAt := goodIn_r _ [13, 14, 56, 57, 58, 59, 60, 61, 62, 63, 64, 65, 66, 67, 68] (by decide +kernel) (by decide +kernel)
set_option maxRecDepth 20000 in
theorem gX11_fixes_X11_sheetAt : GoodIn wsX11_fixes (wsV RX11 348 RX11 yX11_sheetAt wsX11_sheetAt) := goodIn_app (goodIn_of _ (by decide +kernel)) ggX11_fixes_X11_sheetAt
set_option maxRecDepth 20000 in
theorem ggX11_fixes_X7_hasStretch : GoodIn wsX11_fixes wsX7_hasStretch := goodIn_r _ [19, 20, 53, 54, 55] (by decide +kernel) (by decide +kernel)
set_option maxRecDepth 20000 in
theorem gX11_fixes_X7_hasStretch : GoodIn wsX11_fixes (wsV RX11 364 RX7 yX7_hasStretch wsX7_hasStretch) := goodIn_app (goodIn_of _ (by decide +kernel)) ggX11_fixes_X7_hasStretch
set_option maxRecDepth 20000 in
theorem ggX11_fixes_X11_isCell : GoodIn wsX11_fixes wsX11_isCell := goodIn_r _ [23] (by decide +kernel) (by decide +kernel)
set_option maxRecDepth 20000 in
theorem gX11_fixes_X11_isCell : GoodIn wsX11_fixes (va_wsS RX11 110 yX11_isCell wsX11_isCell) := goodIn_app (goodIn_of _ (by decide +kernel)) ggX11_fixes_X11_isCell
set_option maxRecDepth 20000 in
theorem ggX11_fixes_X11_fix : GoodIn wsX11_fixes wsX11_fix := goodIn_r _ [27, 28, 29, 30, 3, 4, 5, 6, 7, 8, 9, 31, 32, 33, 34, 35, 36, 37, 38, 39, 40, 41, 42, 43, 44, 45, 46, 47, 48, 49, 50, 51, 52, 69, 70, 71, 72, 73, 74, 75, 76, 77, 78, 79, 80, 81, 82, 83, 56, 57, 58, 59, 60, 61, 62, 63, 64, 65, 66, 67, 68] (by decide +kernel) (by decide +kernel)
set_option maxRecDepth 20000 in
theorem gX11_fixes_X11_fix : GoodIn wsX11_fixes (wsV RX11 376 RX11 yX11_fix wsX11_fix) := goodIn_app (goodIn_of _ (by decide +kernel)) ggX11_fixes_X11_fix
theorem dX11_fixes_0 : decode cX11_fixes 0 = .ok (.aload_n 0, 1) := by decide +kernel
theorem dX11_fixes_1 : decode cX11_fixes 1 = .ok (.iload_n 1, 1) := by decide +kernel
theorem dX11_fixes_2 : decode cX11_fixes 2 = .ok (.invokevirtual 78, 3) := by decide +kernel
theorem dX11_fixes_5 : decode cX11_fixes 5 = .ok (.astore 6, 2) := by decide +kernel
theorem dX11_fixes_7 : decode cX11_fixes 7 = .ok (.aload_n 0, 1) := by decide +kernel
theorem dX11_fixes_8 : decode cX11_fixes 8 = .ok (.iload_n 2, 1) := by decide +kernel
theorem dX11_fixes_9 : decode cX11_fixes 9 = .ok (.invokevirtual 348, 3) := by decide +kernel
theorem dX11_fixes_12 : decode cX11_fixes 12 = .ok (.astore 7, 2) := by decide +kernel
theorem dX11_fixes_14 : decode cX11_fixes 14 = .ok (.aload 6, 2) := by decide +kernel
theorem dX11_fixes_16 : decode cX11_fixes 16 = .ok (.ifnull 29, 3) := by decide +kernel
theorem dX11_fixes_19 : decode cX11_fixes 19 = .ok (.aload 7, 2) := by decide +kernel
theorem dX11_fixes_21 : decode cX11_fixes 21 = .ok (.ifnull 24, 3) := by decide +kernel
theorem dX11_fixes_24 : decode cX11_fixes 24 = .ok (.iload_n 3, 1) := by decide +kernel
theorem dX11_fixes_25 : decode cX11_fixes 25 = .ok (.ifCond .lt 20, 3) := by decide +kernel
theorem dX11_fixes_28 : decode cX11_fixes 28 = .ok (.iload_n 3, 1) := by decide +kernel
theorem dX11_fixes_29 : decode cX11_fixes 29 = .ok (.iconst 3, 1) := by decide +kernel
theorem dX11_fixes_30 : decode cX11_fixes 30 = .ok (.if_icmp .ge 15, 3) := by decide +kernel
theorem dX11_fixes_33 : decode cX11_fixes 33 = .ok (.iload 5, 2) := by decide +kernel
theorem dX11_fixes_35 : decode cX11_fixes 35 = .ok (.ifCond .lt 10, 3) := by decide +kernel
theorem dX11_fixes_38 : decode cX11_fixes 38 = .ok (.iload 5, 2) := by decide +kernel
theorem dX11_fixes_40 : decode cX11_fixes 40 = .ok (.bipush 20, 2) := by decide +kernel
theorem dX11_fixes_42 : decode cX11_fixes 42 = .ok (.if_icmp .le 6, 3) := by decide +kernel
theorem dX11_fixes_45 : decode cX11_fixes 45 = .ok (.bipush (-2), 2) := by decide +kernel
theorem dX11_fixes_47 : decode cX11_fixes 47 = .ok (.ireturn, 1) := by decide +kernel
theorem dX11_fixes_48 : decode cX11_fixes 48 = .ok (.aload 7, 2) := by decide +kernel
theorem dX11_fixes_50 : decode cX11_fixes 50 = .ok (.getfield 355, 3) := by decide +kernel
theorem dX11_fixes_53 : decode cX11_fixes 53 = .ok (.iconst (-1), 1) := by decide +kernel
theorem dX11_fixes_54 : decode cX11_fixes 54 = .ok (.if_icmp .eq 15, 3) := by decide +kernel
theorem dX11_fixes_57 : decode cX11_fixes 57 = .ok (.aload 7, 2) := by decide +kernel
theorem dX11_fixes_59 : decode cX11_fixes 59 = .ok (.getfield 355, 3) := by decide +kernel
theorem dX11_fixes_62 : decode cX11_fixes 62 = .ok (.iload_n 3, 1) := by decide +kernel
theorem dX11_fixes_63 : decode cX11_fixes 63 = .ok (.if_icmp .eq 6, 3) := by decide +kernel
theorem dX11_fixes_66 : decode cX11_fixes 66 = .ok (.bipush (-13), 2) := by decide +kernel
theorem dX11_fixes_68 : decode cX11_fixes 68 = .ok (.ireturn, 1) := by decide +kernel
theorem dX11_fixes_69 : decode cX11_fixes 69 = .ok (.aload 7, 2) := by decide +kernel
theorem dX11_fixes_71 : decode cX11_fixes 71 = .ok (.getfield 355, 3) := by decide +kernel
theorem dX11_fixes_74 : decode cX11_fixes 74 = .ok (.iconst (-1), 1) := by decide +kernel
theorem dX11_fixes_75 : decode cX11_fixes 75 = .ok (.if_icmp .ne 6, 3) := by decide +kernel
theorem dX11_fixes_78 : decode cX11_fixes 78 = .ok (.bipush (-11), 2) := by decide +kernel
theorem dX11_fixes_80 : decode cX11_fixes 80 = .ok (.ireturn, 1) := by decide +kernel
theorem dX11_fixes_81 : decode cX11_fixes 81 = .ok (.iconst 0, 1) := by decide +kernel
theorem dX11_fixes_82 : decode cX11_fixes 82 = .ok (.istore 8, 2) := by decide +kernel
theorem dX11_fixes_84 : decode cX11_fixes 84 = .ok (.iload 4, 2) := by decide +kernel
theorem dX11_fixes_86 : decode cX11_fixes 86 = .ok (.istore 9, 2) := by decide +kernel
theorem dX11_fixes_88 : decode cX11_fixes 88 = .ok (.iconst 0, 1) := by decide +kernel
theorem dX11_fixes_89 : decode cX11_fixes 89 = .ok (.istore 10, 2) := by decide +kernel
theorem dX11_fixes_91 : decode cX11_fixes 91 = .ok (.iload 10, 2) := by decide +kernel
theorem dX11_fixes_93 : decode cX11_fixes 93 = .ok (.iload 5, 2) := by decide +kernel
theorem dX11_fixes_95 : decode cX11_fixes 95 = .ok (.if_icmp .ge 69, 3) := by decide +kernel
theorem dX11_fixes_98 : decode cX11_fixes 98 = .ok (.aload 7, 2) := by decide +kernel
theorem dX11_fixes_100 : decode cX11_fixes 100 = .ok (.iload 9, 2) := by decide +kernel
theorem dX11_fixes_102 : decode cX11_fixes 102 = .ok (.iconst 2, 1) := by decide +kernel
theorem dX11_fixes_103 : decode cX11_fixes 103 = .ok (.invokevirtual 364, 3) := by decide +kernel
theorem dX11_fixes_106 : decode cX11_fixes 106 = .ok (.ifCond .ne 6, 3) := by decide +kernel
theorem dX11_fixes_109 : decode cX11_fixes 109 = .ok (.bipush (-12), 2) := by decide +kernel
theorem dX11_fixes_111 : decode cX11_fixes 111 = .ok (.ireturn, 1) := by decide +kernel
theorem dX11_fixes_112 : decode cX11_fixes 112 = .ok (.aload 7, 2) := by decide +kernel
theorem dX11_fixes_114 : decode cX11_fixes 114 = .ok (.getfield 367, 3) := by decide +kernel
theorem dX11_fixes_117 : decode cX11_fixes 117 = .ok (.iload 9, 2) := by decide +kernel
theorem dX11_fixes_119 : decode cX11_fixes 119 = .ok (.iconst 1, 1) := by decide +kernel
theorem dX11_fixes_120 : decode cX11_fixes 120 = .ok (.iadd, 1) := by decide +kernel
theorem dX11_fixes_121 : decode cX11_fixes 121 = .ok (.iaload, 1) := by decide +kernel
theorem dX11_fixes_122 : decode cX11_fixes 122 = .ok (.istore 11, 2) := by decide +kernel
theorem dX11_fixes_124 : decode cX11_fixes 124 = .ok (.iload 11, 2) := by decide +kernel
theorem dX11_fixes_126 : decode cX11_fixes 126 = .ok (.invokestatic 110, 3) := by decide +kernel
theorem dX11_fixes_129 : decode cX11_fixes 129 = .ok (.ifCond .eq 26, 3) := by decide +kernel
theorem dX11_fixes_132 : decode cX11_fixes 132 = .ok (.aload_n 0, 1) := by decide +kernel
theorem dX11_fixes_133 : decode cX11_fixes 133 = .ok (.iload_n 1, 1) := by decide +kernel
theorem dX11_fixes_134 : decode cX11_fixes 134 = .ok (.aload 7, 2) := by decide +kernel
theorem dX11_fixes_136 : decode cX11_fixes 136 = .ok (.getfield 367, 3) := by decide +kernel
theorem dX11_fixes_139 : decode cX11_fixes 139 = .ok (.iload 9, 2) := by decide +kernel
theorem dX11_fixes_141 : decode cX11_fixes 141 = .ok (.iaload, 1) := by decide +kernel
theorem dX11_fixes_142 : decode cX11_fixes 142 = .ok (.lconst 1, 1) := by decide +kernel
theorem dX11_fixes_143 : decode cX11_fixes 143 = .ok (.iload 11, 2) := by decide +kernel
theorem dX11_fixes_145 : decode cX11_fixes 145 = .ok (.lshl, 1) := by decide +kernel
theorem dX11_fixes_146 : decode cX11_fixes 146 = .ok (.invokevirtual 376, 3) := by decide +kernel
theorem dX11_fixes_149 : decode cX11_fixes 149 = .ok (.ifCond .le 6, 3) := by decide +kernel
theorem dX11_fixes_152 : decode cX11_fixes 152 = .ok (.iinc 8 1, 3) := by decide +kernel
theorem dX11_fixes_155 : decode cX11_fixes 155 = .ok (.iinc 9 2, 3) := by decide +kernel
theorem dX11_fixes_158 : decode cX11_fixes 158 = .ok (.iinc 10 1, 3) := by decide +kernel
theorem dX11_fixes_161 : decode cX11_fixes 161 = .ok (.goto (-70), 3) := by decide +kernel
theorem dX11_fixes_164 : decode cX11_fixes 164 = .ok (.iload 8, 2) := by decide +kernel
theorem dX11_fixes_166 : decode cX11_fixes 166 = .ok (.ireturn, 1) := by decide +kernel
set_option maxRecDepth 20000 in
theorem ggX11_taken_X11_bodyAt : GoodIn wsX11_taken wsX11_bodyAt := goodIn_r _ [6, 7, 8, 30, 31, 32, 33, 34, 35, 36, 37, 38, 39, 40, 41, 42] (by decide +kernel) (by decide +kernel)
set_option maxRecDepth 20000 in
theorem gX11_taken_X11_bodyAt : GoodIn wsX11_taken (wsV RX11 78 RX11 yX11_bodyAt wsX11_bodyAt) := goodIn_app (goodIn_of _ (by decide +kernel)) ggX11_taken_X11_bodyAt
set_option maxRecDepth 20000 in
theorem ggX11_taken_X0_isUnder : GoodIn wsX11_taken wsX0_isUnder := goodIn_r _ [13, 14, 15, 16, 17, 18, 19, 20, 21, 22, 23, 24, 25, 26, 27, 28, 29] (by decide +kernel) (by decide +kernel)
set_option maxRecDepth 20000 in
theorem gX11_taken_X0_isUnder : GoodIn wsX11_taken (wsV RX11 379 RX0 yX0_isUnder wsX0_isUnder) := goodIn_app (goodIn_of _ (by decide +kernel)) ggX11_taken_X0_isUnder
theorem dX11_taken_0 : decode cX11_taken 0 = .ok (.iload_n 2, 1) := by decide +kernel
theorem dX11_taken_1 : decode cX11_taken 1 = .ok (.ifCond .lt 9, 3) := by decide +kernel
theorem dX11_taken_4 : decode cX11_taken 4 = .ok (.iload_n 2, 1) := by decide +kernel
theorem dX11_taken_5 : decode cX11_taken 5 = .ok (.bipush 6, 2) := by decide +kernel
theorem dX11_taken_7 : decode cX11_taken 7 = .ok (.if_icmp .lt 6, 3) := by decide +kernel
theorem dX11_taken_10 : decode cX11_taken 10 = .ok (.bipush (-2), 2) := by decide +kernel
theorem dX11_taken_12 : decode cX11_taken 12 = .ok (.ireturn, 1) := by decide +kernel
theorem dX11_taken_13 : decode cX11_taken 13 = .ok (.aload_n 0, 1) := by decide +kernel
theorem dX11_taken_14 : decode cX11_taken 14 = .ok (.iload_n 1, 1) := by decide +kernel
theorem dX11_taken_15 : decode cX11_taken 15 = .ok (.invokevirtual 78, 3) := by decide +kernel
theorem dX11_taken_18 : decode cX11_taken 18 = .ok (.astore_n 3, 1) := by decide +kernel
theorem dX11_taken_19 : decode cX11_taken 19 = .ok (.aload_n 3, 1) := by decide +kernel
theorem dX11_taken_20 : decode cX11_taken 20 = .ok (.ifnonnull 6, 3) := by decide +kernel
theorem dX11_taken_23 : decode cX11_taken 23 = .ok (.bipush (-11), 2) := by decide +kernel
theorem dX11_taken_25 : decode cX11_taken 25 = .ok (.ireturn, 1) := by decide +kernel
theorem dX11_taken_26 : decode cX11_taken 26 = .ok (.aload_n 3, 1) := by decide +kernel
theorem dX11_taken_27 : decode cX11_taken 27 = .ok (.iload_n 2, 1) := by decide +kernel
theorem dX11_taken_28 : decode cX11_taken 28 = .ok (.invokevirtual 379, 3) := by decide +kernel
theorem dX11_taken_31 : decode cX11_taken 31 = .ok (.ifCond .eq 10, 3) := by decide +kernel
theorem dX11_taken_34 : decode cX11_taken 34 = .ok (.aload_n 3, 1) := by decide +kernel
theorem dX11_taken_35 : decode cX11_taken 35 = .ok (.getfield 125, 3) := by decide +kernel
theorem dX11_taken_38 : decode cX11_taken 38 = .ok (.goto 5, 3) := by decide +kernel
theorem dX11_taken_41 : decode cX11_taken 41 = .ok (.bipush (-13), 2) := by decide +kernel
theorem dX11_taken_43 : decode cX11_taken 43 = .ok (.ireturn, 1) := by decide +kernel
theorem dX11_bodyAt_0 : decode cX11_bodyAt 0 = .ok (.iload_n 1, 1) := by decide +kernel
theorem dX11_bodyAt_1 : decode cX11_bodyAt 1 = .ok (.ifCond .lt 29, 3) := by decide +kernel
theorem dX11_bodyAt_4 : decode cX11_bodyAt 4 = .ok (.iload_n 1, 1) := by decide +kernel
theorem dX11_bodyAt_5 : decode cX11_bodyAt 5 = .ok (.aload_n 0, 1) := by decide +kernel
theorem dX11_bodyAt_6 : decode cX11_bodyAt 6 = .ok (.getfield 75, 3) := by decide +kernel
theorem dX11_bodyAt_9 : decode cX11_bodyAt 9 = .ok (.if_icmp .ge 21, 3) := by decide +kernel
theorem dX11_bodyAt_12 : decode cX11_bodyAt 12 = .ok (.iload_n 1, 1) := by decide +kernel
theorem dX11_bodyAt_13 : decode cX11_bodyAt 13 = .ok (.aload_n 0, 1) := by decide +kernel
theorem dX11_bodyAt_14 : decode cX11_bodyAt 14 = .ok (.getfield 18, 3) := by decide +kernel
theorem dX11_bodyAt_17 : decode cX11_bodyAt 17 = .ok (.arraylength, 1) := by decide +kernel
theorem dX11_bodyAt_18 : decode cX11_bodyAt 18 = .ok (.if_icmp .ge 12, 3) := by decide +kernel
theorem dX11_bodyAt_21 : decode cX11_bodyAt 21 = .ok (.aload_n 0, 1) := by decide +kernel
theorem dX11_bodyAt_22 : decode cX11_bodyAt 22 = .ok (.getfield 18, 3) := by decide +kernel
theorem dX11_bodyAt_25 : decode cX11_bodyAt 25 = .ok (.iload_n 1, 1) := by decide +kernel
theorem dX11_bodyAt_26 : decode cX11_bodyAt 26 = .ok (.aaload, 1) := by decide +kernel
theorem dX11_bodyAt_27 : decode cX11_bodyAt 27 = .ok (.goto 4, 3) := by decide +kernel
theorem dX11_bodyAt_30 : decode cX11_bodyAt 30 = .ok (.aconst_null, 1) := by decide +kernel
theorem dX11_bodyAt_31 : decode cX11_bodyAt 31 = .ok (.areturn, 1) := by decide +kernel
set_option maxRecDepth 20000 in
theorem ggX11_seekerAt_X11_bodyAt : GoodIn wsX11_seekerAt wsX11_bodyAt := goodIn_r _ [5, 6, 7, 14, 15, 16, 17, 18, 19, 20, 21, 22, 23, 24, 25, 26] (by decide +kernel) (by decide +kernel)
set_option maxRecDepth 20000 in
theorem gX11_seekerAt_X11_bodyAt : GoodIn wsX11_seekerAt (wsV RX11 78 RX11 yX11_bodyAt wsX11_bodyAt) := goodIn_app (goodIn_of _ (by decide +kernel)) ggX11_seekerAt_X11_bodyAt
set_option maxRecDepth 20000 in
theorem ggX11_seekerAt_X0_isUnder : GoodIn wsX11_seekerAt wsX0_isUnder := goodIn_r _ [12, 13, 27, 28, 29, 30, 31, 32, 33, 34, 35, 36, 37, 38, 39, 40, 41] (by decide +kernel) (by decide +kernel)
set_option maxRecDepth 20000 in
theorem gX11_seekerAt_X0_isUnder : GoodIn wsX11_seekerAt (wsV RX11 379 RX0 yX0_isUnder wsX0_isUnder) := goodIn_app (goodIn_of _ (by decide +kernel)) ggX11_seekerAt_X0_isUnder
theorem dX11_seekerAt_0 : decode cX11_seekerAt 0 = .ok (.aload_n 0, 1) := by decide +kernel
theorem dX11_seekerAt_1 : decode cX11_seekerAt 1 = .ok (.iload_n 1, 1) := by decide +kernel
theorem dX11_seekerAt_2 : decode cX11_seekerAt 2 = .ok (.invokevirtual 78, 3) := by decide +kernel
theorem dX11_seekerAt_5 : decode cX11_seekerAt 5 = .ok (.astore_n 2, 1) := by decide +kernel
theorem dX11_seekerAt_6 : decode cX11_seekerAt 6 = .ok (.aload_n 2, 1) := by decide +kernel
theorem dX11_seekerAt_7 : decode cX11_seekerAt 7 = .ok (.ifnull 15, 3) := by decide +kernel
theorem dX11_seekerAt_10 : decode cX11_seekerAt 10 = .ok (.aload_n 2, 1) := by decide +kernel
theorem dX11_seekerAt_11 : decode cX11_seekerAt 11 = .ok (.iconst 2, 1) := by decide +kernel
theorem dX11_seekerAt_12 : decode cX11_seekerAt 12 = .ok (.invokevirtual 379, 3) := by decide +kernel
theorem dX11_seekerAt_15 : decode cX11_seekerAt 15 = .ok (.ifCond .eq 7, 3) := by decide +kernel
theorem dX11_seekerAt_18 : decode cX11_seekerAt 18 = .ok (.aload_n 2, 1) := by decide +kernel
theorem dX11_seekerAt_19 : decode cX11_seekerAt 19 = .ok (.goto 4, 3) := by decide +kernel
theorem dX11_seekerAt_22 : decode cX11_seekerAt 22 = .ok (.aconst_null, 1) := by decide +kernel
theorem dX11_seekerAt_23 : decode cX11_seekerAt 23 = .ok (.areturn, 1) := by decide +kernel
theorem dX11_sheetAt_0 : decode cX11_sheetAt 0 = .ok (.iload_n 1, 1) := by decide +kernel
theorem dX11_sheetAt_1 : decode cX11_sheetAt 1 = .ok (.ifCond .lt 21, 3) := by decide +kernel
theorem dX11_sheetAt_4 : decode cX11_sheetAt 4 = .ok (.iload_n 1, 1) := by decide +kernel
theorem dX11_sheetAt_5 : decode cX11_sheetAt 5 = .ok (.aload_n 0, 1) := by decide +kernel
theorem dX11_sheetAt_6 : decode cX11_sheetAt 6 = .ok (.getfield 66, 3) := by decide +kernel
theorem dX11_sheetAt_9 : decode cX11_sheetAt 9 = .ok (.arraylength, 1) := by decide +kernel
theorem dX11_sheetAt_10 : decode cX11_sheetAt 10 = .ok (.if_icmp .ge 12, 3) := by decide +kernel
theorem dX11_sheetAt_13 : decode cX11_sheetAt 13 = .ok (.aload_n 0, 1) := by decide +kernel
theorem dX11_sheetAt_14 : decode cX11_sheetAt 14 = .ok (.getfield 66, 3) := by decide +kernel
theorem dX11_sheetAt_17 : decode cX11_sheetAt 17 = .ok (.iload_n 1, 1) := by decide +kernel
theorem dX11_sheetAt_18 : decode cX11_sheetAt 18 = .ok (.aaload, 1) := by decide +kernel
theorem dX11_sheetAt_19 : decode cX11_sheetAt 19 = .ok (.goto 4, 3) := by decide +kernel
theorem dX11_sheetAt_22 : decode cX11_sheetAt 22 = .ok (.aconst_null, 1) := by decide +kernel
theorem dX11_sheetAt_23 : decode cX11_sheetAt 23 = .ok (.areturn, 1) := by decide +kernel
theorem dX11_isPast_0 : decode cX11_isPast 0 = .ok (.iload_n 1, 1) := by decide +kernel
theorem dX11_isPast_1 : decode cX11_isPast 1 = .ok (.ifCond .lt 15, 3) := by decide +kernel
theorem dX11_isPast_4 : decode cX11_isPast 4 = .ok (.iload_n 1, 1) := by decide +kernel
theorem dX11_isPast_5 : decode cX11_isPast 5 = .ok (.aload_n 0, 1) := by decide +kernel
theorem dX11_isPast_6 : decode cX11_isPast 6 = .ok (.getfield 71, 3) := by decide +kernel
theorem dX11_isPast_9 : decode cX11_isPast 9 = .ok (.if_icmp .gt 7, 3) := by decide +kernel
theorem dX11_isPast_12 : decode cX11_isPast 12 = .ok (.iconst 1, 1) := by decide +kernel
theorem dX11_isPast_13 : decode cX11_isPast 13 = .ok (.goto 4, 3) := by decide +kernel
theorem dX11_isPast_16 : decode cX11_isPast 16 = .ok (.iconst 0, 1) := by decide +kernel
theorem dX11_isPast_17 : decode cX11_isPast 17 = .ok (.ireturn, 1) := by decide +kernel
set_option maxRecDepth 20000 in
theorem ggX11_areSeekers_J6_bitCount_0f7a4 : GoodIn wsX11_areSeekers wsJ6_bitCount_0f7a4 := goodIn_r _ [5, 6, 7, 8] (by decide +kernel) (by decide +kernel)
set_option maxRecDepth 20000 in
theorem gX11_areSeekers_J6_bitCount_0f7a4 : GoodIn wsX11_areSeekers (va_wsS RX11 238 yJ6_bitCount_0f7a4 wsJ6_bitCount_0f7a4) := goodIn_app (goodIn_of _ (by decide +kernel)) ggX11_areSeekers_J6_bitCount_0f7a4
set_option maxRecDepth 20000 in
theorem ggX11_areSeekers_X11_seekerAt : GoodIn wsX11_areSeekers wsX11_seekerAt := goodIn_r _ [13, 14, 15, 16, 12, 17, 1, 18, 19, 20, 21, 22, 23, 24, 25, 26, 27, 28, 29, 30, 31, 32, 33, 34, 35, 36, 37, 38, 39, 40, 41, 42, 43, 44, 45, 46, 47, 48, 49, 50, 51, 52] (by decide +kernel) (by decide +kernel)
set_option maxRecDepth 20000 in
theorem gX11_areSeekers_X11_seekerAt : GoodIn wsX11_areSeekers (wsV RX11 214 RX11 yX11_seekerAt wsX11_seekerAt) := goodIn_app (goodIn_of _ (by decide +kernel)) ggX11_areSeekers_X11_seekerAt
theorem dX11_areSeekers_0 : decode cX11_areSeekers 0 = .ok (.iload_n 1, 1) := by decide +kernel
theorem dX11_areSeekers_1 : decode cX11_areSeekers 1 = .ok (.ifCond .lt 21, 3) := by decide +kernel
theorem dX11_areSeekers_4 : decode cX11_areSeekers 4 = .ok (.iload_n 1, 1) := by decide +kernel
theorem dX11_areSeekers_5 : decode cX11_areSeekers 5 = .ok (.iconst 1, 1) := by decide +kernel
theorem dX11_areSeekers_6 : decode cX11_areSeekers 6 = .ok (.aload_n 0, 1) := by decide +kernel
theorem dX11_areSeekers_7 : decode cX11_areSeekers 7 = .ok (.getfield 75, 3) := by decide +kernel
theorem dX11_areSeekers_10 : decode cX11_areSeekers 10 = .ok (.ishl, 1) := by decide +kernel
theorem dX11_areSeekers_11 : decode cX11_areSeekers 11 = .ok (.if_icmp .ge 11, 3) := by decide +kernel
theorem dX11_areSeekers_14 : decode cX11_areSeekers 14 = .ok (.iload_n 1, 1) := by decide +kernel
theorem dX11_areSeekers_15 : decode cX11_areSeekers 15 = .ok (.invokestatic 238, 3) := by decide +kernel
theorem dX11_areSeekers_18 : decode cX11_areSeekers 18 = .ok (.iconst 3, 1) := by decide +kernel
theorem dX11_areSeekers_19 : decode cX11_areSeekers 19 = .ok (.if_icmp .le 5, 3) := by decide +kernel
theorem dX11_areSeekers_22 : decode cX11_areSeekers 22 = .ok (.iconst 0, 1) := by decide +kernel
theorem dX11_areSeekers_23 : decode cX11_areSeekers 23 = .ok (.ireturn, 1) := by decide +kernel
theorem dX11_areSeekers_24 : decode cX11_areSeekers 24 = .ok (.iconst 0, 1) := by decide +kernel
theorem dX11_areSeekers_25 : decode cX11_areSeekers 25 = .ok (.istore_n 2, 1) := by decide +kernel
theorem dX11_areSeekers_26 : decode cX11_areSeekers 26 = .ok (.iload_n 2, 1) := by decide +kernel
theorem dX11_areSeekers_27 : decode cX11_areSeekers 27 = .ok (.aload_n 0, 1) := by decide +kernel
theorem dX11_areSeekers_28 : decode cX11_areSeekers 28 = .ok (.getfield 75, 3) := by decide +kernel
theorem dX11_areSeekers_31 : decode cX11_areSeekers 31 = .ok (.if_icmp .ge 27, 3) := by decide +kernel
theorem dX11_areSeekers_34 : decode cX11_areSeekers 34 = .ok (.iload_n 1, 1) := by decide +kernel
theorem dX11_areSeekers_35 : decode cX11_areSeekers 35 = .ok (.iload_n 2, 1) := by decide +kernel
theorem dX11_areSeekers_36 : decode cX11_areSeekers 36 = .ok (.ishr, 1) := by decide +kernel
theorem dX11_areSeekers_37 : decode cX11_areSeekers 37 = .ok (.iconst 1, 1) := by decide +kernel
theorem dX11_areSeekers_38 : decode cX11_areSeekers 38 = .ok (.iand, 1) := by decide +kernel
theorem dX11_areSeekers_39 : decode cX11_areSeekers 39 = .ok (.ifCond .eq 13, 3) := by decide +kernel
theorem dX11_areSeekers_42 : decode cX11_areSeekers 42 = .ok (.aload_n 0, 1) := by decide +kernel
theorem dX11_areSeekers_43 : decode cX11_areSeekers 43 = .ok (.iload_n 2, 1) := by decide +kernel
theorem dX11_areSeekers_44 : decode cX11_areSeekers 44 = .ok (.invokevirtual 214, 3) := by decide +kernel
theorem dX11_areSeekers_47 : decode cX11_areSeekers 47 = .ok (.ifnonnull 5, 3) := by decide +kernel
theorem dX11_areSeekers_50 : decode cX11_areSeekers 50 = .ok (.iconst 0, 1) := by decide +kernel
theorem dX11_areSeekers_51 : decode cX11_areSeekers 51 = .ok (.ireturn, 1) := by decide +kernel
theorem dX11_areSeekers_52 : decode cX11_areSeekers 52 = .ok (.iinc 2 1, 3) := by decide +kernel
theorem dX11_areSeekers_55 : decode cX11_areSeekers 55 = .ok (.goto (-29), 3) := by decide +kernel
theorem dX11_areSeekers_58 : decode cX11_areSeekers 58 = .ok (.iconst 1, 1) := by decide +kernel
theorem dX11_areSeekers_59 : decode cX11_areSeekers 59 = .ok (.ireturn, 1) := by decide +kernel
set_option maxRecDepth 20000 in
theorem ggX11_backFrom_X0_burns : GoodIn wsX11_backFrom wsX0_burns := goodIn_r _ [8, 9, 20, 21, 22, 23, 24, 25, 26, 27, 28, 29, 30, 31, 32, 33, 34] (by decide +kernel) (by decide +kernel)
set_option maxRecDepth 20000 in
theorem gX11_backFrom_X0_burns : GoodIn wsX11_backFrom (wsV RX11 138 RX0 yX0_burns wsX0_burns) := goodIn_app (goodIn_of _ (by decide +kernel)) ggX11_backFrom_X0_burns
set_option maxRecDepth 20000 in
theorem ggX11_backFrom_X10_isClear : GoodIn wsX11_backFrom wsX10_isClear := goodIn_r _ [14, 15, 16, 17, 13, 18, 19, 48, 49, 50, 51] (by decide +kernel) (by decide +kernel)
set_option maxRecDepth 20000 in
theorem gX11_backFrom_X10_isClear : GoodIn wsX11_backFrom (wsV RX11 382 RX10 yX10_isClear wsX10_isClear) := goodIn_app (goodIn_of _ (by decide +kernel)) ggX11_backFrom_X10_isClear
theorem dX11_backFrom_0 : decode cX11_backFrom 0 = .ok (.aload_n 1, 1) := by decide +kernel
theorem dX11_backFrom_1 : decode cX11_backFrom 1 = .ok (.invokevirtual 138, 3) := by decide +kernel
theorem dX11_backFrom_4 : decode cX11_backFrom 4 = .ok (.iconst 2, 1) := by decide +kernel
theorem dX11_backFrom_5 : decode cX11_backFrom 5 = .ok (.imul, 1) := by decide +kernel
theorem dX11_backFrom_6 : decode cX11_backFrom 6 = .ok (.iload_n 2, 1) := by decide +kernel
theorem dX11_backFrom_7 : decode cX11_backFrom 7 = .ok (.imul, 1) := by decide +kernel
theorem dX11_backFrom_8 : decode cX11_backFrom 8 = .ok (.aload_n 1, 1) := by decide +kernel
theorem dX11_backFrom_9 : decode cX11_backFrom 9 = .ok (.getfield 131, 3) := by decide +kernel
theorem dX11_backFrom_12 : decode cX11_backFrom 12 = .ok (.if_icmp .gt 15, 3) := by decide +kernel
theorem dX11_backFrom_15 : decode cX11_backFrom 15 = .ok (.aload_n 0, 1) := by decide +kernel
theorem dX11_backFrom_16 : decode cX11_backFrom 16 = .ok (.getfield 10, 3) := by decide +kernel
theorem dX11_backFrom_19 : decode cX11_backFrom 19 = .ok (.iload_n 3, 1) := by decide +kernel
theorem dX11_backFrom_20 : decode cX11_backFrom 20 = .ok (.iload_n 2, 1) := by decide +kernel
theorem dX11_backFrom_21 : decode cX11_backFrom 21 = .ok (.invokevirtual 382, 3) := by decide +kernel
theorem dX11_backFrom_24 : decode cX11_backFrom 24 = .ok (.ifCond .ne 5, 3) := by decide +kernel
theorem dX11_backFrom_27 : decode cX11_backFrom 27 = .ok (.iconst (-1), 1) := by decide +kernel
theorem dX11_backFrom_28 : decode cX11_backFrom 28 = .ok (.ireturn, 1) := by decide +kernel
theorem dX11_backFrom_29 : decode cX11_backFrom 29 = .ok (.iconst 0, 1) := by decide +kernel
theorem dX11_backFrom_30 : decode cX11_backFrom 30 = .ok (.istore 4, 2) := by decide +kernel
theorem dX11_backFrom_32 : decode cX11_backFrom 32 = .ok (.iload 4, 2) := by decide +kernel
theorem dX11_backFrom_34 : decode cX11_backFrom 34 = .ok (.aload_n 0, 1) := by decide +kernel
theorem dX11_backFrom_35 : decode cX11_backFrom 35 = .ok (.getfield 253, 3) := by decide +kernel
theorem dX11_backFrom_38 : decode cX11_backFrom 38 = .ok (.if_icmp .gt 49, 3) := by decide +kernel
theorem dX11_backFrom_41 : decode cX11_backFrom 41 = .ok (.iload_n 3, 1) := by decide +kernel
theorem dX11_backFrom_42 : decode cX11_backFrom 42 = .ok (.iload_n 2, 1) := by decide +kernel
theorem dX11_backFrom_43 : decode cX11_backFrom 43 = .ok (.iadd, 1) := by decide +kernel
theorem dX11_backFrom_44 : decode cX11_backFrom 44 = .ok (.iload 4, 2) := by decide +kernel
theorem dX11_backFrom_46 : decode cX11_backFrom 46 = .ok (.iadd, 1) := by decide +kernel
theorem dX11_backFrom_47 : decode cX11_backFrom 47 = .ok (.istore 5, 2) := by decide +kernel
theorem dX11_backFrom_49 : decode cX11_backFrom 49 = .ok (.aload_n 0, 1) := by decide +kernel
theorem dX11_backFrom_50 : decode cX11_backFrom 50 = .ok (.getfield 10, 3) := by decide +kernel
theorem dX11_backFrom_53 : decode cX11_backFrom 53 = .ok (.iload 5, 2) := by decide +kernel
theorem dX11_backFrom_55 : decode cX11_backFrom 55 = .ok (.iload_n 2, 1) := by decide +kernel
theorem dX11_backFrom_56 : decode cX11_backFrom 56 = .ok (.invokevirtual 382, 3) := by decide +kernel
theorem dX11_backFrom_59 : decode cX11_backFrom 59 = .ok (.ifCond .eq 22, 3) := by decide +kernel
theorem dX11_backFrom_62 : decode cX11_backFrom 62 = .ok (.iload 5, 2) := by decide +kernel
theorem dX11_backFrom_64 : decode cX11_backFrom 64 = .ok (.iload_n 2, 1) := by decide +kernel
theorem dX11_backFrom_65 : decode cX11_backFrom 65 = .ok (.iadd, 1) := by decide +kernel
theorem dX11_backFrom_66 : decode cX11_backFrom 66 = .ok (.sipush 240, 3) := by decide +kernel
theorem dX11_backFrom_69 : decode cX11_backFrom 69 = .ok (.if_icmp .ge 10, 3) := by decide +kernel
theorem dX11_backFrom_72 : decode cX11_backFrom 72 = .ok (.iload 5, 2) := by decide +kernel
theorem dX11_backFrom_74 : decode cX11_backFrom 74 = .ok (.iload_n 2, 1) := by decide +kernel
theorem dX11_backFrom_75 : decode cX11_backFrom 75 = .ok (.iadd, 1) := by decide +kernel
theorem dX11_backFrom_76 : decode cX11_backFrom 76 = .ok (.goto 4, 3) := by decide +kernel
theorem dX11_backFrom_79 : decode cX11_backFrom 79 = .ok (.iconst (-1), 1) := by decide +kernel
theorem dX11_backFrom_80 : decode cX11_backFrom 80 = .ok (.ireturn, 1) := by decide +kernel
theorem dX11_backFrom_81 : decode cX11_backFrom 81 = .ok (.iinc 4 1, 3) := by decide +kernel
theorem dX11_backFrom_84 : decode cX11_backFrom 84 = .ok (.goto (-52), 3) := by decide +kernel
theorem dX11_backFrom_87 : decode cX11_backFrom 87 = .ok (.iconst (-1), 1) := by decide +kernel
theorem dX11_backFrom_88 : decode cX11_backFrom 88 = .ok (.ireturn, 1) := by decide +kernel
set_option maxRecDepth 20000 in
theorem ggX11_takeOf_X11_bodyAt : GoodIn wsX11_takeOf wsX11_bodyAt := goodIn_r _ [14, 15, 16, 46, 47, 48, 49, 50, 51, 52, 53, 54, 55, 56, 57, 58] (by decide +kernel) (by decide +kernel)
set_option maxRecDepth 20000 in
theorem gX11_takeOf_X11_bodyAt : GoodIn wsX11_takeOf (wsV RX11 78 RX11 yX11_bodyAt wsX11_bodyAt) := goodIn_app (goodIn_of _ (by decide +kernel)) ggX11_takeOf_X11_bodyAt
set_option maxRecDepth 20000 in
theorem ggX11_takeOf_X3_ask : GoodIn wsX11_takeOf wsX3_ask := goodIn_r _ [21, 22, 23, 24, 25, 26, 27, 28, 29, 30, 31, 32, 33, 34, 35, 36, 37, 38, 39, 40, 41, 42, 43, 44, 45, 80, 81, 82, 83, 84, 85, 86, 87, 88, 89, 90] (by decide +kernel) (by decide +kernel)
set_option maxRecDepth 20000 in
theorem gX11_takeOf_X3_ask : GoodIn wsX11_takeOf (wsV RX11 292 RX3 yX3_ask wsX3_ask) := goodIn_app (goodIn_of _ (by decide +kernel)) ggX11_takeOf_X3_ask
theorem dX11_takeOf_0 : decode cX11_takeOf 0 = .ok (.iload_n 1, 1) := by decide +kernel
theorem dX11_takeOf_1 : decode cX11_takeOf 1 = .ok (.ifCond .lt 14, 3) := by decide +kernel
theorem dX11_takeOf_4 : decode cX11_takeOf 4 = .ok (.iload_n 1, 1) := by decide +kernel
theorem dX11_takeOf_5 : decode cX11_takeOf 5 = .ok (.aload_n 0, 1) := by decide +kernel
theorem dX11_takeOf_6 : decode cX11_takeOf 6 = .ok (.getfield 39, 3) := by decide +kernel
theorem dX11_takeOf_9 : decode cX11_takeOf 9 = .ok (.getfield 266, 3) := by decide +kernel
theorem dX11_takeOf_12 : decode cX11_takeOf 12 = .ok (.if_icmp .lt 5, 3) := by decide +kernel
theorem dX11_takeOf_15 : decode cX11_takeOf 15 = .ok (.iconst 0, 1) := by decide +kernel
theorem dX11_takeOf_16 : decode cX11_takeOf 16 = .ok (.ireturn, 1) := by decide +kernel
theorem dX11_takeOf_17 : decode cX11_takeOf 17 = .ok (.aload_n 0, 1) := by decide +kernel
theorem dX11_takeOf_18 : decode cX11_takeOf 18 = .ok (.aload_n 0, 1) := by decide +kernel
theorem dX11_takeOf_19 : decode cX11_takeOf 19 = .ok (.getfield 39, 3) := by decide +kernel
theorem dX11_takeOf_22 : decode cX11_takeOf 22 = .ok (.getfield 385, 3) := by decide +kernel
theorem dX11_takeOf_25 : decode cX11_takeOf 25 = .ok (.iload_n 1, 1) := by decide +kernel
theorem dX11_takeOf_26 : decode cX11_takeOf 26 = .ok (.iaload, 1) := by decide +kernel
theorem dX11_takeOf_27 : decode cX11_takeOf 27 = .ok (.invokevirtual 78, 3) := by decide +kernel
theorem dX11_takeOf_30 : decode cX11_takeOf 30 = .ok (.astore_n 2, 1) := by decide +kernel
theorem dX11_takeOf_31 : decode cX11_takeOf 31 = .ok (.aload_n 2, 1) := by decide +kernel
theorem dX11_takeOf_32 : decode cX11_takeOf 32 = .ok (.ifnonnull 7, 3) := by decide +kernel
theorem dX11_takeOf_35 : decode cX11_takeOf 35 = .ok (.iconst 0, 1) := by decide +kernel
theorem dX11_takeOf_36 : decode cX11_takeOf 36 = .ok (.goto 7, 3) := by decide +kernel
theorem dX11_takeOf_39 : decode cX11_takeOf 39 = .ok (.aload_n 2, 1) := by decide +kernel
theorem dX11_takeOf_40 : decode cX11_takeOf 40 = .ok (.getfield 131, 3) := by decide +kernel
theorem dX11_takeOf_43 : decode cX11_takeOf 43 = .ok (.istore_n 3, 1) := by decide +kernel
theorem dX11_takeOf_44 : decode cX11_takeOf 44 = .ok (.aload_n 0, 1) := by decide +kernel
theorem dX11_takeOf_45 : decode cX11_takeOf 45 = .ok (.getfield 46, 3) := by decide +kernel
theorem dX11_takeOf_48 : decode cX11_takeOf 48 = .ok (.iconst 0, 1) := by decide +kernel
theorem dX11_takeOf_49 : decode cX11_takeOf 49 = .ok (.aload_n 0, 1) := by decide +kernel
theorem dX11_takeOf_50 : decode cX11_takeOf 50 = .ok (.getfield 39, 3) := by decide +kernel
theorem dX11_takeOf_53 : decode cX11_takeOf 53 = .ok (.getfield 386, 3) := by decide +kernel
theorem dX11_takeOf_56 : decode cX11_takeOf 56 = .ok (.iload_n 1, 1) := by decide +kernel
theorem dX11_takeOf_57 : decode cX11_takeOf 57 = .ok (.iaload, 1) := by decide +kernel
theorem dX11_takeOf_58 : decode cX11_takeOf 58 = .ok (.aload_n 0, 1) := by decide +kernel
theorem dX11_takeOf_59 : decode cX11_takeOf 59 = .ok (.getfield 39, 3) := by decide +kernel
theorem dX11_takeOf_62 : decode cX11_takeOf 62 = .ok (.getfield 389, 3) := by decide +kernel
theorem dX11_takeOf_65 : decode cX11_takeOf 65 = .ok (.iload_n 1, 1) := by decide +kernel
theorem dX11_takeOf_66 : decode cX11_takeOf 66 = .ok (.iaload, 1) := by decide +kernel
theorem dX11_takeOf_67 : decode cX11_takeOf 67 = .ok (.aload_n 0, 1) := by decide +kernel
theorem dX11_takeOf_68 : decode cX11_takeOf 68 = .ok (.getfield 39, 3) := by decide +kernel
theorem dX11_takeOf_71 : decode cX11_takeOf 71 = .ok (.getfield 392, 3) := by decide +kernel
theorem dX11_takeOf_74 : decode cX11_takeOf 74 = .ok (.iload_n 1, 1) := by decide +kernel
theorem dX11_takeOf_75 : decode cX11_takeOf 75 = .ok (.iaload, 1) := by decide +kernel
theorem dX11_takeOf_76 : decode cX11_takeOf 76 = .ok (.aload_n 0, 1) := by decide +kernel
theorem dX11_takeOf_77 : decode cX11_takeOf 77 = .ok (.getfield 71, 3) := by decide +kernel
theorem dX11_takeOf_80 : decode cX11_takeOf 80 = .ok (.iload_n 3, 1) := by decide +kernel
theorem dX11_takeOf_81 : decode cX11_takeOf 81 = .ok (.iconst 0, 1) := by decide +kernel
theorem dX11_takeOf_82 : decode cX11_takeOf 82 = .ok (.invokevirtual 292, 3) := by decide +kernel
theorem dX11_takeOf_85 : decode cX11_takeOf 85 = .ok (.ireturn, 1) := by decide +kernel
theorem dX11_isCell_0 : decode cX11_isCell 0 = .ok (.iload_n 0, 1) := by decide +kernel
theorem dX11_isCell_1 : decode cX11_isCell 1 = .ok (.ifCond .lt 13, 3) := by decide +kernel
theorem dX11_isCell_4 : decode cX11_isCell 4 = .ok (.iload_n 0, 1) := by decide +kernel
theorem dX11_isCell_5 : decode cX11_isCell 5 = .ok (.bipush 64, 2) := by decide +kernel
theorem dX11_isCell_7 : decode cX11_isCell 7 = .ok (.if_icmp .ge 7, 3) := by decide +kernel
theorem dX11_isCell_10 : decode cX11_isCell 10 = .ok (.iconst 1, 1) := by decide +kernel
theorem dX11_isCell_11 : decode cX11_isCell 11 = .ok (.goto 4, 3) := by decide +kernel
theorem dX11_isCell_14 : decode cX11_isCell 14 = .ok (.iconst 0, 1) := by decide +kernel
theorem dX11_isCell_15 : decode cX11_isCell 15 = .ok (.ireturn, 1) := by decide +kernel
theorem dX11_isMark_0 : decode cX11_isMark 0 = .ok (.iload_n 0, 1) := by decide +kernel
theorem dX11_isMark_1 : decode cX11_isMark 1 = .ok (.ifCond .lt 13, 3) := by decide +kernel
theorem dX11_isMark_4 : decode cX11_isMark 4 = .ok (.iload_n 0, 1) := by decide +kernel
theorem dX11_isMark_5 : decode cX11_isMark 5 = .ok (.bipush 99, 2) := by decide +kernel
theorem dX11_isMark_7 : decode cX11_isMark 7 = .ok (.if_icmp .gt 7, 3) := by decide +kernel
theorem dX11_isMark_10 : decode cX11_isMark 10 = .ok (.iconst 1, 1) := by decide +kernel
theorem dX11_isMark_11 : decode cX11_isMark 11 = .ok (.goto 4, 3) := by decide +kernel
theorem dX11_isMark_14 : decode cX11_isMark 14 = .ok (.iconst 0, 1) := by decide +kernel
theorem dX11_isMark_15 : decode cX11_isMark 15 = .ok (.ireturn, 1) := by decide +kernel
theorem dX11_isSpan_0 : decode cX11_isSpan 0 = .ok (.iload_n 0, 1) := by decide +kernel
theorem dX11_isSpan_1 : decode cX11_isSpan 1 = .ok (.ifCond .lt 19, 3) := by decide +kernel
theorem dX11_isSpan_4 : decode cX11_isSpan 4 = .ok (.iload_n 1, 1) := by decide +kernel
theorem dX11_isSpan_5 : decode cX11_isSpan 5 = .ok (.iload_n 0, 1) := by decide +kernel
theorem dX11_isSpan_6 : decode cX11_isSpan 6 = .ok (.if_icmp .le 14, 3) := by decide +kernel
theorem dX11_isSpan_9 : decode cX11_isSpan 9 = .ok (.iload_n 1, 1) := by decide +kernel
theorem dX11_isSpan_10 : decode cX11_isSpan 10 = .ok (.sipush 240, 3) := by decide +kernel
theorem dX11_isSpan_13 : decode cX11_isSpan 13 = .ok (.if_icmp .gt 7, 3) := by decide +kernel
theorem dX11_isSpan_16 : decode cX11_isSpan 16 = .ok (.iconst 1, 1) := by decide +kernel
theorem dX11_isSpan_17 : decode cX11_isSpan 17 = .ok (.goto 4, 3) := by decide +kernel
theorem dX11_isSpan_20 : decode cX11_isSpan 20 = .ok (.iconst 0, 1) := by decide +kernel
theorem dX11_isSpan_21 : decode cX11_isSpan 21 = .ok (.ireturn, 1) := by decide +kernel
theorem dX11_isWind_0 : decode cX11_isWind 0 = .ok (.iload_n 0, 1) := by decide +kernel
theorem dX11_isWind_1 : decode cX11_isWind 1 = .ok (.ifCond .lt 10, 3) := by decide +kernel
theorem dX11_isWind_4 : decode cX11_isWind 4 = .ok (.iload_n 0, 1) := by decide +kernel
theorem dX11_isWind_5 : decode cX11_isWind 5 = .ok (.sipush 4444, 3) := by decide +kernel
theorem dX11_isWind_8 : decode cX11_isWind 8 = .ok (.if_icmp .le 5, 3) := by decide +kernel
theorem dX11_isWind_11 : decode cX11_isWind 11 = .ok (.iconst 0, 1) := by decide +kernel
theorem dX11_isWind_12 : decode cX11_isWind 12 = .ok (.ireturn, 1) := by decide +kernel
theorem dX11_isWind_13 : decode cX11_isWind 13 = .ok (.iload_n 0, 1) := by decide +kernel
theorem dX11_isWind_14 : decode cX11_isWind 14 = .ok (.sipush 1000, 3) := by decide +kernel
theorem dX11_isWind_17 : decode cX11_isWind 17 = .ok (.idiv, 1) := by decide +kernel
theorem dX11_isWind_18 : decode cX11_isWind 18 = .ok (.istore_n 1, 1) := by decide +kernel
theorem dX11_isWind_19 : decode cX11_isWind 19 = .ok (.iload_n 0, 1) := by decide +kernel
theorem dX11_isWind_20 : decode cX11_isWind 20 = .ok (.bipush 100, 2) := by decide +kernel
theorem dX11_isWind_22 : decode cX11_isWind 22 = .ok (.idiv, 1) := by decide +kernel
theorem dX11_isWind_23 : decode cX11_isWind 23 = .ok (.bipush 10, 2) := by decide +kernel
theorem dX11_isWind_25 : decode cX11_isWind 25 = .ok (.irem, 1) := by decide +kernel
theorem dX11_isWind_26 : decode cX11_isWind 26 = .ok (.istore_n 2, 1) := by decide +kernel
theorem dX11_isWind_27 : decode cX11_isWind 27 = .ok (.iload_n 0, 1) := by decide +kernel
theorem dX11_isWind_28 : decode cX11_isWind 28 = .ok (.bipush 10, 2) := by decide +kernel
theorem dX11_isWind_30 : decode cX11_isWind 30 = .ok (.idiv, 1) := by decide +kernel
theorem dX11_isWind_31 : decode cX11_isWind 31 = .ok (.bipush 10, 2) := by decide +kernel
theorem dX11_isWind_33 : decode cX11_isWind 33 = .ok (.irem, 1) := by decide +kernel
theorem dX11_isWind_34 : decode cX11_isWind 34 = .ok (.istore_n 3, 1) := by decide +kernel
theorem dX11_isWind_35 : decode cX11_isWind 35 = .ok (.iload_n 0, 1) := by decide +kernel
theorem dX11_isWind_36 : decode cX11_isWind 36 = .ok (.bipush 10, 2) := by decide +kernel
theorem dX11_isWind_38 : decode cX11_isWind 38 = .ok (.irem, 1) := by decide +kernel
theorem dX11_isWind_39 : decode cX11_isWind 39 = .ok (.istore 4, 2) := by decide +kernel
theorem dX11_isWind_41 : decode cX11_isWind 41 = .ok (.iload_n 2, 1) := by decide +kernel
theorem dX11_isWind_42 : decode cX11_isWind 42 = .ok (.iconst 4, 1) := by decide +kernel
theorem dX11_isWind_43 : decode cX11_isWind 43 = .ok (.if_icmp .gt 29, 3) := by decide +kernel
theorem dX11_isWind_46 : decode cX11_isWind 46 = .ok (.iload_n 3, 1) := by decide +kernel
theorem dX11_isWind_47 : decode cX11_isWind 47 = .ok (.iconst 4, 1) := by decide +kernel
theorem dX11_isWind_48 : decode cX11_isWind 48 = .ok (.if_icmp .gt 24, 3) := by decide +kernel
theorem dX11_isWind_51 : decode cX11_isWind 51 = .ok (.iload 4, 2) := by decide +kernel
theorem dX11_isWind_53 : decode cX11_isWind 53 = .ok (.iconst 4, 1) := by decide +kernel
theorem dX11_isWind_54 : decode cX11_isWind 54 = .ok (.if_icmp .gt 18, 3) := by decide +kernel
theorem dX11_isWind_57 : decode cX11_isWind 57 = .ok (.iload_n 1, 1) := by decide +kernel
theorem dX11_isWind_58 : decode cX11_isWind 58 = .ok (.iload_n 2, 1) := by decide +kernel
theorem dX11_isWind_59 : decode cX11_isWind 59 = .ok (.if_icmp .gt 13, 3) := by decide +kernel
theorem dX11_isWind_62 : decode cX11_isWind 62 = .ok (.iload_n 3, 1) := by decide +kernel
theorem dX11_isWind_63 : decode cX11_isWind 63 = .ok (.iload 4, 2) := by decide +kernel
theorem dX11_isWind_65 : decode cX11_isWind 65 = .ok (.if_icmp .gt 7, 3) := by decide +kernel
theorem dX11_isWind_68 : decode cX11_isWind 68 = .ok (.iconst 1, 1) := by decide +kernel
theorem dX11_isWind_69 : decode cX11_isWind 69 = .ok (.goto 4, 3) := by decide +kernel
theorem dX11_isWind_72 : decode cX11_isWind 72 = .ok (.iconst 0, 1) := by decide +kernel
theorem dX11_isWind_73 : decode cX11_isWind 73 = .ok (.ireturn, 1) := by decide +kernel
theorem dX11_has_0 : decode cX11_has 0 = .ok (.lload_n 0, 1) := by decide +kernel
theorem dX11_has_1 : decode cX11_has 1 = .ok (.iload_n 2, 1) := by decide +kernel
theorem dX11_has_2 : decode cX11_has 2 = .ok (.lushr, 1) := by decide +kernel
theorem dX11_has_3 : decode cX11_has 3 = .ok (.lconst 1, 1) := by decide +kernel
theorem dX11_has_4 : decode cX11_has 4 = .ok (.land, 1) := by decide +kernel
theorem dX11_has_5 : decode cX11_has 5 = .ok (.lconst 0, 1) := by decide +kernel
theorem dX11_has_6 : decode cX11_has 6 = .ok (.lcmp, 1) := by decide +kernel
theorem dX11_has_7 : decode cX11_has 7 = .ok (.ifCond .eq 7, 3) := by decide +kernel
theorem dX11_has_10 : decode cX11_has 10 = .ok (.iconst 1, 1) := by decide +kernel
theorem dX11_has_11 : decode cX11_has 11 = .ok (.goto 4, 3) := by decide +kernel
theorem dX11_has_14 : decode cX11_has 14 = .ok (.iconst 0, 1) := by decide +kernel
theorem dX11_has_15 : decode cX11_has 15 = .ok (.ireturn, 1) := by decide +kernel
theorem dX11_apart_0 : decode cX11_apart 0 = .ok (.iload_n 0, 1) := by decide +kernel
theorem dX11_apart_1 : decode cX11_apart 1 = .ok (.bipush 8, 2) := by decide +kernel
theorem dX11_apart_3 : decode cX11_apart 3 = .ok (.irem, 1) := by decide +kernel
theorem dX11_apart_4 : decode cX11_apart 4 = .ok (.iload_n 1, 1) := by decide +kernel
theorem dX11_apart_5 : decode cX11_apart 5 = .ok (.bipush 8, 2) := by decide +kernel
theorem dX11_apart_7 : decode cX11_apart 7 = .ok (.irem, 1) := by decide +kernel
theorem dX11_apart_8 : decode cX11_apart 8 = .ok (.isub, 1) := by decide +kernel
theorem dX11_apart_9 : decode cX11_apart 9 = .ok (.invokestatic 395, 3) := by decide +kernel
theorem dX11_apart_12 : decode cX11_apart 12 = .ok (.istore_n 2, 1) := by decide +kernel
theorem dX11_apart_13 : decode cX11_apart 13 = .ok (.iload_n 0, 1) := by decide +kernel
theorem dX11_apart_14 : decode cX11_apart 14 = .ok (.bipush 8, 2) := by decide +kernel
theorem dX11_apart_16 : decode cX11_apart 16 = .ok (.idiv, 1) := by decide +kernel
theorem dX11_apart_17 : decode cX11_apart 17 = .ok (.iload_n 1, 1) := by decide +kernel
theorem dX11_apart_18 : decode cX11_apart 18 = .ok (.bipush 8, 2) := by decide +kernel
theorem dX11_apart_20 : decode cX11_apart 20 = .ok (.idiv, 1) := by decide +kernel
theorem dX11_apart_21 : decode cX11_apart 21 = .ok (.isub, 1) := by decide +kernel
theorem dX11_apart_22 : decode cX11_apart 22 = .ok (.invokestatic 395, 3) := by decide +kernel
theorem dX11_apart_25 : decode cX11_apart 25 = .ok (.istore_n 3, 1) := by decide +kernel
theorem dX11_apart_26 : decode cX11_apart 26 = .ok (.iload_n 2, 1) := by decide +kernel
theorem dX11_apart_27 : decode cX11_apart 27 = .ok (.iload_n 3, 1) := by decide +kernel
theorem dX11_apart_28 : decode cX11_apart 28 = .ok (.invokestatic 400, 3) := by decide +kernel
theorem dX11_apart_31 : decode cX11_apart 31 = .ok (.ireturn, 1) := by decide +kernel
set_option maxRecDepth 20000 in
theorem ggX11_nearest_X11_has : GoodIn wsX11_nearest wsX11_has := goodIn_r _ [8] (by decide +kernel) (by decide +kernel)
set_option maxRecDepth 20000 in
theorem gX11_nearest_X11_has : GoodIn wsX11_nearest (va_wsS RX11 317 yX11_has wsX11_has) := goodIn_app (goodIn_of _ (by decide +kernel)) ggX11_nearest_X11_has
set_option maxRecDepth 20000 in
theorem ggX11_nearest_X11_apart : GoodIn wsX11_nearest wsX11_apart := goodIn_r _ [11, 12, 13, 3, 14, 15, 16, 17] (by decide +kernel) (by decide +kernel)
set_option maxRecDepth 20000 in
theorem gX11_nearest_X11_apart : GoodIn wsX11_nearest (va_wsS RX11 256 yX11_apart wsX11_apart) := goodIn_app (goodIn_of _ (by decide +kernel)) ggX11_nearest_X11_apart
theorem dX11_nearest_0 : decode cX11_nearest 0 = .ok (.bipush 99, 2) := by decide +kernel
theorem dX11_nearest_2 : decode cX11_nearest 2 = .ok (.istore_n 3, 1) := by decide +kernel
theorem dX11_nearest_3 : decode cX11_nearest 3 = .ok (.iconst 0, 1) := by decide +kernel
theorem dX11_nearest_4 : decode cX11_nearest 4 = .ok (.istore 4, 2) := by decide +kernel
theorem dX11_nearest_6 : decode cX11_nearest 6 = .ok (.iload 4, 2) := by decide +kernel
theorem dX11_nearest_8 : decode cX11_nearest 8 = .ok (.bipush 64, 2) := by decide +kernel
theorem dX11_nearest_10 : decode cX11_nearest 10 = .ok (.if_icmp .ge 29, 3) := by decide +kernel
theorem dX11_nearest_13 : decode cX11_nearest 13 = .ok (.lload_n 1, 1) := by decide +kernel
theorem dX11_nearest_14 : decode cX11_nearest 14 = .ok (.iload 4, 2) := by decide +kernel
theorem dX11_nearest_16 : decode cX11_nearest 16 = .ok (.invokestatic 317, 3) := by decide +kernel
theorem dX11_nearest_19 : decode cX11_nearest 19 = .ok (.ifCond .eq 14, 3) := by decide +kernel
theorem dX11_nearest_22 : decode cX11_nearest 22 = .ok (.iload_n 3, 1) := by decide +kernel
theorem dX11_nearest_23 : decode cX11_nearest 23 = .ok (.iload_n 0, 1) := by decide +kernel
theorem dX11_nearest_24 : decode cX11_nearest 24 = .ok (.iload 4, 2) := by decide +kernel
theorem dX11_nearest_26 : decode cX11_nearest 26 = .ok (.invokestatic 256, 3) := by decide +kernel
theorem dX11_nearest_29 : decode cX11_nearest 29 = .ok (.invokestatic 403, 3) := by decide +kernel
theorem dX11_nearest_32 : decode cX11_nearest 32 = .ok (.istore_n 3, 1) := by decide +kernel
theorem dX11_nearest_33 : decode cX11_nearest 33 = .ok (.iinc 4 1, 3) := by decide +kernel
theorem dX11_nearest_36 : decode cX11_nearest 36 = .ok (.goto (-30), 3) := by decide +kernel
theorem dX11_nearest_39 : decode cX11_nearest 39 = .ok (.iload_n 3, 1) := by decide +kernel
theorem dX11_nearest_40 : decode cX11_nearest 40 = .ok (.ireturn, 1) := by decide +kernel
theorem dX11_byColumns_0 : decode cX11_byColumns 0 = .ok (.ldc2_w 406, 3) := by decide +kernel
theorem dX11_byColumns_3 : decode cX11_byColumns 3 = .ok (.lstore_n 3, 1) := by decide +kernel
theorem dX11_byColumns_4 : decode cX11_byColumns 4 = .ok (.iload_n 2, 1) := by decide +kernel
theorem dX11_byColumns_5 : decode cX11_byColumns 5 = .ok (.ifCond .lt 16, 3) := by decide +kernel
theorem dX11_byColumns_8 : decode cX11_byColumns 8 = .ok (.lload_n 0, 1) := by decide +kernel
theorem dX11_byColumns_9 : decode cX11_byColumns 9 = .ok (.lload_n 3, 1) := by decide +kernel
theorem dX11_byColumns_10 : decode cX11_byColumns 10 = .ok (.sipush 255, 3) := by decide +kernel
theorem dX11_byColumns_13 : decode cX11_byColumns 13 = .ok (.iload_n 2, 1) := by decide +kernel
theorem dX11_byColumns_14 : decode cX11_byColumns 14 = .ok (.ishr, 1) := by decide +kernel
theorem dX11_byColumns_15 : decode cX11_byColumns 15 = .ok (.i2l, 1) := by decide +kernel
theorem dX11_byColumns_16 : decode cX11_byColumns 16 = .ok (.lmul, 1) := by decide +kernel
theorem dX11_byColumns_17 : decode cX11_byColumns 17 = .ok (.land, 1) := by decide +kernel
theorem dX11_byColumns_18 : decode cX11_byColumns 18 = .ok (.iload_n 2, 1) := by decide +kernel
theorem dX11_byColumns_19 : decode cX11_byColumns 19 = .ok (.lshl, 1) := by decide +kernel
theorem dX11_byColumns_20 : decode cX11_byColumns 20 = .ok (.lreturn, 1) := by decide +kernel
theorem dX11_byColumns_21 : decode cX11_byColumns 21 = .ok (.lload_n 0, 1) := by decide +kernel
theorem dX11_byColumns_22 : decode cX11_byColumns 22 = .ok (.lload_n 3, 1) := by decide +kernel
theorem dX11_byColumns_23 : decode cX11_byColumns 23 = .ok (.sipush 255, 3) := by decide +kernel
theorem dX11_byColumns_26 : decode cX11_byColumns 26 = .ok (.iload_n 2, 1) := by decide +kernel
theorem dX11_byColumns_27 : decode cX11_byColumns 27 = .ok (.ineg, 1) := by decide +kernel
theorem dX11_byColumns_28 : decode cX11_byColumns 28 = .ok (.ishl, 1) := by decide +kernel
theorem dX11_byColumns_29 : decode cX11_byColumns 29 = .ok (.sipush 255, 3) := by decide +kernel
theorem dX11_byColumns_32 : decode cX11_byColumns 32 = .ok (.iand, 1) := by decide +kernel
theorem dX11_byColumns_33 : decode cX11_byColumns 33 = .ok (.i2l, 1) := by decide +kernel
theorem dX11_byColumns_34 : decode cX11_byColumns 34 = .ok (.lmul, 1) := by decide +kernel
theorem dX11_byColumns_35 : decode cX11_byColumns 35 = .ok (.land, 1) := by decide +kernel
theorem dX11_byColumns_36 : decode cX11_byColumns 36 = .ok (.iload_n 2, 1) := by decide +kernel
theorem dX11_byColumns_37 : decode cX11_byColumns 37 = .ok (.ineg, 1) := by decide +kernel
theorem dX11_byColumns_38 : decode cX11_byColumns 38 = .ok (.lushr, 1) := by decide +kernel
theorem dX11_byColumns_39 : decode cX11_byColumns 39 = .ok (.lreturn, 1) := by decide +kernel
theorem dX11_byRows_0 : decode cX11_byRows 0 = .ok (.iload_n 2, 1) := by decide +kernel
theorem dX11_byRows_1 : decode cX11_byRows 1 = .ok (.ifCond .lt 12, 3) := by decide +kernel
theorem dX11_byRows_4 : decode cX11_byRows 4 = .ok (.lload_n 0, 1) := by decide +kernel
theorem dX11_byRows_5 : decode cX11_byRows 5 = .ok (.bipush 8, 2) := by decide +kernel
theorem dX11_byRows_7 : decode cX11_byRows 7 = .ok (.iload_n 2, 1) := by decide +kernel
theorem dX11_byRows_8 : decode cX11_byRows 8 = .ok (.imul, 1) := by decide +kernel
theorem dX11_byRows_9 : decode cX11_byRows 9 = .ok (.lshl, 1) := by decide +kernel
theorem dX11_byRows_10 : decode cX11_byRows 10 = .ok (.goto 10, 3) := by decide +kernel
theorem dX11_byRows_13 : decode cX11_byRows 13 = .ok (.lload_n 0, 1) := by decide +kernel
theorem dX11_byRows_14 : decode cX11_byRows 14 = .ok (.bipush 8, 2) := by decide +kernel
theorem dX11_byRows_16 : decode cX11_byRows 16 = .ok (.iload_n 2, 1) := by decide +kernel
theorem dX11_byRows_17 : decode cX11_byRows 17 = .ok (.ineg, 1) := by decide +kernel
theorem dX11_byRows_18 : decode cX11_byRows 18 = .ok (.imul, 1) := by decide +kernel
theorem dX11_byRows_19 : decode cX11_byRows 19 = .ok (.lushr, 1) := by decide +kernel
theorem dX11_byRows_20 : decode cX11_byRows 20 = .ok (.lreturn, 1) := by decide +kernel
set_option maxRecDepth 20000 in
theorem ggX12_init_J0_length_8abf5 : GoodIn wsX12_init wsJ0_length_8abf5 := goodIn_r _ [64, 65, 66, 67, 68, 63, 69, 70, 71] (by decide +kernel) (by decide +kernel)
set_option maxRecDepth 20000 in
theorem gX12_init_J0_length_8abf5 : GoodIn wsX12_init (wsV RX12 172 RJ0 yJ0_length_8abf5 wsJ0_length_8abf5) := goodIn_app (goodIn_of _ (by decide +kernel)) ggX12_init_J0_length_8abf5
set_option maxRecDepth 20000 in
theorem ggX12_init_J0_charAt_5068e : GoodIn wsX12_init wsJ0_charAt_5068e := goodIn_r _ [75, 65, 76, 77, 78, 63, 79, 70, 71, 80, 81, 82, 83, 84, 85, 86, 87, 88, 89, 90, 91, 92, 93, 94, 95, 96, 97, 98, 99, 100, 101, 102, 103, 104, 105, 106, 107, 108] (by decide +kernel) (by decide +kernel)
set_option maxRecDepth 20000 in
theorem gX12_init_J0_charAt_5068e : GoodIn wsX12_init (wsV RX12 178 RJ0 yJ0_charAt_5068e wsJ0_charAt_5068e) := goodIn_app (goodIn_of _ (by decide +kernel)) ggX12_init_J0_charAt_5068e
theorem dX12_init_0 : decode cX12_init 0 = .ok (.aload_n 0, 1) := by decide +kernel
theorem dX12_init_1 : decode cX12_init 1 = .ok (.invokespecial 1, 3) := by decide +kernel
theorem dX12_init_4 : decode cX12_init 4 = .ok (.aload_n 0, 1) := by decide +kernel
theorem dX12_init_5 : decode cX12_init 5 = .ok (.bipush 30, 2) := by decide +kernel
theorem dX12_init_7 : decode cX12_init 7 = .ok (.newarray .int, 2) := by decide +kernel
theorem dX12_init_9 : decode cX12_init 9 = .ok (.putfield 9, 3) := by decide +kernel
theorem dX12_init_12 : decode cX12_init 12 = .ok (.aload_n 0, 1) := by decide +kernel
theorem dX12_init_13 : decode cX12_init 13 = .ok (.bipush 30, 2) := by decide +kernel
theorem dX12_init_15 : decode cX12_init 15 = .ok (.newarray .int, 2) := by decide +kernel
theorem dX12_init_17 : decode cX12_init 17 = .ok (.putfield 13, 3) := by decide +kernel
theorem dX12_init_20 : decode cX12_init 20 = .ok (.aload_n 0, 1) := by decide +kernel
theorem dX12_init_21 : decode cX12_init 21 = .ok (.bipush 30, 2) := by decide +kernel
theorem dX12_init_23 : decode cX12_init 23 = .ok (.newarray .int, 2) := by decide +kernel
theorem dX12_init_25 : decode cX12_init 25 = .ok (.putfield 16, 3) := by decide +kernel
theorem dX12_init_28 : decode cX12_init 28 = .ok (.aload_n 0, 1) := by decide +kernel
theorem dX12_init_29 : decode cX12_init 29 = .ok (.bipush 30, 2) := by decide +kernel
theorem dX12_init_31 : decode cX12_init 31 = .ok (.newarray .int, 2) := by decide +kernel
theorem dX12_init_33 : decode cX12_init 33 = .ok (.putfield 19, 3) := by decide +kernel
theorem dX12_init_36 : decode cX12_init 36 = .ok (.aload_n 0, 1) := by decide +kernel
theorem dX12_init_37 : decode cX12_init 37 = .ok (.bipush 30, 2) := by decide +kernel
theorem dX12_init_39 : decode cX12_init 39 = .ok (.newarray .int, 2) := by decide +kernel
theorem dX12_init_41 : decode cX12_init 41 = .ok (.putfield 22, 3) := by decide +kernel
theorem dX12_init_44 : decode cX12_init 44 = .ok (.aload_n 0, 1) := by decide +kernel
theorem dX12_init_45 : decode cX12_init 45 = .ok (.bipush 30, 2) := by decide +kernel
theorem dX12_init_47 : decode cX12_init 47 = .ok (.newarray .int, 2) := by decide +kernel
theorem dX12_init_49 : decode cX12_init 49 = .ok (.putfield 25, 3) := by decide +kernel
theorem dX12_init_52 : decode cX12_init 52 = .ok (.aload_n 0, 1) := by decide +kernel
theorem dX12_init_53 : decode cX12_init 53 = .ok (.bipush 12, 2) := by decide +kernel
theorem dX12_init_55 : decode cX12_init 55 = .ok (.newarray .int, 2) := by decide +kernel
theorem dX12_init_57 : decode cX12_init 57 = .ok (.putfield 28, 3) := by decide +kernel
theorem dX12_init_60 : decode cX12_init 60 = .ok (.aload_n 0, 1) := by decide +kernel
theorem dX12_init_61 : decode cX12_init 61 = .ok (.bipush 12, 2) := by decide +kernel
theorem dX12_init_63 : decode cX12_init 63 = .ok (.newarray .int, 2) := by decide +kernel
theorem dX12_init_65 : decode cX12_init 65 = .ok (.putfield 31, 3) := by decide +kernel
theorem dX12_init_68 : decode cX12_init 68 = .ok (.aload_n 0, 1) := by decide +kernel
theorem dX12_init_69 : decode cX12_init 69 = .ok (.bipush 12, 2) := by decide +kernel
theorem dX12_init_71 : decode cX12_init 71 = .ok (.newarray .int, 2) := by decide +kernel
theorem dX12_init_73 : decode cX12_init 73 = .ok (.putfield 34, 3) := by decide +kernel
theorem dX12_init_76 : decode cX12_init 76 = .ok (.aload_n 0, 1) := by decide +kernel
theorem dX12_init_77 : decode cX12_init 77 = .ok (.bipush 12, 2) := by decide +kernel
theorem dX12_init_79 : decode cX12_init 79 = .ok (.newarray .int, 2) := by decide +kernel
theorem dX12_init_81 : decode cX12_init 81 = .ok (.putfield 37, 3) := by decide +kernel
theorem dX12_init_84 : decode cX12_init 84 = .ok (.aload_n 0, 1) := by decide +kernel
theorem dX12_init_85 : decode cX12_init 85 = .ok (.bipush 12, 2) := by decide +kernel
theorem dX12_init_87 : decode cX12_init 87 = .ok (.newarray .int, 2) := by decide +kernel
theorem dX12_init_89 : decode cX12_init 89 = .ok (.putfield 40, 3) := by decide +kernel
theorem dX12_init_92 : decode cX12_init 92 = .ok (.aload_n 0, 1) := by decide +kernel
theorem dX12_init_93 : decode cX12_init 93 = .ok (.bipush 12, 2) := by decide +kernel
theorem dX12_init_95 : decode cX12_init 95 = .ok (.newarray .int, 2) := by decide +kernel
theorem dX12_init_97 : decode cX12_init 97 = .ok (.putfield 43, 3) := by decide +kernel
theorem dX12_init_100 : decode cX12_init 100 = .ok (.aload_n 0, 1) := by decide +kernel
theorem dX12_init_101 : decode cX12_init 101 = .ok (.bipush 40, 2) := by decide +kernel
theorem dX12_init_103 : decode cX12_init 103 = .ok (.newarray .int, 2) := by decide +kernel
theorem dX12_init_105 : decode cX12_init 105 = .ok (.putfield 46, 3) := by decide +kernel
theorem dX12_init_108 : decode cX12_init 108 = .ok (.aload_n 0, 1) := by decide +kernel
theorem dX12_init_109 : decode cX12_init 109 = .ok (.bipush 40, 2) := by decide +kernel
theorem dX12_init_111 : decode cX12_init 111 = .ok (.newarray .int, 2) := by decide +kernel
theorem dX12_init_113 : decode cX12_init 113 = .ok (.putfield 49, 3) := by decide +kernel
theorem dX12_init_116 : decode cX12_init 116 = .ok (.aload_n 0, 1) := by decide +kernel
theorem dX12_init_117 : decode cX12_init 117 = .ok (.bipush 40, 2) := by decide +kernel
theorem dX12_init_119 : decode cX12_init 119 = .ok (.newarray .long, 2) := by decide +kernel
theorem dX12_init_121 : decode cX12_init 121 = .ok (.putfield 52, 3) := by decide +kernel
theorem dX12_init_124 : decode cX12_init 124 = .ok (.aload_n 0, 1) := by decide +kernel
theorem dX12_init_125 : decode cX12_init 125 = .ok (.bipush 40, 2) := by decide +kernel
theorem dX12_init_127 : decode cX12_init 127 = .ok (.newarray .int, 2) := by decide +kernel
theorem dX12_init_129 : decode cX12_init 129 = .ok (.putfield 56, 3) := by decide +kernel
theorem dX12_init_132 : decode cX12_init 132 = .ok (.aload_n 0, 1) := by decide +kernel
theorem dX12_init_133 : decode cX12_init 133 = .ok (.bipush 6, 2) := by decide +kernel
theorem dX12_init_135 : decode cX12_init 135 = .ok (.newarray .int, 2) := by decide +kernel
theorem dX12_init_137 : decode cX12_init 137 = .ok (.putfield 59, 3) := by decide +kernel
theorem dX12_init_140 : decode cX12_init 140 = .ok (.aload_n 0, 1) := by decide +kernel
theorem dX12_init_141 : decode cX12_init 141 = .ok (.bipush 8, 2) := by decide +kernel
theorem dX12_init_143 : decode cX12_init 143 = .ok (.newarray .int, 2) := by decide +kernel
theorem dX12_init_145 : decode cX12_init 145 = .ok (.putfield 62, 3) := by decide +kernel
theorem dX12_init_148 : decode cX12_init 148 = .ok (.aload_n 0, 1) := by decide +kernel
theorem dX12_init_149 : decode cX12_init 149 = .ok (.bipush 8, 2) := by decide +kernel
theorem dX12_init_151 : decode cX12_init 151 = .ok (.newarray .int, 2) := by decide +kernel
theorem dX12_init_153 : decode cX12_init 153 = .ok (.putfield 65, 3) := by decide +kernel
theorem dX12_init_156 : decode cX12_init 156 = .ok (.aload_n 0, 1) := by decide +kernel
theorem dX12_init_157 : decode cX12_init 157 = .ok (.bipush 20, 2) := by decide +kernel
theorem dX12_init_159 : decode cX12_init 159 = .ok (.newarray .int, 2) := by decide +kernel
theorem dX12_init_161 : decode cX12_init 161 = .ok (.putfield 68, 3) := by decide +kernel
theorem dX12_init_164 : decode cX12_init 164 = .ok (.aload_n 0, 1) := by decide +kernel
theorem dX12_init_165 : decode cX12_init 165 = .ok (.bipush 20, 2) := by decide +kernel
theorem dX12_init_167 : decode cX12_init 167 = .ok (.newarray .int, 2) := by decide +kernel
theorem dX12_init_169 : decode cX12_init 169 = .ok (.putfield 71, 3) := by decide +kernel
theorem dX12_init_172 : decode cX12_init 172 = .ok (.aload_n 0, 1) := by decide +kernel
theorem dX12_init_173 : decode cX12_init 173 = .ok (.bipush 20, 2) := by decide +kernel
theorem dX12_init_175 : decode cX12_init 175 = .ok (.newarray .int, 2) := by decide +kernel
theorem dX12_init_177 : decode cX12_init 177 = .ok (.putfield 74, 3) := by decide +kernel
theorem dX12_init_180 : decode cX12_init 180 = .ok (.aload_n 0, 1) := by decide +kernel
theorem dX12_init_181 : decode cX12_init 181 = .ok (.bipush 20, 2) := by decide +kernel
theorem dX12_init_183 : decode cX12_init 183 = .ok (.newarray .long, 2) := by decide +kernel
theorem dX12_init_185 : decode cX12_init 185 = .ok (.putfield 77, 3) := by decide +kernel
theorem dX12_init_188 : decode cX12_init 188 = .ok (.aload_n 0, 1) := by decide +kernel
theorem dX12_init_189 : decode cX12_init 189 = .ok (.bipush 40, 2) := by decide +kernel
theorem dX12_init_191 : decode cX12_init 191 = .ok (.newarray .int, 2) := by decide +kernel
theorem dX12_init_193 : decode cX12_init 193 = .ok (.putfield 80, 3) := by decide +kernel
theorem dX12_init_196 : decode cX12_init 196 = .ok (.aload_n 0, 1) := by decide +kernel
theorem dX12_init_197 : decode cX12_init 197 = .ok (.bipush 40, 2) := by decide +kernel
theorem dX12_init_199 : decode cX12_init 199 = .ok (.newarray .int, 2) := by decide +kernel
theorem dX12_init_201 : decode cX12_init 201 = .ok (.putfield 83, 3) := by decide +kernel
theorem dX12_init_204 : decode cX12_init 204 = .ok (.aload_n 0, 1) := by decide +kernel
theorem dX12_init_205 : decode cX12_init 205 = .ok (.bipush 40, 2) := by decide +kernel
theorem dX12_init_207 : decode cX12_init 207 = .ok (.newarray .long, 2) := by decide +kernel
theorem dX12_init_209 : decode cX12_init 209 = .ok (.putfield 86, 3) := by decide +kernel
theorem dX12_init_212 : decode cX12_init 212 = .ok (.aload_n 0, 1) := by decide +kernel
theorem dX12_init_213 : decode cX12_init 213 = .ok (.bipush 16, 2) := by decide +kernel
theorem dX12_init_215 : decode cX12_init 215 = .ok (.newarray .long, 2) := by decide +kernel
theorem dX12_init_217 : decode cX12_init 217 = .ok (.putfield 89, 3) := by decide +kernel
theorem dX12_init_220 : decode cX12_init 220 = .ok (.aload_n 0, 1) := by decide +kernel
theorem dX12_init_221 : decode cX12_init 221 = .ok (.bipush 72, 2) := by decide +kernel
theorem dX12_init_223 : decode cX12_init 223 = .ok (.newarray .int, 2) := by decide +kernel
theorem dX12_init_225 : decode cX12_init 225 = .ok (.putfield 92, 3) := by decide +kernel
theorem dX12_init_228 : decode cX12_init 228 = .ok (.aload_n 0, 1) := by decide +kernel
theorem dX12_init_229 : decode cX12_init 229 = .ok (.bipush 72, 2) := by decide +kernel
theorem dX12_init_231 : decode cX12_init 231 = .ok (.newarray .int, 2) := by decide +kernel
theorem dX12_init_233 : decode cX12_init 233 = .ok (.putfield 95, 3) := by decide +kernel
theorem dX12_init_236 : decode cX12_init 236 = .ok (.aload_n 0, 1) := by decide +kernel
theorem dX12_init_237 : decode cX12_init 237 = .ok (.bipush 12, 2) := by decide +kernel
theorem dX12_init_239 : decode cX12_init 239 = .ok (.newarray .int, 2) := by decide +kernel
theorem dX12_init_241 : decode cX12_init 241 = .ok (.putfield 98, 3) := by decide +kernel
theorem dX12_init_244 : decode cX12_init 244 = .ok (.aload_n 0, 1) := by decide +kernel
theorem dX12_init_245 : decode cX12_init 245 = .ok (.bipush 16, 2) := by decide +kernel
theorem dX12_init_247 : decode cX12_init 247 = .ok (.newarray .int, 2) := by decide +kernel
theorem dX12_init_249 : decode cX12_init 249 = .ok (.putfield 101, 3) := by decide +kernel
theorem dX12_init_252 : decode cX12_init 252 = .ok (.aload_n 0, 1) := by decide +kernel
theorem dX12_init_253 : decode cX12_init 253 = .ok (.bipush 16, 2) := by decide +kernel
theorem dX12_init_255 : decode cX12_init 255 = .ok (.newarray .int, 2) := by decide +kernel
theorem dX12_init_257 : decode cX12_init 257 = .ok (.putfield 104, 3) := by decide +kernel
theorem dX12_init_260 : decode cX12_init 260 = .ok (.aload_n 0, 1) := by decide +kernel
theorem dX12_init_261 : decode cX12_init 261 = .ok (.bipush 16, 2) := by decide +kernel
theorem dX12_init_263 : decode cX12_init 263 = .ok (.newarray .int, 2) := by decide +kernel
theorem dX12_init_265 : decode cX12_init 265 = .ok (.putfield 107, 3) := by decide +kernel
theorem dX12_init_268 : decode cX12_init 268 = .ok (.aload_n 0, 1) := by decide +kernel
theorem dX12_init_269 : decode cX12_init 269 = .ok (.bipush 16, 2) := by decide +kernel
theorem dX12_init_271 : decode cX12_init 271 = .ok (.newarray .int, 2) := by decide +kernel
theorem dX12_init_273 : decode cX12_init 273 = .ok (.putfield 110, 3) := by decide +kernel
theorem dX12_init_276 : decode cX12_init 276 = .ok (.aload_n 0, 1) := by decide +kernel
theorem dX12_init_277 : decode cX12_init 277 = .ok (.bipush 20, 2) := by decide +kernel
theorem dX12_init_279 : decode cX12_init 279 = .ok (.newarray .int, 2) := by decide +kernel
theorem dX12_init_281 : decode cX12_init 281 = .ok (.putfield 113, 3) := by decide +kernel
theorem dX12_init_284 : decode cX12_init 284 = .ok (.aload_n 0, 1) := by decide +kernel
theorem dX12_init_285 : decode cX12_init 285 = .ok (.bipush 20, 2) := by decide +kernel
theorem dX12_init_287 : decode cX12_init 287 = .ok (.newarray .int, 2) := by decide +kernel
theorem dX12_init_289 : decode cX12_init 289 = .ok (.putfield 116, 3) := by decide +kernel
theorem dX12_init_292 : decode cX12_init 292 = .ok (.aload_n 0, 1) := by decide +kernel
theorem dX12_init_293 : decode cX12_init 293 = .ok (.bipush 20, 2) := by decide +kernel
theorem dX12_init_295 : decode cX12_init 295 = .ok (.newarray .int, 2) := by decide +kernel
theorem dX12_init_297 : decode cX12_init 297 = .ok (.putfield 119, 3) := by decide +kernel
theorem dX12_init_300 : decode cX12_init 300 = .ok (.aload_n 0, 1) := by decide +kernel
theorem dX12_init_301 : decode cX12_init 301 = .ok (.bipush 60, 2) := by decide +kernel
theorem dX12_init_303 : decode cX12_init 303 = .ok (.newarray .int, 2) := by decide +kernel
theorem dX12_init_305 : decode cX12_init 305 = .ok (.putfield 122, 3) := by decide +kernel
theorem dX12_init_308 : decode cX12_init 308 = .ok (.aload_n 0, 1) := by decide +kernel
theorem dX12_init_309 : decode cX12_init 309 = .ok (.sipush 160, 3) := by decide +kernel
theorem dX12_init_312 : decode cX12_init 312 = .ok (.newarray .int, 2) := by decide +kernel
theorem dX12_init_314 : decode cX12_init 314 = .ok (.putfield 125, 3) := by decide +kernel
theorem dX12_init_317 : decode cX12_init 317 = .ok (.aload_n 0, 1) := by decide +kernel
theorem dX12_init_318 : decode cX12_init 318 = .ok (.sipush 960, 3) := by decide +kernel
theorem dX12_init_321 : decode cX12_init 321 = .ok (.newarray .int, 2) := by decide +kernel
theorem dX12_init_323 : decode cX12_init 323 = .ok (.putfield 128, 3) := by decide +kernel
theorem dX12_init_326 : decode cX12_init 326 = .ok (.aload_n 0, 1) := by decide +kernel
theorem dX12_init_327 : decode cX12_init 327 = .ok (.bipush 6, 2) := by decide +kernel
theorem dX12_init_329 : decode cX12_init 329 = .ok (.newarray .int, 2) := by decide +kernel
theorem dX12_init_331 : decode cX12_init 331 = .ok (.putfield 131, 3) := by decide +kernel
theorem dX12_init_334 : decode cX12_init 334 = .ok (.aload_n 0, 1) := by decide +kernel
theorem dX12_init_335 : decode cX12_init 335 = .ok (.bipush 64, 2) := by decide +kernel
theorem dX12_init_337 : decode cX12_init 337 = .ok (.newarray .long, 2) := by decide +kernel
theorem dX12_init_339 : decode cX12_init 339 = .ok (.putfield 134, 3) := by decide +kernel
theorem dX12_init_342 : decode cX12_init 342 = .ok (.aload_n 0, 1) := by decide +kernel
theorem dX12_init_343 : decode cX12_init 343 = .ok (.iconst 3, 1) := by decide +kernel
theorem dX12_init_344 : decode cX12_init 344 = .ok (.newarray .int, 2) := by decide +kernel
theorem dX12_init_346 : decode cX12_init 346 = .ok (.putfield 137, 3) := by decide +kernel
theorem dX12_init_349 : decode cX12_init 349 = .ok (.aload_n 0, 1) := by decide +kernel
theorem dX12_init_350 : decode cX12_init 350 = .ok (.iconst 3, 1) := by decide +kernel
theorem dX12_init_351 : decode cX12_init 351 = .ok (.newarray .int, 2) := by decide +kernel
theorem dX12_init_353 : decode cX12_init 353 = .ok (.putfield 140, 3) := by decide +kernel
theorem dX12_init_356 : decode cX12_init 356 = .ok (.aload_n 0, 1) := by decide +kernel
theorem dX12_init_357 : decode cX12_init 357 = .ok (.bipush 6, 2) := by decide +kernel
theorem dX12_init_359 : decode cX12_init 359 = .ok (.newarray .int, 2) := by decide +kernel
theorem dX12_init_361 : decode cX12_init 361 = .ok (.putfield 143, 3) := by decide +kernel
theorem dX12_init_364 : decode cX12_init 364 = .ok (.aload_n 0, 1) := by decide +kernel
theorem dX12_init_365 : decode cX12_init 365 = .ok (.bipush 16, 2) := by decide +kernel
theorem dX12_init_367 : decode cX12_init 367 = .ok (.newarray .int, 2) := by decide +kernel
theorem dX12_init_369 : decode cX12_init 369 = .ok (.putfield 146, 3) := by decide +kernel
theorem dX12_init_372 : decode cX12_init 372 = .ok (.aload_n 0, 1) := by decide +kernel
theorem dX12_init_373 : decode cX12_init 373 = .ok (.bipush 16, 2) := by decide +kernel
theorem dX12_init_375 : decode cX12_init 375 = .ok (.newarray .int, 2) := by decide +kernel
theorem dX12_init_377 : decode cX12_init 377 = .ok (.putfield 149, 3) := by decide +kernel
theorem dX12_init_380 : decode cX12_init 380 = .ok (.aload_n 0, 1) := by decide +kernel
theorem dX12_init_381 : decode cX12_init 381 = .ok (.iconst 5, 1) := by decide +kernel
theorem dX12_init_382 : decode cX12_init 382 = .ok (.newarray .int, 2) := by decide +kernel
theorem dX12_init_384 : decode cX12_init 384 = .ok (.putfield 152, 3) := by decide +kernel
theorem dX12_init_387 : decode cX12_init 387 = .ok (.aload_n 0, 1) := by decide +kernel
theorem dX12_init_388 : decode cX12_init 388 = .ok (.iconst 5, 1) := by decide +kernel
theorem dX12_init_389 : decode cX12_init 389 = .ok (.newarray .int, 2) := by decide +kernel
theorem dX12_init_391 : decode cX12_init 391 = .ok (.putfield 155, 3) := by decide +kernel
theorem dX12_init_394 : decode cX12_init 394 = .ok (.aload_n 0, 1) := by decide +kernel
theorem dX12_init_395 : decode cX12_init 395 = .ok (.iconst 4, 1) := by decide +kernel
theorem dX12_init_396 : decode cX12_init 396 = .ok (.newarray .int, 2) := by decide +kernel
theorem dX12_init_398 : decode cX12_init 398 = .ok (.putfield 158, 3) := by decide +kernel
theorem dX12_init_401 : decode cX12_init 401 = .ok (.aload_n 0, 1) := by decide +kernel
theorem dX12_init_402 : decode cX12_init 402 = .ok (.iconst 4, 1) := by decide +kernel
theorem dX12_init_403 : decode cX12_init 403 = .ok (.newarray .int, 2) := by decide +kernel
theorem dX12_init_405 : decode cX12_init 405 = .ok (.putfield 161, 3) := by decide +kernel
theorem dX12_init_408 : decode cX12_init 408 = .ok (.aload_n 0, 1) := by decide +kernel
theorem dX12_init_409 : decode cX12_init 409 = .ok (.sipush 160, 3) := by decide +kernel
theorem dX12_init_412 : decode cX12_init 412 = .ok (.newarray .int, 2) := by decide +kernel
theorem dX12_init_414 : decode cX12_init 414 = .ok (.putfield 164, 3) := by decide +kernel
theorem dX12_init_417 : decode cX12_init 417 = .ok (.aload_n 0, 1) := by decide +kernel
theorem dX12_init_418 : decode cX12_init 418 = .ok (.bipush 40, 2) := by decide +kernel
theorem dX12_init_420 : decode cX12_init 420 = .ok (.newarray .int, 2) := by decide +kernel
theorem dX12_init_422 : decode cX12_init 422 = .ok (.putfield 167, 3) := by decide +kernel
theorem dX12_init_425 : decode cX12_init 425 = .ok (.ldc 170, 2) := by decide +kernel
theorem dX12_init_427 : decode cX12_init 427 = .ok (.astore_n 1, 1) := by decide +kernel
theorem dX12_init_428 : decode cX12_init 428 = .ok (.iconst 0, 1) := by decide +kernel
theorem dX12_init_429 : decode cX12_init 429 = .ok (.istore_n 2, 1) := by decide +kernel
theorem dX12_init_430 : decode cX12_init 430 = .ok (.iload_n 2, 1) := by decide +kernel
theorem dX12_init_431 : decode cX12_init 431 = .ok (.aload_n 1, 1) := by decide +kernel
theorem dX12_init_432 : decode cX12_init 432 = .ok (.invokevirtual 172, 3) := by decide +kernel
theorem dX12_init_435 : decode cX12_init 435 = .ok (.if_icmp .ge 20, 3) := by decide +kernel
theorem dX12_init_438 : decode cX12_init 438 = .ok (.aload_n 0, 1) := by decide +kernel
theorem dX12_init_439 : decode cX12_init 439 = .ok (.getfield 128, 3) := by decide +kernel
theorem dX12_init_442 : decode cX12_init 442 = .ok (.iload_n 2, 1) := by decide +kernel
theorem dX12_init_443 : decode cX12_init 443 = .ok (.aload_n 1, 1) := by decide +kernel
theorem dX12_init_444 : decode cX12_init 444 = .ok (.iload_n 2, 1) := by decide +kernel
theorem dX12_init_445 : decode cX12_init 445 = .ok (.invokevirtual 178, 3) := by decide +kernel
theorem dX12_init_448 : decode cX12_init 448 = .ok (.iastore, 1) := by decide +kernel
theorem dX12_init_449 : decode cX12_init 449 = .ok (.iinc 2 1, 3) := by decide +kernel
theorem dX12_init_452 : decode cX12_init 452 = .ok (.goto (-22), 3) := by decide +kernel
theorem dX12_init_455 : decode cX12_init 455 = .ok (.aload_n 0, 1) := by decide +kernel
theorem dX12_init_456 : decode cX12_init 456 = .ok (.getfield 131, 3) := by decide +kernel
theorem dX12_init_459 : decode cX12_init 459 = .ok (.iconst 0, 1) := by decide +kernel
theorem dX12_init_460 : decode cX12_init 460 = .ok (.aload_n 1, 1) := by decide +kernel
theorem dX12_init_461 : decode cX12_init 461 = .ok (.invokevirtual 172, 3) := by decide +kernel
theorem dX12_init_464 : decode cX12_init 464 = .ok (.iastore, 1) := by decide +kernel
theorem dX12_init_465 : decode cX12_init 465 = .ok (.aload_n 0, 1) := by decide +kernel
theorem dX12_init_466 : decode cX12_init 466 = .ok (.iconst 1, 1) := by decide +kernel
theorem dX12_init_467 : decode cX12_init 467 = .ok (.putfield 182, 3) := by decide +kernel
theorem dX12_init_470 : decode cX12_init 470 = .ok (.iconst 0, 1) := by decide +kernel
theorem dX12_init_471 : decode cX12_init 471 = .ok (.istore_n 2, 1) := by decide +kernel
theorem dX12_init_472 : decode cX12_init 472 = .ok (.iload_n 2, 1) := by decide +kernel
theorem dX12_init_473 : decode cX12_init 473 = .ok (.iconst 4, 1) := by decide +kernel
theorem dX12_init_474 : decode cX12_init 474 = .ok (.if_icmp .ge 16, 3) := by decide +kernel
theorem dX12_init_477 : decode cX12_init 477 = .ok (.aload_n 0, 1) := by decide +kernel
theorem dX12_init_478 : decode cX12_init 478 = .ok (.getfield 158, 3) := by decide +kernel
theorem dX12_init_481 : decode cX12_init 481 = .ok (.iload_n 2, 1) := by decide +kernel
theorem dX12_init_482 : decode cX12_init 482 = .ok (.iconst (-1), 1) := by decide +kernel
theorem dX12_init_483 : decode cX12_init 483 = .ok (.iastore, 1) := by decide +kernel
theorem dX12_init_484 : decode cX12_init 484 = .ok (.iinc 2 1, 3) := by decide +kernel
theorem dX12_init_487 : decode cX12_init 487 = .ok (.goto (-15), 3) := by decide +kernel
theorem dX12_init_490 : decode cX12_init 490 = .ok (.return_, 1) := by decide +kernel
theorem dX12_within_0 : decode cX12_within 0 = .ok (.iload_n 0, 1) := by decide +kernel
theorem dX12_within_1 : decode cX12_within 1 = .ok (.iload_n 1, 1) := by decide +kernel
theorem dX12_within_2 : decode cX12_within 2 = .ok (.if_icmp .lt 12, 3) := by decide +kernel
theorem dX12_within_5 : decode cX12_within 5 = .ok (.iload_n 0, 1) := by decide +kernel
theorem dX12_within_6 : decode cX12_within 6 = .ok (.iload_n 2, 1) := by decide +kernel
theorem dX12_within_7 : decode cX12_within 7 = .ok (.if_icmp .gt 7, 3) := by decide +kernel
theorem dX12_within_10 : decode cX12_within 10 = .ok (.iconst 1, 1) := by decide +kernel
theorem dX12_within_11 : decode cX12_within 11 = .ok (.goto 4, 3) := by decide +kernel
theorem dX12_within_14 : decode cX12_within 14 = .ok (.iconst 0, 1) := by decide +kernel
theorem dX12_within_15 : decode cX12_within 15 = .ok (.ireturn, 1) := by decide +kernel
set_option maxRecDepth 20000 in
theorem ggX12_isHour_X12_within : GoodIn wsX12_isHour wsX12_within := goodIn_r _ [4] (by decide +kernel) (by decide +kernel)
set_option maxRecDepth 20000 in
theorem gX12_isHour_X12_within : GoodIn wsX12_isHour (va_wsS RX12 186 yX12_within wsX12_within) := goodIn_app (goodIn_of _ (by decide +kernel)) ggX12_isHour_X12_within
theorem dX12_isHour_0 : decode cX12_isHour 0 = .ok (.iload_n 0, 1) := by decide +kernel
theorem dX12_isHour_1 : decode cX12_isHour 1 = .ok (.iconst 0, 1) := by decide +kernel
theorem dX12_isHour_2 : decode cX12_isHour 2 = .ok (.sipush 239, 3) := by decide +kernel
theorem dX12_isHour_5 : decode cX12_isHour 5 = .ok (.invokestatic 186, 3) := by decide +kernel
theorem dX12_isHour_8 : decode cX12_isHour 8 = .ok (.ireturn, 1) := by decide +kernel
set_option maxRecDepth 20000 in
theorem ggX12_isCell_X12_within : GoodIn wsX12_isCell wsX12_within := goodIn_r _ [4] (by decide +kernel) (by decide +kernel)
set_option maxRecDepth 20000 in
theorem gX12_isCell_X12_within : GoodIn wsX12_isCell (va_wsS RX12 186 yX12_within wsX12_within) := goodIn_app (goodIn_of _ (by decide +kernel)) ggX12_isCell_X12_within
theorem dX12_isCell_0 : decode cX12_isCell 0 = .ok (.iload_n 0, 1) := by decide +kernel
theorem dX12_isCell_1 : decode cX12_isCell 1 = .ok (.iconst 0, 1) := by decide +kernel
theorem dX12_isCell_2 : decode cX12_isCell 2 = .ok (.bipush 63, 2) := by decide +kernel
theorem dX12_isCell_4 : decode cX12_isCell 4 = .ok (.invokestatic 186, 3) := by decide +kernel
theorem dX12_isCell_7 : decode cX12_isCell 7 = .ok (.ireturn, 1) := by decide +kernel
theorem dX12_isBody_0 : decode cX12_isBody 0 = .ok (.iload_n 1, 1) := by decide +kernel
theorem dX12_isBody_1 : decode cX12_isBody 1 = .ok (.ifCond .lt 15, 3) := by decide +kernel
theorem dX12_isBody_4 : decode cX12_isBody 4 = .ok (.iload_n 1, 1) := by decide +kernel
theorem dX12_isBody_5 : decode cX12_isBody 5 = .ok (.aload_n 0, 1) := by decide +kernel
theorem dX12_isBody_6 : decode cX12_isBody 6 = .ok (.getfield 190, 3) := by decide +kernel
theorem dX12_isBody_9 : decode cX12_isBody 9 = .ok (.if_icmp .ge 7, 3) := by decide +kernel
theorem dX12_isBody_12 : decode cX12_isBody 12 = .ok (.iconst 1, 1) := by decide +kernel
theorem dX12_isBody_13 : decode cX12_isBody 13 = .ok (.goto 4, 3) := by decide +kernel
theorem dX12_isBody_16 : decode cX12_isBody 16 = .ok (.iconst 0, 1) := by decide +kernel
theorem dX12_isBody_17 : decode cX12_isBody 17 = .ok (.ireturn, 1) := by decide +kernel
set_option maxRecDepth 20000 in
theorem ggX12_isSeeker_X12_isBody : GoodIn wsX12_isSeeker wsX12_isBody := goodIn_r _ [6, 7, 8, 9, 10, 11, 12, 13, 14, 15, 16, 17, 18, 19, 20, 21, 22, 23, 24, 25, 26, 27, 28, 29, 30, 31, 32, 33, 34, 35, 36, 37, 38, 39, 40, 41, 42, 43, 44, 45, 46, 47, 48, 49, 50, 51, 52, 53, 54, 55, 56, 57, 58, 59, 60, 61, 62, 63, 64, 65, 66, 67, 68, 69, 70, 71, 72, 73, 74, 75, 76, 77, 78, 79, 80, 81, 82, 83, 84, 85, 86] (by decide +kernel) (by decide +kernel)
set_option maxRecDepth 20000 in
theorem gX12_isSeeker_X12_isBody : GoodIn wsX12_isSeeker (wsV RX12 193 RX12 yX12_isBody wsX12_isBody) := goodIn_app (goodIn_of _ (by decide +kernel)) ggX12_isSeeker_X12_isBody
theorem dX12_isSeeker_0 : decode cX12_isSeeker 0 = .ok (.aload_n 0, 1) := by decide +kernel
theorem dX12_isSeeker_1 : decode cX12_isSeeker 1 = .ok (.iload_n 1, 1) := by decide +kernel
theorem dX12_isSeeker_2 : decode cX12_isSeeker 2 = .ok (.invokevirtual 193, 3) := by decide +kernel
theorem dX12_isSeeker_5 : decode cX12_isSeeker 5 = .ok (.ifCond .eq 27, 3) := by decide +kernel
theorem dX12_isSeeker_8 : decode cX12_isSeeker 8 = .ok (.aload_n 0, 1) := by decide +kernel
theorem dX12_isSeeker_9 : decode cX12_isSeeker 9 = .ok (.getfield 28, 3) := by decide +kernel
theorem dX12_isSeeker_12 : decode cX12_isSeeker 12 = .ok (.iload_n 1, 1) := by decide +kernel
theorem dX12_isSeeker_13 : decode cX12_isSeeker 13 = .ok (.iaload, 1) := by decide +kernel
theorem dX12_isSeeker_14 : decode cX12_isSeeker 14 = .ok (.iconst 2, 1) := by decide +kernel
theorem dX12_isSeeker_15 : decode cX12_isSeeker 15 = .ok (.if_icmp .eq 13, 3) := by decide +kernel
theorem dX12_isSeeker_18 : decode cX12_isSeeker 18 = .ok (.aload_n 0, 1) := by decide +kernel
theorem dX12_isSeeker_19 : decode cX12_isSeeker 19 = .ok (.getfield 28, 3) := by decide +kernel
theorem dX12_isSeeker_22 : decode cX12_isSeeker 22 = .ok (.iload_n 1, 1) := by decide +kernel
theorem dX12_isSeeker_23 : decode cX12_isSeeker 23 = .ok (.iaload, 1) := by decide +kernel
theorem dX12_isSeeker_24 : decode cX12_isSeeker 24 = .ok (.iconst 5, 1) := by decide +kernel
theorem dX12_isSeeker_25 : decode cX12_isSeeker 25 = .ok (.if_icmp .ne 7, 3) := by decide +kernel
theorem dX12_isSeeker_28 : decode cX12_isSeeker 28 = .ok (.iconst 1, 1) := by decide +kernel
theorem dX12_isSeeker_29 : decode cX12_isSeeker 29 = .ok (.goto 4, 3) := by decide +kernel
theorem dX12_isSeeker_32 : decode cX12_isSeeker 32 = .ok (.iconst 0, 1) := by decide +kernel
theorem dX12_isSeeker_33 : decode cX12_isSeeker 33 = .ok (.ireturn, 1) := by decide +kernel
theorem dX12_size_0 : decode cX12_size 0 = .ok (.iload_n 0, 1) := by decide +kernel
theorem dX12_size_1 : decode cX12_size 1 = .ok (.ifCond .ge 8, 3) := by decide +kernel
theorem dX12_size_4 : decode cX12_size 4 = .ok (.iload_n 0, 1) := by decide +kernel
theorem dX12_size_5 : decode cX12_size 5 = .ok (.ineg, 1) := by decide +kernel
theorem dX12_size_6 : decode cX12_size 6 = .ok (.goto 4, 3) := by decide +kernel
theorem dX12_size_9 : decode cX12_size 9 = .ok (.iload_n 0, 1) := by decide +kernel
theorem dX12_size_10 : decode cX12_size 10 = .ok (.ireturn, 1) := by decide +kernel
set_option maxRecDepth 20000 in
theorem ggX12_apart_X12_size : GoodIn wsX12_apart wsX12_size := goodIn_r _ [4] (by decide +kernel) (by decide +kernel)
set_option maxRecDepth 20000 in
theorem gX12_apart_X12_size : GoodIn wsX12_apart (va_wsS RX12 197 yX12_size wsX12_size) := goodIn_app (goodIn_of _ (by decide +kernel)) ggX12_apart_X12_size
theorem dX12_apart_0 : decode cX12_apart 0 = .ok (.iload_n 0, 1) := by decide +kernel
theorem dX12_apart_1 : decode cX12_apart 1 = .ok (.bipush 8, 2) := by decide +kernel
theorem dX12_apart_3 : decode cX12_apart 3 = .ok (.irem, 1) := by decide +kernel
theorem dX12_apart_4 : decode cX12_apart 4 = .ok (.iload_n 1, 1) := by decide +kernel
theorem dX12_apart_5 : decode cX12_apart 5 = .ok (.bipush 8, 2) := by decide +kernel
theorem dX12_apart_7 : decode cX12_apart 7 = .ok (.irem, 1) := by decide +kernel
theorem dX12_apart_8 : decode cX12_apart 8 = .ok (.isub, 1) := by decide +kernel
theorem dX12_apart_9 : decode cX12_apart 9 = .ok (.invokestatic 197, 3) := by decide +kernel
theorem dX12_apart_12 : decode cX12_apart 12 = .ok (.istore_n 2, 1) := by decide +kernel
theorem dX12_apart_13 : decode cX12_apart 13 = .ok (.iload_n 0, 1) := by decide +kernel
theorem dX12_apart_14 : decode cX12_apart 14 = .ok (.bipush 8, 2) := by decide +kernel
theorem dX12_apart_16 : decode cX12_apart 16 = .ok (.idiv, 1) := by decide +kernel
theorem dX12_apart_17 : decode cX12_apart 17 = .ok (.iload_n 1, 1) := by decide +kernel
theorem dX12_apart_18 : decode cX12_apart 18 = .ok (.bipush 8, 2) := by decide +kernel
theorem dX12_apart_20 : decode cX12_apart 20 = .ok (.idiv, 1) := by decide +kernel
theorem dX12_apart_21 : decode cX12_apart 21 = .ok (.isub, 1) := by decide +kernel
theorem dX12_apart_22 : decode cX12_apart 22 = .ok (.invokestatic 197, 3) := by decide +kernel
theorem dX12_apart_25 : decode cX12_apart 25 = .ok (.istore_n 3, 1) := by decide +kernel
theorem dX12_apart_26 : decode cX12_apart 26 = .ok (.iload_n 2, 1) := by decide +kernel
theorem dX12_apart_27 : decode cX12_apart 27 = .ok (.iload_n 3, 1) := by decide +kernel
theorem dX12_apart_28 : decode cX12_apart 28 = .ok (.if_icmp .le 7, 3) := by decide +kernel
theorem dX12_apart_31 : decode cX12_apart 31 = .ok (.iload_n 2, 1) := by decide +kernel
theorem dX12_apart_32 : decode cX12_apart 32 = .ok (.goto 4, 3) := by decide +kernel
theorem dX12_apart_35 : decode cX12_apart 35 = .ok (.iload_n 3, 1) := by decide +kernel
theorem dX12_apart_36 : decode cX12_apart 36 = .ok (.ireturn, 1) := by decide +kernel
theorem dX12_eats_0 : decode cX12_eats 0 = .ok (.aload_n 0, 1) := by decide +kernel
theorem dX12_eats_1 : decode cX12_eats 1 = .ok (.getfield 37, 3) := by decide +kernel
theorem dX12_eats_4 : decode cX12_eats 4 = .ok (.iload_n 1, 1) := by decide +kernel
theorem dX12_eats_5 : decode cX12_eats 5 = .ok (.iaload, 1) := by decide +kernel
theorem dX12_eats_6 : decode cX12_eats 6 = .ok (.istore_n 2, 1) := by decide +kernel
theorem dX12_eats_7 : decode cX12_eats 7 = .ok (.aload_n 0, 1) := by decide +kernel
theorem dX12_eats_8 : decode cX12_eats 8 = .ok (.getfield 28, 3) := by decide +kernel
theorem dX12_eats_11 : decode cX12_eats 11 = .ok (.iload_n 1, 1) := by decide +kernel
theorem dX12_eats_12 : decode cX12_eats 12 = .ok (.iaload, 1) := by decide +kernel
theorem dX12_eats_13 : decode cX12_eats 13 = .ok (.tableswitch 47 1 5 #[35, 47, 37, 41, 45], 35) := by decide +kernel
theorem dX12_eats_48 : decode cX12_eats 48 = .ok (.iload_n 2, 1) := by decide +kernel
theorem dX12_eats_49 : decode cX12_eats 49 = .ok (.ireturn, 1) := by decide +kernel
theorem dX12_eats_50 : decode cX12_eats 50 = .ok (.iload_n 2, 1) := by decide +kernel
theorem dX12_eats_51 : decode cX12_eats 51 = .ok (.iconst 1, 1) := by decide +kernel
theorem dX12_eats_52 : decode cX12_eats 52 = .ok (.iadd, 1) := by decide +kernel
theorem dX12_eats_53 : decode cX12_eats 53 = .ok (.ireturn, 1) := by decide +kernel
theorem dX12_eats_54 : decode cX12_eats 54 = .ok (.iconst 2, 1) := by decide +kernel
theorem dX12_eats_55 : decode cX12_eats 55 = .ok (.iload_n 2, 1) := by decide +kernel
theorem dX12_eats_56 : decode cX12_eats 56 = .ok (.imul, 1) := by decide +kernel
theorem dX12_eats_57 : decode cX12_eats 57 = .ok (.ireturn, 1) := by decide +kernel
theorem dX12_eats_58 : decode cX12_eats 58 = .ok (.iconst 1, 1) := by decide +kernel
theorem dX12_eats_59 : decode cX12_eats 59 = .ok (.ireturn, 1) := by decide +kernel
theorem dX12_eats_60 : decode cX12_eats 60 = .ok (.iconst 0, 1) := by decide +kernel
theorem dX12_eats_61 : decode cX12_eats 61 = .ok (.ireturn, 1) := by decide +kernel
theorem dX12_burns_0 : decode cX12_burns 0 = .ok (.aload_n 0, 1) := by decide +kernel
theorem dX12_burns_1 : decode cX12_burns 1 = .ok (.getfield 28, 3) := by decide +kernel
theorem dX12_burns_4 : decode cX12_burns 4 = .ok (.iload_n 1, 1) := by decide +kernel
theorem dX12_burns_5 : decode cX12_burns 5 = .ok (.iaload, 1) := by decide +kernel
theorem dX12_burns_6 : decode cX12_burns 6 = .ok (.iconst 2, 1) := by decide +kernel
theorem dX12_burns_7 : decode cX12_burns 7 = .ok (.if_icmp .ne 7, 3) := by decide +kernel
theorem dX12_burns_10 : decode cX12_burns 10 = .ok (.iconst 3, 1) := by decide +kernel
theorem dX12_burns_11 : decode cX12_burns 11 = .ok (.goto 19, 3) := by decide +kernel
theorem dX12_burns_14 : decode cX12_burns 14 = .ok (.aload_n 0, 1) := by decide +kernel
theorem dX12_burns_15 : decode cX12_burns 15 = .ok (.getfield 28, 3) := by decide +kernel
theorem dX12_burns_18 : decode cX12_burns 18 = .ok (.iload_n 1, 1) := by decide +kernel
theorem dX12_burns_19 : decode cX12_burns 19 = .ok (.iaload, 1) := by decide +kernel
theorem dX12_burns_20 : decode cX12_burns 20 = .ok (.iconst 5, 1) := by decide +kernel
theorem dX12_burns_21 : decode cX12_burns 21 = .ok (.if_icmp .ne 8, 3) := by decide +kernel
theorem dX12_burns_24 : decode cX12_burns 24 = .ok (.bipush 6, 2) := by decide +kernel
theorem dX12_burns_26 : decode cX12_burns 26 = .ok (.goto 4, 3) := by decide +kernel
theorem dX12_burns_29 : decode cX12_burns 29 = .ok (.iconst 1, 1) := by decide +kernel
theorem dX12_burns_30 : decode cX12_burns 30 = .ok (.ireturn, 1) := by decide +kernel
set_option maxRecDepth 20000 in
theorem ggX12_pass_X12_within : GoodIn wsX12_pass wsX12_within := goodIn_r _ [7] (by decide +kernel) (by decide +kernel)
set_option maxRecDepth 20000 in
theorem gX12_pass_X12_within : GoodIn wsX12_pass (va_wsS RX12 186 yX12_within wsX12_within) := goodIn_app (goodIn_of _ (by decide +kernel)) ggX12_pass_X12_within
set_option maxRecDepth 20000 in
theorem ggX12_pass_X12_eats : GoodIn wsX12_pass wsX12_eats := goodIn_r _ [11, 12, 13, 14, 15, 16, 17, 18, 19, 20, 21, 22, 23, 24, 25, 26, 27, 28, 29, 30, 31, 32, 33, 34, 35, 36, 37, 38, 39, 40, 41, 42, 43, 44, 45, 46, 47, 48, 49, 50, 51, 52, 53, 54, 55, 56, 57, 58, 59, 60, 61, 62, 63, 64, 65, 66, 67, 68, 69, 70, 71, 72, 73, 74, 75, 76, 77, 78, 79, 80, 81, 82, 83, 84, 85, 86, 87, 88, 89, 90, 91, 92] (by decide +kernel) (by decide +kernel)
set_option maxRecDepth 20000 in
theorem gX12_pass_X12_eats : GoodIn wsX12_pass (wsV RX12 204 RX12 yX12_eats wsX12_eats) := goodIn_app (goodIn_of _ (by decide +kernel)) ggX12_pass_X12_eats
theorem dX12_pass_0 : decode cX12_pass 0 = .ok (.iload_n 1, 1) := by decide +kernel
theorem dX12_pass_1 : decode cX12_pass 1 = .ok (.iconst 1, 1) := by decide +kernel
theorem dX12_pass_2 : decode cX12_pass 2 = .ok (.bipush 48, 2) := by decide +kernel
theorem dX12_pass_4 : decode cX12_pass 4 = .ok (.invokestatic 186, 3) := by decide +kernel
theorem dX12_pass_7 : decode cX12_pass 7 = .ok (.ifCond .ne 6, 3) := by decide +kernel
theorem dX12_pass_10 : decode cX12_pass 10 = .ok (.bipush (-2), 2) := by decide +kernel
theorem dX12_pass_12 : decode cX12_pass 12 = .ok (.ireturn, 1) := by decide +kernel
theorem dX12_pass_13 : decode cX12_pass 13 = .ok (.aload_n 0, 1) := by decide +kernel
theorem dX12_pass_14 : decode cX12_pass 14 = .ok (.getfield 201, 3) := by decide +kernel
theorem dX12_pass_17 : decode cX12_pass 17 = .ok (.iload_n 1, 1) := by decide +kernel
theorem dX12_pass_18 : decode cX12_pass 18 = .ok (.iadd, 1) := by decide +kernel
theorem dX12_pass_19 : decode cX12_pass 19 = .ok (.sipush 239, 3) := by decide +kernel
theorem dX12_pass_22 : decode cX12_pass 22 = .ok (.if_icmp .le 6, 3) := by decide +kernel
theorem dX12_pass_25 : decode cX12_pass 25 = .ok (.bipush (-4), 2) := by decide +kernel
theorem dX12_pass_27 : decode cX12_pass 27 = .ok (.ireturn, 1) := by decide +kernel
theorem dX12_pass_28 : decode cX12_pass 28 = .ok (.aload_n 0, 1) := by decide +kernel
theorem dX12_pass_29 : decode cX12_pass 29 = .ok (.dup, 1) := by decide +kernel
theorem dX12_pass_30 : decode cX12_pass 30 = .ok (.getfield 201, 3) := by decide +kernel
theorem dX12_pass_33 : decode cX12_pass 33 = .ok (.iload_n 1, 1) := by decide +kernel
theorem dX12_pass_34 : decode cX12_pass 34 = .ok (.iadd, 1) := by decide +kernel
theorem dX12_pass_35 : decode cX12_pass 35 = .ok (.putfield 201, 3) := by decide +kernel
theorem dX12_pass_38 : decode cX12_pass 38 = .ok (.iconst 0, 1) := by decide +kernel
theorem dX12_pass_39 : decode cX12_pass 39 = .ok (.istore_n 2, 1) := by decide +kernel
theorem dX12_pass_40 : decode cX12_pass 40 = .ok (.iload_n 2, 1) := by decide +kernel
theorem dX12_pass_41 : decode cX12_pass 41 = .ok (.aload_n 0, 1) := by decide +kernel
theorem dX12_pass_42 : decode cX12_pass 42 = .ok (.getfield 190, 3) := by decide +kernel
theorem dX12_pass_45 : decode cX12_pass 45 = .ok (.if_icmp .ge 39, 3) := by decide +kernel
theorem dX12_pass_48 : decode cX12_pass 48 = .ok (.aload_n 0, 1) := by decide +kernel
theorem dX12_pass_49 : decode cX12_pass 49 = .ok (.getfield 40, 3) := by decide +kernel
theorem dX12_pass_52 : decode cX12_pass 52 = .ok (.iload_n 2, 1) := by decide +kernel
theorem dX12_pass_53 : decode cX12_pass 53 = .ok (.iaload, 1) := by decide +kernel
theorem dX12_pass_54 : decode cX12_pass 54 = .ok (.iload_n 1, 1) := by decide +kernel
theorem dX12_pass_55 : decode cX12_pass 55 = .ok (.aload_n 0, 1) := by decide +kernel
theorem dX12_pass_56 : decode cX12_pass 56 = .ok (.iload_n 2, 1) := by decide +kernel
theorem dX12_pass_57 : decode cX12_pass 57 = .ok (.invokevirtual 204, 3) := by decide +kernel
theorem dX12_pass_60 : decode cX12_pass 60 = .ok (.imul, 1) := by decide +kernel
theorem dX12_pass_61 : decode cX12_pass 61 = .ok (.isub, 1) := by decide +kernel
theorem dX12_pass_62 : decode cX12_pass 62 = .ok (.istore_n 3, 1) := by decide +kernel
theorem dX12_pass_63 : decode cX12_pass 63 = .ok (.aload_n 0, 1) := by decide +kernel
theorem dX12_pass_64 : decode cX12_pass 64 = .ok (.getfield 40, 3) := by decide +kernel
theorem dX12_pass_67 : decode cX12_pass 67 = .ok (.iload_n 2, 1) := by decide +kernel
theorem dX12_pass_68 : decode cX12_pass 68 = .ok (.iload_n 3, 1) := by decide +kernel
theorem dX12_pass_69 : decode cX12_pass 69 = .ok (.ifCond .ge 7, 3) := by decide +kernel
theorem dX12_pass_72 : decode cX12_pass 72 = .ok (.iconst 0, 1) := by decide +kernel
theorem dX12_pass_73 : decode cX12_pass 73 = .ok (.goto 4, 3) := by decide +kernel
theorem dX12_pass_76 : decode cX12_pass 76 = .ok (.iload_n 3, 1) := by decide +kernel
theorem dX12_pass_77 : decode cX12_pass 77 = .ok (.iastore, 1) := by decide +kernel
theorem dX12_pass_78 : decode cX12_pass 78 = .ok (.iinc 2 1, 3) := by decide +kernel
theorem dX12_pass_81 : decode cX12_pass 81 = .ok (.goto (-41), 3) := by decide +kernel
theorem dX12_pass_84 : decode cX12_pass 84 = .ok (.aload_n 0, 1) := by decide +kernel
theorem dX12_pass_85 : decode cX12_pass 85 = .ok (.getfield 201, 3) := by decide +kernel
theorem dX12_pass_88 : decode cX12_pass 88 = .ok (.ireturn, 1) := by decide +kernel
set_option maxRecDepth 20000 in
theorem ggX12_areHours_X12_within : GoodIn wsX12_areHours wsX12_within := goodIn_r _ [4] (by decide +kernel) (by decide +kernel)
set_option maxRecDepth 20000 in
theorem gX12_areHours_X12_within : GoodIn wsX12_areHours (va_wsS RX12 186 yX12_within wsX12_within) := goodIn_app (goodIn_of _ (by decide +kernel)) ggX12_areHours_X12_within
theorem dX12_areHours_0 : decode cX12_areHours 0 = .ok (.iload_n 0, 1) := by decide +kernel
theorem dX12_areHours_1 : decode cX12_areHours 1 = .ok (.iconst 0, 1) := by decide +kernel
theorem dX12_areHours_2 : decode cX12_areHours 2 = .ok (.sipush 240, 3) := by decide +kernel
theorem dX12_areHours_5 : decode cX12_areHours 5 = .ok (.invokestatic 186, 3) := by decide +kernel
theorem dX12_areHours_8 : decode cX12_areHours 8 = .ok (.ifCond .eq 20, 3) := by decide +kernel
theorem dX12_areHours_11 : decode cX12_areHours 11 = .ok (.iload_n 1, 1) := by decide +kernel
theorem dX12_areHours_12 : decode cX12_areHours 12 = .ok (.iload_n 0, 1) := by decide +kernel
theorem dX12_areHours_13 : decode cX12_areHours 13 = .ok (.iconst 1, 1) := by decide +kernel
theorem dX12_areHours_14 : decode cX12_areHours 14 = .ok (.iadd, 1) := by decide +kernel
theorem dX12_areHours_15 : decode cX12_areHours 15 = .ok (.sipush 240, 3) := by decide +kernel
theorem dX12_areHours_18 : decode cX12_areHours 18 = .ok (.invokestatic 186, 3) := by decide +kernel
theorem dX12_areHours_21 : decode cX12_areHours 21 = .ok (.ifCond .eq 7, 3) := by decide +kernel
theorem dX12_areHours_24 : decode cX12_areHours 24 = .ok (.iconst 1, 1) := by decide +kernel
theorem dX12_areHours_25 : decode cX12_areHours 25 = .ok (.goto 4, 3) := by decide +kernel
theorem dX12_areHours_28 : decode cX12_areHours 28 = .ok (.iconst 0, 1) := by decide +kernel
theorem dX12_areHours_29 : decode cX12_areHours 29 = .ok (.ireturn, 1) := by decide +kernel
set_option maxRecDepth 20000 in
theorem ggX12_wind_X12_areHours : GoodIn wsX12_wind wsX12_areHours := goodIn_r _ [8, 9, 10, 7, 11] (by decide +kernel) (by decide +kernel)
set_option maxRecDepth 20000 in
theorem gX12_wind_X12_areHours : GoodIn wsX12_wind (va_wsS RX12 207 yX12_areHours wsX12_areHours) := goodIn_app (goodIn_of _ (by decide +kernel)) ggX12_wind_X12_areHours
set_option maxRecDepth 20000 in
theorem ggX12_wind_X12_within : GoodIn wsX12_wind wsX12_within := goodIn_r _ [11] (by decide +kernel) (by decide +kernel)
set_option maxRecDepth 20000 in
theorem gX12_wind_X12_within : GoodIn wsX12_wind (va_wsS RX12 186 yX12_within wsX12_within) := goodIn_app (goodIn_of _ (by decide +kernel)) ggX12_wind_X12_within
theorem dX12_wind_0 : decode cX12_wind 0 = .ok (.iload_n 1, 1) := by decide +kernel
theorem dX12_wind_1 : decode cX12_wind 1 = .ok (.iload_n 2, 1) := by decide +kernel
theorem dX12_wind_2 : decode cX12_wind 2 = .ok (.invokestatic 207, 3) := by decide +kernel
theorem dX12_wind_5 : decode cX12_wind 5 = .ok (.ifCond .eq 48, 3) := by decide +kernel
theorem dX12_wind_8 : decode cX12_wind 8 = .ok (.iload_n 3, 1) := by decide +kernel
theorem dX12_wind_9 : decode cX12_wind 9 = .ok (.iconst 0, 1) := by decide +kernel
theorem dX12_wind_10 : decode cX12_wind 10 = .ok (.sipush 4444, 3) := by decide +kernel
theorem dX12_wind_13 : decode cX12_wind 13 = .ok (.invokestatic 186, 3) := by decide +kernel
theorem dX12_wind_16 : decode cX12_wind 16 = .ok (.ifCond .eq 37, 3) := by decide +kernel
theorem dX12_wind_19 : decode cX12_wind 19 = .ok (.iload_n 3, 1) := by decide +kernel
theorem dX12_wind_20 : decode cX12_wind 20 = .ok (.bipush 100, 2) := by decide +kernel
theorem dX12_wind_22 : decode cX12_wind 22 = .ok (.idiv, 1) := by decide +kernel
theorem dX12_wind_23 : decode cX12_wind 23 = .ok (.bipush 10, 2) := by decide +kernel
theorem dX12_wind_25 : decode cX12_wind 25 = .ok (.irem, 1) := by decide +kernel
theorem dX12_wind_26 : decode cX12_wind 26 = .ok (.iconst 4, 1) := by decide +kernel
theorem dX12_wind_27 : decode cX12_wind 27 = .ok (.if_icmp .gt 26, 3) := by decide +kernel
theorem dX12_wind_30 : decode cX12_wind 30 = .ok (.iload_n 3, 1) := by decide +kernel
theorem dX12_wind_31 : decode cX12_wind 31 = .ok (.bipush 10, 2) := by decide +kernel
theorem dX12_wind_33 : decode cX12_wind 33 = .ok (.idiv, 1) := by decide +kernel
theorem dX12_wind_34 : decode cX12_wind 34 = .ok (.bipush 10, 2) := by decide +kernel
theorem dX12_wind_36 : decode cX12_wind 36 = .ok (.irem, 1) := by decide +kernel
theorem dX12_wind_37 : decode cX12_wind 37 = .ok (.iconst 4, 1) := by decide +kernel
theorem dX12_wind_38 : decode cX12_wind 38 = .ok (.if_icmp .gt 15, 3) := by decide +kernel
theorem dX12_wind_41 : decode cX12_wind 41 = .ok (.iload_n 3, 1) := by decide +kernel
theorem dX12_wind_42 : decode cX12_wind 42 = .ok (.bipush 10, 2) := by decide +kernel
theorem dX12_wind_44 : decode cX12_wind 44 = .ok (.irem, 1) := by decide +kernel
theorem dX12_wind_45 : decode cX12_wind 45 = .ok (.iconst 4, 1) := by decide +kernel
theorem dX12_wind_46 : decode cX12_wind 46 = .ok (.if_icmp .gt 7, 3) := by decide +kernel
theorem dX12_wind_49 : decode cX12_wind 49 = .ok (.iconst 1, 1) := by decide +kernel
theorem dX12_wind_50 : decode cX12_wind 50 = .ok (.goto 4, 3) := by decide +kernel
theorem dX12_wind_53 : decode cX12_wind 53 = .ok (.iconst 0, 1) := by decide +kernel
theorem dX12_wind_54 : decode cX12_wind 54 = .ok (.istore 4, 2) := by decide +kernel
theorem dX12_wind_56 : decode cX12_wind 56 = .ok (.iload 4, 2) := by decide +kernel
theorem dX12_wind_58 : decode cX12_wind 58 = .ok (.ifCond .eq 32, 3) := by decide +kernel
theorem dX12_wind_61 : decode cX12_wind 61 = .ok (.iload_n 3, 1) := by decide +kernel
theorem dX12_wind_62 : decode cX12_wind 62 = .ok (.sipush 1000, 3) := by decide +kernel
theorem dX12_wind_65 : decode cX12_wind 65 = .ok (.idiv, 1) := by decide +kernel
theorem dX12_wind_66 : decode cX12_wind 66 = .ok (.iload_n 3, 1) := by decide +kernel
theorem dX12_wind_67 : decode cX12_wind 67 = .ok (.bipush 100, 2) := by decide +kernel
theorem dX12_wind_69 : decode cX12_wind 69 = .ok (.idiv, 1) := by decide +kernel
theorem dX12_wind_70 : decode cX12_wind 70 = .ok (.bipush 10, 2) := by decide +kernel
theorem dX12_wind_72 : decode cX12_wind 72 = .ok (.irem, 1) := by decide +kernel
theorem dX12_wind_73 : decode cX12_wind 73 = .ok (.if_icmp .gt 17, 3) := by decide +kernel
theorem dX12_wind_76 : decode cX12_wind 76 = .ok (.iload_n 3, 1) := by decide +kernel
theorem dX12_wind_77 : decode cX12_wind 77 = .ok (.bipush 10, 2) := by decide +kernel
theorem dX12_wind_79 : decode cX12_wind 79 = .ok (.idiv, 1) := by decide +kernel
theorem dX12_wind_80 : decode cX12_wind 80 = .ok (.bipush 10, 2) := by decide +kernel
theorem dX12_wind_82 : decode cX12_wind 82 = .ok (.irem, 1) := by decide +kernel
theorem dX12_wind_83 : decode cX12_wind 83 = .ok (.iload_n 3, 1) := by decide +kernel
theorem dX12_wind_84 : decode cX12_wind 84 = .ok (.bipush 10, 2) := by decide +kernel
theorem dX12_wind_86 : decode cX12_wind 86 = .ok (.irem, 1) := by decide +kernel
theorem dX12_wind_87 : decode cX12_wind 87 = .ok (.if_icmp .le 6, 3) := by decide +kernel
theorem dX12_wind_90 : decode cX12_wind 90 = .ok (.bipush (-2), 2) := by decide +kernel
theorem dX12_wind_92 : decode cX12_wind 92 = .ok (.ireturn, 1) := by decide +kernel
theorem dX12_wind_93 : decode cX12_wind 93 = .ok (.aload_n 0, 1) := by decide +kernel
theorem dX12_wind_94 : decode cX12_wind 94 = .ok (.getfield 211, 3) := by decide +kernel
theorem dX12_wind_97 : decode cX12_wind 97 = .ok (.bipush 30, 2) := by decide +kernel
theorem dX12_wind_99 : decode cX12_wind 99 = .ok (.if_icmp .ne 6, 3) := by decide +kernel
theorem dX12_wind_102 : decode cX12_wind 102 = .ok (.bipush (-4), 2) := by decide +kernel
theorem dX12_wind_104 : decode cX12_wind 104 = .ok (.ireturn, 1) := by decide +kernel
theorem dX12_wind_105 : decode cX12_wind 105 = .ok (.aload_n 0, 1) := by decide +kernel
theorem dX12_wind_106 : decode cX12_wind 106 = .ok (.getfield 9, 3) := by decide +kernel
theorem dX12_wind_109 : decode cX12_wind 109 = .ok (.aload_n 0, 1) := by decide +kernel
theorem dX12_wind_110 : decode cX12_wind 110 = .ok (.getfield 211, 3) := by decide +kernel
theorem dX12_wind_113 : decode cX12_wind 113 = .ok (.iload_n 1, 1) := by decide +kernel
theorem dX12_wind_114 : decode cX12_wind 114 = .ok (.iastore, 1) := by decide +kernel
theorem dX12_wind_115 : decode cX12_wind 115 = .ok (.aload_n 0, 1) := by decide +kernel
theorem dX12_wind_116 : decode cX12_wind 116 = .ok (.getfield 13, 3) := by decide +kernel
theorem dX12_wind_119 : decode cX12_wind 119 = .ok (.aload_n 0, 1) := by decide +kernel
theorem dX12_wind_120 : decode cX12_wind 120 = .ok (.getfield 211, 3) := by decide +kernel
theorem dX12_wind_123 : decode cX12_wind 123 = .ok (.iload_n 2, 1) := by decide +kernel
theorem dX12_wind_124 : decode cX12_wind 124 = .ok (.iastore, 1) := by decide +kernel
theorem dX12_wind_125 : decode cX12_wind 125 = .ok (.aload_n 0, 1) := by decide +kernel
theorem dX12_wind_126 : decode cX12_wind 126 = .ok (.getfield 16, 3) := by decide +kernel
theorem dX12_wind_129 : decode cX12_wind 129 = .ok (.aload_n 0, 1) := by decide +kernel
theorem dX12_wind_130 : decode cX12_wind 130 = .ok (.getfield 211, 3) := by decide +kernel
theorem dX12_wind_133 : decode cX12_wind 133 = .ok (.iload_n 3, 1) := by decide +kernel
theorem dX12_wind_134 : decode cX12_wind 134 = .ok (.iastore, 1) := by decide +kernel
theorem dX12_wind_135 : decode cX12_wind 135 = .ok (.aload_n 0, 1) := by decide +kernel
theorem dX12_wind_136 : decode cX12_wind 136 = .ok (.dup, 1) := by decide +kernel
theorem dX12_wind_137 : decode cX12_wind 137 = .ok (.getfield 211, 3) := by decide +kernel
theorem dX12_wind_140 : decode cX12_wind 140 = .ok (.iconst 1, 1) := by decide +kernel
theorem dX12_wind_141 : decode cX12_wind 141 = .ok (.iadd, 1) := by decide +kernel
theorem dX12_wind_142 : decode cX12_wind 142 = .ok (.putfield 211, 3) := by decide +kernel
theorem dX12_wind_145 : decode cX12_wind 145 = .ok (.aload_n 0, 1) := by decide +kernel
theorem dX12_wind_146 : decode cX12_wind 146 = .ok (.getfield 211, 3) := by decide +kernel
theorem dX12_wind_149 : decode cX12_wind 149 = .ok (.ireturn, 1) := by decide +kernel
set_option maxRecDepth 20000 in
theorem ggX12_fog_X12_areHours : GoodIn wsX12_fog wsX12_areHours := goodIn_r _ [8, 9, 10, 7, 11] (by decide +kernel) (by decide +kernel)
set_option maxRecDepth 20000 in
theorem gX12_fog_X12_areHours : GoodIn wsX12_fog (va_wsS RX12 207 yX12_areHours wsX12_areHours) := goodIn_app (goodIn_of _ (by decide +kernel)) ggX12_fog_X12_areHours
set_option maxRecDepth 20000 in
theorem ggX12_fog_X12_within : GoodIn wsX12_fog wsX12_within := goodIn_r _ [11] (by decide +kernel) (by decide +kernel)
set_option maxRecDepth 20000 in
theorem gX12_fog_X12_within : GoodIn wsX12_fog (va_wsS RX12 186 yX12_within wsX12_within) := goodIn_app (goodIn_of _ (by decide +kernel)) ggX12_fog_X12_within
theorem dX12_fog_0 : decode cX12_fog 0 = .ok (.iload_n 1, 1) := by decide +kernel
theorem dX12_fog_1 : decode cX12_fog 1 = .ok (.iload_n 2, 1) := by decide +kernel
theorem dX12_fog_2 : decode cX12_fog 2 = .ok (.invokestatic 207, 3) := by decide +kernel
theorem dX12_fog_5 : decode cX12_fog 5 = .ok (.ifCond .eq 13, 3) := by decide +kernel
theorem dX12_fog_8 : decode cX12_fog 8 = .ok (.iload_n 3, 1) := by decide +kernel
theorem dX12_fog_9 : decode cX12_fog 9 = .ok (.iconst 0, 1) := by decide +kernel
theorem dX12_fog_10 : decode cX12_fog 10 = .ok (.bipush 16, 2) := by decide +kernel
theorem dX12_fog_12 : decode cX12_fog 12 = .ok (.invokestatic 186, 3) := by decide +kernel
theorem dX12_fog_15 : decode cX12_fog 15 = .ok (.ifCond .ne 6, 3) := by decide +kernel
theorem dX12_fog_18 : decode cX12_fog 18 = .ok (.bipush (-2), 2) := by decide +kernel
theorem dX12_fog_20 : decode cX12_fog 20 = .ok (.ireturn, 1) := by decide +kernel
theorem dX12_fog_21 : decode cX12_fog 21 = .ok (.aload_n 0, 1) := by decide +kernel
theorem dX12_fog_22 : decode cX12_fog 22 = .ok (.getfield 214, 3) := by decide +kernel
theorem dX12_fog_25 : decode cX12_fog 25 = .ok (.bipush 30, 2) := by decide +kernel
theorem dX12_fog_27 : decode cX12_fog 27 = .ok (.if_icmp .ne 6, 3) := by decide +kernel
theorem dX12_fog_30 : decode cX12_fog 30 = .ok (.bipush (-4), 2) := by decide +kernel
theorem dX12_fog_32 : decode cX12_fog 32 = .ok (.ireturn, 1) := by decide +kernel
theorem dX12_fog_33 : decode cX12_fog 33 = .ok (.aload_n 0, 1) := by decide +kernel
theorem dX12_fog_34 : decode cX12_fog 34 = .ok (.getfield 19, 3) := by decide +kernel
theorem dX12_fog_37 : decode cX12_fog 37 = .ok (.aload_n 0, 1) := by decide +kernel
theorem dX12_fog_38 : decode cX12_fog 38 = .ok (.getfield 214, 3) := by decide +kernel
theorem dX12_fog_41 : decode cX12_fog 41 = .ok (.iload_n 1, 1) := by decide +kernel
theorem dX12_fog_42 : decode cX12_fog 42 = .ok (.iastore, 1) := by decide +kernel
theorem dX12_fog_43 : decode cX12_fog 43 = .ok (.aload_n 0, 1) := by decide +kernel
theorem dX12_fog_44 : decode cX12_fog 44 = .ok (.getfield 22, 3) := by decide +kernel
theorem dX12_fog_47 : decode cX12_fog 47 = .ok (.aload_n 0, 1) := by decide +kernel
theorem dX12_fog_48 : decode cX12_fog 48 = .ok (.getfield 214, 3) := by decide +kernel
theorem dX12_fog_51 : decode cX12_fog 51 = .ok (.iload_n 2, 1) := by decide +kernel
theorem dX12_fog_52 : decode cX12_fog 52 = .ok (.iastore, 1) := by decide +kernel
theorem dX12_fog_53 : decode cX12_fog 53 = .ok (.aload_n 0, 1) := by decide +kernel
theorem dX12_fog_54 : decode cX12_fog 54 = .ok (.getfield 25, 3) := by decide +kernel
theorem dX12_fog_57 : decode cX12_fog 57 = .ok (.aload_n 0, 1) := by decide +kernel
theorem dX12_fog_58 : decode cX12_fog 58 = .ok (.getfield 214, 3) := by decide +kernel
theorem dX12_fog_61 : decode cX12_fog 61 = .ok (.iload_n 3, 1) := by decide +kernel
theorem dX12_fog_62 : decode cX12_fog 62 = .ok (.iastore, 1) := by decide +kernel
theorem dX12_fog_63 : decode cX12_fog 63 = .ok (.aload_n 0, 1) := by decide +kernel
theorem dX12_fog_64 : decode cX12_fog 64 = .ok (.dup, 1) := by decide +kernel
theorem dX12_fog_65 : decode cX12_fog 65 = .ok (.getfield 214, 3) := by decide +kernel
theorem dX12_fog_68 : decode cX12_fog 68 = .ok (.iconst 1, 1) := by decide +kernel
theorem dX12_fog_69 : decode cX12_fog 69 = .ok (.iadd, 1) := by decide +kernel
theorem dX12_fog_70 : decode cX12_fog 70 = .ok (.putfield 214, 3) := by decide +kernel
theorem dX12_fog_73 : decode cX12_fog 73 = .ok (.aload_n 0, 1) := by decide +kernel
theorem dX12_fog_74 : decode cX12_fog 74 = .ok (.getfield 214, 3) := by decide +kernel
theorem dX12_fog_77 : decode cX12_fog 77 = .ok (.ireturn, 1) := by decide +kernel
theorem dX12_fogIn_0 : decode cX12_fogIn 0 = .ok (.iconst 0, 1) := by decide +kernel
theorem dX12_fogIn_1 : decode cX12_fogIn 1 = .ok (.istore_n 2, 1) := by decide +kernel
theorem dX12_fogIn_2 : decode cX12_fogIn 2 = .ok (.iconst 0, 1) := by decide +kernel
theorem dX12_fogIn_3 : decode cX12_fogIn 3 = .ok (.istore_n 3, 1) := by decide +kernel
theorem dX12_fogIn_4 : decode cX12_fogIn 4 = .ok (.iload_n 3, 1) := by decide +kernel
theorem dX12_fogIn_5 : decode cX12_fogIn 5 = .ok (.aload_n 0, 1) := by decide +kernel
theorem dX12_fogIn_6 : decode cX12_fogIn 6 = .ok (.getfield 214, 3) := by decide +kernel
theorem dX12_fogIn_9 : decode cX12_fogIn 9 = .ok (.if_icmp .ge 40, 3) := by decide +kernel
theorem dX12_fogIn_12 : decode cX12_fogIn 12 = .ok (.iload_n 1, 1) := by decide +kernel
theorem dX12_fogIn_13 : decode cX12_fogIn 13 = .ok (.aload_n 0, 1) := by decide +kernel
theorem dX12_fogIn_14 : decode cX12_fogIn 14 = .ok (.getfield 19, 3) := by decide +kernel
theorem dX12_fogIn_17 : decode cX12_fogIn 17 = .ok (.iload_n 3, 1) := by decide +kernel
theorem dX12_fogIn_18 : decode cX12_fogIn 18 = .ok (.iaload, 1) := by decide +kernel
theorem dX12_fogIn_19 : decode cX12_fogIn 19 = .ok (.if_icmp .lt 22, 3) := by decide +kernel
theorem dX12_fogIn_22 : decode cX12_fogIn 22 = .ok (.iload_n 1, 1) := by decide +kernel
theorem dX12_fogIn_23 : decode cX12_fogIn 23 = .ok (.aload_n 0, 1) := by decide +kernel
theorem dX12_fogIn_24 : decode cX12_fogIn 24 = .ok (.getfield 22, 3) := by decide +kernel
theorem dX12_fogIn_27 : decode cX12_fogIn 27 = .ok (.iload_n 3, 1) := by decide +kernel
theorem dX12_fogIn_28 : decode cX12_fogIn 28 = .ok (.iaload, 1) := by decide +kernel
theorem dX12_fogIn_29 : decode cX12_fogIn 29 = .ok (.if_icmp .ge 12, 3) := by decide +kernel
theorem dX12_fogIn_32 : decode cX12_fogIn 32 = .ok (.aload_n 0, 1) := by decide +kernel
theorem dX12_fogIn_33 : decode cX12_fogIn 33 = .ok (.getfield 25, 3) := by decide +kernel
theorem dX12_fogIn_36 : decode cX12_fogIn 36 = .ok (.iload_n 3, 1) := by decide +kernel
theorem dX12_fogIn_37 : decode cX12_fogIn 37 = .ok (.iaload, 1) := by decide +kernel
theorem dX12_fogIn_38 : decode cX12_fogIn 38 = .ok (.goto 4, 3) := by decide +kernel
theorem dX12_fogIn_41 : decode cX12_fogIn 41 = .ok (.iload_n 2, 1) := by decide +kernel
theorem dX12_fogIn_42 : decode cX12_fogIn 42 = .ok (.istore_n 2, 1) := by decide +kernel
theorem dX12_fogIn_43 : decode cX12_fogIn 43 = .ok (.iinc 3 1, 3) := by decide +kernel
theorem dX12_fogIn_46 : decode cX12_fogIn 46 = .ok (.goto (-42), 3) := by decide +kernel
theorem dX12_fogIn_49 : decode cX12_fogIn 49 = .ok (.iload_n 2, 1) := by decide +kernel
theorem dX12_fogIn_50 : decode cX12_fogIn 50 = .ok (.ireturn, 1) := by decide +kernel
set_option maxRecDepth 20000 in
theorem ggX12_body_X12_within : GoodIn wsX12_body wsX12_within := goodIn_r _ [12] (by decide +kernel) (by decide +kernel)
set_option maxRecDepth 20000 in
theorem gX12_body_X12_within : GoodIn wsX12_body (va_wsS RX12 186 yX12_within wsX12_within) := goodIn_app (goodIn_of _ (by decide +kernel)) ggX12_body_X12_within
set_option maxRecDepth 20000 in
theorem ggX12_body_X12_isCell : GoodIn wsX12_body wsX12_isCell := goodIn_r _ [15, 9, 10, 11, 12] (by decide +kernel) (by decide +kernel)
set_option maxRecDepth 20000 in
theorem gX12_body_X12_isCell : GoodIn wsX12_body (va_wsS RX12 217 yX12_isCell wsX12_isCell) := goodIn_app (goodIn_of _ (by decide +kernel)) ggX12_body_X12_isCell
theorem dX12_body_0 : decode cX12_body 0 = .ok (.iload_n 1, 1) := by decide +kernel
theorem dX12_body_1 : decode cX12_body 1 = .ok (.iconst 0, 1) := by decide +kernel
theorem dX12_body_2 : decode cX12_body 2 = .ok (.iconst 5, 1) := by decide +kernel
theorem dX12_body_3 : decode cX12_body 3 = .ok (.invokestatic 186, 3) := by decide +kernel
theorem dX12_body_6 : decode cX12_body 6 = .ok (.ifCond .eq 44, 3) := by decide +kernel
theorem dX12_body_9 : decode cX12_body 9 = .ok (.iload_n 2, 1) := by decide +kernel
theorem dX12_body_10 : decode cX12_body 10 = .ok (.invokestatic 217, 3) := by decide +kernel
theorem dX12_body_13 : decode cX12_body 13 = .ok (.ifCond .eq 37, 3) := by decide +kernel
theorem dX12_body_16 : decode cX12_body 16 = .ok (.iload_n 3, 1) := by decide +kernel
theorem dX12_body_17 : decode cX12_body 17 = .ok (.iconst 0, 1) := by decide +kernel
theorem dX12_body_18 : decode cX12_body 18 = .ok (.bipush 20, 2) := by decide +kernel
theorem dX12_body_20 : decode cX12_body 20 = .ok (.invokestatic 186, 3) := by decide +kernel
theorem dX12_body_23 : decode cX12_body 23 = .ok (.ifCond .eq 27, 3) := by decide +kernel
theorem dX12_body_26 : decode cX12_body 26 = .ok (.iload 4, 2) := by decide +kernel
theorem dX12_body_28 : decode cX12_body 28 = .ok (.iconst 0, 1) := by decide +kernel
theorem dX12_body_29 : decode cX12_body 29 = .ok (.sipush 9999, 3) := by decide +kernel
theorem dX12_body_32 : decode cX12_body 32 = .ok (.invokestatic 186, 3) := by decide +kernel
theorem dX12_body_35 : decode cX12_body 35 = .ok (.ifCond .eq 15, 3) := by decide +kernel
theorem dX12_body_38 : decode cX12_body 38 = .ok (.iload 5, 2) := by decide +kernel
theorem dX12_body_40 : decode cX12_body 40 = .ok (.iconst 0, 1) := by decide +kernel
theorem dX12_body_41 : decode cX12_body 41 = .ok (.sipush 999, 3) := by decide +kernel
theorem dX12_body_44 : decode cX12_body 44 = .ok (.invokestatic 186, 3) := by decide +kernel
theorem dX12_body_47 : decode cX12_body 47 = .ok (.ifCond .ne 6, 3) := by decide +kernel
theorem dX12_body_50 : decode cX12_body 50 = .ok (.bipush (-2), 2) := by decide +kernel
theorem dX12_body_52 : decode cX12_body 52 = .ok (.ireturn, 1) := by decide +kernel
theorem dX12_body_53 : decode cX12_body 53 = .ok (.aload_n 0, 1) := by decide +kernel
theorem dX12_body_54 : decode cX12_body 54 = .ok (.getfield 190, 3) := by decide +kernel
theorem dX12_body_57 : decode cX12_body 57 = .ok (.bipush 12, 2) := by decide +kernel
theorem dX12_body_59 : decode cX12_body 59 = .ok (.if_icmp .ne 6, 3) := by decide +kernel
theorem dX12_body_62 : decode cX12_body 62 = .ok (.bipush (-4), 2) := by decide +kernel
theorem dX12_body_64 : decode cX12_body 64 = .ok (.ireturn, 1) := by decide +kernel
theorem dX12_body_65 : decode cX12_body 65 = .ok (.aload_n 0, 1) := by decide +kernel
theorem dX12_body_66 : decode cX12_body 66 = .ok (.getfield 28, 3) := by decide +kernel
theorem dX12_body_69 : decode cX12_body 69 = .ok (.aload_n 0, 1) := by decide +kernel
theorem dX12_body_70 : decode cX12_body 70 = .ok (.getfield 190, 3) := by decide +kernel
theorem dX12_body_73 : decode cX12_body 73 = .ok (.iload_n 1, 1) := by decide +kernel
theorem dX12_body_74 : decode cX12_body 74 = .ok (.iastore, 1) := by decide +kernel
theorem dX12_body_75 : decode cX12_body 75 = .ok (.aload_n 0, 1) := by decide +kernel
theorem dX12_body_76 : decode cX12_body 76 = .ok (.getfield 34, 3) := by decide +kernel
theorem dX12_body_79 : decode cX12_body 79 = .ok (.aload_n 0, 1) := by decide +kernel
theorem dX12_body_80 : decode cX12_body 80 = .ok (.getfield 190, 3) := by decide +kernel
theorem dX12_body_83 : decode cX12_body 83 = .ok (.iload_n 2, 1) := by decide +kernel
theorem dX12_body_84 : decode cX12_body 84 = .ok (.iastore, 1) := by decide +kernel
theorem dX12_body_85 : decode cX12_body 85 = .ok (.aload_n 0, 1) := by decide +kernel
theorem dX12_body_86 : decode cX12_body 86 = .ok (.getfield 31, 3) := by decide +kernel
theorem dX12_body_89 : decode cX12_body 89 = .ok (.aload_n 0, 1) := by decide +kernel
theorem dX12_body_90 : decode cX12_body 90 = .ok (.getfield 190, 3) := by decide +kernel
theorem dX12_body_93 : decode cX12_body 93 = .ok (.aload_n 0, 1) := by decide +kernel
theorem dX12_body_94 : decode cX12_body 94 = .ok (.getfield 201, 3) := by decide +kernel
theorem dX12_body_97 : decode cX12_body 97 = .ok (.iastore, 1) := by decide +kernel
theorem dX12_body_98 : decode cX12_body 98 = .ok (.aload_n 0, 1) := by decide +kernel
theorem dX12_body_99 : decode cX12_body 99 = .ok (.getfield 37, 3) := by decide +kernel
theorem dX12_body_102 : decode cX12_body 102 = .ok (.aload_n 0, 1) := by decide +kernel
theorem dX12_body_103 : decode cX12_body 103 = .ok (.getfield 190, 3) := by decide +kernel
theorem dX12_body_106 : decode cX12_body 106 = .ok (.iload_n 3, 1) := by decide +kernel
theorem dX12_body_107 : decode cX12_body 107 = .ok (.iastore, 1) := by decide +kernel
theorem dX12_body_108 : decode cX12_body 108 = .ok (.aload_n 0, 1) := by decide +kernel
theorem dX12_body_109 : decode cX12_body 109 = .ok (.getfield 40, 3) := by decide +kernel
theorem dX12_body_112 : decode cX12_body 112 = .ok (.aload_n 0, 1) := by decide +kernel
theorem dX12_body_113 : decode cX12_body 113 = .ok (.getfield 190, 3) := by decide +kernel
theorem dX12_body_116 : decode cX12_body 116 = .ok (.iload 4, 2) := by decide +kernel
theorem dX12_body_118 : decode cX12_body 118 = .ok (.iastore, 1) := by decide +kernel
theorem dX12_body_119 : decode cX12_body 119 = .ok (.aload_n 0, 1) := by decide +kernel
theorem dX12_body_120 : decode cX12_body 120 = .ok (.getfield 43, 3) := by decide +kernel
theorem dX12_body_123 : decode cX12_body 123 = .ok (.aload_n 0, 1) := by decide +kernel
theorem dX12_body_124 : decode cX12_body 124 = .ok (.getfield 190, 3) := by decide +kernel
theorem dX12_body_127 : decode cX12_body 127 = .ok (.iload 5, 2) := by decide +kernel
theorem dX12_body_129 : decode cX12_body 129 = .ok (.iastore, 1) := by decide +kernel
theorem dX12_body_130 : decode cX12_body 130 = .ok (.aload_n 0, 1) := by decide +kernel
theorem dX12_body_131 : decode cX12_body 131 = .ok (.dup, 1) := by decide +kernel
theorem dX12_body_132 : decode cX12_body 132 = .ok (.getfield 190, 3) := by decide +kernel
theorem dX12_body_135 : decode cX12_body 135 = .ok (.iconst 1, 1) := by decide +kernel
theorem dX12_body_136 : decode cX12_body 136 = .ok (.iadd, 1) := by decide +kernel
theorem dX12_body_137 : decode cX12_body 137 = .ok (.putfield 190, 3) := by decide +kernel
theorem dX12_body_140 : decode cX12_body 140 = .ok (.aload_n 0, 1) := by decide +kernel
theorem dX12_body_141 : decode cX12_body 141 = .ok (.getfield 190, 3) := by decide +kernel
theorem dX12_body_144 : decode cX12_body 144 = .ok (.iconst 1, 1) := by decide +kernel
theorem dX12_body_145 : decode cX12_body 145 = .ok (.isub, 1) := by decide +kernel
theorem dX12_body_146 : decode cX12_body 146 = .ok (.ireturn, 1) := by decide +kernel
set_option maxRecDepth 20000 in
theorem ggX12_bodyTold_X12_isBody : GoodIn wsX12_bodyTold wsX12_isBody := goodIn_r _ [12, 13, 22, 23, 24, 25, 26, 27, 28, 29, 30, 31, 32, 33, 34, 35, 36, 37, 38, 39, 40, 41, 42, 43, 44, 45, 46, 47, 48, 49, 50, 51, 52, 53, 54, 55, 56, 57, 58, 59, 60, 61, 62, 63, 64, 65, 66, 67, 68, 69, 70, 71, 72, 73, 74, 75, 76, 77, 78, 79, 80, 81, 82, 83, 84, 85, 86, 87, 88, 89, 90, 91, 92, 93, 94, 95, 96, 97, 98, 99, 100] (by decide +kernel) (by decide +kernel)
set_option maxRecDepth 20000 in
theorem gX12_bodyTold_X12_isBody : GoodIn wsX12_bodyTold (wsV RX12 193 RX12 yX12_isBody wsX12_isBody) := goodIn_app (goodIn_of _ (by decide +kernel)) ggX12_bodyTold_X12_isBody
set_option maxRecDepth 20000 in
theorem ggX12_bodyTold_X12_eats : GoodIn wsX12_bodyTold wsX12_eats := goodIn_r _ [17, 4, 1, 22, 23, 24, 25, 26, 27, 28, 29, 30, 31, 32, 33, 34, 35, 36, 37, 38, 39, 40, 41, 42, 43, 44, 45, 46, 47, 48, 49, 50, 51, 52, 53, 54, 55, 56, 57, 58, 59, 60, 61, 62, 63, 64, 65, 66, 67, 68, 69, 70, 71, 72, 73, 74, 75, 76, 77, 78, 79, 80, 81, 82, 83, 84, 85, 86, 87, 88, 89, 90, 91, 92, 93, 94, 95, 96, 97, 98, 99, 100] (by decide +kernel) (by decide +kernel)
set_option maxRecDepth 20000 in
theorem gX12_bodyTold_X12_eats : GoodIn wsX12_bodyTold (wsV RX12 204 RX12 yX12_eats wsX12_eats) := goodIn_app (goodIn_of _ (by decide +kernel)) ggX12_bodyTold_X12_eats
set_option maxRecDepth 20000 in
theorem ggX12_bodyTold_X12_burns : GoodIn wsX12_bodyTold wsX12_burns := goodIn_r _ [21, 1, 22, 23, 24, 25, 26, 27, 28, 29, 30, 31, 32, 33, 34, 35, 36, 37, 38, 39, 40, 41, 42, 43, 44, 45, 46, 47, 48, 49, 50, 51, 52, 53, 54, 55, 56, 57, 58, 59, 60, 61, 62, 63, 64, 65, 66, 67, 68, 69, 70, 71, 72, 73, 74, 75, 76, 77, 78, 79, 80, 81, 82, 83, 84, 85, 86, 87, 88, 89, 90, 91, 92, 93, 94, 95, 96, 97, 98, 99, 100] (by decide +kernel) (by decide +kernel)
set_option maxRecDepth 20000 in
theorem gX12_bodyTold_X12_burns : GoodIn wsX12_bodyTold (wsV RX12 220 RX12 yX12_burns wsX12_burns) := goodIn_app (goodIn_of _ (by decide +kernel)) ggX12_bodyTold_X12_burns
theorem dX12_bodyTold_0 : decode cX12_bodyTold 0 = .ok (.aload_n 0, 1) := by decide +kernel
theorem dX12_bodyTold_1 : decode cX12_bodyTold 1 = .ok (.iload_n 1, 1) := by decide +kernel
theorem dX12_bodyTold_2 : decode cX12_bodyTold 2 = .ok (.invokevirtual 193, 3) := by decide +kernel
theorem dX12_bodyTold_5 : decode cX12_bodyTold 5 = .ok (.ifCond .ne 6, 3) := by decide +kernel
theorem dX12_bodyTold_8 : decode cX12_bodyTold 8 = .ok (.bipush (-2), 2) := by decide +kernel
theorem dX12_bodyTold_10 : decode cX12_bodyTold 10 = .ok (.ireturn, 1) := by decide +kernel
theorem dX12_bodyTold_11 : decode cX12_bodyTold 11 = .ok (.iload_n 2, 1) := by decide +kernel
theorem dX12_bodyTold_12 : decode cX12_bodyTold 12 = .ok (.tableswitch 138 0 8 #[52, 59, 66, 73, 80, 87, 94, 100, 106], 52) := by decide +kernel
theorem dX12_bodyTold_64 : decode cX12_bodyTold 64 = .ok (.aload_n 0, 1) := by decide +kernel
theorem dX12_bodyTold_65 : decode cX12_bodyTold 65 = .ok (.getfield 28, 3) := by decide +kernel
theorem dX12_bodyTold_68 : decode cX12_bodyTold 68 = .ok (.iload_n 1, 1) := by decide +kernel
theorem dX12_bodyTold_69 : decode cX12_bodyTold 69 = .ok (.iaload, 1) := by decide +kernel
theorem dX12_bodyTold_70 : decode cX12_bodyTold 70 = .ok (.ireturn, 1) := by decide +kernel
theorem dX12_bodyTold_71 : decode cX12_bodyTold 71 = .ok (.aload_n 0, 1) := by decide +kernel
theorem dX12_bodyTold_72 : decode cX12_bodyTold 72 = .ok (.getfield 34, 3) := by decide +kernel
theorem dX12_bodyTold_75 : decode cX12_bodyTold 75 = .ok (.iload_n 1, 1) := by decide +kernel
theorem dX12_bodyTold_76 : decode cX12_bodyTold 76 = .ok (.iaload, 1) := by decide +kernel
theorem dX12_bodyTold_77 : decode cX12_bodyTold 77 = .ok (.ireturn, 1) := by decide +kernel
theorem dX12_bodyTold_78 : decode cX12_bodyTold 78 = .ok (.aload_n 0, 1) := by decide +kernel
theorem dX12_bodyTold_79 : decode cX12_bodyTold 79 = .ok (.getfield 31, 3) := by decide +kernel
theorem dX12_bodyTold_82 : decode cX12_bodyTold 82 = .ok (.iload_n 1, 1) := by decide +kernel
theorem dX12_bodyTold_83 : decode cX12_bodyTold 83 = .ok (.iaload, 1) := by decide +kernel
theorem dX12_bodyTold_84 : decode cX12_bodyTold 84 = .ok (.ireturn, 1) := by decide +kernel
theorem dX12_bodyTold_85 : decode cX12_bodyTold 85 = .ok (.aload_n 0, 1) := by decide +kernel
theorem dX12_bodyTold_86 : decode cX12_bodyTold 86 = .ok (.getfield 37, 3) := by decide +kernel
theorem dX12_bodyTold_89 : decode cX12_bodyTold 89 = .ok (.iload_n 1, 1) := by decide +kernel
theorem dX12_bodyTold_90 : decode cX12_bodyTold 90 = .ok (.iaload, 1) := by decide +kernel
theorem dX12_bodyTold_91 : decode cX12_bodyTold 91 = .ok (.ireturn, 1) := by decide +kernel
theorem dX12_bodyTold_92 : decode cX12_bodyTold 92 = .ok (.aload_n 0, 1) := by decide +kernel
theorem dX12_bodyTold_93 : decode cX12_bodyTold 93 = .ok (.getfield 40, 3) := by decide +kernel
theorem dX12_bodyTold_96 : decode cX12_bodyTold 96 = .ok (.iload_n 1, 1) := by decide +kernel
theorem dX12_bodyTold_97 : decode cX12_bodyTold 97 = .ok (.iaload, 1) := by decide +kernel
theorem dX12_bodyTold_98 : decode cX12_bodyTold 98 = .ok (.ireturn, 1) := by decide +kernel
theorem dX12_bodyTold_99 : decode cX12_bodyTold 99 = .ok (.aload_n 0, 1) := by decide +kernel
theorem dX12_bodyTold_100 : decode cX12_bodyTold 100 = .ok (.getfield 43, 3) := by decide +kernel
theorem dX12_bodyTold_103 : decode cX12_bodyTold 103 = .ok (.iload_n 1, 1) := by decide +kernel
theorem dX12_bodyTold_104 : decode cX12_bodyTold 104 = .ok (.iaload, 1) := by decide +kernel
theorem dX12_bodyTold_105 : decode cX12_bodyTold 105 = .ok (.ireturn, 1) := by decide +kernel
theorem dX12_bodyTold_106 : decode cX12_bodyTold 106 = .ok (.aload_n 0, 1) := by decide +kernel
theorem dX12_bodyTold_107 : decode cX12_bodyTold 107 = .ok (.iload_n 1, 1) := by decide +kernel
theorem dX12_bodyTold_108 : decode cX12_bodyTold 108 = .ok (.invokevirtual 204, 3) := by decide +kernel
theorem dX12_bodyTold_111 : decode cX12_bodyTold 111 = .ok (.ireturn, 1) := by decide +kernel
theorem dX12_bodyTold_112 : decode cX12_bodyTold 112 = .ok (.aload_n 0, 1) := by decide +kernel
theorem dX12_bodyTold_113 : decode cX12_bodyTold 113 = .ok (.iload_n 1, 1) := by decide +kernel
theorem dX12_bodyTold_114 : decode cX12_bodyTold 114 = .ok (.invokevirtual 220, 3) := by decide +kernel
theorem dX12_bodyTold_117 : decode cX12_bodyTold 117 = .ok (.ireturn, 1) := by decide +kernel
theorem dX12_bodyTold_118 : decode cX12_bodyTold 118 = .ok (.aload_n 0, 1) := by decide +kernel
theorem dX12_bodyTold_119 : decode cX12_bodyTold 119 = .ok (.iload_n 1, 1) := by decide +kernel
theorem dX12_bodyTold_120 : decode cX12_bodyTold 120 = .ok (.invokevirtual 204, 3) := by decide +kernel
theorem dX12_bodyTold_123 : decode cX12_bodyTold 123 = .ok (.ifCond .ne 9, 3) := by decide +kernel
theorem dX12_bodyTold_126 : decode cX12_bodyTold 126 = .ok (.sipush 9999, 3) := by decide +kernel
theorem dX12_bodyTold_129 : decode cX12_bodyTold 129 = .ok (.goto 20, 3) := by decide +kernel
theorem dX12_bodyTold_132 : decode cX12_bodyTold 132 = .ok (.aload_n 0, 1) := by decide +kernel
theorem dX12_bodyTold_133 : decode cX12_bodyTold 133 = .ok (.getfield 201, 3) := by decide +kernel
theorem dX12_bodyTold_136 : decode cX12_bodyTold 136 = .ok (.aload_n 0, 1) := by decide +kernel
theorem dX12_bodyTold_137 : decode cX12_bodyTold 137 = .ok (.getfield 40, 3) := by decide +kernel
theorem dX12_bodyTold_140 : decode cX12_bodyTold 140 = .ok (.iload_n 1, 1) := by decide +kernel
theorem dX12_bodyTold_141 : decode cX12_bodyTold 141 = .ok (.iaload, 1) := by decide +kernel
theorem dX12_bodyTold_142 : decode cX12_bodyTold 142 = .ok (.aload_n 0, 1) := by decide +kernel
theorem dX12_bodyTold_143 : decode cX12_bodyTold 143 = .ok (.iload_n 1, 1) := by decide +kernel
theorem dX12_bodyTold_144 : decode cX12_bodyTold 144 = .ok (.invokevirtual 204, 3) := by decide +kernel
theorem dX12_bodyTold_147 : decode cX12_bodyTold 147 = .ok (.idiv, 1) := by decide +kernel
theorem dX12_bodyTold_148 : decode cX12_bodyTold 148 = .ok (.iadd, 1) := by decide +kernel
theorem dX12_bodyTold_149 : decode cX12_bodyTold 149 = .ok (.ireturn, 1) := by decide +kernel
theorem dX12_bodyTold_150 : decode cX12_bodyTold 150 = .ok (.bipush (-2), 2) := by decide +kernel
theorem dX12_bodyTold_152 : decode cX12_bodyTold 152 = .ok (.ireturn, 1) := by decide +kernel
set_option maxRecDepth 20000 in
theorem ggX12_drifted_X12_within : GoodIn wsX12_drifted wsX12_within := goodIn_r _ [9] (by decide +kernel) (by decide +kernel)
set_option maxRecDepth 20000 in
theorem gX12_drifted_X12_within : GoodIn wsX12_drifted (va_wsS RX12 186 yX12_within wsX12_within) := goodIn_app (goodIn_of _ (by decide +kernel)) ggX12_drifted_X12_within
theorem dX12_drifted_0 : decode cX12_drifted 0 = .ok (.sipush 2222, 3) := by decide +kernel
theorem dX12_drifted_3 : decode cX12_drifted 3 = .ok (.istore 5, 2) := by decide +kernel
theorem dX12_drifted_5 : decode cX12_drifted 5 = .ok (.iconst 0, 1) := by decide +kernel
theorem dX12_drifted_6 : decode cX12_drifted 6 = .ok (.istore 6, 2) := by decide +kernel
theorem dX12_drifted_8 : decode cX12_drifted 8 = .ok (.iload 6, 2) := by decide +kernel
theorem dX12_drifted_10 : decode cX12_drifted 10 = .ok (.aload_n 0, 1) := by decide +kernel
theorem dX12_drifted_11 : decode cX12_drifted 11 = .ok (.getfield 211, 3) := by decide +kernel
theorem dX12_drifted_14 : decode cX12_drifted 14 = .ok (.if_icmp .ge 45, 3) := by decide +kernel
theorem dX12_drifted_17 : decode cX12_drifted 17 = .ok (.iload_n 2, 1) := by decide +kernel
theorem dX12_drifted_18 : decode cX12_drifted 18 = .ok (.aload_n 0, 1) := by decide +kernel
theorem dX12_drifted_19 : decode cX12_drifted 19 = .ok (.getfield 9, 3) := by decide +kernel
theorem dX12_drifted_22 : decode cX12_drifted 22 = .ok (.iload 6, 2) := by decide +kernel
theorem dX12_drifted_24 : decode cX12_drifted 24 = .ok (.iaload, 1) := by decide +kernel
theorem dX12_drifted_25 : decode cX12_drifted 25 = .ok (.if_icmp .lt 24, 3) := by decide +kernel
theorem dX12_drifted_28 : decode cX12_drifted 28 = .ok (.iload_n 2, 1) := by decide +kernel
theorem dX12_drifted_29 : decode cX12_drifted 29 = .ok (.aload_n 0, 1) := by decide +kernel
theorem dX12_drifted_30 : decode cX12_drifted 30 = .ok (.getfield 13, 3) := by decide +kernel
theorem dX12_drifted_33 : decode cX12_drifted 33 = .ok (.iload 6, 2) := by decide +kernel
theorem dX12_drifted_35 : decode cX12_drifted 35 = .ok (.iaload, 1) := by decide +kernel
theorem dX12_drifted_36 : decode cX12_drifted 36 = .ok (.if_icmp .ge 13, 3) := by decide +kernel
theorem dX12_drifted_39 : decode cX12_drifted 39 = .ok (.aload_n 0, 1) := by decide +kernel
theorem dX12_drifted_40 : decode cX12_drifted 40 = .ok (.getfield 16, 3) := by decide +kernel
theorem dX12_drifted_43 : decode cX12_drifted 43 = .ok (.iload 6, 2) := by decide +kernel
theorem dX12_drifted_45 : decode cX12_drifted 45 = .ok (.iaload, 1) := by decide +kernel
theorem dX12_drifted_46 : decode cX12_drifted 46 = .ok (.goto 5, 3) := by decide +kernel
theorem dX12_drifted_49 : decode cX12_drifted 49 = .ok (.iload 5, 2) := by decide +kernel
theorem dX12_drifted_51 : decode cX12_drifted 51 = .ok (.istore 5, 2) := by decide +kernel
theorem dX12_drifted_53 : decode cX12_drifted 53 = .ok (.iinc 6 1, 3) := by decide +kernel
theorem dX12_drifted_56 : decode cX12_drifted 56 = .ok (.goto (-48), 3) := by decide +kernel
theorem dX12_drifted_59 : decode cX12_drifted 59 = .ok (.aload_n 0, 1) := by decide +kernel
theorem dX12_drifted_60 : decode cX12_drifted 60 = .ok (.getfield 28, 3) := by decide +kernel
theorem dX12_drifted_63 : decode cX12_drifted 63 = .ok (.iload_n 1, 1) := by decide +kernel
theorem dX12_drifted_64 : decode cX12_drifted 64 = .ok (.iaload, 1) := by decide +kernel
theorem dX12_drifted_65 : decode cX12_drifted 65 = .ok (.iconst 3, 1) := by decide +kernel
theorem dX12_drifted_66 : decode cX12_drifted 66 = .ok (.if_icmp .eq 19, 3) := by decide +kernel
theorem dX12_drifted_69 : decode cX12_drifted 69 = .ok (.aload_n 0, 1) := by decide +kernel
theorem dX12_drifted_70 : decode cX12_drifted 70 = .ok (.getfield 28, 3) := by decide +kernel
theorem dX12_drifted_73 : decode cX12_drifted 73 = .ok (.iload_n 1, 1) := by decide +kernel
theorem dX12_drifted_74 : decode cX12_drifted 74 = .ok (.iaload, 1) := by decide +kernel
theorem dX12_drifted_75 : decode cX12_drifted 75 = .ok (.iconst 4, 1) := by decide +kernel
theorem dX12_drifted_76 : decode cX12_drifted 76 = .ok (.if_icmp .ne 13, 3) := by decide +kernel
theorem dX12_drifted_79 : decode cX12_drifted 79 = .ok (.iload_n 2, 1) := by decide +kernel
theorem dX12_drifted_80 : decode cX12_drifted 80 = .ok (.iconst 4, 1) := by decide +kernel
theorem dX12_drifted_81 : decode cX12_drifted 81 = .ok (.irem, 1) := by decide +kernel
theorem dX12_drifted_82 : decode cX12_drifted 82 = .ok (.ifCond .ne 7, 3) := by decide +kernel
theorem dX12_drifted_85 : decode cX12_drifted 85 = .ok (.iconst 1, 1) := by decide +kernel
theorem dX12_drifted_86 : decode cX12_drifted 86 = .ok (.goto 4, 3) := by decide +kernel
theorem dX12_drifted_89 : decode cX12_drifted 89 = .ok (.iconst 0, 1) := by decide +kernel
theorem dX12_drifted_90 : decode cX12_drifted 90 = .ok (.istore 6, 2) := by decide +kernel
theorem dX12_drifted_92 : decode cX12_drifted 92 = .ok (.aload_n 0, 1) := by decide +kernel
theorem dX12_drifted_93 : decode cX12_drifted 93 = .ok (.getfield 28, 3) := by decide +kernel
theorem dX12_drifted_96 : decode cX12_drifted 96 = .ok (.iload_n 1, 1) := by decide +kernel
theorem dX12_drifted_97 : decode cX12_drifted 97 = .ok (.iaload, 1) := by decide +kernel
theorem dX12_drifted_98 : decode cX12_drifted 98 = .ok (.iconst 2, 1) := by decide +kernel
theorem dX12_drifted_99 : decode cX12_drifted 99 = .ok (.if_icmp .ne 7, 3) := by decide +kernel
theorem dX12_drifted_102 : decode cX12_drifted 102 = .ok (.iconst 1, 1) := by decide +kernel
theorem dX12_drifted_103 : decode cX12_drifted 103 = .ok (.goto 4, 3) := by decide +kernel
theorem dX12_drifted_106 : decode cX12_drifted 106 = .ok (.iconst 0, 1) := by decide +kernel
theorem dX12_drifted_107 : decode cX12_drifted 107 = .ok (.istore 7, 2) := by decide +kernel
theorem dX12_drifted_109 : decode cX12_drifted 109 = .ok (.iload 7, 2) := by decide +kernel
theorem dX12_drifted_111 : decode cX12_drifted 111 = .ok (.ifCond .eq 7, 3) := by decide +kernel
theorem dX12_drifted_114 : decode cX12_drifted 114 = .ok (.iconst 0, 1) := by decide +kernel
theorem dX12_drifted_115 : decode cX12_drifted 115 = .ok (.goto 14, 3) := by decide +kernel
theorem dX12_drifted_118 : decode cX12_drifted 118 = .ok (.iload 5, 2) := by decide +kernel
theorem dX12_drifted_120 : decode cX12_drifted 120 = .ok (.sipush 1000, 3) := by decide +kernel
theorem dX12_drifted_123 : decode cX12_drifted 123 = .ok (.idiv, 1) := by decide +kernel
theorem dX12_drifted_124 : decode cX12_drifted 124 = .ok (.iconst 2, 1) := by decide +kernel
theorem dX12_drifted_125 : decode cX12_drifted 125 = .ok (.isub, 1) := by decide +kernel
theorem dX12_drifted_126 : decode cX12_drifted 126 = .ok (.iload 6, 2) := by decide +kernel
theorem dX12_drifted_128 : decode cX12_drifted 128 = .ok (.isub, 1) := by decide +kernel
theorem dX12_drifted_129 : decode cX12_drifted 129 = .ok (.istore 8, 2) := by decide +kernel
theorem dX12_drifted_131 : decode cX12_drifted 131 = .ok (.iload 7, 2) := by decide +kernel
theorem dX12_drifted_133 : decode cX12_drifted 133 = .ok (.ifCond .eq 7, 3) := by decide +kernel
theorem dX12_drifted_136 : decode cX12_drifted 136 = .ok (.iconst 0, 1) := by decide +kernel
theorem dX12_drifted_137 : decode cX12_drifted 137 = .ok (.goto 16, 3) := by decide +kernel
theorem dX12_drifted_140 : decode cX12_drifted 140 = .ok (.iload 5, 2) := by decide +kernel
theorem dX12_drifted_142 : decode cX12_drifted 142 = .ok (.bipush 100, 2) := by decide +kernel
theorem dX12_drifted_144 : decode cX12_drifted 144 = .ok (.idiv, 1) := by decide +kernel
theorem dX12_drifted_145 : decode cX12_drifted 145 = .ok (.bipush 10, 2) := by decide +kernel
theorem dX12_drifted_147 : decode cX12_drifted 147 = .ok (.irem, 1) := by decide +kernel
theorem dX12_drifted_148 : decode cX12_drifted 148 = .ok (.iconst 2, 1) := by decide +kernel
theorem dX12_drifted_149 : decode cX12_drifted 149 = .ok (.isub, 1) := by decide +kernel
theorem dX12_drifted_150 : decode cX12_drifted 150 = .ok (.iload 6, 2) := by decide +kernel
theorem dX12_drifted_152 : decode cX12_drifted 152 = .ok (.iadd, 1) := by decide +kernel
theorem dX12_drifted_153 : decode cX12_drifted 153 = .ok (.istore 9, 2) := by decide +kernel
theorem dX12_drifted_155 : decode cX12_drifted 155 = .ok (.iload 7, 2) := by decide +kernel
theorem dX12_drifted_157 : decode cX12_drifted 157 = .ok (.ifCond .eq 7, 3) := by decide +kernel
theorem dX12_drifted_160 : decode cX12_drifted 160 = .ok (.iconst 0, 1) := by decide +kernel
theorem dX12_drifted_161 : decode cX12_drifted 161 = .ok (.goto 16, 3) := by decide +kernel
theorem dX12_drifted_164 : decode cX12_drifted 164 = .ok (.iload 5, 2) := by decide +kernel
theorem dX12_drifted_166 : decode cX12_drifted 166 = .ok (.bipush 10, 2) := by decide +kernel
theorem dX12_drifted_168 : decode cX12_drifted 168 = .ok (.idiv, 1) := by decide +kernel
theorem dX12_drifted_169 : decode cX12_drifted 169 = .ok (.bipush 10, 2) := by decide +kernel
theorem dX12_drifted_171 : decode cX12_drifted 171 = .ok (.irem, 1) := by decide +kernel
theorem dX12_drifted_172 : decode cX12_drifted 172 = .ok (.iconst 2, 1) := by decide +kernel
theorem dX12_drifted_173 : decode cX12_drifted 173 = .ok (.isub, 1) := by decide +kernel
theorem dX12_drifted_174 : decode cX12_drifted 174 = .ok (.iload 6, 2) := by decide +kernel
theorem dX12_drifted_176 : decode cX12_drifted 176 = .ok (.isub, 1) := by decide +kernel
theorem dX12_drifted_177 : decode cX12_drifted 177 = .ok (.istore 10, 2) := by decide +kernel
theorem dX12_drifted_179 : decode cX12_drifted 179 = .ok (.iload 7, 2) := by decide +kernel
theorem dX12_drifted_181 : decode cX12_drifted 181 = .ok (.ifCond .eq 7, 3) := by decide +kernel
theorem dX12_drifted_184 : decode cX12_drifted 184 = .ok (.iconst 0, 1) := by decide +kernel
theorem dX12_drifted_185 : decode cX12_drifted 185 = .ok (.goto 13, 3) := by decide +kernel
theorem dX12_drifted_188 : decode cX12_drifted 188 = .ok (.iload 5, 2) := by decide +kernel
theorem dX12_drifted_190 : decode cX12_drifted 190 = .ok (.bipush 10, 2) := by decide +kernel
theorem dX12_drifted_192 : decode cX12_drifted 192 = .ok (.irem, 1) := by decide +kernel
theorem dX12_drifted_193 : decode cX12_drifted 193 = .ok (.iconst 2, 1) := by decide +kernel
theorem dX12_drifted_194 : decode cX12_drifted 194 = .ok (.isub, 1) := by decide +kernel
theorem dX12_drifted_195 : decode cX12_drifted 195 = .ok (.iload 6, 2) := by decide +kernel
theorem dX12_drifted_197 : decode cX12_drifted 197 = .ok (.iadd, 1) := by decide +kernel
theorem dX12_drifted_198 : decode cX12_drifted 198 = .ok (.istore 11, 2) := by decide +kernel
theorem dX12_drifted_200 : decode cX12_drifted 200 = .ok (.lconst 0, 1) := by decide +kernel
theorem dX12_drifted_201 : decode cX12_drifted 201 = .ok (.lstore 12, 2) := by decide +kernel
theorem dX12_drifted_203 : decode cX12_drifted 203 = .ok (.iconst 0, 1) := by decide +kernel
theorem dX12_drifted_204 : decode cX12_drifted 204 = .ok (.istore 14, 2) := by decide +kernel
theorem dX12_drifted_206 : decode cX12_drifted 206 = .ok (.iload 14, 2) := by decide +kernel
theorem dX12_drifted_208 : decode cX12_drifted 208 = .ok (.bipush 64, 2) := by decide +kernel
theorem dX12_drifted_210 : decode cX12_drifted 210 = .ok (.if_icmp .ge 119, 3) := by decide +kernel
theorem dX12_drifted_213 : decode cX12_drifted 213 = .ok (.lload_n 3, 1) := by decide +kernel
theorem dX12_drifted_214 : decode cX12_drifted 214 = .ok (.iload 14, 2) := by decide +kernel
theorem dX12_drifted_216 : decode cX12_drifted 216 = .ok (.lushr, 1) := by decide +kernel
theorem dX12_drifted_217 : decode cX12_drifted 217 = .ok (.lconst 1, 1) := by decide +kernel
theorem dX12_drifted_218 : decode cX12_drifted 218 = .ok (.land, 1) := by decide +kernel
theorem dX12_drifted_219 : decode cX12_drifted 219 = .ok (.lconst 1, 1) := by decide +kernel
theorem dX12_drifted_220 : decode cX12_drifted 220 = .ok (.lcmp, 1) := by decide +kernel
theorem dX12_drifted_221 : decode cX12_drifted 221 = .ok (.ifCond .ne 102, 3) := by decide +kernel
theorem dX12_drifted_224 : decode cX12_drifted 224 = .ok (.iload 14, 2) := by decide +kernel
theorem dX12_drifted_226 : decode cX12_drifted 226 = .ok (.bipush 8, 2) := by decide +kernel
theorem dX12_drifted_228 : decode cX12_drifted 228 = .ok (.irem, 1) := by decide +kernel
theorem dX12_drifted_229 : decode cX12_drifted 229 = .ok (.iload 8, 2) := by decide +kernel
theorem dX12_drifted_231 : decode cX12_drifted 231 = .ok (.iadd, 1) := by decide +kernel
theorem dX12_drifted_232 : decode cX12_drifted 232 = .ok (.istore 15, 2) := by decide +kernel
theorem dX12_drifted_234 : decode cX12_drifted 234 = .ok (.iload 15, 2) := by decide +kernel
theorem dX12_drifted_236 : decode cX12_drifted 236 = .ok (.iload 14, 2) := by decide +kernel
theorem dX12_drifted_238 : decode cX12_drifted 238 = .ok (.bipush 8, 2) := by decide +kernel
theorem dX12_drifted_240 : decode cX12_drifted 240 = .ok (.irem, 1) := by decide +kernel
theorem dX12_drifted_241 : decode cX12_drifted 241 = .ok (.iload 9, 2) := by decide +kernel
theorem dX12_drifted_243 : decode cX12_drifted 243 = .ok (.iadd, 1) := by decide +kernel
theorem dX12_drifted_244 : decode cX12_drifted 244 = .ok (.if_icmp .gt 79, 3) := by decide +kernel
theorem dX12_drifted_247 : decode cX12_drifted 247 = .ok (.iload 14, 2) := by decide +kernel
theorem dX12_drifted_249 : decode cX12_drifted 249 = .ok (.bipush 8, 2) := by decide +kernel
theorem dX12_drifted_251 : decode cX12_drifted 251 = .ok (.idiv, 1) := by decide +kernel
theorem dX12_drifted_252 : decode cX12_drifted 252 = .ok (.iload 10, 2) := by decide +kernel
theorem dX12_drifted_254 : decode cX12_drifted 254 = .ok (.iadd, 1) := by decide +kernel
theorem dX12_drifted_255 : decode cX12_drifted 255 = .ok (.istore 16, 2) := by decide +kernel
theorem dX12_drifted_257 : decode cX12_drifted 257 = .ok (.iload 16, 2) := by decide +kernel
theorem dX12_drifted_259 : decode cX12_drifted 259 = .ok (.iload 14, 2) := by decide +kernel
theorem dX12_drifted_261 : decode cX12_drifted 261 = .ok (.bipush 8, 2) := by decide +kernel
theorem dX12_drifted_263 : decode cX12_drifted 263 = .ok (.idiv, 1) := by decide +kernel
theorem dX12_drifted_264 : decode cX12_drifted 264 = .ok (.iload 11, 2) := by decide +kernel
theorem dX12_drifted_266 : decode cX12_drifted 266 = .ok (.iadd, 1) := by decide +kernel
theorem dX12_drifted_267 : decode cX12_drifted 267 = .ok (.if_icmp .gt 50, 3) := by decide +kernel
theorem dX12_drifted_270 : decode cX12_drifted 270 = .ok (.lload 12, 2) := by decide +kernel
theorem dX12_drifted_272 : decode cX12_drifted 272 = .ok (.iload 15, 2) := by decide +kernel
theorem dX12_drifted_274 : decode cX12_drifted 274 = .ok (.iconst 0, 1) := by decide +kernel
theorem dX12_drifted_275 : decode cX12_drifted 275 = .ok (.bipush 7, 2) := by decide +kernel
theorem dX12_drifted_277 : decode cX12_drifted 277 = .ok (.invokestatic 186, 3) := by decide +kernel
theorem dX12_drifted_280 : decode cX12_drifted 280 = .ok (.ifCond .eq 27, 3) := by decide +kernel
theorem dX12_drifted_283 : decode cX12_drifted 283 = .ok (.iload 16, 2) := by decide +kernel
theorem dX12_drifted_285 : decode cX12_drifted 285 = .ok (.iconst 0, 1) := by decide +kernel
theorem dX12_drifted_286 : decode cX12_drifted 286 = .ok (.bipush 7, 2) := by decide +kernel
theorem dX12_drifted_288 : decode cX12_drifted 288 = .ok (.invokestatic 186, 3) := by decide +kernel
theorem dX12_drifted_291 : decode cX12_drifted 291 = .ok (.ifCond .eq 16, 3) := by decide +kernel
theorem dX12_drifted_294 : decode cX12_drifted 294 = .ok (.lconst 1, 1) := by decide +kernel
theorem dX12_drifted_295 : decode cX12_drifted 295 = .ok (.bipush 8, 2) := by decide +kernel
theorem dX12_drifted_297 : decode cX12_drifted 297 = .ok (.iload 16, 2) := by decide +kernel
theorem dX12_drifted_299 : decode cX12_drifted 299 = .ok (.imul, 1) := by decide +kernel
theorem dX12_drifted_300 : decode cX12_drifted 300 = .ok (.iload 15, 2) := by decide +kernel
theorem dX12_drifted_302 : decode cX12_drifted 302 = .ok (.iadd, 1) := by decide +kernel
theorem dX12_drifted_303 : decode cX12_drifted 303 = .ok (.lshl, 1) := by decide +kernel
theorem dX12_drifted_304 : decode cX12_drifted 304 = .ok (.goto 4, 3) := by decide +kernel
theorem dX12_drifted_307 : decode cX12_drifted 307 = .ok (.lconst 0, 1) := by decide +kernel
theorem dX12_drifted_308 : decode cX12_drifted 308 = .ok (.lor, 1) := by decide +kernel
theorem dX12_drifted_309 : decode cX12_drifted 309 = .ok (.lstore 12, 2) := by decide +kernel
theorem dX12_drifted_311 : decode cX12_drifted 311 = .ok (.iinc 16 1, 3) := by decide +kernel
theorem dX12_drifted_314 : decode cX12_drifted 314 = .ok (.goto (-57), 3) := by decide +kernel
theorem dX12_drifted_317 : decode cX12_drifted 317 = .ok (.iinc 15 1, 3) := by decide +kernel
theorem dX12_drifted_320 : decode cX12_drifted 320 = .ok (.goto (-86), 3) := by decide +kernel
theorem dX12_drifted_323 : decode cX12_drifted 323 = .ok (.iinc 14 1, 3) := by decide +kernel
theorem dX12_drifted_326 : decode cX12_drifted 326 = .ok (.goto (-120), 3) := by decide +kernel
theorem dX12_drifted_329 : decode cX12_drifted 329 = .ok (.lload 12, 2) := by decide +kernel
theorem dX12_drifted_331 : decode cX12_drifted 331 = .ok (.lreturn, 1) := by decide +kernel
theorem dX12_narrowed_0 : decode cX12_narrowed 0 = .ok (.lload 4, 2) := by decide +kernel
theorem dX12_narrowed_2 : decode cX12_narrowed 2 = .ok (.lstore 6, 2) := by decide +kernel
theorem dX12_narrowed_4 : decode cX12_narrowed 4 = .ok (.iconst 0, 1) := by decide +kernel
theorem dX12_narrowed_5 : decode cX12_narrowed 5 = .ok (.istore 8, 2) := by decide +kernel
theorem dX12_narrowed_7 : decode cX12_narrowed 7 = .ok (.iload 8, 2) := by decide +kernel
theorem dX12_narrowed_9 : decode cX12_narrowed 9 = .ok (.aload_n 0, 1) := by decide +kernel
theorem dX12_narrowed_10 : decode cX12_narrowed 10 = .ok (.getfield 223, 3) := by decide +kernel
theorem dX12_narrowed_13 : decode cX12_narrowed 13 = .ok (.if_icmp .ge 60, 3) := by decide +kernel
theorem dX12_narrowed_16 : decode cX12_narrowed 16 = .ok (.lload 6, 2) := by decide +kernel
theorem dX12_narrowed_18 : decode cX12_narrowed 18 = .ok (.aload_n 0, 1) := by decide +kernel
theorem dX12_narrowed_19 : decode cX12_narrowed 19 = .ok (.getfield 46, 3) := by decide +kernel
theorem dX12_narrowed_22 : decode cX12_narrowed 22 = .ok (.iload 8, 2) := by decide +kernel
theorem dX12_narrowed_24 : decode cX12_narrowed 24 = .ok (.iaload, 1) := by decide +kernel
theorem dX12_narrowed_25 : decode cX12_narrowed 25 = .ok (.iload_n 1, 1) := by decide +kernel
theorem dX12_narrowed_26 : decode cX12_narrowed 26 = .ok (.if_icmp .ne 35, 3) := by decide +kernel
theorem dX12_narrowed_29 : decode cX12_narrowed 29 = .ok (.aload_n 0, 1) := by decide +kernel
theorem dX12_narrowed_30 : decode cX12_narrowed 30 = .ok (.getfield 49, 3) := by decide +kernel
theorem dX12_narrowed_33 : decode cX12_narrowed 33 = .ok (.iload 8, 2) := by decide +kernel
theorem dX12_narrowed_35 : decode cX12_narrowed 35 = .ok (.iaload, 1) := by decide +kernel
theorem dX12_narrowed_36 : decode cX12_narrowed 36 = .ok (.iload_n 2, 1) := by decide +kernel
theorem dX12_narrowed_37 : decode cX12_narrowed 37 = .ok (.if_icmp .ne 24, 3) := by decide +kernel

theorem dX12_narrowed_40 : decode cX12_narrowed 40 = .ok (.aload_n 0, 1) := by decide +kernel
theorem dX12_narrowed_41 : decode cX12_narrowed 41 = .ok (.getfield 56, 3) := by decide +kernel
theorem dX12_narrowed_44 : decode cX12_narrowed 44 = .ok (.iload 8, 2) := by decide +kernel
theorem dX12_narrowed_46 : decode cX12_narrowed 46 = .ok (.iaload, 1) := by decide +kernel
theorem dX12_narrowed_47 : decode cX12_narrowed 47 = .ok (.iload_n 3, 1) := by decide +kernel
theorem dX12_narrowed_48 : decode cX12_narrowed 48 = .ok (.if_icmp .gt 13, 3) := by decide +kernel
theorem dX12_narrowed_51 : decode cX12_narrowed 51 = .ok (.aload_n 0, 1) := by decide +kernel
theorem dX12_narrowed_52 : decode cX12_narrowed 52 = .ok (.getfield 52, 3) := by decide +kernel
theorem dX12_narrowed_55 : decode cX12_narrowed 55 = .ok (.iload 8, 2) := by decide +kernel
theorem dX12_narrowed_57 : decode cX12_narrowed 57 = .ok (.laload, 1) := by decide +kernel
theorem dX12_narrowed_58 : decode cX12_narrowed 58 = .ok (.goto 6, 3) := by decide +kernel
theorem dX12_narrowed_61 : decode cX12_narrowed 61 = .ok (.ldc2_w 226, 3) := by decide +kernel
theorem dX12_narrowed_64 : decode cX12_narrowed 64 = .ok (.land, 1) := by decide +kernel
theorem dX12_narrowed_65 : decode cX12_narrowed 65 = .ok (.lstore 6, 2) := by decide +kernel
theorem dX12_narrowed_67 : decode cX12_narrowed 67 = .ok (.iinc 8 1, 3) := by decide +kernel
theorem dX12_narrowed_70 : decode cX12_narrowed 70 = .ok (.goto (-63), 3) := by decide +kernel
theorem dX12_narrowed_73 : decode cX12_narrowed 73 = .ok (.lload 6, 2) := by decide +kernel
theorem dX12_narrowed_75 : decode cX12_narrowed 75 = .ok (.lreturn, 1) := by decide +kernel
set_option maxRecDepth 20000 in
theorem ggX12_patchOf_X12_narrowed : GoodIn wsX12_patchOf wsX12_narrowed := goodIn_r _ [7, 8, 9, 10, 11, 12, 13, 26, 27, 28, 29, 30, 31, 32, 33, 34, 35, 36, 37, 38, 39, 40, 41, 42, 43, 44, 45, 46, 47, 48, 49, 50, 51, 52, 53, 54, 55, 56, 57, 58, 59, 60, 61, 62, 63, 64, 65, 66, 67, 68, 69, 70, 71, 72, 73, 74, 75, 76, 77, 78, 79, 80, 81, 82, 83, 84, 85, 86, 87, 88, 89, 90, 91, 92, 93, 94, 95, 96, 97, 98, 99, 100, 101, 102, 103, 104] (by decide +kernel) (by decide +kernel)
set_option maxRecDepth 20000 in
theorem gX12_patchOf_X12_narrowed : GoodIn wsX12_patchOf (wsV RX12 228 RX12 yX12_narrowed wsX12_narrowed) := goodIn_app (goodIn_of _ (by decide +kernel)) ggX12_patchOf_X12_narrowed
set_option maxRecDepth 20000 in
theorem ggX12_patchOf_X12_drifted : GoodIn wsX12_patchOf wsX12_drifted := goodIn_r _ [17, 18, 19, 20, 21, 22, 23, 24, 6, 25, 26, 27, 28, 29, 30, 31, 32, 33, 34, 35, 36, 37, 38, 39, 40, 41, 42, 43, 44, 45, 46, 47, 48, 49, 50, 51, 52, 53, 54, 55, 56, 57, 58, 59, 60, 61, 62, 63, 64, 65, 66, 67, 68, 69, 70, 71, 72, 73, 74, 75, 76, 77, 78, 79, 80, 81, 82, 83, 84, 85, 86, 87, 88, 89, 90, 91, 92, 93, 94, 95, 96, 97, 98, 99, 100, 101, 102, 103, 104] (by decide +kernel) (by decide +kernel)
set_option maxRecDepth 20000 in
theorem gX12_patchOf_X12_drifted : GoodIn wsX12_patchOf (wsV RX12 232 RX12 yX12_drifted wsX12_drifted) := goodIn_app (goodIn_of _ (by decide +kernel)) ggX12_patchOf_X12_drifted
theorem dX12_patchOf_0 : decode cX12_patchOf 0 = .ok (.aload_n 0, 1) := by decide +kernel
theorem dX12_patchOf_1 : decode cX12_patchOf 1 = .ok (.iload_n 1, 1) := by decide +kernel
theorem dX12_patchOf_2 : decode cX12_patchOf 2 = .ok (.aload_n 0, 1) := by decide +kernel
theorem dX12_patchOf_3 : decode cX12_patchOf 3 = .ok (.getfield 31, 3) := by decide +kernel
theorem dX12_patchOf_6 : decode cX12_patchOf 6 = .ok (.iload_n 1, 1) := by decide +kernel
theorem dX12_patchOf_7 : decode cX12_patchOf 7 = .ok (.iaload, 1) := by decide +kernel
theorem dX12_patchOf_8 : decode cX12_patchOf 8 = .ok (.iload_n 3, 1) := by decide +kernel
theorem dX12_patchOf_9 : decode cX12_patchOf 9 = .ok (.lconst 1, 1) := by decide +kernel
theorem dX12_patchOf_10 : decode cX12_patchOf 10 = .ok (.aload_n 0, 1) := by decide +kernel
theorem dX12_patchOf_11 : decode cX12_patchOf 11 = .ok (.getfield 34, 3) := by decide +kernel
theorem dX12_patchOf_14 : decode cX12_patchOf 14 = .ok (.iload_n 1, 1) := by decide +kernel
theorem dX12_patchOf_15 : decode cX12_patchOf 15 = .ok (.iaload, 1) := by decide +kernel
theorem dX12_patchOf_16 : decode cX12_patchOf 16 = .ok (.lshl, 1) := by decide +kernel
theorem dX12_patchOf_17 : decode cX12_patchOf 17 = .ok (.invokevirtual 228, 3) := by decide +kernel
theorem dX12_patchOf_20 : decode cX12_patchOf 20 = .ok (.lstore 4, 2) := by decide +kernel
theorem dX12_patchOf_22 : decode cX12_patchOf 22 = .ok (.aload_n 0, 1) := by decide +kernel
theorem dX12_patchOf_23 : decode cX12_patchOf 23 = .ok (.getfield 31, 3) := by decide +kernel
theorem dX12_patchOf_26 : decode cX12_patchOf 26 = .ok (.iload_n 1, 1) := by decide +kernel
theorem dX12_patchOf_27 : decode cX12_patchOf 27 = .ok (.iaload, 1) := by decide +kernel
theorem dX12_patchOf_28 : decode cX12_patchOf 28 = .ok (.istore 6, 2) := by decide +kernel
theorem dX12_patchOf_30 : decode cX12_patchOf 30 = .ok (.iload 6, 2) := by decide +kernel
theorem dX12_patchOf_32 : decode cX12_patchOf 32 = .ok (.iload_n 2, 1) := by decide +kernel
theorem dX12_patchOf_33 : decode cX12_patchOf 33 = .ok (.if_icmp .ge 30, 3) := by decide +kernel
theorem dX12_patchOf_36 : decode cX12_patchOf 36 = .ok (.aload_n 0, 1) := by decide +kernel
theorem dX12_patchOf_37 : decode cX12_patchOf 37 = .ok (.iload_n 1, 1) := by decide +kernel
theorem dX12_patchOf_38 : decode cX12_patchOf 38 = .ok (.iload 6, 2) := by decide +kernel
theorem dX12_patchOf_40 : decode cX12_patchOf 40 = .ok (.iconst 1, 1) := by decide +kernel
theorem dX12_patchOf_41 : decode cX12_patchOf 41 = .ok (.iadd, 1) := by decide +kernel
theorem dX12_patchOf_42 : decode cX12_patchOf 42 = .ok (.iload_n 3, 1) := by decide +kernel
theorem dX12_patchOf_43 : decode cX12_patchOf 43 = .ok (.aload_n 0, 1) := by decide +kernel
theorem dX12_patchOf_44 : decode cX12_patchOf 44 = .ok (.iload_n 1, 1) := by decide +kernel
theorem dX12_patchOf_45 : decode cX12_patchOf 45 = .ok (.iload 6, 2) := by decide +kernel
theorem dX12_patchOf_47 : decode cX12_patchOf 47 = .ok (.lload 4, 2) := by decide +kernel
theorem dX12_patchOf_49 : decode cX12_patchOf 49 = .ok (.invokevirtual 232, 3) := by decide +kernel
theorem dX12_patchOf_52 : decode cX12_patchOf 52 = .ok (.invokevirtual 228, 3) := by decide +kernel
theorem dX12_patchOf_55 : decode cX12_patchOf 55 = .ok (.lstore 4, 2) := by decide +kernel
theorem dX12_patchOf_57 : decode cX12_patchOf 57 = .ok (.iinc 6 1, 3) := by decide +kernel
theorem dX12_patchOf_60 : decode cX12_patchOf 60 = .ok (.goto (-30), 3) := by decide +kernel
theorem dX12_patchOf_63 : decode cX12_patchOf 63 = .ok (.lload 4, 2) := by decide +kernel
theorem dX12_patchOf_65 : decode cX12_patchOf 65 = .ok (.lreturn, 1) := by decide +kernel
set_option maxRecDepth 20000 in
theorem ggX12_patch_X12_isBody : GoodIn wsX12_patch wsX12_isBody := goodIn_r _ [8, 9, 37, 38, 39, 40, 41, 42, 43, 44, 45, 46, 47, 48, 49, 50, 51, 52, 53, 54, 55, 56, 57, 58, 59, 60, 61, 62, 63, 64, 65, 66, 67, 68, 69, 70, 71, 72, 73, 74, 75, 76, 77, 78, 79, 80, 81, 82, 83, 84, 85, 86, 87, 88, 89, 90, 91, 92, 93, 94, 95, 96, 97, 98, 99, 100, 101, 102, 103, 104, 105, 106, 107, 108, 109, 110, 111, 112, 113, 114, 115] (by decide +kernel) (by decide +kernel)
set_option maxRecDepth 20000 in
theorem gX12_patch_X12_isBody : GoodIn wsX12_patch (wsV RX12 193 RX12 yX12_isBody wsX12_isBody) := goodIn_app (goodIn_of _ (by decide +kernel)) ggX12_patch_X12_isBody
set_option maxRecDepth 20000 in
theorem ggX12_patch_X12_within : GoodIn wsX12_patch wsX12_within := goodIn_r _ [12] (by decide +kernel) (by decide +kernel)
set_option maxRecDepth 20000 in
theorem gX12_patch_X12_within : GoodIn wsX12_patch (va_wsS RX12 186 yX12_within wsX12_within) := goodIn_app (goodIn_of _ (by decide +kernel)) ggX12_patch_X12_within
set_option maxRecDepth 20000 in
theorem ggX12_patch_X12_patchOf : GoodIn wsX12_patch wsX12_patchOf := goodIn_r _ [16, 1, 17, 18, 19, 20, 7, 21, 22, 23, 24, 25, 26, 27, 28, 29, 30, 31, 32, 33, 34, 35, 36, 10, 11, 12, 37, 38, 39, 40, 41, 42, 43, 44, 45, 46, 47, 48, 49, 50, 51, 52, 53, 54, 55, 56, 57, 58, 59, 60, 61, 62, 63, 64, 65, 66, 67, 68, 69, 70, 71, 72, 73, 74, 75, 76, 77, 78, 79, 80, 81, 82, 83, 84, 85, 86, 87, 88, 89, 90, 91, 92, 93, 94, 95, 96, 97, 98, 99, 100, 101, 102, 103, 104, 105, 106, 107, 108, 109, 110, 111, 112, 113, 114, 115] (by decide +kernel) (by decide +kernel)
set_option maxRecDepth 20000 in
theorem gX12_patch_X12_patchOf : GoodIn wsX12_patch (wsV RX12 238 RX12 yX12_patchOf wsX12_patchOf) := goodIn_app (goodIn_of _ (by decide +kernel)) ggX12_patch_X12_patchOf
theorem dX12_patch_0 : decode cX12_patch 0 = .ok (.aload_n 0, 1) := by decide +kernel
theorem dX12_patch_1 : decode cX12_patch 1 = .ok (.iload_n 1, 1) := by decide +kernel
theorem dX12_patch_2 : decode cX12_patch 2 = .ok (.invokevirtual 193, 3) := by decide +kernel
theorem dX12_patch_5 : decode cX12_patch 5 = .ok (.ifCond .eq 43, 3) := by decide +kernel
theorem dX12_patch_8 : decode cX12_patch 8 = .ok (.iload_n 2, 1) := by decide +kernel
theorem dX12_patch_9 : decode cX12_patch 9 = .ok (.aload_n 0, 1) := by decide +kernel
theorem dX12_patch_10 : decode cX12_patch 10 = .ok (.getfield 31, 3) := by decide +kernel
theorem dX12_patch_13 : decode cX12_patch 13 = .ok (.aload_n 0, 1) := by decide +kernel
theorem dX12_patch_14 : decode cX12_patch 14 = .ok (.iload_n 1, 1) := by decide +kernel
theorem dX12_patch_15 : decode cX12_patch 15 = .ok (.invokevirtual 193, 3) := by decide +kernel
theorem dX12_patch_18 : decode cX12_patch 18 = .ok (.ifCond .eq 7, 3) := by decide +kernel
theorem dX12_patch_21 : decode cX12_patch 21 = .ok (.iload_n 1, 1) := by decide +kernel
theorem dX12_patch_22 : decode cX12_patch 22 = .ok (.goto 4, 3) := by decide +kernel
theorem dX12_patch_25 : decode cX12_patch 25 = .ok (.iconst 0, 1) := by decide +kernel
theorem dX12_patch_26 : decode cX12_patch 26 = .ok (.iaload, 1) := by decide +kernel
theorem dX12_patch_27 : decode cX12_patch 27 = .ok (.sipush 239, 3) := by decide +kernel
theorem dX12_patch_30 : decode cX12_patch 30 = .ok (.invokestatic 186, 3) := by decide +kernel
theorem dX12_patch_33 : decode cX12_patch 33 = .ok (.ifCond .eq 15, 3) := by decide +kernel
theorem dX12_patch_36 : decode cX12_patch 36 = .ok (.iload_n 3, 1) := by decide +kernel
theorem dX12_patch_37 : decode cX12_patch 37 = .ok (.iconst 0, 1) := by decide +kernel
theorem dX12_patch_38 : decode cX12_patch 38 = .ok (.aload_n 0, 1) := by decide +kernel
theorem dX12_patch_39 : decode cX12_patch 39 = .ok (.getfield 201, 3) := by decide +kernel
theorem dX12_patch_42 : decode cX12_patch 42 = .ok (.invokestatic 186, 3) := by decide +kernel
theorem dX12_patch_45 : decode cX12_patch 45 = .ok (.ifCond .ne 7, 3) := by decide +kernel
theorem dX12_patch_48 : decode cX12_patch 48 = .ok (.ldc2_w 236, 3) := by decide +kernel
theorem dX12_patch_51 : decode cX12_patch 51 = .ok (.lreturn, 1) := by decide +kernel
theorem dX12_patch_52 : decode cX12_patch 52 = .ok (.aload_n 0, 1) := by decide +kernel
theorem dX12_patch_53 : decode cX12_patch 53 = .ok (.iload_n 1, 1) := by decide +kernel
theorem dX12_patch_54 : decode cX12_patch 54 = .ok (.iload_n 2, 1) := by decide +kernel
theorem dX12_patch_55 : decode cX12_patch 55 = .ok (.iload_n 3, 1) := by decide +kernel
theorem dX12_patch_56 : decode cX12_patch 56 = .ok (.invokevirtual 238, 3) := by decide +kernel
theorem dX12_patch_59 : decode cX12_patch 59 = .ok (.lreturn, 1) := by decide +kernel
theorem dX12_addFix_0 : decode cX12_addFix 0 = .ok (.aload_n 0, 1) := by decide +kernel
theorem dX12_addFix_1 : decode cX12_addFix 1 = .ok (.getfield 223, 3) := by decide +kernel
theorem dX12_addFix_4 : decode cX12_addFix 4 = .ok (.bipush 40, 2) := by decide +kernel
theorem dX12_addFix_6 : decode cX12_addFix 6 = .ok (.if_icmp .ne 6, 3) := by decide +kernel
theorem dX12_addFix_9 : decode cX12_addFix 9 = .ok (.bipush (-4), 2) := by decide +kernel
theorem dX12_addFix_11 : decode cX12_addFix 11 = .ok (.ireturn, 1) := by decide +kernel
theorem dX12_addFix_12 : decode cX12_addFix 12 = .ok (.aload_n 0, 1) := by decide +kernel
theorem dX12_addFix_13 : decode cX12_addFix 13 = .ok (.getfield 46, 3) := by decide +kernel
theorem dX12_addFix_16 : decode cX12_addFix 16 = .ok (.aload_n 0, 1) := by decide +kernel
theorem dX12_addFix_17 : decode cX12_addFix 17 = .ok (.getfield 223, 3) := by decide +kernel
theorem dX12_addFix_20 : decode cX12_addFix 20 = .ok (.iload_n 1, 1) := by decide +kernel
theorem dX12_addFix_21 : decode cX12_addFix 21 = .ok (.iastore, 1) := by decide +kernel
theorem dX12_addFix_22 : decode cX12_addFix 22 = .ok (.aload_n 0, 1) := by decide +kernel
theorem dX12_addFix_23 : decode cX12_addFix 23 = .ok (.getfield 49, 3) := by decide +kernel
theorem dX12_addFix_26 : decode cX12_addFix 26 = .ok (.aload_n 0, 1) := by decide +kernel
theorem dX12_addFix_27 : decode cX12_addFix 27 = .ok (.getfield 223, 3) := by decide +kernel
theorem dX12_addFix_30 : decode cX12_addFix 30 = .ok (.iload_n 2, 1) := by decide +kernel
theorem dX12_addFix_31 : decode cX12_addFix 31 = .ok (.iastore, 1) := by decide +kernel
theorem dX12_addFix_32 : decode cX12_addFix 32 = .ok (.aload_n 0, 1) := by decide +kernel
theorem dX12_addFix_33 : decode cX12_addFix 33 = .ok (.getfield 52, 3) := by decide +kernel
theorem dX12_addFix_36 : decode cX12_addFix 36 = .ok (.aload_n 0, 1) := by decide +kernel
theorem dX12_addFix_37 : decode cX12_addFix 37 = .ok (.getfield 223, 3) := by decide +kernel
theorem dX12_addFix_40 : decode cX12_addFix 40 = .ok (.lload_n 3, 1) := by decide +kernel
theorem dX12_addFix_41 : decode cX12_addFix 41 = .ok (.lastore, 1) := by decide +kernel
theorem dX12_addFix_42 : decode cX12_addFix 42 = .ok (.aload_n 0, 1) := by decide +kernel
theorem dX12_addFix_43 : decode cX12_addFix 43 = .ok (.getfield 56, 3) := by decide +kernel
theorem dX12_addFix_46 : decode cX12_addFix 46 = .ok (.aload_n 0, 1) := by decide +kernel
theorem dX12_addFix_47 : decode cX12_addFix 47 = .ok (.getfield 223, 3) := by decide +kernel
theorem dX12_addFix_50 : decode cX12_addFix 50 = .ok (.aload_n 0, 1) := by decide +kernel
theorem dX12_addFix_51 : decode cX12_addFix 51 = .ok (.getfield 201, 3) := by decide +kernel
theorem dX12_addFix_54 : decode cX12_addFix 54 = .ok (.iastore, 1) := by decide +kernel
theorem dX12_addFix_55 : decode cX12_addFix 55 = .ok (.aload_n 0, 1) := by decide +kernel
theorem dX12_addFix_56 : decode cX12_addFix 56 = .ok (.dup, 1) := by decide +kernel
theorem dX12_addFix_57 : decode cX12_addFix 57 = .ok (.getfield 223, 3) := by decide +kernel
theorem dX12_addFix_60 : decode cX12_addFix 60 = .ok (.iconst 1, 1) := by decide +kernel
theorem dX12_addFix_61 : decode cX12_addFix 61 = .ok (.iadd, 1) := by decide +kernel
theorem dX12_addFix_62 : decode cX12_addFix 62 = .ok (.putfield 223, 3) := by decide +kernel
theorem dX12_addFix_65 : decode cX12_addFix 65 = .ok (.aload_n 0, 1) := by decide +kernel
theorem dX12_addFix_66 : decode cX12_addFix 66 = .ok (.getfield 223, 3) := by decide +kernel
theorem dX12_addFix_69 : decode cX12_addFix 69 = .ok (.ireturn, 1) := by decide +kernel
set_option maxRecDepth 20000 in
theorem ggX12_fix_X12_isBody : GoodIn wsX12_fix wsX12_isBody := goodIn_r _ [7, 8, 21, 22, 23, 24, 25, 26, 27, 28, 29, 30, 31, 32, 33, 34, 35, 36, 37, 38, 39, 40, 41, 42, 43, 44, 45, 46, 47, 48, 49, 50, 51, 52, 53, 54, 55, 56, 57, 58, 59, 60, 61, 62, 63, 64, 65, 66, 67, 68, 69, 70, 71, 72, 73, 74, 75, 76, 77, 78, 79, 80, 81, 82, 83, 84, 85, 86, 87, 88, 89, 90, 91, 92, 93, 94, 95, 96, 97, 98, 99] (by decide +kernel) (by decide +kernel)
set_option maxRecDepth 20000 in
theorem gX12_fix_X12_isBody : GoodIn wsX12_fix (wsV RX12 193 RX12 yX12_isBody wsX12_isBody) := goodIn_app (goodIn_of _ (by decide +kernel)) ggX12_fix_X12_isBody
set_option maxRecDepth 20000 in
theorem ggX12_fix_X12_within : GoodIn wsX12_fix wsX12_within := goodIn_r _ [11] (by decide +kernel) (by decide +kernel)
set_option maxRecDepth 20000 in
theorem gX12_fix_X12_within : GoodIn wsX12_fix (va_wsS RX12 186 yX12_within wsX12_within) := goodIn_app (goodIn_of _ (by decide +kernel)) ggX12_fix_X12_within
set_option maxRecDepth 20000 in
theorem ggX12_fix_X12_addFix : GoodIn wsX12_fix wsX12_addFix := goodIn_r _ [15, 16, 17, 18, 19, 20, 2, 21, 22, 23, 24, 25, 26, 27, 28, 29, 30, 31, 32, 33, 34, 35, 36, 37, 38, 39, 40, 41, 42, 43, 44, 45, 46, 47, 48, 49, 50, 51, 52, 53, 54, 55, 56, 57, 58, 59, 60, 61, 62, 63, 64, 65, 66, 67, 68, 69, 70, 71, 72, 73, 74, 75, 76, 77, 78, 79, 80, 81, 82, 83, 84, 85, 86, 87, 88, 89, 90, 91, 92, 93, 94, 95, 96, 97, 98, 99] (by decide +kernel) (by decide +kernel)
set_option maxRecDepth 20000 in
theorem gX12_fix_X12_addFix : GoodIn wsX12_fix (wsV RX12 242 RX12 yX12_addFix wsX12_addFix) := goodIn_app (goodIn_of _ (by decide +kernel)) ggX12_fix_X12_addFix
theorem dX12_fix_0 : decode cX12_fix 0 = .ok (.aload_n 0, 1) := by decide +kernel
theorem dX12_fix_1 : decode cX12_fix 1 = .ok (.iload_n 1, 1) := by decide +kernel
theorem dX12_fix_2 : decode cX12_fix 2 = .ok (.invokevirtual 193, 3) := by decide +kernel
theorem dX12_fix_5 : decode cX12_fix 5 = .ok (.ifCond .eq 30, 3) := by decide +kernel
theorem dX12_fix_8 : decode cX12_fix 8 = .ok (.iload_n 2, 1) := by decide +kernel
theorem dX12_fix_9 : decode cX12_fix 9 = .ok (.aload_n 0, 1) := by decide +kernel
theorem dX12_fix_10 : decode cX12_fix 10 = .ok (.getfield 31, 3) := by decide +kernel
theorem dX12_fix_13 : decode cX12_fix 13 = .ok (.iload_n 1, 1) := by decide +kernel
theorem dX12_fix_14 : decode cX12_fix 14 = .ok (.iaload, 1) := by decide +kernel
theorem dX12_fix_15 : decode cX12_fix 15 = .ok (.aload_n 0, 1) := by decide +kernel
theorem dX12_fix_16 : decode cX12_fix 16 = .ok (.getfield 201, 3) := by decide +kernel
theorem dX12_fix_19 : decode cX12_fix 19 = .ok (.invokestatic 186, 3) := by decide +kernel
theorem dX12_fix_22 : decode cX12_fix 22 = .ok (.ifCond .eq 13, 3) := by decide +kernel
theorem dX12_fix_25 : decode cX12_fix 25 = .ok (.aload_n 0, 1) := by decide +kernel
theorem dX12_fix_26 : decode cX12_fix 26 = .ok (.iload_n 1, 1) := by decide +kernel
theorem dX12_fix_27 : decode cX12_fix 27 = .ok (.iload_n 2, 1) := by decide +kernel
theorem dX12_fix_28 : decode cX12_fix 28 = .ok (.lload_n 3, 1) := by decide +kernel
theorem dX12_fix_29 : decode cX12_fix 29 = .ok (.invokevirtual 242, 3) := by decide +kernel
theorem dX12_fix_32 : decode cX12_fix 32 = .ok (.goto 5, 3) := by decide +kernel
theorem dX12_fix_35 : decode cX12_fix 35 = .ok (.bipush (-2), 2) := by decide +kernel
theorem dX12_fix_37 : decode cX12_fix 37 = .ok (.ireturn, 1) := by decide +kernel
set_option maxRecDepth 20000 in
theorem ggX12_hearer_X12_isCell : GoodIn wsX12_hearer wsX12_isCell := goodIn_r _ [6, 7, 8, 5, 9] (by decide +kernel) (by decide +kernel)
set_option maxRecDepth 20000 in
theorem gX12_hearer_X12_isCell : GoodIn wsX12_hearer (va_wsS RX12 217 yX12_isCell wsX12_isCell) := goodIn_app (goodIn_of _ (by decide +kernel)) ggX12_hearer_X12_isCell
theorem dX12_hearer_0 : decode cX12_hearer 0 = .ok (.iload_n 1, 1) := by decide +kernel
theorem dX12_hearer_1 : decode cX12_hearer 1 = .ok (.invokestatic 217, 3) := by decide +kernel
theorem dX12_hearer_4 : decode cX12_hearer 4 = .ok (.ifCond .ne 6, 3) := by decide +kernel
theorem dX12_hearer_7 : decode cX12_hearer 7 = .ok (.bipush (-2), 2) := by decide +kernel
theorem dX12_hearer_9 : decode cX12_hearer 9 = .ok (.ireturn, 1) := by decide +kernel
theorem dX12_hearer_10 : decode cX12_hearer 10 = .ok (.aload_n 0, 1) := by decide +kernel
theorem dX12_hearer_11 : decode cX12_hearer 11 = .ok (.getfield 246, 3) := by decide +kernel
theorem dX12_hearer_14 : decode cX12_hearer 14 = .ok (.bipush 6, 2) := by decide +kernel
theorem dX12_hearer_16 : decode cX12_hearer 16 = .ok (.if_icmp .ne 6, 3) := by decide +kernel
theorem dX12_hearer_19 : decode cX12_hearer 19 = .ok (.bipush (-4), 2) := by decide +kernel
theorem dX12_hearer_21 : decode cX12_hearer 21 = .ok (.ireturn, 1) := by decide +kernel
theorem dX12_hearer_22 : decode cX12_hearer 22 = .ok (.aload_n 0, 1) := by decide +kernel
theorem dX12_hearer_23 : decode cX12_hearer 23 = .ok (.getfield 59, 3) := by decide +kernel
theorem dX12_hearer_26 : decode cX12_hearer 26 = .ok (.aload_n 0, 1) := by decide +kernel
theorem dX12_hearer_27 : decode cX12_hearer 27 = .ok (.getfield 246, 3) := by decide +kernel
theorem dX12_hearer_30 : decode cX12_hearer 30 = .ok (.iload_n 1, 1) := by decide +kernel
theorem dX12_hearer_31 : decode cX12_hearer 31 = .ok (.iastore, 1) := by decide +kernel
theorem dX12_hearer_32 : decode cX12_hearer 32 = .ok (.aload_n 0, 1) := by decide +kernel
theorem dX12_hearer_33 : decode cX12_hearer 33 = .ok (.dup, 1) := by decide +kernel
theorem dX12_hearer_34 : decode cX12_hearer 34 = .ok (.getfield 246, 3) := by decide +kernel
theorem dX12_hearer_37 : decode cX12_hearer 37 = .ok (.iconst 1, 1) := by decide +kernel
theorem dX12_hearer_38 : decode cX12_hearer 38 = .ok (.iadd, 1) := by decide +kernel
theorem dX12_hearer_39 : decode cX12_hearer 39 = .ok (.putfield 246, 3) := by decide +kernel
theorem dX12_hearer_42 : decode cX12_hearer 42 = .ok (.aload_n 0, 1) := by decide +kernel
theorem dX12_hearer_43 : decode cX12_hearer 43 = .ok (.getfield 246, 3) := by decide +kernel
theorem dX12_hearer_46 : decode cX12_hearer 46 = .ok (.iconst 1, 1) := by decide +kernel
theorem dX12_hearer_47 : decode cX12_hearer 47 = .ok (.isub, 1) := by decide +kernel
theorem dX12_hearer_48 : decode cX12_hearer 48 = .ok (.ireturn, 1) := by decide +kernel
set_option maxRecDepth 20000 in
theorem ggX12_isWave_X12_within : GoodIn wsX12_isWave wsX12_within := goodIn_r _ [4] (by decide +kernel) (by decide +kernel)
set_option maxRecDepth 20000 in
theorem gX12_isWave_X12_within : GoodIn wsX12_isWave (va_wsS RX12 186 yX12_within wsX12_within) := goodIn_app (goodIn_of _ (by decide +kernel)) ggX12_isWave_X12_within
theorem dX12_isWave_0 : decode cX12_isWave 0 = .ok (.iload_n 0, 1) := by decide +kernel
theorem dX12_isWave_1 : decode cX12_isWave 1 = .ok (.iconst 0, 1) := by decide +kernel
theorem dX12_isWave_2 : decode cX12_isWave 2 = .ok (.iconst 3, 1) := by decide +kernel
theorem dX12_isWave_3 : decode cX12_isWave 3 = .ok (.invokestatic 186, 3) := by decide +kernel
theorem dX12_isWave_6 : decode cX12_isWave 6 = .ok (.ireturn, 1) := by decide +kernel
set_option maxRecDepth 20000 in
theorem ggX12_wave_X12_isWave : GoodIn wsX12_wave wsX12_isWave := goodIn_r _ [6, 7, 8, 5, 9] (by decide +kernel) (by decide +kernel)
set_option maxRecDepth 20000 in
theorem gX12_wave_X12_isWave : GoodIn wsX12_wave (va_wsS RX12 249 yX12_isWave wsX12_isWave) := goodIn_app (goodIn_of _ (by decide +kernel)) ggX12_wave_X12_isWave
set_option maxRecDepth 20000 in
theorem ggX12_wave_X12_within : GoodIn wsX12_wave wsX12_within := goodIn_r _ [9] (by decide +kernel) (by decide +kernel)
set_option maxRecDepth 20000 in
theorem gX12_wave_X12_within : GoodIn wsX12_wave (va_wsS RX12 186 yX12_within wsX12_within) := goodIn_app (goodIn_of _ (by decide +kernel)) ggX12_wave_X12_within
theorem dX12_wave_0 : decode cX12_wave 0 = .ok (.iload_n 1, 1) := by decide +kernel
theorem dX12_wave_1 : decode cX12_wave 1 = .ok (.invokestatic 249, 3) := by decide +kernel
theorem dX12_wave_4 : decode cX12_wave 4 = .ok (.ifCond .eq 33, 3) := by decide +kernel
theorem dX12_wave_7 : decode cX12_wave 7 = .ok (.iload_n 2, 1) := by decide +kernel
theorem dX12_wave_8 : decode cX12_wave 8 = .ok (.iconst 0, 1) := by decide +kernel
theorem dX12_wave_9 : decode cX12_wave 9 = .ok (.iconst 1, 1) := by decide +kernel
theorem dX12_wave_10 : decode cX12_wave 10 = .ok (.invokestatic 186, 3) := by decide +kernel
theorem dX12_wave_13 : decode cX12_wave 13 = .ok (.ifCond .eq 24, 3) := by decide +kernel
theorem dX12_wave_16 : decode cX12_wave 16 = .ok (.iload_n 3, 1) := by decide +kernel
theorem dX12_wave_17 : decode cX12_wave 17 = .ok (.iconst 0, 1) := by decide +kernel
theorem dX12_wave_18 : decode cX12_wave 18 = .ok (.bipush 9, 2) := by decide +kernel
theorem dX12_wave_20 : decode cX12_wave 20 = .ok (.invokestatic 186, 3) := by decide +kernel
theorem dX12_wave_23 : decode cX12_wave 23 = .ok (.ifCond .eq 14, 3) := by decide +kernel
theorem dX12_wave_26 : decode cX12_wave 26 = .ok (.iload 4, 2) := by decide +kernel
theorem dX12_wave_28 : decode cX12_wave 28 = .ok (.iload_n 3, 1) := by decide +kernel
theorem dX12_wave_29 : decode cX12_wave 29 = .ok (.bipush 9, 2) := by decide +kernel
theorem dX12_wave_31 : decode cX12_wave 31 = .ok (.invokestatic 186, 3) := by decide +kernel
theorem dX12_wave_34 : decode cX12_wave 34 = .ok (.ifCond .ne 6, 3) := by decide +kernel
theorem dX12_wave_37 : decode cX12_wave 37 = .ok (.bipush (-2), 2) := by decide +kernel
theorem dX12_wave_39 : decode cX12_wave 39 = .ok (.ireturn, 1) := by decide +kernel
theorem dX12_wave_40 : decode cX12_wave 40 = .ok (.iconst 2, 1) := by decide +kernel
theorem dX12_wave_41 : decode cX12_wave 41 = .ok (.iload_n 1, 1) := by decide +kernel
theorem dX12_wave_42 : decode cX12_wave 42 = .ok (.imul, 1) := by decide +kernel
theorem dX12_wave_43 : decode cX12_wave 43 = .ok (.iload_n 2, 1) := by decide +kernel
theorem dX12_wave_44 : decode cX12_wave 44 = .ok (.iadd, 1) := by decide +kernel
theorem dX12_wave_45 : decode cX12_wave 45 = .ok (.istore 5, 2) := by decide +kernel
theorem dX12_wave_47 : decode cX12_wave 47 = .ok (.bipush 10, 2) := by decide +kernel
theorem dX12_wave_49 : decode cX12_wave 49 = .ok (.aload_n 0, 1) := by decide +kernel
theorem dX12_wave_50 : decode cX12_wave 50 = .ok (.getfield 62, 3) := by decide +kernel
theorem dX12_wave_53 : decode cX12_wave 53 = .ok (.iload 5, 2) := by decide +kernel
theorem dX12_wave_55 : decode cX12_wave 55 = .ok (.iaload, 1) := by decide +kernel
theorem dX12_wave_56 : decode cX12_wave 56 = .ok (.imul, 1) := by decide +kernel
theorem dX12_wave_57 : decode cX12_wave 57 = .ok (.aload_n 0, 1) := by decide +kernel
theorem dX12_wave_58 : decode cX12_wave 58 = .ok (.getfield 65, 3) := by decide +kernel
theorem dX12_wave_61 : decode cX12_wave 61 = .ok (.iload 5, 2) := by decide +kernel
theorem dX12_wave_63 : decode cX12_wave 63 = .ok (.iaload, 1) := by decide +kernel
theorem dX12_wave_64 : decode cX12_wave 64 = .ok (.iadd, 1) := by decide +kernel
theorem dX12_wave_65 : decode cX12_wave 65 = .ok (.istore 6, 2) := by decide +kernel
theorem dX12_wave_67 : decode cX12_wave 67 = .ok (.aload_n 0, 1) := by decide +kernel
theorem dX12_wave_68 : decode cX12_wave 68 = .ok (.getfield 62, 3) := by decide +kernel
theorem dX12_wave_71 : decode cX12_wave 71 = .ok (.iload 5, 2) := by decide +kernel
theorem dX12_wave_73 : decode cX12_wave 73 = .ok (.iload_n 3, 1) := by decide +kernel
theorem dX12_wave_74 : decode cX12_wave 74 = .ok (.iastore, 1) := by decide +kernel
theorem dX12_wave_75 : decode cX12_wave 75 = .ok (.aload_n 0, 1) := by decide +kernel
theorem dX12_wave_76 : decode cX12_wave 76 = .ok (.getfield 65, 3) := by decide +kernel
theorem dX12_wave_79 : decode cX12_wave 79 = .ok (.iload 5, 2) := by decide +kernel
theorem dX12_wave_81 : decode cX12_wave 81 = .ok (.iload 4, 2) := by decide +kernel
theorem dX12_wave_83 : decode cX12_wave 83 = .ok (.iastore, 1) := by decide +kernel
theorem dX12_wave_84 : decode cX12_wave 84 = .ok (.iload 6, 2) := by decide +kernel
theorem dX12_wave_86 : decode cX12_wave 86 = .ok (.ireturn, 1) := by decide +kernel
set_option maxRecDepth 20000 in
theorem ggX12_call_X12_isBody : GoodIn wsX12_call wsX12_isBody := goodIn_r _ [11, 12, 19, 20, 21, 22, 23, 24, 25, 26, 27, 28, 29, 30, 31, 32, 33, 34, 35, 36, 37, 38, 39, 40, 41, 42, 43, 44, 45, 46, 47, 48, 49, 50, 51, 52, 53, 54, 55, 56, 57, 58, 59, 60, 61, 62, 63, 64, 65, 66, 67, 68, 69, 70, 71, 72, 73, 74, 75, 76, 77, 78, 79, 80, 81, 82, 83, 84, 85, 86, 87, 88, 89, 90, 91, 92, 93, 94, 95, 96, 97] (by decide +kernel) (by decide +kernel)
set_option maxRecDepth 20000 in
theorem gX12_call_X12_isBody : GoodIn wsX12_call (wsV RX12 193 RX12 yX12_isBody wsX12_isBody) := goodIn_app (goodIn_of _ (by decide +kernel)) ggX12_call_X12_isBody
set_option maxRecDepth 20000 in
theorem ggX12_call_X12_isWave : GoodIn wsX12_call wsX12_isWave := goodIn_r _ [15, 16, 17, 10, 18] (by decide +kernel) (by decide +kernel)
set_option maxRecDepth 20000 in
theorem gX12_call_X12_isWave : GoodIn wsX12_call (va_wsS RX12 249 yX12_isWave wsX12_isWave) := goodIn_app (goodIn_of _ (by decide +kernel)) ggX12_call_X12_isWave
theorem dX12_call_0 : decode cX12_call 0 = .ok (.aload_n 0, 1) := by decide +kernel
theorem dX12_call_1 : decode cX12_call 1 = .ok (.iload_n 1, 1) := by decide +kernel
theorem dX12_call_2 : decode cX12_call 2 = .ok (.invokevirtual 193, 3) := by decide +kernel
theorem dX12_call_5 : decode cX12_call 5 = .ok (.ifCond .eq 10, 3) := by decide +kernel
theorem dX12_call_8 : decode cX12_call 8 = .ok (.iload_n 2, 1) := by decide +kernel
theorem dX12_call_9 : decode cX12_call 9 = .ok (.invokestatic 249, 3) := by decide +kernel
theorem dX12_call_12 : decode cX12_call 12 = .ok (.ifCond .ne 6, 3) := by decide +kernel
theorem dX12_call_15 : decode cX12_call 15 = .ok (.bipush (-2), 2) := by decide +kernel
theorem dX12_call_17 : decode cX12_call 17 = .ok (.ireturn, 1) := by decide +kernel
theorem dX12_call_18 : decode cX12_call 18 = .ok (.aload_n 0, 1) := by decide +kernel
theorem dX12_call_19 : decode cX12_call 19 = .ok (.getfield 252, 3) := by decide +kernel
theorem dX12_call_22 : decode cX12_call 22 = .ok (.bipush 20, 2) := by decide +kernel
theorem dX12_call_24 : decode cX12_call 24 = .ok (.if_icmp .ne 6, 3) := by decide +kernel
theorem dX12_call_27 : decode cX12_call 27 = .ok (.bipush (-4), 2) := by decide +kernel
theorem dX12_call_29 : decode cX12_call 29 = .ok (.ireturn, 1) := by decide +kernel
theorem dX12_call_30 : decode cX12_call 30 = .ok (.aload_n 0, 1) := by decide +kernel
theorem dX12_call_31 : decode cX12_call 31 = .ok (.getfield 68, 3) := by decide +kernel
theorem dX12_call_34 : decode cX12_call 34 = .ok (.aload_n 0, 1) := by decide +kernel
theorem dX12_call_35 : decode cX12_call 35 = .ok (.getfield 252, 3) := by decide +kernel
theorem dX12_call_38 : decode cX12_call 38 = .ok (.iload_n 1, 1) := by decide +kernel
theorem dX12_call_39 : decode cX12_call 39 = .ok (.iastore, 1) := by decide +kernel
theorem dX12_call_40 : decode cX12_call 40 = .ok (.aload_n 0, 1) := by decide +kernel
theorem dX12_call_41 : decode cX12_call 41 = .ok (.getfield 71, 3) := by decide +kernel
theorem dX12_call_44 : decode cX12_call 44 = .ok (.aload_n 0, 1) := by decide +kernel
theorem dX12_call_45 : decode cX12_call 45 = .ok (.getfield 252, 3) := by decide +kernel
theorem dX12_call_48 : decode cX12_call 48 = .ok (.iload_n 2, 1) := by decide +kernel
theorem dX12_call_49 : decode cX12_call 49 = .ok (.iastore, 1) := by decide +kernel
theorem dX12_call_50 : decode cX12_call 50 = .ok (.aload_n 0, 1) := by decide +kernel
theorem dX12_call_51 : decode cX12_call 51 = .ok (.getfield 74, 3) := by decide +kernel
theorem dX12_call_54 : decode cX12_call 54 = .ok (.aload_n 0, 1) := by decide +kernel
theorem dX12_call_55 : decode cX12_call 55 = .ok (.getfield 252, 3) := by decide +kernel
theorem dX12_call_58 : decode cX12_call 58 = .ok (.aload_n 0, 1) := by decide +kernel
theorem dX12_call_59 : decode cX12_call 59 = .ok (.getfield 201, 3) := by decide +kernel
theorem dX12_call_62 : decode cX12_call 62 = .ok (.iastore, 1) := by decide +kernel
theorem dX12_call_63 : decode cX12_call 63 = .ok (.aload_n 0, 1) := by decide +kernel
theorem dX12_call_64 : decode cX12_call 64 = .ok (.getfield 77, 3) := by decide +kernel
theorem dX12_call_67 : decode cX12_call 67 = .ok (.aload_n 0, 1) := by decide +kernel
theorem dX12_call_68 : decode cX12_call 68 = .ok (.getfield 252, 3) := by decide +kernel
theorem dX12_call_71 : decode cX12_call 71 = .ok (.lload_n 3, 1) := by decide +kernel
theorem dX12_call_72 : decode cX12_call 72 = .ok (.lastore, 1) := by decide +kernel
theorem dX12_call_73 : decode cX12_call 73 = .ok (.aload_n 0, 1) := by decide +kernel
theorem dX12_call_74 : decode cX12_call 74 = .ok (.dup, 1) := by decide +kernel
theorem dX12_call_75 : decode cX12_call 75 = .ok (.getfield 252, 3) := by decide +kernel
theorem dX12_call_78 : decode cX12_call 78 = .ok (.iconst 1, 1) := by decide +kernel
theorem dX12_call_79 : decode cX12_call 79 = .ok (.iadd, 1) := by decide +kernel
theorem dX12_call_80 : decode cX12_call 80 = .ok (.putfield 252, 3) := by decide +kernel
theorem dX12_call_83 : decode cX12_call 83 = .ok (.aload_n 0, 1) := by decide +kernel
theorem dX12_call_84 : decode cX12_call 84 = .ok (.getfield 252, 3) := by decide +kernel
theorem dX12_call_87 : decode cX12_call 87 = .ok (.iconst 1, 1) := by decide +kernel
theorem dX12_call_88 : decode cX12_call 88 = .ok (.isub, 1) := by decide +kernel
theorem dX12_call_89 : decode cX12_call 89 = .ok (.ireturn, 1) := by decide +kernel
theorem dX12_isCall_0 : decode cX12_isCall 0 = .ok (.iload_n 1, 1) := by decide +kernel
theorem dX12_isCall_1 : decode cX12_isCall 1 = .ok (.ifCond .lt 15, 3) := by decide +kernel
theorem dX12_isCall_4 : decode cX12_isCall 4 = .ok (.iload_n 1, 1) := by decide +kernel
theorem dX12_isCall_5 : decode cX12_isCall 5 = .ok (.aload_n 0, 1) := by decide +kernel
theorem dX12_isCall_6 : decode cX12_isCall 6 = .ok (.getfield 252, 3) := by decide +kernel
theorem dX12_isCall_9 : decode cX12_isCall 9 = .ok (.if_icmp .ge 7, 3) := by decide +kernel
theorem dX12_isCall_12 : decode cX12_isCall 12 = .ok (.iconst 1, 1) := by decide +kernel
theorem dX12_isCall_13 : decode cX12_isCall 13 = .ok (.goto 4, 3) := by decide +kernel
theorem dX12_isCall_16 : decode cX12_isCall 16 = .ok (.iconst 0, 1) := by decide +kernel
theorem dX12_isCall_17 : decode cX12_isCall 17 = .ok (.ireturn, 1) := by decide +kernel
set_option maxRecDepth 20000 in
theorem ggX12_canHear_X12_isCall : GoodIn wsX12_canHear wsX12_isCall := goodIn_r _ [13, 14, 49, 50, 51, 52, 53, 54, 55, 56, 57, 58, 59, 60, 61, 62, 63, 64, 65, 66, 67, 68, 69, 70, 71, 72, 73, 74, 75, 76, 77, 78, 79, 80, 81, 82, 83, 84, 85, 86, 87, 88, 89, 90, 91, 92, 93, 94, 95, 96, 97, 98, 99, 100, 101, 102, 103, 104, 105, 106, 107, 108, 109, 110, 111, 112, 113, 114, 115, 116, 117, 118, 119, 120, 121, 122, 123, 124, 125, 126, 127] (by decide +kernel) (by decide +kernel)
set_option maxRecDepth 20000 in
theorem gX12_canHear_X12_isCall : GoodIn wsX12_canHear (wsV RX12 255 RX12 yX12_isCall wsX12_isCall) := goodIn_app (goodIn_of _ (by decide +kernel)) ggX12_canHear_X12_isCall
set_option maxRecDepth 20000 in
theorem ggX12_canHear_X12_within : GoodIn wsX12_canHear wsX12_within := goodIn_r _ [17] (by decide +kernel) (by decide +kernel)
set_option maxRecDepth 20000 in
theorem gX12_canHear_X12_within : GoodIn wsX12_canHear (va_wsS RX12 186 yX12_within wsX12_within) := goodIn_app (goodIn_of _ (by decide +kernel)) ggX12_canHear_X12_within
set_option maxRecDepth 20000 in
theorem ggX12_canHear_X12_patchOf : GoodIn wsX12_canHear wsX12_patchOf := goodIn_r _ [21, 22, 23, 24, 25, 26, 12, 27, 28, 29, 30, 31, 32, 33, 34, 35, 36, 37, 38, 39, 40, 41, 42, 15, 16, 17, 49, 50, 51, 52, 53, 54, 55, 56, 57, 58, 59, 60, 61, 62, 63, 64, 65, 66, 67, 68, 69, 70, 71, 72, 73, 74, 75, 76, 77, 78, 79, 80, 81, 82, 83, 84, 85, 86, 87, 88, 89, 90, 91, 92, 93, 94, 95, 96, 97, 98, 99, 100, 101, 102, 103, 104, 105, 106, 107, 108, 109, 110, 111, 112, 113, 114, 115, 116, 117, 118, 119, 120, 121, 122, 123, 124, 125, 126, 127] (by decide +kernel) (by decide +kernel)
set_option maxRecDepth 20000 in
theorem gX12_canHear_X12_patchOf : GoodIn wsX12_canHear (wsV RX12 238 RX12 yX12_patchOf wsX12_patchOf) := goodIn_app (goodIn_of _ (by decide +kernel)) ggX12_canHear_X12_patchOf
set_option maxRecDepth 20000 in
theorem ggX12_canHear_X12_apart : GoodIn wsX12_canHear wsX12_apart := goodIn_r _ [45, 46, 47, 12, 48] (by decide +kernel) (by decide +kernel)
set_option maxRecDepth 20000 in
theorem gX12_canHear_X12_apart : GoodIn wsX12_canHear (va_wsS RX12 258 yX12_apart wsX12_apart) := goodIn_app (goodIn_of _ (by decide +kernel)) ggX12_canHear_X12_apart
theorem dX12_canHear_0 : decode cX12_canHear 0 = .ok (.aload_n 0, 1) := by decide +kernel
theorem dX12_canHear_1 : decode cX12_canHear 1 = .ok (.iload_n 1, 1) := by decide +kernel
theorem dX12_canHear_2 : decode cX12_canHear 2 = .ok (.invokevirtual 255, 3) := by decide +kernel
theorem dX12_canHear_5 : decode cX12_canHear 5 = .ok (.ifCond .eq 15, 3) := by decide +kernel
theorem dX12_canHear_8 : decode cX12_canHear 8 = .ok (.iload_n 2, 1) := by decide +kernel
theorem dX12_canHear_9 : decode cX12_canHear 9 = .ok (.iconst 0, 1) := by decide +kernel
theorem dX12_canHear_10 : decode cX12_canHear 10 = .ok (.aload_n 0, 1) := by decide +kernel
theorem dX12_canHear_11 : decode cX12_canHear 11 = .ok (.getfield 201, 3) := by decide +kernel
theorem dX12_canHear_14 : decode cX12_canHear 14 = .ok (.invokestatic 186, 3) := by decide +kernel
theorem dX12_canHear_17 : decode cX12_canHear 17 = .ok (.ifCond .ne 6, 3) := by decide +kernel
theorem dX12_canHear_20 : decode cX12_canHear 20 = .ok (.bipush (-2), 2) := by decide +kernel
theorem dX12_canHear_22 : decode cX12_canHear 22 = .ok (.ireturn, 1) := by decide +kernel
theorem dX12_canHear_23 : decode cX12_canHear 23 = .ok (.aload_n 0, 1) := by decide +kernel
theorem dX12_canHear_24 : decode cX12_canHear 24 = .ok (.getfield 74, 3) := by decide +kernel
theorem dX12_canHear_27 : decode cX12_canHear 27 = .ok (.iload_n 1, 1) := by decide +kernel
theorem dX12_canHear_28 : decode cX12_canHear 28 = .ok (.iaload, 1) := by decide +kernel
theorem dX12_canHear_29 : decode cX12_canHear 29 = .ok (.bipush 24, 2) := by decide +kernel
theorem dX12_canHear_31 : decode cX12_canHear 31 = .ok (.irem, 1) := by decide +kernel
theorem dX12_canHear_32 : decode cX12_canHear 32 = .ok (.istore_n 3, 1) := by decide +kernel
theorem dX12_canHear_33 : decode cX12_canHear 33 = .ok (.iconst 2, 1) := by decide +kernel
theorem dX12_canHear_34 : decode cX12_canHear 34 = .ok (.aload_n 0, 1) := by decide +kernel
theorem dX12_canHear_35 : decode cX12_canHear 35 = .ok (.getfield 71, 3) := by decide +kernel
theorem dX12_canHear_38 : decode cX12_canHear 38 = .ok (.iload_n 1, 1) := by decide +kernel
theorem dX12_canHear_39 : decode cX12_canHear 39 = .ok (.iaload, 1) := by decide +kernel
theorem dX12_canHear_40 : decode cX12_canHear 40 = .ok (.imul, 1) := by decide +kernel
theorem dX12_canHear_41 : decode cX12_canHear 41 = .ok (.iload_n 3, 1) := by decide +kernel
theorem dX12_canHear_42 : decode cX12_canHear 42 = .ok (.bipush 6, 2) := by decide +kernel
theorem dX12_canHear_44 : decode cX12_canHear 44 = .ok (.if_icmp .lt 9, 3) := by decide +kernel
theorem dX12_canHear_47 : decode cX12_canHear 47 = .ok (.iload_n 3, 1) := by decide +kernel
theorem dX12_canHear_48 : decode cX12_canHear 48 = .ok (.bipush 17, 2) := by decide +kernel
theorem dX12_canHear_50 : decode cX12_canHear 50 = .ok (.if_icmp .le 7, 3) := by decide +kernel
theorem dX12_canHear_53 : decode cX12_canHear 53 = .ok (.iconst 1, 1) := by decide +kernel
theorem dX12_canHear_54 : decode cX12_canHear 54 = .ok (.goto 4, 3) := by decide +kernel
theorem dX12_canHear_57 : decode cX12_canHear 57 = .ok (.iconst 0, 1) := by decide +kernel
theorem dX12_canHear_58 : decode cX12_canHear 58 = .ok (.iadd, 1) := by decide +kernel
theorem dX12_canHear_59 : decode cX12_canHear 59 = .ok (.istore 4, 2) := by decide +kernel
theorem dX12_canHear_61 : decode cX12_canHear 61 = .ok (.aload_n 0, 1) := by decide +kernel
theorem dX12_canHear_62 : decode cX12_canHear 62 = .ok (.aload_n 0, 1) := by decide +kernel
theorem dX12_canHear_63 : decode cX12_canHear 63 = .ok (.getfield 68, 3) := by decide +kernel
theorem dX12_canHear_66 : decode cX12_canHear 66 = .ok (.iload_n 1, 1) := by decide +kernel
theorem dX12_canHear_67 : decode cX12_canHear 67 = .ok (.iaload, 1) := by decide +kernel
theorem dX12_canHear_68 : decode cX12_canHear 68 = .ok (.aload_n 0, 1) := by decide +kernel
theorem dX12_canHear_69 : decode cX12_canHear 69 = .ok (.getfield 74, 3) := by decide +kernel
theorem dX12_canHear_72 : decode cX12_canHear 72 = .ok (.iload_n 1, 1) := by decide +kernel
theorem dX12_canHear_73 : decode cX12_canHear 73 = .ok (.iaload, 1) := by decide +kernel
theorem dX12_canHear_74 : decode cX12_canHear 74 = .ok (.iload_n 2, 1) := by decide +kernel
theorem dX12_canHear_75 : decode cX12_canHear 75 = .ok (.invokevirtual 238, 3) := by decide +kernel
theorem dX12_canHear_78 : decode cX12_canHear 78 = .ok (.lstore 5, 2) := by decide +kernel
theorem dX12_canHear_80 : decode cX12_canHear 80 = .ok (.iconst 0, 1) := by decide +kernel
theorem dX12_canHear_81 : decode cX12_canHear 81 = .ok (.istore 7, 2) := by decide +kernel
theorem dX12_canHear_83 : decode cX12_canHear 83 = .ok (.iconst 0, 1) := by decide +kernel
theorem dX12_canHear_84 : decode cX12_canHear 84 = .ok (.istore 8, 2) := by decide +kernel
theorem dX12_canHear_86 : decode cX12_canHear 86 = .ok (.iload 8, 2) := by decide +kernel
theorem dX12_canHear_88 : decode cX12_canHear 88 = .ok (.aload_n 0, 1) := by decide +kernel
theorem dX12_canHear_89 : decode cX12_canHear 89 = .ok (.getfield 246, 3) := by decide +kernel
theorem dX12_canHear_92 : decode cX12_canHear 92 = .ok (.if_icmp .ge 82, 3) := by decide +kernel
theorem dX12_canHear_95 : decode cX12_canHear 95 = .ok (.iconst 0, 1) := by decide +kernel
theorem dX12_canHear_96 : decode cX12_canHear 96 = .ok (.istore 9, 2) := by decide +kernel
theorem dX12_canHear_98 : decode cX12_canHear 98 = .ok (.iload 9, 2) := by decide +kernel
theorem dX12_canHear_100 : decode cX12_canHear 100 = .ok (.bipush 64, 2) := by decide +kernel
theorem dX12_canHear_102 : decode cX12_canHear 102 = .ok (.if_icmp .ge 66, 3) := by decide +kernel
theorem dX12_canHear_105 : decode cX12_canHear 105 = .ok (.iload 7, 2) := by decide +kernel
theorem dX12_canHear_107 : decode cX12_canHear 107 = .ok (.lload 5, 2) := by decide +kernel
theorem dX12_canHear_109 : decode cX12_canHear 109 = .ok (.iload 9, 2) := by decide +kernel
theorem dX12_canHear_111 : decode cX12_canHear 111 = .ok (.lushr, 1) := by decide +kernel
theorem dX12_canHear_112 : decode cX12_canHear 112 = .ok (.lconst 1, 1) := by decide +kernel
theorem dX12_canHear_113 : decode cX12_canHear 113 = .ok (.land, 1) := by decide +kernel
theorem dX12_canHear_114 : decode cX12_canHear 114 = .ok (.lconst 1, 1) := by decide +kernel
theorem dX12_canHear_115 : decode cX12_canHear 115 = .ok (.lcmp, 1) := by decide +kernel
theorem dX12_canHear_116 : decode cX12_canHear 116 = .ok (.ifCond .ne 42, 3) := by decide +kernel
theorem dX12_canHear_119 : decode cX12_canHear 119 = .ok (.iload 9, 2) := by decide +kernel
theorem dX12_canHear_121 : decode cX12_canHear 121 = .ok (.aload_n 0, 1) := by decide +kernel
theorem dX12_canHear_122 : decode cX12_canHear 122 = .ok (.getfield 59, 3) := by decide +kernel
theorem dX12_canHear_125 : decode cX12_canHear 125 = .ok (.iload 8, 2) := by decide +kernel
theorem dX12_canHear_127 : decode cX12_canHear 127 = .ok (.iaload, 1) := by decide +kernel
theorem dX12_canHear_128 : decode cX12_canHear 128 = .ok (.invokestatic 258, 3) := by decide +kernel
theorem dX12_canHear_131 : decode cX12_canHear 131 = .ok (.aload_n 0, 1) := by decide +kernel
theorem dX12_canHear_132 : decode cX12_canHear 132 = .ok (.getfield 62, 3) := by decide +kernel
theorem dX12_canHear_135 : decode cX12_canHear 135 = .ok (.iload 4, 2) := by decide +kernel
theorem dX12_canHear_137 : decode cX12_canHear 137 = .ok (.iaload, 1) := by decide +kernel
theorem dX12_canHear_138 : decode cX12_canHear 138 = .ok (.aload_n 0, 1) := by decide +kernel
theorem dX12_canHear_139 : decode cX12_canHear 139 = .ok (.getfield 65, 3) := by decide +kernel
theorem dX12_canHear_142 : decode cX12_canHear 142 = .ok (.iload 4, 2) := by decide +kernel
theorem dX12_canHear_144 : decode cX12_canHear 144 = .ok (.iaload, 1) := by decide +kernel
theorem dX12_canHear_145 : decode cX12_canHear 145 = .ok (.invokestatic 186, 3) := by decide +kernel
theorem dX12_canHear_148 : decode cX12_canHear 148 = .ok (.ifCond .eq 10, 3) := by decide +kernel
theorem dX12_canHear_151 : decode cX12_canHear 151 = .ok (.iconst 1, 1) := by decide +kernel
theorem dX12_canHear_152 : decode cX12_canHear 152 = .ok (.iload 8, 2) := by decide +kernel
theorem dX12_canHear_154 : decode cX12_canHear 154 = .ok (.ishl, 1) := by decide +kernel
theorem dX12_canHear_155 : decode cX12_canHear 155 = .ok (.goto 4, 3) := by decide +kernel
theorem dX12_canHear_158 : decode cX12_canHear 158 = .ok (.iconst 0, 1) := by decide +kernel
theorem dX12_canHear_159 : decode cX12_canHear 159 = .ok (.ior, 1) := by decide +kernel
theorem dX12_canHear_160 : decode cX12_canHear 160 = .ok (.istore 7, 2) := by decide +kernel
theorem dX12_canHear_162 : decode cX12_canHear 162 = .ok (.iinc 9 1, 3) := by decide +kernel
theorem dX12_canHear_165 : decode cX12_canHear 165 = .ok (.goto (-67), 3) := by decide +kernel
theorem dX12_canHear_168 : decode cX12_canHear 168 = .ok (.iinc 8 1, 3) := by decide +kernel
theorem dX12_canHear_171 : decode cX12_canHear 171 = .ok (.goto (-85), 3) := by decide +kernel
theorem dX12_canHear_174 : decode cX12_canHear 174 = .ok (.iload 7, 2) := by decide +kernel
theorem dX12_canHear_176 : decode cX12_canHear 176 = .ok (.ireturn, 1) := by decide +kernel
set_option maxRecDepth 20000 in
theorem ggX12_part_X12_isCall : GoodIn wsX12_part wsX12_isCall := goodIn_r _ [11, 12, 16, 17, 18, 19, 20, 21, 22, 23, 24, 25, 26, 27, 28, 29, 30, 31, 32, 33, 34, 35, 36, 37, 38, 39, 40, 41, 42, 43, 44, 45, 46, 47, 48, 49, 50, 51, 52, 53, 54, 55, 56, 57, 58, 59, 60, 61, 62, 63, 64, 65, 66, 67, 68, 69, 70, 71, 72, 73, 74, 75, 76, 77, 78, 79, 80, 81, 82, 83, 84, 85, 86, 87, 88, 89, 90, 91, 92, 93, 94] (by decide +kernel) (by decide +kernel)
set_option maxRecDepth 20000 in
theorem gX12_part_X12_isCall : GoodIn wsX12_part (wsV RX12 255 RX12 yX12_isCall wsX12_isCall) := goodIn_app (goodIn_of _ (by decide +kernel)) ggX12_part_X12_isCall
set_option maxRecDepth 20000 in
theorem ggX12_part_X12_within : GoodIn wsX12_part wsX12_within := goodIn_r _ [15] (by decide +kernel) (by decide +kernel)
set_option maxRecDepth 20000 in
theorem gX12_part_X12_within : GoodIn wsX12_part (va_wsS RX12 186 yX12_within wsX12_within) := goodIn_app (goodIn_of _ (by decide +kernel)) ggX12_part_X12_within
theorem dX12_part_0 : decode cX12_part 0 = .ok (.iload_n 1, 1) := by decide +kernel
theorem dX12_part_1 : decode cX12_part 1 = .ok (.ifCond .lt 30, 3) := by decide +kernel
theorem dX12_part_4 : decode cX12_part 4 = .ok (.iload_n 1, 1) := by decide +kernel
theorem dX12_part_5 : decode cX12_part 5 = .ok (.aload_n 0, 1) := by decide +kernel
theorem dX12_part_6 : decode cX12_part 6 = .ok (.getfield 246, 3) := by decide +kernel
theorem dX12_part_9 : decode cX12_part 9 = .ok (.if_icmp .ge 22, 3) := by decide +kernel
theorem dX12_part_12 : decode cX12_part 12 = .ok (.aload_n 0, 1) := by decide +kernel
theorem dX12_part_13 : decode cX12_part 13 = .ok (.iload_n 2, 1) := by decide +kernel
theorem dX12_part_14 : decode cX12_part 14 = .ok (.invokevirtual 255, 3) := by decide +kernel
theorem dX12_part_17 : decode cX12_part 17 = .ok (.ifCond .eq 14, 3) := by decide +kernel
theorem dX12_part_20 : decode cX12_part 20 = .ok (.iload_n 3, 1) := by decide +kernel
theorem dX12_part_21 : decode cX12_part 21 = .ok (.iconst 0, 1) := by decide +kernel
theorem dX12_part_22 : decode cX12_part 22 = .ok (.ldc_w 262, 3) := by decide +kernel
theorem dX12_part_25 : decode cX12_part 25 = .ok (.invokestatic 186, 3) := by decide +kernel
theorem dX12_part_28 : decode cX12_part 28 = .ok (.ifCond .ne 6, 3) := by decide +kernel
theorem dX12_part_31 : decode cX12_part 31 = .ok (.bipush (-2), 2) := by decide +kernel
theorem dX12_part_33 : decode cX12_part 33 = .ok (.ireturn, 1) := by decide +kernel
theorem dX12_part_34 : decode cX12_part 34 = .ok (.aload_n 0, 1) := by decide +kernel
theorem dX12_part_35 : decode cX12_part 35 = .ok (.getfield 263, 3) := by decide +kernel
theorem dX12_part_38 : decode cX12_part 38 = .ok (.bipush 40, 2) := by decide +kernel
theorem dX12_part_40 : decode cX12_part 40 = .ok (.if_icmp .ne 6, 3) := by decide +kernel
theorem dX12_part_43 : decode cX12_part 43 = .ok (.bipush (-4), 2) := by decide +kernel
theorem dX12_part_45 : decode cX12_part 45 = .ok (.ireturn, 1) := by decide +kernel
theorem dX12_part_46 : decode cX12_part 46 = .ok (.aload_n 0, 1) := by decide +kernel
theorem dX12_part_47 : decode cX12_part 47 = .ok (.getfield 80, 3) := by decide +kernel
theorem dX12_part_50 : decode cX12_part 50 = .ok (.aload_n 0, 1) := by decide +kernel
theorem dX12_part_51 : decode cX12_part 51 = .ok (.getfield 263, 3) := by decide +kernel
theorem dX12_part_54 : decode cX12_part 54 = .ok (.iload_n 2, 1) := by decide +kernel
theorem dX12_part_55 : decode cX12_part 55 = .ok (.iastore, 1) := by decide +kernel
theorem dX12_part_56 : decode cX12_part 56 = .ok (.aload_n 0, 1) := by decide +kernel
theorem dX12_part_57 : decode cX12_part 57 = .ok (.getfield 83, 3) := by decide +kernel
theorem dX12_part_60 : decode cX12_part 60 = .ok (.aload_n 0, 1) := by decide +kernel
theorem dX12_part_61 : decode cX12_part 61 = .ok (.getfield 263, 3) := by decide +kernel
theorem dX12_part_64 : decode cX12_part 64 = .ok (.iload_n 3, 1) := by decide +kernel
theorem dX12_part_65 : decode cX12_part 65 = .ok (.iastore, 1) := by decide +kernel
theorem dX12_part_66 : decode cX12_part 66 = .ok (.aload_n 0, 1) := by decide +kernel
theorem dX12_part_67 : decode cX12_part 67 = .ok (.getfield 86, 3) := by decide +kernel
theorem dX12_part_70 : decode cX12_part 70 = .ok (.aload_n 0, 1) := by decide +kernel
theorem dX12_part_71 : decode cX12_part 71 = .ok (.getfield 263, 3) := by decide +kernel
theorem dX12_part_74 : decode cX12_part 74 = .ok (.lload 4, 2) := by decide +kernel
theorem dX12_part_76 : decode cX12_part 76 = .ok (.lastore, 1) := by decide +kernel
theorem dX12_part_77 : decode cX12_part 77 = .ok (.aload_n 0, 1) := by decide +kernel
theorem dX12_part_78 : decode cX12_part 78 = .ok (.dup, 1) := by decide +kernel
theorem dX12_part_79 : decode cX12_part 79 = .ok (.getfield 263, 3) := by decide +kernel
theorem dX12_part_82 : decode cX12_part 82 = .ok (.iconst 1, 1) := by decide +kernel
theorem dX12_part_83 : decode cX12_part 83 = .ok (.iadd, 1) := by decide +kernel
theorem dX12_part_84 : decode cX12_part 84 = .ok (.putfield 263, 3) := by decide +kernel
theorem dX12_part_87 : decode cX12_part 87 = .ok (.aload_n 0, 1) := by decide +kernel
theorem dX12_part_88 : decode cX12_part 88 = .ok (.getfield 263, 3) := by decide +kernel
theorem dX12_part_91 : decode cX12_part 91 = .ok (.ireturn, 1) := by decide +kernel
theorem dX12_wordOf_0 : decode cX12_wordOf 0 = .ok (.lload_n 0, 1) := by decide +kernel
theorem dX12_wordOf_1 : decode cX12_wordOf 1 = .ok (.iconst 4, 1) := by decide +kernel
theorem dX12_wordOf_2 : decode cX12_wordOf 2 = .ok (.iload_n 2, 1) := by decide +kernel
theorem dX12_wordOf_3 : decode cX12_wordOf 3 = .ok (.imul, 1) := by decide +kernel
theorem dX12_wordOf_4 : decode cX12_wordOf 4 = .ok (.lushr, 1) := by decide +kernel
theorem dX12_wordOf_5 : decode cX12_wordOf 5 = .ok (.ldc2_w 266, 3) := by decide +kernel
theorem dX12_wordOf_8 : decode cX12_wordOf 8 = .ok (.land, 1) := by decide +kernel
theorem dX12_wordOf_9 : decode cX12_wordOf 9 = .ok (.l2i, 1) := by decide +kernel
theorem dX12_wordOf_10 : decode cX12_wordOf 10 = .ok (.ireturn, 1) := by decide +kernel
set_option maxRecDepth 20000 in
theorem ggX12_word_X12_isCall : GoodIn wsX12_word wsX12_isCall := goodIn_r _ [9, 10, 18, 19, 20, 21, 22, 23, 24, 25, 26, 27, 28, 29, 30, 31, 32, 33, 34, 35, 36, 37, 38, 39, 40, 41, 42, 43, 44, 45, 46, 47, 48, 49, 50, 51, 52, 53, 54, 55, 56, 57, 58, 59, 60, 61, 62, 63, 64, 65, 66, 67, 68, 69, 70, 71, 72, 73, 74, 75, 76, 77, 78, 79, 80, 81, 82, 83, 84, 85, 86, 87, 88, 89, 90, 91, 92, 93, 94, 95, 96] (by decide +kernel) (by decide +kernel)
set_option maxRecDepth 20000 in
theorem gX12_word_X12_isCall : GoodIn wsX12_word (wsV RX12 255 RX12 yX12_isCall wsX12_isCall) := goodIn_app (goodIn_of _ (by decide +kernel)) ggX12_word_X12_isCall
set_option maxRecDepth 20000 in
theorem ggX12_word_X12_within : GoodIn wsX12_word wsX12_within := goodIn_r _ [13] (by decide +kernel) (by decide +kernel)
set_option maxRecDepth 20000 in
theorem gX12_word_X12_within : GoodIn wsX12_word (va_wsS RX12 186 yX12_within wsX12_within) := goodIn_app (goodIn_of _ (by decide +kernel)) ggX12_word_X12_within
set_option maxRecDepth 20000 in
theorem ggX12_word_X12_wordOf : GoodIn wsX12_word wsX12_wordOf := goodIn_r _ [16, 17] (by decide +kernel) (by decide +kernel)
set_option maxRecDepth 20000 in
theorem gX12_word_X12_wordOf : GoodIn wsX12_word (va_wsS RX12 268 yX12_wordOf wsX12_wordOf) := goodIn_app (goodIn_of _ (by decide +kernel)) ggX12_word_X12_wordOf
theorem dX12_word_0 : decode cX12_word 0 = .ok (.aload_n 0, 1) := by decide +kernel
theorem dX12_word_1 : decode cX12_word 1 = .ok (.iload_n 1, 1) := by decide +kernel
theorem dX12_word_2 : decode cX12_word 2 = .ok (.invokevirtual 255, 3) := by decide +kernel
theorem dX12_word_5 : decode cX12_word 5 = .ok (.ifCond .eq 13, 3) := by decide +kernel
theorem dX12_word_8 : decode cX12_word 8 = .ok (.iload_n 2, 1) := by decide +kernel
theorem dX12_word_9 : decode cX12_word 9 = .ok (.iconst 0, 1) := by decide +kernel
theorem dX12_word_10 : decode cX12_word 10 = .ok (.bipush 15, 2) := by decide +kernel
theorem dX12_word_12 : decode cX12_word 12 = .ok (.invokestatic 186, 3) := by decide +kernel
theorem dX12_word_15 : decode cX12_word 15 = .ok (.ifCond .ne 6, 3) := by decide +kernel
theorem dX12_word_18 : decode cX12_word 18 = .ok (.bipush (-3), 2) := by decide +kernel
theorem dX12_word_20 : decode cX12_word 20 = .ok (.ireturn, 1) := by decide +kernel
theorem dX12_word_21 : decode cX12_word 21 = .ok (.iconst (-1), 1) := by decide +kernel
theorem dX12_word_22 : decode cX12_word 22 = .ok (.istore_n 3, 1) := by decide +kernel
theorem dX12_word_23 : decode cX12_word 23 = .ok (.iconst 0, 1) := by decide +kernel
theorem dX12_word_24 : decode cX12_word 24 = .ok (.istore 4, 2) := by decide +kernel
theorem dX12_word_26 : decode cX12_word 26 = .ok (.iload 4, 2) := by decide +kernel
theorem dX12_word_28 : decode cX12_word 28 = .ok (.aload_n 0, 1) := by decide +kernel
theorem dX12_word_29 : decode cX12_word 29 = .ok (.getfield 263, 3) := by decide +kernel
theorem dX12_word_32 : decode cX12_word 32 = .ok (.if_icmp .ge 67, 3) := by decide +kernel
theorem dX12_word_35 : decode cX12_word 35 = .ok (.aload_n 0, 1) := by decide +kernel
theorem dX12_word_36 : decode cX12_word 36 = .ok (.getfield 80, 3) := by decide +kernel
theorem dX12_word_39 : decode cX12_word 39 = .ok (.iload 4, 2) := by decide +kernel
theorem dX12_word_41 : decode cX12_word 41 = .ok (.iaload, 1) := by decide +kernel
theorem dX12_word_42 : decode cX12_word 42 = .ok (.iload_n 1, 1) := by decide +kernel
theorem dX12_word_43 : decode cX12_word 43 = .ok (.if_icmp .ne 50, 3) := by decide +kernel
theorem dX12_word_46 : decode cX12_word 46 = .ok (.aload_n 0, 1) := by decide +kernel
theorem dX12_word_47 : decode cX12_word 47 = .ok (.getfield 83, 3) := by decide +kernel
theorem dX12_word_50 : decode cX12_word 50 = .ok (.iload 4, 2) := by decide +kernel
theorem dX12_word_52 : decode cX12_word 52 = .ok (.iaload, 1) := by decide +kernel
theorem dX12_word_53 : decode cX12_word 53 = .ok (.iload_n 2, 1) := by decide +kernel
theorem dX12_word_54 : decode cX12_word 54 = .ok (.ishr, 1) := by decide +kernel
theorem dX12_word_55 : decode cX12_word 55 = .ok (.iconst 1, 1) := by decide +kernel
theorem dX12_word_56 : decode cX12_word 56 = .ok (.iand, 1) := by decide +kernel
theorem dX12_word_57 : decode cX12_word 57 = .ok (.iconst 1, 1) := by decide +kernel
theorem dX12_word_58 : decode cX12_word 58 = .ok (.if_icmp .ne 35, 3) := by decide +kernel
theorem dX12_word_61 : decode cX12_word 61 = .ok (.aload_n 0, 1) := by decide +kernel
theorem dX12_word_62 : decode cX12_word 62 = .ok (.getfield 86, 3) := by decide +kernel
theorem dX12_word_65 : decode cX12_word 65 = .ok (.iload 4, 2) := by decide +kernel
theorem dX12_word_67 : decode cX12_word 67 = .ok (.laload, 1) := by decide +kernel
theorem dX12_word_68 : decode cX12_word 68 = .ok (.iload_n 2, 1) := by decide +kernel
theorem dX12_word_69 : decode cX12_word 69 = .ok (.invokestatic 268, 3) := by decide +kernel
theorem dX12_word_72 : decode cX12_word 72 = .ok (.istore 5, 2) := by decide +kernel
theorem dX12_word_74 : decode cX12_word 74 = .ok (.iload_n 3, 1) := by decide +kernel
theorem dX12_word_75 : decode cX12_word 75 = .ok (.iconst (-1), 1) := by decide +kernel
theorem dX12_word_76 : decode cX12_word 76 = .ok (.if_icmp .eq 9, 3) := by decide +kernel
theorem dX12_word_79 : decode cX12_word 79 = .ok (.iload_n 3, 1) := by decide +kernel
theorem dX12_word_80 : decode cX12_word 80 = .ok (.iload 5, 2) := by decide +kernel
theorem dX12_word_82 : decode cX12_word 82 = .ok (.if_icmp .ne 8, 3) := by decide +kernel
theorem dX12_word_85 : decode cX12_word 85 = .ok (.iload 5, 2) := by decide +kernel
theorem dX12_word_87 : decode cX12_word 87 = .ok (.goto 5, 3) := by decide +kernel
theorem dX12_word_90 : decode cX12_word 90 = .ok (.bipush (-2), 2) := by decide +kernel
theorem dX12_word_92 : decode cX12_word 92 = .ok (.istore_n 3, 1) := by decide +kernel
theorem dX12_word_93 : decode cX12_word 93 = .ok (.iinc 4 1, 3) := by decide +kernel
theorem dX12_word_96 : decode cX12_word 96 = .ok (.goto (-70), 3) := by decide +kernel
theorem dX12_word_99 : decode cX12_word 99 = .ok (.iload_n 3, 1) := by decide +kernel
theorem dX12_word_100 : decode cX12_word 100 = .ok (.ireturn, 1) := by decide +kernel
set_option maxRecDepth 20000 in
theorem ggX12_isTrue_X12_wordOf : GoodIn wsX12_isTrue wsX12_wordOf := goodIn_r _ [9, 10] (by decide +kernel) (by decide +kernel)
set_option maxRecDepth 20000 in
theorem gX12_isTrue_X12_wordOf : GoodIn wsX12_isTrue (va_wsS RX12 268 yX12_wordOf wsX12_wordOf) := goodIn_app (goodIn_of _ (by decide +kernel)) ggX12_isTrue_X12_wordOf
theorem dX12_isTrue_0 : decode cX12_isTrue 0 = .ok (.iload_n 1, 1) := by decide +kernel
theorem dX12_isTrue_1 : decode cX12_isTrue 1 = .ok (.ifCond .lt 11, 3) := by decide +kernel
theorem dX12_isTrue_4 : decode cX12_isTrue 4 = .ok (.iload_n 1, 1) := by decide +kernel
theorem dX12_isTrue_5 : decode cX12_isTrue 5 = .ok (.aload_n 0, 1) := by decide +kernel
theorem dX12_isTrue_6 : decode cX12_isTrue 6 = .ok (.getfield 263, 3) := by decide +kernel
theorem dX12_isTrue_9 : decode cX12_isTrue 9 = .ok (.if_icmp .lt 6, 3) := by decide +kernel
theorem dX12_isTrue_12 : decode cX12_isTrue 12 = .ok (.bipush (-2), 2) := by decide +kernel
theorem dX12_isTrue_14 : decode cX12_isTrue 14 = .ok (.ireturn, 1) := by decide +kernel
theorem dX12_isTrue_15 : decode cX12_isTrue 15 = .ok (.iconst 1, 1) := by decide +kernel
theorem dX12_isTrue_16 : decode cX12_isTrue 16 = .ok (.istore_n 2, 1) := by decide +kernel
theorem dX12_isTrue_17 : decode cX12_isTrue 17 = .ok (.iconst 0, 1) := by decide +kernel
theorem dX12_isTrue_18 : decode cX12_isTrue 18 = .ok (.istore_n 3, 1) := by decide +kernel
theorem dX12_isTrue_19 : decode cX12_isTrue 19 = .ok (.iload_n 3, 1) := by decide +kernel
theorem dX12_isTrue_20 : decode cX12_isTrue 20 = .ok (.bipush 16, 2) := by decide +kernel
theorem dX12_isTrue_22 : decode cX12_isTrue 22 = .ok (.if_icmp .ge 73, 3) := by decide +kernel
theorem dX12_isTrue_25 : decode cX12_isTrue 25 = .ok (.aload_n 0, 1) := by decide +kernel
theorem dX12_isTrue_26 : decode cX12_isTrue 26 = .ok (.getfield 83, 3) := by decide +kernel
theorem dX12_isTrue_29 : decode cX12_isTrue 29 = .ok (.iload_n 1, 1) := by decide +kernel
theorem dX12_isTrue_30 : decode cX12_isTrue 30 = .ok (.iaload, 1) := by decide +kernel
theorem dX12_isTrue_31 : decode cX12_isTrue 31 = .ok (.iload_n 3, 1) := by decide +kernel
theorem dX12_isTrue_32 : decode cX12_isTrue 32 = .ok (.ishr, 1) := by decide +kernel
theorem dX12_isTrue_33 : decode cX12_isTrue 33 = .ok (.iconst 1, 1) := by decide +kernel
theorem dX12_isTrue_34 : decode cX12_isTrue 34 = .ok (.iand, 1) := by decide +kernel
theorem dX12_isTrue_35 : decode cX12_isTrue 35 = .ok (.iconst 1, 1) := by decide +kernel
theorem dX12_isTrue_36 : decode cX12_isTrue 36 = .ok (.if_icmp .ne 7, 3) := by decide +kernel
theorem dX12_isTrue_39 : decode cX12_isTrue 39 = .ok (.iconst 1, 1) := by decide +kernel
theorem dX12_isTrue_40 : decode cX12_isTrue 40 = .ok (.goto 4, 3) := by decide +kernel
theorem dX12_isTrue_43 : decode cX12_isTrue 43 = .ok (.iconst 0, 1) := by decide +kernel
theorem dX12_isTrue_44 : decode cX12_isTrue 44 = .ok (.istore 4, 2) := by decide +kernel
theorem dX12_isTrue_46 : decode cX12_isTrue 46 = .ok (.iload_n 2, 1) := by decide +kernel
theorem dX12_isTrue_47 : decode cX12_isTrue 47 = .ok (.ifCond .eq 40, 3) := by decide +kernel
theorem dX12_isTrue_50 : decode cX12_isTrue 50 = .ok (.iload 4, 2) := by decide +kernel
theorem dX12_isTrue_52 : decode cX12_isTrue 52 = .ok (.ifCond .eq 31, 3) := by decide +kernel
theorem dX12_isTrue_55 : decode cX12_isTrue 55 = .ok (.aload_n 0, 1) := by decide +kernel
theorem dX12_isTrue_56 : decode cX12_isTrue 56 = .ok (.getfield 86, 3) := by decide +kernel
theorem dX12_isTrue_59 : decode cX12_isTrue 59 = .ok (.iload_n 1, 1) := by decide +kernel
theorem dX12_isTrue_60 : decode cX12_isTrue 60 = .ok (.laload, 1) := by decide +kernel
theorem dX12_isTrue_61 : decode cX12_isTrue 61 = .ok (.iload_n 3, 1) := by decide +kernel
theorem dX12_isTrue_62 : decode cX12_isTrue 62 = .ok (.invokestatic 268, 3) := by decide +kernel
theorem dX12_isTrue_65 : decode cX12_isTrue 65 = .ok (.aload_n 0, 1) := by decide +kernel
theorem dX12_isTrue_66 : decode cX12_isTrue 66 = .ok (.getfield 77, 3) := by decide +kernel
theorem dX12_isTrue_69 : decode cX12_isTrue 69 = .ok (.aload_n 0, 1) := by decide +kernel
theorem dX12_isTrue_70 : decode cX12_isTrue 70 = .ok (.getfield 80, 3) := by decide +kernel
theorem dX12_isTrue_73 : decode cX12_isTrue 73 = .ok (.iload_n 1, 1) := by decide +kernel
theorem dX12_isTrue_74 : decode cX12_isTrue 74 = .ok (.iaload, 1) := by decide +kernel
theorem dX12_isTrue_75 : decode cX12_isTrue 75 = .ok (.laload, 1) := by decide +kernel
theorem dX12_isTrue_76 : decode cX12_isTrue 76 = .ok (.iload_n 3, 1) := by decide +kernel
theorem dX12_isTrue_77 : decode cX12_isTrue 77 = .ok (.invokestatic 268, 3) := by decide +kernel
theorem dX12_isTrue_80 : decode cX12_isTrue 80 = .ok (.if_icmp .ne 7, 3) := by decide +kernel
theorem dX12_isTrue_83 : decode cX12_isTrue 83 = .ok (.iconst 1, 1) := by decide +kernel
theorem dX12_isTrue_84 : decode cX12_isTrue 84 = .ok (.goto 4, 3) := by decide +kernel
theorem dX12_isTrue_87 : decode cX12_isTrue 87 = .ok (.iconst 0, 1) := by decide +kernel
theorem dX12_isTrue_88 : decode cX12_isTrue 88 = .ok (.istore_n 2, 1) := by decide +kernel
theorem dX12_isTrue_89 : decode cX12_isTrue 89 = .ok (.iinc 3 1, 3) := by decide +kernel
theorem dX12_isTrue_92 : decode cX12_isTrue 92 = .ok (.goto (-73), 3) := by decide +kernel
theorem dX12_isTrue_95 : decode cX12_isTrue 95 = .ok (.iload_n 2, 1) := by decide +kernel
theorem dX12_isTrue_96 : decode cX12_isTrue 96 = .ok (.ifCond .eq 7, 3) := by decide +kernel
theorem dX12_isTrue_99 : decode cX12_isTrue 99 = .ok (.iconst 1, 1) := by decide +kernel
theorem dX12_isTrue_100 : decode cX12_isTrue 100 = .ok (.goto 4, 3) := by decide +kernel
theorem dX12_isTrue_103 : decode cX12_isTrue 103 = .ok (.iconst 0, 1) := by decide +kernel
theorem dX12_isTrue_104 : decode cX12_isTrue 104 = .ok (.ireturn, 1) := by decide +kernel
theorem dX12_lane_0 : decode cX12_lane 0 = .ok (.lload_n 1, 1) := by decide +kernel
theorem dX12_lane_1 : decode cX12_lane 1 = .ok (.lconst 0, 1) := by decide +kernel
theorem dX12_lane_2 : decode cX12_lane 2 = .ok (.lcmp, 1) := by decide +kernel
theorem dX12_lane_3 : decode cX12_lane 3 = .ok (.ifCond .ne 6, 3) := by decide +kernel
theorem dX12_lane_6 : decode cX12_lane 6 = .ok (.bipush (-2), 2) := by decide +kernel
theorem dX12_lane_8 : decode cX12_lane 8 = .ok (.ireturn, 1) := by decide +kernel
theorem dX12_lane_9 : decode cX12_lane 9 = .ok (.aload_n 0, 1) := by decide +kernel
theorem dX12_lane_10 : decode cX12_lane 10 = .ok (.getfield 272, 3) := by decide +kernel
theorem dX12_lane_13 : decode cX12_lane 13 = .ok (.bipush 16, 2) := by decide +kernel
theorem dX12_lane_15 : decode cX12_lane 15 = .ok (.if_icmp .ne 6, 3) := by decide +kernel
theorem dX12_lane_18 : decode cX12_lane 18 = .ok (.bipush (-4), 2) := by decide +kernel
theorem dX12_lane_20 : decode cX12_lane 20 = .ok (.ireturn, 1) := by decide +kernel
theorem dX12_lane_21 : decode cX12_lane 21 = .ok (.aload_n 0, 1) := by decide +kernel
theorem dX12_lane_22 : decode cX12_lane 22 = .ok (.getfield 89, 3) := by decide +kernel
theorem dX12_lane_25 : decode cX12_lane 25 = .ok (.aload_n 0, 1) := by decide +kernel
theorem dX12_lane_26 : decode cX12_lane 26 = .ok (.getfield 272, 3) := by decide +kernel
theorem dX12_lane_29 : decode cX12_lane 29 = .ok (.lload_n 1, 1) := by decide +kernel
theorem dX12_lane_30 : decode cX12_lane 30 = .ok (.lastore, 1) := by decide +kernel
theorem dX12_lane_31 : decode cX12_lane 31 = .ok (.aload_n 0, 1) := by decide +kernel
theorem dX12_lane_32 : decode cX12_lane 32 = .ok (.dup, 1) := by decide +kernel
theorem dX12_lane_33 : decode cX12_lane 33 = .ok (.getfield 272, 3) := by decide +kernel
theorem dX12_lane_36 : decode cX12_lane 36 = .ok (.iconst 1, 1) := by decide +kernel
theorem dX12_lane_37 : decode cX12_lane 37 = .ok (.iadd, 1) := by decide +kernel
theorem dX12_lane_38 : decode cX12_lane 38 = .ok (.putfield 272, 3) := by decide +kernel
theorem dX12_lane_41 : decode cX12_lane 41 = .ok (.aload_n 0, 1) := by decide +kernel
theorem dX12_lane_42 : decode cX12_lane 42 = .ok (.getfield 272, 3) := by decide +kernel
theorem dX12_lane_45 : decode cX12_lane 45 = .ok (.iconst 1, 1) := by decide +kernel
theorem dX12_lane_46 : decode cX12_lane 46 = .ok (.isub, 1) := by decide +kernel
theorem dX12_lane_47 : decode cX12_lane 47 = .ok (.ireturn, 1) := by decide +kernel
set_option maxRecDepth 20000 in
theorem ggX12_flown_X12_isSeeker : GoodIn wsX12_flown wsX12_isSeeker := goodIn_r _ [10, 11, 12, 13, 14, 9, 15, 16, 25, 26, 27, 28, 29, 30, 31, 32, 33, 34, 35, 36, 37, 38, 39, 40, 41, 42, 43, 44, 45, 46, 47, 48, 49, 50, 51, 52, 53, 54, 55, 56, 57, 58, 59, 60, 61, 62, 63, 64, 65, 66, 67, 68, 69, 70, 71, 72, 73, 74, 75, 76, 77, 78, 79, 80, 81, 82, 83, 84, 85, 86, 87, 88, 89, 90, 91, 92, 93, 94, 95, 96, 97, 98, 99, 100, 101, 102, 103] (by decide +kernel) (by decide +kernel)
set_option maxRecDepth 20000 in
theorem gX12_flown_X12_isSeeker : GoodIn wsX12_flown (wsV RX12 275 RX12 yX12_isSeeker wsX12_isSeeker) := goodIn_app (goodIn_of _ (by decide +kernel)) ggX12_flown_X12_isSeeker
set_option maxRecDepth 20000 in
theorem ggX12_flown_X12_isBody : GoodIn wsX12_flown wsX12_isBody := goodIn_r _ [15, 16, 25, 26, 27, 28, 29, 30, 31, 32, 33, 34, 35, 36, 37, 38, 39, 40, 41, 42, 43, 44, 45, 46, 47, 48, 49, 50, 51, 52, 53, 54, 55, 56, 57, 58, 59, 60, 61, 62, 63, 64, 65, 66, 67, 68, 69, 70, 71, 72, 73, 74, 75, 76, 77, 78, 79, 80, 81, 82, 83, 84, 85, 86, 87, 88, 89, 90, 91, 92, 93, 94, 95, 96, 97, 98, 99, 100, 101, 102, 103] (by decide +kernel) (by decide +kernel)
set_option maxRecDepth 20000 in
theorem gX12_flown_X12_isBody : GoodIn wsX12_flown (wsV RX12 193 RX12 yX12_isBody wsX12_isBody) := goodIn_app (goodIn_of _ (by decide +kernel)) ggX12_flown_X12_isBody
set_option maxRecDepth 20000 in
theorem ggX12_flown_X12_fogIn : GoodIn wsX12_flown wsX12_fogIn := goodIn_r _ [20, 21, 22, 23, 24, 25, 26, 27, 28, 29, 30, 31, 32, 33, 34, 35, 36, 37, 38, 39, 40, 41, 42, 43, 44, 45, 46, 47, 48, 49, 50, 51, 52, 53, 54, 55, 56, 57, 58, 59, 60, 61, 62, 63, 64, 65, 66, 67, 68, 69, 70, 71, 72, 73, 74, 75, 76, 77, 78, 79, 80, 81, 82, 83, 84, 85, 86, 87, 88, 89, 90, 91, 92, 93, 94, 95, 96, 97, 98, 99, 100, 101, 102, 103] (by decide +kernel) (by decide +kernel)
set_option maxRecDepth 20000 in
theorem gX12_flown_X12_fogIn : GoodIn wsX12_flown (wsV RX12 278 RX12 yX12_fogIn wsX12_fogIn) := goodIn_app (goodIn_of _ (by decide +kernel)) ggX12_flown_X12_fogIn
theorem dX12_flown_0 : decode cX12_flown 0 = .ok (.aload_n 0, 1) := by decide +kernel
theorem dX12_flown_1 : decode cX12_flown 1 = .ok (.iload_n 1, 1) := by decide +kernel
theorem dX12_flown_2 : decode cX12_flown 2 = .ok (.invokevirtual 275, 3) := by decide +kernel
theorem dX12_flown_5 : decode cX12_flown 5 = .ok (.ifCond .eq 23, 3) := by decide +kernel
theorem dX12_flown_8 : decode cX12_flown 8 = .ok (.aload_n 0, 1) := by decide +kernel
theorem dX12_flown_9 : decode cX12_flown 9 = .ok (.iload_n 2, 1) := by decide +kernel
theorem dX12_flown_10 : decode cX12_flown 10 = .ok (.invokevirtual 193, 3) := by decide +kernel
theorem dX12_flown_13 : decode cX12_flown 13 = .ok (.ifCond .eq 15, 3) := by decide +kernel
theorem dX12_flown_16 : decode cX12_flown 16 = .ok (.iload_n 3, 1) := by decide +kernel
theorem dX12_flown_17 : decode cX12_flown 17 = .ok (.ifCond .lt 11, 3) := by decide +kernel
theorem dX12_flown_20 : decode cX12_flown 20 = .ok (.iload_n 3, 1) := by decide +kernel
theorem dX12_flown_21 : decode cX12_flown 21 = .ok (.aload_n 0, 1) := by decide +kernel
theorem dX12_flown_22 : decode cX12_flown 22 = .ok (.getfield 272, 3) := by decide +kernel
theorem dX12_flown_25 : decode cX12_flown 25 = .ok (.if_icmp .lt 6, 3) := by decide +kernel
theorem dX12_flown_28 : decode cX12_flown 28 = .ok (.bipush (-2), 2) := by decide +kernel
theorem dX12_flown_30 : decode cX12_flown 30 = .ok (.ireturn, 1) := by decide +kernel
theorem dX12_flown_31 : decode cX12_flown 31 = .ok (.aload_n 0, 1) := by decide +kernel
theorem dX12_flown_32 : decode cX12_flown 32 = .ok (.getfield 98, 3) := by decide +kernel
theorem dX12_flown_35 : decode cX12_flown 35 = .ok (.iload_n 2, 1) := by decide +kernel
theorem dX12_flown_36 : decode cX12_flown 36 = .ok (.iaload, 1) := by decide +kernel
theorem dX12_flown_37 : decode cX12_flown 37 = .ok (.bipush 6, 2) := by decide +kernel
theorem dX12_flown_39 : decode cX12_flown 39 = .ok (.if_icmp .ne 6, 3) := by decide +kernel
theorem dX12_flown_42 : decode cX12_flown 42 = .ok (.bipush (-4), 2) := by decide +kernel
theorem dX12_flown_44 : decode cX12_flown 44 = .ok (.ireturn, 1) := by decide +kernel
theorem dX12_flown_45 : decode cX12_flown 45 = .ok (.aload_n 0, 1) := by decide +kernel
theorem dX12_flown_46 : decode cX12_flown 46 = .ok (.getfield 92, 3) := by decide +kernel
theorem dX12_flown_49 : decode cX12_flown 49 = .ok (.bipush 6, 2) := by decide +kernel
theorem dX12_flown_51 : decode cX12_flown 51 = .ok (.iload_n 2, 1) := by decide +kernel
theorem dX12_flown_52 : decode cX12_flown 52 = .ok (.imul, 1) := by decide +kernel
theorem dX12_flown_53 : decode cX12_flown 53 = .ok (.aload_n 0, 1) := by decide +kernel
theorem dX12_flown_54 : decode cX12_flown 54 = .ok (.getfield 98, 3) := by decide +kernel
theorem dX12_flown_57 : decode cX12_flown 57 = .ok (.iload_n 2, 1) := by decide +kernel
theorem dX12_flown_58 : decode cX12_flown 58 = .ok (.iaload, 1) := by decide +kernel
theorem dX12_flown_59 : decode cX12_flown 59 = .ok (.iadd, 1) := by decide +kernel
theorem dX12_flown_60 : decode cX12_flown 60 = .ok (.iload_n 3, 1) := by decide +kernel
theorem dX12_flown_61 : decode cX12_flown 61 = .ok (.iastore, 1) := by decide +kernel
theorem dX12_flown_62 : decode cX12_flown 62 = .ok (.aload_n 0, 1) := by decide +kernel
theorem dX12_flown_63 : decode cX12_flown 63 = .ok (.getfield 95, 3) := by decide +kernel
theorem dX12_flown_66 : decode cX12_flown 66 = .ok (.bipush 6, 2) := by decide +kernel
theorem dX12_flown_68 : decode cX12_flown 68 = .ok (.iload_n 2, 1) := by decide +kernel
theorem dX12_flown_69 : decode cX12_flown 69 = .ok (.imul, 1) := by decide +kernel
theorem dX12_flown_70 : decode cX12_flown 70 = .ok (.aload_n 0, 1) := by decide +kernel
theorem dX12_flown_71 : decode cX12_flown 71 = .ok (.getfield 98, 3) := by decide +kernel
theorem dX12_flown_74 : decode cX12_flown 74 = .ok (.iload_n 2, 1) := by decide +kernel
theorem dX12_flown_75 : decode cX12_flown 75 = .ok (.iaload, 1) := by decide +kernel
theorem dX12_flown_76 : decode cX12_flown 76 = .ok (.iadd, 1) := by decide +kernel
theorem dX12_flown_77 : decode cX12_flown 77 = .ok (.aload_n 0, 1) := by decide +kernel
theorem dX12_flown_78 : decode cX12_flown 78 = .ok (.aload_n 0, 1) := by decide +kernel
theorem dX12_flown_79 : decode cX12_flown 79 = .ok (.getfield 201, 3) := by decide +kernel
theorem dX12_flown_82 : decode cX12_flown 82 = .ok (.invokevirtual 278, 3) := by decide +kernel
theorem dX12_flown_85 : decode cX12_flown 85 = .ok (.iastore, 1) := by decide +kernel
theorem dX12_flown_86 : decode cX12_flown 86 = .ok (.aload_n 0, 1) := by decide +kernel
theorem dX12_flown_87 : decode cX12_flown 87 = .ok (.getfield 98, 3) := by decide +kernel
theorem dX12_flown_90 : decode cX12_flown 90 = .ok (.iload_n 2, 1) := by decide +kernel
theorem dX12_flown_91 : decode cX12_flown 91 = .ok (.dup2, 1) := by decide +kernel
theorem dX12_flown_92 : decode cX12_flown 92 = .ok (.iaload, 1) := by decide +kernel
theorem dX12_flown_93 : decode cX12_flown 93 = .ok (.iconst 1, 1) := by decide +kernel
theorem dX12_flown_94 : decode cX12_flown 94 = .ok (.iadd, 1) := by decide +kernel
theorem dX12_flown_95 : decode cX12_flown 95 = .ok (.iastore, 1) := by decide +kernel
theorem dX12_flown_96 : decode cX12_flown 96 = .ok (.aload_n 0, 1) := by decide +kernel
theorem dX12_flown_97 : decode cX12_flown 97 = .ok (.getfield 98, 3) := by decide +kernel
theorem dX12_flown_100 : decode cX12_flown 100 = .ok (.iload_n 2, 1) := by decide +kernel
theorem dX12_flown_101 : decode cX12_flown 101 = .ok (.iaload, 1) := by decide +kernel
theorem dX12_flown_102 : decode cX12_flown 102 = .ok (.ireturn, 1) := by decide +kernel
set_option maxRecDepth 20000 in
theorem ggX12_weigh_X12_patchOf : GoodIn wsX12_weigh wsX12_patchOf := goodIn_r _ [13, 14, 15, 16, 17, 18, 12, 19, 20, 21, 22, 23, 24, 25, 26, 27, 28, 29, 30, 31, 32, 33, 34, 35, 36, 37, 38, 39, 40, 41, 42, 43, 44, 45, 46, 47, 48, 49, 50, 51, 52, 53, 54, 55, 56, 57, 58, 59, 60, 61, 62, 63, 64, 65, 66, 67, 68, 69, 70, 71, 72, 73, 74, 75, 76, 77, 78, 79, 80, 81, 82, 83, 84, 85, 86, 87, 88, 89, 90, 91, 92, 93, 94, 95, 96, 97, 98, 99, 100, 101, 102, 103, 104, 105, 106, 107, 108, 109, 110, 111, 112, 113, 114, 115, 116] (by decide +kernel) (by decide +kernel)
set_option maxRecDepth 20000 in
theorem gX12_weigh_X12_patchOf : GoodIn wsX12_weigh (wsV RX12 238 RX12 yX12_patchOf wsX12_patchOf) := goodIn_app (goodIn_of _ (by decide +kernel)) ggX12_weigh_X12_patchOf
theorem dX12_weigh_0 : decode cX12_weigh 0 = .ok (.aload_n 0, 1) := by decide +kernel
theorem dX12_weigh_1 : decode cX12_weigh 1 = .ok (.iload_n 1, 1) := by decide +kernel
theorem dX12_weigh_2 : decode cX12_weigh 2 = .ok (.aload_n 0, 1) := by decide +kernel
theorem dX12_weigh_3 : decode cX12_weigh 3 = .ok (.getfield 201, 3) := by decide +kernel
theorem dX12_weigh_6 : decode cX12_weigh 6 = .ok (.aload_n 0, 1) := by decide +kernel
theorem dX12_weigh_7 : decode cX12_weigh 7 = .ok (.getfield 201, 3) := by decide +kernel
theorem dX12_weigh_10 : decode cX12_weigh 10 = .ok (.invokevirtual 238, 3) := by decide +kernel
theorem dX12_weigh_13 : decode cX12_weigh 13 = .ok (.lstore_n 2, 1) := by decide +kernel
theorem dX12_weigh_14 : decode cX12_weigh 14 = .ok (.aload_n 0, 1) := by decide +kernel
theorem dX12_weigh_15 : decode cX12_weigh 15 = .ok (.lconst 0, 1) := by decide +kernel
theorem dX12_weigh_16 : decode cX12_weigh 16 = .ok (.putfield 281, 3) := by decide +kernel
theorem dX12_weigh_19 : decode cX12_weigh 19 = .ok (.iconst 0, 1) := by decide +kernel
theorem dX12_weigh_20 : decode cX12_weigh 20 = .ok (.istore 4, 2) := by decide +kernel
theorem dX12_weigh_22 : decode cX12_weigh 22 = .ok (.iload 4, 2) := by decide +kernel
theorem dX12_weigh_24 : decode cX12_weigh 24 = .ok (.bipush 64, 2) := by decide +kernel
theorem dX12_weigh_26 : decode cX12_weigh 26 = .ok (.if_icmp .ge 137, 3) := by decide +kernel
theorem dX12_weigh_29 : decode cX12_weigh 29 = .ok (.lload_n 2, 1) := by decide +kernel
theorem dX12_weigh_30 : decode cX12_weigh 30 = .ok (.iload 4, 2) := by decide +kernel
theorem dX12_weigh_32 : decode cX12_weigh 32 = .ok (.lushr, 1) := by decide +kernel
theorem dX12_weigh_33 : decode cX12_weigh 33 = .ok (.lconst 1, 1) := by decide +kernel
theorem dX12_weigh_34 : decode cX12_weigh 34 = .ok (.land, 1) := by decide +kernel
theorem dX12_weigh_35 : decode cX12_weigh 35 = .ok (.lconst 1, 1) := by decide +kernel
theorem dX12_weigh_36 : decode cX12_weigh 36 = .ok (.lcmp, 1) := by decide +kernel
theorem dX12_weigh_37 : decode cX12_weigh 37 = .ok (.ifCond .ne 7, 3) := by decide +kernel
theorem dX12_weigh_40 : decode cX12_weigh 40 = .ok (.lconst 1, 1) := by decide +kernel
theorem dX12_weigh_41 : decode cX12_weigh 41 = .ok (.goto 4, 3) := by decide +kernel
theorem dX12_weigh_44 : decode cX12_weigh 44 = .ok (.lconst 0, 1) := by decide +kernel
theorem dX12_weigh_45 : decode cX12_weigh 45 = .ok (.lstore 5, 2) := by decide +kernel
theorem dX12_weigh_47 : decode cX12_weigh 47 = .ok (.iconst 0, 1) := by decide +kernel
theorem dX12_weigh_48 : decode cX12_weigh 48 = .ok (.istore 7, 2) := by decide +kernel
theorem dX12_weigh_50 : decode cX12_weigh 50 = .ok (.iload 7, 2) := by decide +kernel
theorem dX12_weigh_52 : decode cX12_weigh 52 = .ok (.bipush 6, 2) := by decide +kernel
theorem dX12_weigh_54 : decode cX12_weigh 54 = .ok (.if_icmp .ge 83, 3) := by decide +kernel
theorem dX12_weigh_57 : decode cX12_weigh 57 = .ok (.iload 7, 2) := by decide +kernel
theorem dX12_weigh_59 : decode cX12_weigh 59 = .ok (.aload_n 0, 1) := by decide +kernel
theorem dX12_weigh_60 : decode cX12_weigh 60 = .ok (.getfield 98, 3) := by decide +kernel
theorem dX12_weigh_63 : decode cX12_weigh 63 = .ok (.iload_n 1, 1) := by decide +kernel
theorem dX12_weigh_64 : decode cX12_weigh 64 = .ok (.iaload, 1) := by decide +kernel
theorem dX12_weigh_65 : decode cX12_weigh 65 = .ok (.if_icmp .ge 34, 3) := by decide +kernel
theorem dX12_weigh_68 : decode cX12_weigh 68 = .ok (.aload_n 0, 1) := by decide +kernel
theorem dX12_weigh_69 : decode cX12_weigh 69 = .ok (.getfield 89, 3) := by decide +kernel
theorem dX12_weigh_72 : decode cX12_weigh 72 = .ok (.aload_n 0, 1) := by decide +kernel
theorem dX12_weigh_73 : decode cX12_weigh 73 = .ok (.getfield 92, 3) := by decide +kernel
theorem dX12_weigh_76 : decode cX12_weigh 76 = .ok (.bipush 6, 2) := by decide +kernel
theorem dX12_weigh_78 : decode cX12_weigh 78 = .ok (.iload_n 1, 1) := by decide +kernel
theorem dX12_weigh_79 : decode cX12_weigh 79 = .ok (.imul, 1) := by decide +kernel
theorem dX12_weigh_80 : decode cX12_weigh 80 = .ok (.iload 7, 2) := by decide +kernel
theorem dX12_weigh_82 : decode cX12_weigh 82 = .ok (.iadd, 1) := by decide +kernel
theorem dX12_weigh_83 : decode cX12_weigh 83 = .ok (.iaload, 1) := by decide +kernel
theorem dX12_weigh_84 : decode cX12_weigh 84 = .ok (.laload, 1) := by decide +kernel
theorem dX12_weigh_85 : decode cX12_weigh 85 = .ok (.iload 4, 2) := by decide +kernel
theorem dX12_weigh_87 : decode cX12_weigh 87 = .ok (.lushr, 1) := by decide +kernel
theorem dX12_weigh_88 : decode cX12_weigh 88 = .ok (.lconst 1, 1) := by decide +kernel
theorem dX12_weigh_89 : decode cX12_weigh 89 = .ok (.land, 1) := by decide +kernel
theorem dX12_weigh_90 : decode cX12_weigh 90 = .ok (.lconst 1, 1) := by decide +kernel
theorem dX12_weigh_91 : decode cX12_weigh 91 = .ok (.lcmp, 1) := by decide +kernel
theorem dX12_weigh_92 : decode cX12_weigh 92 = .ok (.ifCond .ne 7, 3) := by decide +kernel
theorem dX12_weigh_95 : decode cX12_weigh 95 = .ok (.iconst 1, 1) := by decide +kernel
theorem dX12_weigh_96 : decode cX12_weigh 96 = .ok (.goto 4, 3) := by decide +kernel
theorem dX12_weigh_99 : decode cX12_weigh 99 = .ok (.iconst 0, 1) := by decide +kernel
theorem dX12_weigh_100 : decode cX12_weigh 100 = .ok (.istore 8, 2) := by decide +kernel
theorem dX12_weigh_102 : decode cX12_weigh 102 = .ok (.lload 5, 2) := by decide +kernel
theorem dX12_weigh_104 : decode cX12_weigh 104 = .ok (.iload 8, 2) := by decide +kernel
theorem dX12_weigh_106 : decode cX12_weigh 106 = .ok (.ifCond .eq 19, 3) := by decide +kernel
theorem dX12_weigh_109 : decode cX12_weigh 109 = .ok (.aload_n 0, 1) := by decide +kernel
theorem dX12_weigh_110 : decode cX12_weigh 110 = .ok (.getfield 95, 3) := by decide +kernel
theorem dX12_weigh_113 : decode cX12_weigh 113 = .ok (.bipush 6, 2) := by decide +kernel
theorem dX12_weigh_115 : decode cX12_weigh 115 = .ok (.iload_n 1, 1) := by decide +kernel
theorem dX12_weigh_116 : decode cX12_weigh 116 = .ok (.imul, 1) := by decide +kernel
theorem dX12_weigh_117 : decode cX12_weigh 117 = .ok (.iload 7, 2) := by decide +kernel
theorem dX12_weigh_119 : decode cX12_weigh 119 = .ok (.iadd, 1) := by decide +kernel
theorem dX12_weigh_120 : decode cX12_weigh 120 = .ok (.iaload, 1) := by decide +kernel
theorem dX12_weigh_121 : decode cX12_weigh 121 = .ok (.i2l, 1) := by decide +kernel
theorem dX12_weigh_122 : decode cX12_weigh 122 = .ok (.goto 6, 3) := by decide +kernel
theorem dX12_weigh_125 : decode cX12_weigh 125 = .ok (.ldc2_w 285, 3) := by decide +kernel
theorem dX12_weigh_128 : decode cX12_weigh 128 = .ok (.lmul, 1) := by decide +kernel
theorem dX12_weigh_129 : decode cX12_weigh 129 = .ok (.lstore 5, 2) := by decide +kernel
theorem dX12_weigh_131 : decode cX12_weigh 131 = .ok (.iinc 7 1, 3) := by decide +kernel
theorem dX12_weigh_134 : decode cX12_weigh 134 = .ok (.goto (-84), 3) := by decide +kernel
theorem dX12_weigh_137 : decode cX12_weigh 137 = .ok (.aload_n 0, 1) := by decide +kernel
theorem dX12_weigh_138 : decode cX12_weigh 138 = .ok (.getfield 134, 3) := by decide +kernel
theorem dX12_weigh_141 : decode cX12_weigh 141 = .ok (.iload 4, 2) := by decide +kernel
theorem dX12_weigh_143 : decode cX12_weigh 143 = .ok (.lload 5, 2) := by decide +kernel
theorem dX12_weigh_145 : decode cX12_weigh 145 = .ok (.lastore, 1) := by decide +kernel
theorem dX12_weigh_146 : decode cX12_weigh 146 = .ok (.aload_n 0, 1) := by decide +kernel
theorem dX12_weigh_147 : decode cX12_weigh 147 = .ok (.dup, 1) := by decide +kernel
theorem dX12_weigh_148 : decode cX12_weigh 148 = .ok (.getfield 281, 3) := by decide +kernel
theorem dX12_weigh_151 : decode cX12_weigh 151 = .ok (.lload 5, 2) := by decide +kernel
theorem dX12_weigh_153 : decode cX12_weigh 153 = .ok (.ladd, 1) := by decide +kernel
theorem dX12_weigh_154 : decode cX12_weigh 154 = .ok (.putfield 281, 3) := by decide +kernel
theorem dX12_weigh_157 : decode cX12_weigh 157 = .ok (.iinc 4 1, 3) := by decide +kernel
theorem dX12_weigh_160 : decode cX12_weigh 160 = .ok (.goto (-138), 3) := by decide +kernel
theorem dX12_weigh_163 : decode cX12_weigh 163 = .ok (.return_, 1) := by decide +kernel
theorem dX12_divisor_0 : decode cX12_divisor 0 = .ok (.lload_n 0, 1) := by decide +kernel
theorem dX12_divisor_1 : decode cX12_divisor 1 = .ok (.lstore 4, 2) := by decide +kernel
theorem dX12_divisor_3 : decode cX12_divisor 3 = .ok (.lload_n 2, 1) := by decide +kernel
theorem dX12_divisor_4 : decode cX12_divisor 4 = .ok (.lstore 6, 2) := by decide +kernel
theorem dX12_divisor_6 : decode cX12_divisor 6 = .ok (.lload 6, 2) := by decide +kernel
theorem dX12_divisor_8 : decode cX12_divisor 8 = .ok (.lconst 0, 1) := by decide +kernel
theorem dX12_divisor_9 : decode cX12_divisor 9 = .ok (.lcmp, 1) := by decide +kernel
theorem dX12_divisor_10 : decode cX12_divisor 10 = .ok (.ifCond .eq 21, 3) := by decide +kernel
theorem dX12_divisor_13 : decode cX12_divisor 13 = .ok (.lload 4, 2) := by decide +kernel
theorem dX12_divisor_15 : decode cX12_divisor 15 = .ok (.lload 6, 2) := by decide +kernel
theorem dX12_divisor_17 : decode cX12_divisor 17 = .ok (.lrem, 1) := by decide +kernel
theorem dX12_divisor_18 : decode cX12_divisor 18 = .ok (.lstore 8, 2) := by decide +kernel
theorem dX12_divisor_20 : decode cX12_divisor 20 = .ok (.lload 6, 2) := by decide +kernel
theorem dX12_divisor_22 : decode cX12_divisor 22 = .ok (.lstore 4, 2) := by decide +kernel
theorem dX12_divisor_24 : decode cX12_divisor 24 = .ok (.lload 8, 2) := by decide +kernel
theorem dX12_divisor_26 : decode cX12_divisor 26 = .ok (.lstore 6, 2) := by decide +kernel
theorem dX12_divisor_28 : decode cX12_divisor 28 = .ok (.goto (-22), 3) := by decide +kernel
theorem dX12_divisor_31 : decode cX12_divisor 31 = .ok (.lload 4, 2) := by decide +kernel
theorem dX12_divisor_33 : decode cX12_divisor 33 = .ok (.lreturn, 1) := by decide +kernel
set_option maxRecDepth 20000 in
theorem ggX12_share_X12_isBody : GoodIn wsX12_share wsX12_isBody := goodIn_r _ [8, 9, 54, 55, 56, 57, 58, 59, 60, 61, 62, 63, 64, 65, 66, 67, 68, 69, 70, 71, 72, 73, 74, 75, 76, 77, 78, 79, 80, 81, 82, 83, 84, 85, 86, 87, 88, 89, 90, 91, 92, 93, 94, 95, 96, 97, 98, 99, 100, 101, 102, 103, 104, 105, 106, 107, 108, 109, 110, 111, 112, 113, 114, 115, 116, 117, 118, 119, 120, 121, 122, 123, 124, 125, 126, 127, 128, 129, 130, 131, 132] (by decide +kernel) (by decide +kernel)
set_option maxRecDepth 20000 in
theorem gX12_share_X12_isBody : GoodIn wsX12_share (wsV RX12 193 RX12 yX12_isBody wsX12_isBody) := goodIn_app (goodIn_of _ (by decide +kernel)) ggX12_share_X12_isBody
set_option maxRecDepth 20000 in
theorem ggX12_share_X12_isCell : GoodIn wsX12_share wsX12_isCell := goodIn_r _ [12, 13, 14, 7, 15] (by decide +kernel) (by decide +kernel)
set_option maxRecDepth 20000 in
theorem gX12_share_X12_isCell : GoodIn wsX12_share (va_wsS RX12 217 yX12_isCell wsX12_isCell) := goodIn_app (goodIn_of _ (by decide +kernel)) ggX12_share_X12_isCell
set_option maxRecDepth 20000 in
theorem ggX12_share_X12_within : GoodIn wsX12_share wsX12_within := goodIn_r _ [15] (by decide +kernel) (by decide +kernel)
set_option maxRecDepth 20000 in
theorem gX12_share_X12_within : GoodIn wsX12_share (va_wsS RX12 186 yX12_within wsX12_within) := goodIn_app (goodIn_of _ (by decide +kernel)) ggX12_share_X12_within
set_option maxRecDepth 20000 in
theorem ggX12_share_X12_weigh : GoodIn wsX12_share wsX12_weigh := goodIn_r _ [19, 20, 3, 21, 22, 23, 24, 25, 2, 26, 27, 28, 7, 29, 30, 31, 32, 33, 34, 35, 36, 37, 38, 39, 40, 41, 42, 43, 44, 45, 46, 47, 48, 49, 50, 13, 14, 15, 54, 55, 56, 57, 58, 59, 60, 61, 62, 63, 64, 65, 66, 67, 68, 69, 70, 71, 72, 73, 74, 75, 76, 77, 78, 79, 80, 81, 82, 83, 84, 85, 86, 87, 88, 89, 90, 91, 92, 93, 94, 95, 96, 97, 98, 99, 100, 101, 102, 103, 104, 105, 106, 107, 108, 109, 110, 111, 112, 113, 114, 115, 116, 117, 118, 119, 120, 121, 122, 123, 124, 125, 126, 127, 128, 129, 130, 131, 132] (by decide +kernel) (by decide +kernel)
set_option maxRecDepth 20000 in
theorem gX12_share_X12_weigh : GoodIn wsX12_share (wsV RX12 287 RX12 yX12_weigh wsX12_weigh) := goodIn_app (goodIn_of _ (by decide +kernel)) ggX12_share_X12_weigh
set_option maxRecDepth 20000 in
theorem ggX12_share_X12_divisor : GoodIn wsX12_share wsX12_divisor := goodIn_r _ [53] (by decide +kernel) (by decide +kernel)
set_option maxRecDepth 20000 in
theorem gX12_share_X12_divisor : GoodIn wsX12_share (va_wsS RX12 291 yX12_divisor wsX12_divisor) := goodIn_app (goodIn_of _ (by decide +kernel)) ggX12_share_X12_divisor
theorem dX12_share_0 : decode cX12_share 0 = .ok (.aload_n 0, 1) := by decide +kernel
theorem dX12_share_1 : decode cX12_share 1 = .ok (.iload_n 1, 1) := by decide +kernel
theorem dX12_share_2 : decode cX12_share 2 = .ok (.invokevirtual 193, 3) := by decide +kernel
theorem dX12_share_5 : decode cX12_share 5 = .ok (.ifCond .eq 19, 3) := by decide +kernel
theorem dX12_share_8 : decode cX12_share 8 = .ok (.iload_n 2, 1) := by decide +kernel
theorem dX12_share_9 : decode cX12_share 9 = .ok (.invokestatic 217, 3) := by decide +kernel
theorem dX12_share_12 : decode cX12_share 12 = .ok (.ifCond .eq 12, 3) := by decide +kernel
theorem dX12_share_15 : decode cX12_share 15 = .ok (.iload_n 3, 1) := by decide +kernel
theorem dX12_share_16 : decode cX12_share 16 = .ok (.iconst 0, 1) := by decide +kernel
theorem dX12_share_17 : decode cX12_share 17 = .ok (.iconst 1, 1) := by decide +kernel
theorem dX12_share_18 : decode cX12_share 18 = .ok (.invokestatic 186, 3) := by decide +kernel
theorem dX12_share_21 : decode cX12_share 21 = .ok (.ifCond .ne 7, 3) := by decide +kernel
theorem dX12_share_24 : decode cX12_share 24 = .ok (.ldc2_w 236, 3) := by decide +kernel
theorem dX12_share_27 : decode cX12_share 27 = .ok (.lreturn, 1) := by decide +kernel
theorem dX12_share_28 : decode cX12_share 28 = .ok (.aload_n 0, 1) := by decide +kernel
theorem dX12_share_29 : decode cX12_share 29 = .ok (.iload_n 1, 1) := by decide +kernel
theorem dX12_share_30 : decode cX12_share 30 = .ok (.invokevirtual 287, 3) := by decide +kernel
theorem dX12_share_33 : decode cX12_share 33 = .ok (.aload_n 0, 1) := by decide +kernel
theorem dX12_share_34 : decode cX12_share 34 = .ok (.getfield 134, 3) := by decide +kernel
theorem dX12_share_37 : decode cX12_share 37 = .ok (.iload_n 2, 1) := by decide +kernel
theorem dX12_share_38 : decode cX12_share 38 = .ok (.laload, 1) := by decide +kernel
theorem dX12_share_39 : decode cX12_share 39 = .ok (.lconst 0, 1) := by decide +kernel
theorem dX12_share_40 : decode cX12_share 40 = .ok (.lcmp, 1) := by decide +kernel
theorem dX12_share_41 : decode cX12_share 41 = .ok (.ifCond .ne 6, 3) := by decide +kernel
theorem dX12_share_44 : decode cX12_share 44 = .ok (.iload_n 3, 1) := by decide +kernel
theorem dX12_share_45 : decode cX12_share 45 = .ok (.i2l, 1) := by decide +kernel
theorem dX12_share_46 : decode cX12_share 46 = .ok (.lreturn, 1) := by decide +kernel
theorem dX12_share_47 : decode cX12_share 47 = .ok (.aload_n 0, 1) := by decide +kernel
theorem dX12_share_48 : decode cX12_share 48 = .ok (.getfield 281, 3) := by decide +kernel
theorem dX12_share_51 : decode cX12_share 51 = .ok (.aload_n 0, 1) := by decide +kernel
theorem dX12_share_52 : decode cX12_share 52 = .ok (.getfield 134, 3) := by decide +kernel
theorem dX12_share_55 : decode cX12_share 55 = .ok (.iload_n 2, 1) := by decide +kernel
theorem dX12_share_56 : decode cX12_share 56 = .ok (.laload, 1) := by decide +kernel
theorem dX12_share_57 : decode cX12_share 57 = .ok (.invokestatic 291, 3) := by decide +kernel
theorem dX12_share_60 : decode cX12_share 60 = .ok (.lstore 4, 2) := by decide +kernel
theorem dX12_share_62 : decode cX12_share 62 = .ok (.iload_n 3, 1) := by decide +kernel
theorem dX12_share_63 : decode cX12_share 63 = .ok (.ifCond .ne 15, 3) := by decide +kernel
theorem dX12_share_66 : decode cX12_share 66 = .ok (.aload_n 0, 1) := by decide +kernel
theorem dX12_share_67 : decode cX12_share 67 = .ok (.getfield 134, 3) := by decide +kernel
theorem dX12_share_70 : decode cX12_share 70 = .ok (.iload_n 2, 1) := by decide +kernel
theorem dX12_share_71 : decode cX12_share 71 = .ok (.laload, 1) := by decide +kernel
theorem dX12_share_72 : decode cX12_share 72 = .ok (.lload 4, 2) := by decide +kernel
theorem dX12_share_74 : decode cX12_share 74 = .ok (.ldiv, 1) := by decide +kernel
theorem dX12_share_75 : decode cX12_share 75 = .ok (.goto 10, 3) := by decide +kernel
theorem dX12_share_78 : decode cX12_share 78 = .ok (.aload_n 0, 1) := by decide +kernel
theorem dX12_share_79 : decode cX12_share 79 = .ok (.getfield 281, 3) := by decide +kernel
theorem dX12_share_82 : decode cX12_share 82 = .ok (.lload 4, 2) := by decide +kernel
theorem dX12_share_84 : decode cX12_share 84 = .ok (.ldiv, 1) := by decide +kernel
theorem dX12_share_85 : decode cX12_share 85 = .ok (.lreturn, 1) := by decide +kernel
set_option maxRecDepth 20000 in
theorem ggX12_partFrom_X12_partFrom : GoodIn wsX12_partFrom wsX12_partFrom := goodIn_r _ [0, 1, 2, 3, 4, 5, 6, 7, 8, 9, 10, 11, 12, 13, 14, 15, 16, 17, 18, 19, 20, 21, 22, 23, 24, 25, 26, 27, 28, 29, 30, 31, 32, 33, 34, 35, 36, 37, 38, 39, 40, 41, 42, 43, 44, 45, 46, 47, 48, 49, 50, 51, 52, 53, 54, 55, 56, 57, 58, 59, 60, 61, 62, 63, 64, 65, 66, 67, 68, 69, 70, 71, 72, 73, 74, 75, 76, 77, 78, 79, 80, 81, 82, 83, 84, 85, 86, 87, 88, 89] (by decide +kernel) (by decide +kernel)
set_option maxRecDepth 20000 in
theorem gX12_partFrom_X12_partFrom : GoodIn wsX12_partFrom (wsV RX12 298 RX12 yX12_partFrom wsX12_partFrom) := goodIn_app (goodIn_of _ (by decide +kernel)) ggX12_partFrom_X12_partFrom
theorem dX12_partFrom_0 : decode cX12_partFrom 0 = .ok (.iload_n 1, 1) := by decide +kernel
theorem dX12_partFrom_1 : decode cX12_partFrom 1 = .ok (.iload_n 2, 1) := by decide +kernel
theorem dX12_partFrom_2 : decode cX12_partFrom 2 = .ok (.if_icmp .ne 96, 3) := by decide +kernel
theorem dX12_partFrom_5 : decode cX12_partFrom 5 = .ok (.lconst 0, 1) := by decide +kernel
theorem dX12_partFrom_6 : decode cX12_partFrom 6 = .ok (.lstore 6, 2) := by decide +kernel
theorem dX12_partFrom_8 : decode cX12_partFrom 8 = .ok (.iconst 0, 1) := by decide +kernel
theorem dX12_partFrom_9 : decode cX12_partFrom 9 = .ok (.istore 8, 2) := by decide +kernel
theorem dX12_partFrom_11 : decode cX12_partFrom 11 = .ok (.iload 8, 2) := by decide +kernel
theorem dX12_partFrom_13 : decode cX12_partFrom 13 = .ok (.bipush 64, 2) := by decide +kernel
theorem dX12_partFrom_15 : decode cX12_partFrom 15 = .ok (.if_icmp .ge 37, 3) := by decide +kernel
theorem dX12_partFrom_18 : decode cX12_partFrom 18 = .ok (.lload 6, 2) := by decide +kernel
theorem dX12_partFrom_20 : decode cX12_partFrom 20 = .ok (.lload 4, 2) := by decide +kernel
theorem dX12_partFrom_22 : decode cX12_partFrom 22 = .ok (.iload 8, 2) := by decide +kernel
theorem dX12_partFrom_24 : decode cX12_partFrom 24 = .ok (.lushr, 1) := by decide +kernel
theorem dX12_partFrom_25 : decode cX12_partFrom 25 = .ok (.lconst 1, 1) := by decide +kernel
theorem dX12_partFrom_26 : decode cX12_partFrom 26 = .ok (.land, 1) := by decide +kernel
theorem dX12_partFrom_27 : decode cX12_partFrom 27 = .ok (.lconst 1, 1) := by decide +kernel
theorem dX12_partFrom_28 : decode cX12_partFrom 28 = .ok (.lcmp, 1) := by decide +kernel
theorem dX12_partFrom_29 : decode cX12_partFrom 29 = .ok (.ifCond .ne 13, 3) := by decide +kernel
theorem dX12_partFrom_32 : decode cX12_partFrom 32 = .ok (.aload_n 0, 1) := by decide +kernel
theorem dX12_partFrom_33 : decode cX12_partFrom 33 = .ok (.getfield 134, 3) := by decide +kernel
theorem dX12_partFrom_36 : decode cX12_partFrom 36 = .ok (.iload 8, 2) := by decide +kernel
theorem dX12_partFrom_38 : decode cX12_partFrom 38 = .ok (.laload, 1) := by decide +kernel
theorem dX12_partFrom_39 : decode cX12_partFrom 39 = .ok (.goto 4, 3) := by decide +kernel
theorem dX12_partFrom_42 : decode cX12_partFrom 42 = .ok (.lconst 0, 1) := by decide +kernel
theorem dX12_partFrom_43 : decode cX12_partFrom 43 = .ok (.ladd, 1) := by decide +kernel
theorem dX12_partFrom_44 : decode cX12_partFrom 44 = .ok (.lstore 6, 2) := by decide +kernel
theorem dX12_partFrom_46 : decode cX12_partFrom 46 = .ok (.iinc 8 1, 3) := by decide +kernel
theorem dX12_partFrom_49 : decode cX12_partFrom 49 = .ok (.goto (-38), 3) := by decide +kernel
theorem dX12_partFrom_52 : decode cX12_partFrom 52 = .ok (.lload 6, 2) := by decide +kernel
theorem dX12_partFrom_54 : decode cX12_partFrom 54 = .ok (.aload_n 0, 1) := by decide +kernel
theorem dX12_partFrom_55 : decode cX12_partFrom 55 = .ok (.getfield 295, 3) := by decide +kernel
theorem dX12_partFrom_58 : decode cX12_partFrom 58 = .ok (.lcmp, 1) := by decide +kernel
theorem dX12_partFrom_59 : decode cX12_partFrom 59 = .ok (.ifCond .le 38, 3) := by decide +kernel
theorem dX12_partFrom_62 : decode cX12_partFrom 62 = .ok (.aload_n 0, 1) := by decide +kernel
theorem dX12_partFrom_63 : decode cX12_partFrom 63 = .ok (.lload 6, 2) := by decide +kernel
theorem dX12_partFrom_65 : decode cX12_partFrom 65 = .ok (.putfield 295, 3) := by decide +kernel
theorem dX12_partFrom_68 : decode cX12_partFrom 68 = .ok (.iconst 0, 1) := by decide +kernel
theorem dX12_partFrom_69 : decode cX12_partFrom 69 = .ok (.istore 8, 2) := by decide +kernel
theorem dX12_partFrom_71 : decode cX12_partFrom 71 = .ok (.iload 8, 2) := by decide +kernel
theorem dX12_partFrom_73 : decode cX12_partFrom 73 = .ok (.iload_n 2, 1) := by decide +kernel
theorem dX12_partFrom_74 : decode cX12_partFrom 74 = .ok (.if_icmp .ge 23, 3) := by decide +kernel
theorem dX12_partFrom_77 : decode cX12_partFrom 77 = .ok (.aload_n 0, 1) := by decide +kernel
theorem dX12_partFrom_78 : decode cX12_partFrom 78 = .ok (.getfield 140, 3) := by decide +kernel
theorem dX12_partFrom_81 : decode cX12_partFrom 81 = .ok (.iload 8, 2) := by decide +kernel
theorem dX12_partFrom_83 : decode cX12_partFrom 83 = .ok (.aload_n 0, 1) := by decide +kernel
theorem dX12_partFrom_84 : decode cX12_partFrom 84 = .ok (.getfield 137, 3) := by decide +kernel
theorem dX12_partFrom_87 : decode cX12_partFrom 87 = .ok (.iload 8, 2) := by decide +kernel
theorem dX12_partFrom_89 : decode cX12_partFrom 89 = .ok (.iaload, 1) := by decide +kernel
theorem dX12_partFrom_90 : decode cX12_partFrom 90 = .ok (.iastore, 1) := by decide +kernel
theorem dX12_partFrom_91 : decode cX12_partFrom 91 = .ok (.iinc 8 1, 3) := by decide +kernel
theorem dX12_partFrom_94 : decode cX12_partFrom 94 = .ok (.goto (-23), 3) := by decide +kernel
theorem dX12_partFrom_97 : decode cX12_partFrom 97 = .ok (.return_, 1) := by decide +kernel
theorem dX12_partFrom_98 : decode cX12_partFrom 98 = .ok (.iconst 0, 1) := by decide +kernel
theorem dX12_partFrom_99 : decode cX12_partFrom 99 = .ok (.istore 6, 2) := by decide +kernel
theorem dX12_partFrom_101 : decode cX12_partFrom 101 = .ok (.iload 6, 2) := by decide +kernel
theorem dX12_partFrom_103 : decode cX12_partFrom 103 = .ok (.aload_n 0, 1) := by decide +kernel
theorem dX12_partFrom_104 : decode cX12_partFrom 104 = .ok (.getfield 272, 3) := by decide +kernel
theorem dX12_partFrom_107 : decode cX12_partFrom 107 = .ok (.if_icmp .ge 53, 3) := by decide +kernel
theorem dX12_partFrom_110 : decode cX12_partFrom 110 = .ok (.iload_n 3, 1) := by decide +kernel
theorem dX12_partFrom_111 : decode cX12_partFrom 111 = .ok (.iload 6, 2) := by decide +kernel
theorem dX12_partFrom_113 : decode cX12_partFrom 113 = .ok (.ishr, 1) := by decide +kernel
theorem dX12_partFrom_114 : decode cX12_partFrom 114 = .ok (.iconst 1, 1) := by decide +kernel
theorem dX12_partFrom_115 : decode cX12_partFrom 115 = .ok (.iand, 1) := by decide +kernel
theorem dX12_partFrom_116 : decode cX12_partFrom 116 = .ok (.iconst 1, 1) := by decide +kernel
theorem dX12_partFrom_117 : decode cX12_partFrom 117 = .ok (.if_icmp .ne 37, 3) := by decide +kernel
theorem dX12_partFrom_120 : decode cX12_partFrom 120 = .ok (.aload_n 0, 1) := by decide +kernel
theorem dX12_partFrom_121 : decode cX12_partFrom 121 = .ok (.getfield 137, 3) := by decide +kernel
theorem dX12_partFrom_124 : decode cX12_partFrom 124 = .ok (.iload_n 1, 1) := by decide +kernel
theorem dX12_partFrom_125 : decode cX12_partFrom 125 = .ok (.iload 6, 2) := by decide +kernel
theorem dX12_partFrom_127 : decode cX12_partFrom 127 = .ok (.iastore, 1) := by decide +kernel
theorem dX12_partFrom_128 : decode cX12_partFrom 128 = .ok (.aload_n 0, 1) := by decide +kernel
theorem dX12_partFrom_129 : decode cX12_partFrom 129 = .ok (.iload_n 1, 1) := by decide +kernel
theorem dX12_partFrom_130 : decode cX12_partFrom 130 = .ok (.iconst 1, 1) := by decide +kernel
theorem dX12_partFrom_131 : decode cX12_partFrom 131 = .ok (.iadd, 1) := by decide +kernel
theorem dX12_partFrom_132 : decode cX12_partFrom 132 = .ok (.iload_n 2, 1) := by decide +kernel
theorem dX12_partFrom_133 : decode cX12_partFrom 133 = .ok (.iload_n 3, 1) := by decide +kernel
theorem dX12_partFrom_134 : decode cX12_partFrom 134 = .ok (.iconst 1, 1) := by decide +kernel
theorem dX12_partFrom_135 : decode cX12_partFrom 135 = .ok (.iload 6, 2) := by decide +kernel
theorem dX12_partFrom_137 : decode cX12_partFrom 137 = .ok (.ishl, 1) := by decide +kernel
theorem dX12_partFrom_138 : decode cX12_partFrom 138 = .ok (.iconst (-1), 1) := by decide +kernel
theorem dX12_partFrom_139 : decode cX12_partFrom 139 = .ok (.ixor, 1) := by decide +kernel
theorem dX12_partFrom_140 : decode cX12_partFrom 140 = .ok (.iand, 1) := by decide +kernel
theorem dX12_partFrom_141 : decode cX12_partFrom 141 = .ok (.lload 4, 2) := by decide +kernel
theorem dX12_partFrom_143 : decode cX12_partFrom 143 = .ok (.aload_n 0, 1) := by decide +kernel
theorem dX12_partFrom_144 : decode cX12_partFrom 144 = .ok (.getfield 89, 3) := by decide +kernel
theorem dX12_partFrom_147 : decode cX12_partFrom 147 = .ok (.iload 6, 2) := by decide +kernel
theorem dX12_partFrom_149 : decode cX12_partFrom 149 = .ok (.laload, 1) := by decide +kernel
theorem dX12_partFrom_150 : decode cX12_partFrom 150 = .ok (.lor, 1) := by decide +kernel
theorem dX12_partFrom_151 : decode cX12_partFrom 151 = .ok (.invokevirtual 298, 3) := by decide +kernel
theorem dX12_partFrom_154 : decode cX12_partFrom 154 = .ok (.iinc 6 1, 3) := by decide +kernel
theorem dX12_partFrom_157 : decode cX12_partFrom 157 = .ok (.goto (-56), 3) := by decide +kernel
theorem dX12_partFrom_160 : decode cX12_partFrom 160 = .ok (.return_, 1) := by decide +kernel
theorem dX12_countOf_0 : decode cX12_countOf 0 = .ok (.iconst 0, 1) := by decide +kernel
theorem dX12_countOf_1 : decode cX12_countOf 1 = .ok (.istore_n 1, 1) := by decide +kernel
theorem dX12_countOf_2 : decode cX12_countOf 2 = .ok (.iconst 0, 1) := by decide +kernel
theorem dX12_countOf_3 : decode cX12_countOf 3 = .ok (.istore_n 2, 1) := by decide +kernel
theorem dX12_countOf_4 : decode cX12_countOf 4 = .ok (.iload_n 2, 1) := by decide +kernel
theorem dX12_countOf_5 : decode cX12_countOf 5 = .ok (.bipush 32, 2) := by decide +kernel
theorem dX12_countOf_7 : decode cX12_countOf 7 = .ok (.if_icmp .ge 17, 3) := by decide +kernel
theorem dX12_countOf_10 : decode cX12_countOf 10 = .ok (.iload_n 1, 1) := by decide +kernel
theorem dX12_countOf_11 : decode cX12_countOf 11 = .ok (.iload_n 0, 1) := by decide +kernel
theorem dX12_countOf_12 : decode cX12_countOf 12 = .ok (.iload_n 2, 1) := by decide +kernel
theorem dX12_countOf_13 : decode cX12_countOf 13 = .ok (.iushr, 1) := by decide +kernel
theorem dX12_countOf_14 : decode cX12_countOf 14 = .ok (.iconst 1, 1) := by decide +kernel
theorem dX12_countOf_15 : decode cX12_countOf 15 = .ok (.iand, 1) := by decide +kernel
theorem dX12_countOf_16 : decode cX12_countOf 16 = .ok (.iadd, 1) := by decide +kernel
theorem dX12_countOf_17 : decode cX12_countOf 17 = .ok (.istore_n 1, 1) := by decide +kernel
theorem dX12_countOf_18 : decode cX12_countOf 18 = .ok (.iinc 2 1, 3) := by decide +kernel
theorem dX12_countOf_21 : decode cX12_countOf 21 = .ok (.goto (-17), 3) := by decide +kernel
theorem dX12_countOf_24 : decode cX12_countOf 24 = .ok (.iload_n 1, 1) := by decide +kernel
theorem dX12_countOf_25 : decode cX12_countOf 25 = .ok (.ireturn, 1) := by decide +kernel
set_option maxRecDepth 20000 in
theorem ggX12_parted_X12_isBody : GoodIn wsX12_parted wsX12_isBody := goodIn_r _ [12, 1, 63, 64, 65, 66, 67, 68, 69, 70, 71, 72, 73, 74, 75, 76, 77, 78, 79, 80, 81, 82, 83, 84, 85, 86, 87, 88, 89, 90, 91, 92, 93, 94, 95, 96, 97, 98, 99, 100, 101, 102, 103, 104, 105, 106, 107, 108, 109, 110, 111, 112, 113, 114, 115, 116, 117, 118, 119, 120, 121, 122, 123, 124, 125, 126, 127, 128, 129, 130, 131, 132, 133, 134, 135, 136, 137, 138, 139, 140, 141] (by decide +kernel) (by decide +kernel)
set_option maxRecDepth 20000 in
theorem gX12_parted_X12_isBody : GoodIn wsX12_parted (wsV RX12 193 RX12 yX12_isBody wsX12_isBody) := goodIn_app (goodIn_of _ (by decide +kernel)) ggX12_parted_X12_isBody
set_option maxRecDepth 20000 in
theorem ggX12_parted_X12_countOf : GoodIn wsX12_parted wsX12_countOf := goodIn_r _ [15] (by decide +kernel) (by decide +kernel)
set_option maxRecDepth 20000 in
theorem gX12_parted_X12_countOf : GoodIn wsX12_parted (va_wsS RX12 302 yX12_countOf wsX12_countOf) := goodIn_app (goodIn_of _ (by decide +kernel)) ggX12_parted_X12_countOf
set_option maxRecDepth 20000 in
theorem ggX12_parted_X12_isSeeker : GoodIn wsX12_parted wsX12_isSeeker := goodIn_r _ [19, 20, 8, 9, 10, 11, 12, 1, 63, 64, 65, 66, 67, 68, 69, 70, 71, 72, 73, 74, 75, 76, 77, 78, 79, 80, 81, 82, 83, 84, 85, 86, 87, 88, 89, 90, 91, 92, 93, 94, 95, 96, 97, 98, 99, 100, 101, 102, 103, 104, 105, 106, 107, 108, 109, 110, 111, 112, 113, 114, 115, 116, 117, 118, 119, 120, 121, 122, 123, 124, 125, 126, 127, 128, 129, 130, 131, 132, 133, 134, 135, 136, 137, 138, 139, 140, 141] (by decide +kernel) (by decide +kernel)
set_option maxRecDepth 20000 in
theorem gX12_parted_X12_isSeeker : GoodIn wsX12_parted (wsV RX12 275 RX12 yX12_isSeeker wsX12_isSeeker) := goodIn_app (goodIn_of _ (by decide +kernel)) ggX12_parted_X12_isSeeker
set_option maxRecDepth 20000 in
theorem ggX12_parted_X12_within : GoodIn wsX12_parted wsX12_within := goodIn_r _ [23] (by decide +kernel) (by decide +kernel)
set_option maxRecDepth 20000 in
theorem gX12_parted_X12_within : GoodIn wsX12_parted (va_wsS RX12 186 yX12_within wsX12_within) := goodIn_app (goodIn_of _ (by decide +kernel)) ggX12_parted_X12_within
set_option maxRecDepth 20000 in
theorem ggX12_parted_X12_weigh : GoodIn wsX12_parted wsX12_weigh := goodIn_r _ [27, 28, 6, 29, 30, 31, 32, 33, 34, 35, 36, 37, 11, 38, 39, 40, 41, 42, 43, 44, 45, 46, 47, 48, 49, 3, 50, 51, 52, 53, 54, 55, 56, 57, 20, 21, 22, 23, 63, 64, 65, 66, 67, 68, 69, 70, 71, 72, 73, 74, 75, 76, 77, 78, 79, 80, 81, 82, 83, 84, 85, 86, 87, 88, 89, 90, 91, 92, 93, 94, 95, 96, 97, 98, 99, 100, 101, 102, 103, 104, 105, 106, 107, 108, 109, 110, 111, 112, 113, 114, 115, 116, 117, 118, 119, 120, 121, 122, 123, 124, 125, 126, 127, 128, 129, 130, 131, 132, 133, 134, 135, 136, 137, 138, 139, 140, 141] (by decide +kernel) (by decide +kernel)
set_option maxRecDepth 20000 in
theorem gX12_parted_X12_weigh : GoodIn wsX12_parted (wsV RX12 287 RX12 yX12_weigh wsX12_weigh) := goodIn_app (goodIn_of _ (by decide +kernel)) ggX12_parted_X12_weigh
set_option maxRecDepth 20000 in
theorem ggX12_parted_X12_partFrom : GoodIn wsX12_parted wsX12_partFrom := goodIn_r _ [61, 34, 4, 5, 62, 2, 30, 58, 59, 60, 11, 63, 64, 65, 66, 67, 68, 69, 70, 71, 72, 73, 74, 75, 76, 77, 78, 79, 80, 81, 82, 83, 84, 85, 86, 87, 88, 89, 90, 91, 92, 93, 94, 95, 96, 97, 98, 99, 100, 101, 102, 103, 104, 105, 106, 107, 108, 109, 110, 111, 112, 113, 114, 115, 116, 117, 118, 119, 120, 121, 122, 123, 124, 125, 126, 127, 128, 129, 130, 131, 132, 133, 134, 135, 136, 137, 138, 139, 140, 141] (by decide +kernel) (by decide +kernel)
set_option maxRecDepth 20000 in
theorem gX12_parted_X12_partFrom : GoodIn wsX12_parted (wsV RX12 298 RX12 yX12_partFrom wsX12_partFrom) := goodIn_app (goodIn_of _ (by decide +kernel)) ggX12_parted_X12_partFrom
theorem dX12_parted_0 : decode cX12_parted 0 = .ok (.aload_n 0, 1) := by decide +kernel
theorem dX12_parted_1 : decode cX12_parted 1 = .ok (.iload_n 1, 1) := by decide +kernel
theorem dX12_parted_2 : decode cX12_parted 2 = .ok (.invokevirtual 193, 3) := by decide +kernel
theorem dX12_parted_5 : decode cX12_parted 5 = .ok (.ifCond .eq 41, 3) := by decide +kernel
theorem dX12_parted_8 : decode cX12_parted 8 = .ok (.iload_n 2, 1) := by decide +kernel
theorem dX12_parted_9 : decode cX12_parted 9 = .ok (.ifCond .lt 37, 3) := by decide +kernel
theorem dX12_parted_12 : decode cX12_parted 12 = .ok (.iload_n 2, 1) := by decide +kernel
theorem dX12_parted_13 : decode cX12_parted 13 = .ok (.aload_n 0, 1) := by decide +kernel
theorem dX12_parted_14 : decode cX12_parted 14 = .ok (.getfield 190, 3) := by decide +kernel
theorem dX12_parted_17 : decode cX12_parted 17 = .ok (.ishr, 1) := by decide +kernel
theorem dX12_parted_18 : decode cX12_parted 18 = .ok (.ifCond .ne 28, 3) := by decide +kernel
theorem dX12_parted_21 : decode cX12_parted 21 = .ok (.iload_n 2, 1) := by decide +kernel
theorem dX12_parted_22 : decode cX12_parted 22 = .ok (.invokestatic 302, 3) := by decide +kernel
theorem dX12_parted_25 : decode cX12_parted 25 = .ok (.iconst 3, 1) := by decide +kernel
theorem dX12_parted_26 : decode cX12_parted 26 = .ok (.if_icmp .gt 20, 3) := by decide +kernel
theorem dX12_parted_29 : decode cX12_parted 29 = .ok (.iload_n 3, 1) := by decide +kernel
theorem dX12_parted_30 : decode cX12_parted 30 = .ok (.ifCond .lt 16, 3) := by decide +kernel
theorem dX12_parted_33 : decode cX12_parted 33 = .ok (.iload_n 3, 1) := by decide +kernel
theorem dX12_parted_34 : decode cX12_parted 34 = .ok (.aload_n 0, 1) := by decide +kernel
theorem dX12_parted_35 : decode cX12_parted 35 = .ok (.getfield 272, 3) := by decide +kernel
theorem dX12_parted_38 : decode cX12_parted 38 = .ok (.ishr, 1) := by decide +kernel
theorem dX12_parted_39 : decode cX12_parted 39 = .ok (.ifCond .ne 7, 3) := by decide +kernel
theorem dX12_parted_42 : decode cX12_parted 42 = .ok (.iconst 1, 1) := by decide +kernel
theorem dX12_parted_43 : decode cX12_parted 43 = .ok (.goto 4, 3) := by decide +kernel
theorem dX12_parted_46 : decode cX12_parted 46 = .ok (.iconst 0, 1) := by decide +kernel
theorem dX12_parted_47 : decode cX12_parted 47 = .ok (.istore 5, 2) := by decide +kernel
theorem dX12_parted_49 : decode cX12_parted 49 = .ok (.iconst 0, 1) := by decide +kernel
theorem dX12_parted_50 : decode cX12_parted 50 = .ok (.istore 6, 2) := by decide +kernel
theorem dX12_parted_52 : decode cX12_parted 52 = .ok (.iload 6, 2) := by decide +kernel
theorem dX12_parted_54 : decode cX12_parted 54 = .ok (.bipush 12, 2) := by decide +kernel
theorem dX12_parted_56 : decode cX12_parted 56 = .ok (.if_icmp .ge 39, 3) := by decide +kernel
theorem dX12_parted_59 : decode cX12_parted 59 = .ok (.iload 5, 2) := by decide +kernel
theorem dX12_parted_61 : decode cX12_parted 61 = .ok (.ifCond .eq 25, 3) := by decide +kernel
theorem dX12_parted_64 : decode cX12_parted 64 = .ok (.iload_n 2, 1) := by decide +kernel
theorem dX12_parted_65 : decode cX12_parted 65 = .ok (.iload 6, 2) := by decide +kernel
theorem dX12_parted_67 : decode cX12_parted 67 = .ok (.ishr, 1) := by decide +kernel
theorem dX12_parted_68 : decode cX12_parted 68 = .ok (.iconst 1, 1) := by decide +kernel
theorem dX12_parted_69 : decode cX12_parted 69 = .ok (.iand, 1) := by decide +kernel
theorem dX12_parted_70 : decode cX12_parted 70 = .ok (.ifCond .eq 12, 3) := by decide +kernel
theorem dX12_parted_73 : decode cX12_parted 73 = .ok (.aload_n 0, 1) := by decide +kernel
theorem dX12_parted_74 : decode cX12_parted 74 = .ok (.iload 6, 2) := by decide +kernel
theorem dX12_parted_76 : decode cX12_parted 76 = .ok (.invokevirtual 275, 3) := by decide +kernel
theorem dX12_parted_79 : decode cX12_parted 79 = .ok (.ifCond .eq 7, 3) := by decide +kernel
theorem dX12_parted_82 : decode cX12_parted 82 = .ok (.iconst 1, 1) := by decide +kernel
theorem dX12_parted_83 : decode cX12_parted 83 = .ok (.goto 4, 3) := by decide +kernel
theorem dX12_parted_86 : decode cX12_parted 86 = .ok (.iconst 0, 1) := by decide +kernel
theorem dX12_parted_87 : decode cX12_parted 87 = .ok (.istore 5, 2) := by decide +kernel
theorem dX12_parted_89 : decode cX12_parted 89 = .ok (.iinc 6 1, 3) := by decide +kernel
theorem dX12_parted_92 : decode cX12_parted 92 = .ok (.goto (-40), 3) := by decide +kernel
theorem dX12_parted_95 : decode cX12_parted 95 = .ok (.iload 5, 2) := by decide +kernel
theorem dX12_parted_97 : decode cX12_parted 97 = .ok (.ifCond .ne 6, 3) := by decide +kernel
theorem dX12_parted_100 : decode cX12_parted 100 = .ok (.bipush (-2), 2) := by decide +kernel
theorem dX12_parted_102 : decode cX12_parted 102 = .ok (.ireturn, 1) := by decide +kernel
theorem dX12_parted_103 : decode cX12_parted 103 = .ok (.iload_n 2, 1) := by decide +kernel
theorem dX12_parted_104 : decode cX12_parted 104 = .ok (.invokestatic 302, 3) := by decide +kernel
theorem dX12_parted_107 : decode cX12_parted 107 = .ok (.istore 6, 2) := by decide +kernel
theorem dX12_parted_109 : decode cX12_parted 109 = .ok (.iload_n 3, 1) := by decide +kernel
theorem dX12_parted_110 : decode cX12_parted 110 = .ok (.invokestatic 302, 3) := by decide +kernel
theorem dX12_parted_113 : decode cX12_parted 113 = .ok (.iload 6, 2) := by decide +kernel
theorem dX12_parted_115 : decode cX12_parted 115 = .ok (.if_icmp .ge 6, 3) := by decide +kernel
theorem dX12_parted_118 : decode cX12_parted 118 = .ok (.bipush (-3), 2) := by decide +kernel
theorem dX12_parted_120 : decode cX12_parted 120 = .ok (.ireturn, 1) := by decide +kernel
theorem dX12_parted_121 : decode cX12_parted 121 = .ok (.iload 4, 2) := by decide +kernel
theorem dX12_parted_123 : decode cX12_parted 123 = .ok (.iconst (-1), 1) := by decide +kernel
theorem dX12_parted_124 : decode cX12_parted 124 = .ok (.iload 6, 2) := by decide +kernel
theorem dX12_parted_126 : decode cX12_parted 126 = .ok (.iconst 1, 1) := by decide +kernel
theorem dX12_parted_127 : decode cX12_parted 127 = .ok (.isub, 1) := by decide +kernel
theorem dX12_parted_128 : decode cX12_parted 128 = .ok (.invokestatic 186, 3) := by decide +kernel
theorem dX12_parted_131 : decode cX12_parted 131 = .ok (.ifCond .ne 5, 3) := by decide +kernel
theorem dX12_parted_134 : decode cX12_parted 134 = .ok (.iconst (-1), 1) := by decide +kernel
theorem dX12_parted_135 : decode cX12_parted 135 = .ok (.ireturn, 1) := by decide +kernel
theorem dX12_parted_136 : decode cX12_parted 136 = .ok (.aload_n 0, 1) := by decide +kernel
theorem dX12_parted_137 : decode cX12_parted 137 = .ok (.iload_n 1, 1) := by decide +kernel
theorem dX12_parted_138 : decode cX12_parted 138 = .ok (.invokevirtual 287, 3) := by decide +kernel
theorem dX12_parted_141 : decode cX12_parted 141 = .ok (.aload_n 0, 1) := by decide +kernel
theorem dX12_parted_142 : decode cX12_parted 142 = .ok (.ldc2_w 226, 3) := by decide +kernel
theorem dX12_parted_145 : decode cX12_parted 145 = .ok (.putfield 295, 3) := by decide +kernel
theorem dX12_parted_148 : decode cX12_parted 148 = .ok (.aload_n 0, 1) := by decide +kernel
theorem dX12_parted_149 : decode cX12_parted 149 = .ok (.iconst 0, 1) := by decide +kernel
theorem dX12_parted_150 : decode cX12_parted 150 = .ok (.iload 6, 2) := by decide +kernel
theorem dX12_parted_152 : decode cX12_parted 152 = .ok (.iload_n 3, 1) := by decide +kernel
theorem dX12_parted_153 : decode cX12_parted 153 = .ok (.lconst 0, 1) := by decide +kernel
theorem dX12_parted_154 : decode cX12_parted 154 = .ok (.invokevirtual 298, 3) := by decide +kernel
theorem dX12_parted_157 : decode cX12_parted 157 = .ok (.iload 4, 2) := by decide +kernel
theorem dX12_parted_159 : decode cX12_parted 159 = .ok (.ifCond .lt 13, 3) := by decide +kernel
theorem dX12_parted_162 : decode cX12_parted 162 = .ok (.aload_n 0, 1) := by decide +kernel
theorem dX12_parted_163 : decode cX12_parted 163 = .ok (.getfield 140, 3) := by decide +kernel
theorem dX12_parted_166 : decode cX12_parted 166 = .ok (.iload 4, 2) := by decide +kernel
theorem dX12_parted_168 : decode cX12_parted 168 = .ok (.iaload, 1) := by decide +kernel
theorem dX12_parted_169 : decode cX12_parted 169 = .ok (.goto 30, 3) := by decide +kernel
theorem dX12_parted_172 : decode cX12_parted 172 = .ok (.aload_n 0, 1) := by decide +kernel
theorem dX12_parted_173 : decode cX12_parted 173 = .ok (.getfield 281, 3) := by decide +kernel
theorem dX12_parted_176 : decode cX12_parted 176 = .ok (.lconst 0, 1) := by decide +kernel
theorem dX12_parted_177 : decode cX12_parted 177 = .ok (.lcmp, 1) := by decide +kernel
theorem dX12_parted_178 : decode cX12_parted 178 = .ok (.ifCond .ne 7, 3) := by decide +kernel
theorem dX12_parted_181 : decode cX12_parted 181 = .ok (.iconst 0, 1) := by decide +kernel
theorem dX12_parted_182 : decode cX12_parted 182 = .ok (.goto 17, 3) := by decide +kernel
theorem dX12_parted_185 : decode cX12_parted 185 = .ok (.ldc2_w 305, 3) := by decide +kernel
theorem dX12_parted_188 : decode cX12_parted 188 = .ok (.aload_n 0, 1) := by decide +kernel
theorem dX12_parted_189 : decode cX12_parted 189 = .ok (.getfield 295, 3) := by decide +kernel
theorem dX12_parted_192 : decode cX12_parted 192 = .ok (.lmul, 1) := by decide +kernel
theorem dX12_parted_193 : decode cX12_parted 193 = .ok (.aload_n 0, 1) := by decide +kernel
theorem dX12_parted_194 : decode cX12_parted 194 = .ok (.getfield 281, 3) := by decide +kernel
theorem dX12_parted_197 : decode cX12_parted 197 = .ok (.ldiv, 1) := by decide +kernel
theorem dX12_parted_198 : decode cX12_parted 198 = .ok (.l2i, 1) := by decide +kernel
theorem dX12_parted_199 : decode cX12_parted 199 = .ok (.ireturn, 1) := by decide +kernel
set_option maxRecDepth 20000 in
theorem ggX12_stays_X12_within : GoodIn wsX12_stays wsX12_within := goodIn_r _ [5] (by decide +kernel) (by decide +kernel)
set_option maxRecDepth 20000 in
theorem gX12_stays_X12_within : GoodIn wsX12_stays (va_wsS RX12 186 yX12_within wsX12_within) := goodIn_app (goodIn_of _ (by decide +kernel)) ggX12_stays_X12_within
theorem dX12_stays_0 : decode cX12_stays 0 = .ok (.iload_n 1, 1) := by decide +kernel
theorem dX12_stays_1 : decode cX12_stays 1 = .ok (.iconst 0, 1) := by decide +kernel
theorem dX12_stays_2 : decode cX12_stays 2 = .ok (.bipush 9, 2) := by decide +kernel
theorem dX12_stays_4 : decode cX12_stays 4 = .ok (.invokestatic 186, 3) := by decide +kernel
theorem dX12_stays_7 : decode cX12_stays 7 = .ok (.ifCond .ne 6, 3) := by decide +kernel
theorem dX12_stays_10 : decode cX12_stays 10 = .ok (.bipush (-2), 2) := by decide +kernel
theorem dX12_stays_12 : decode cX12_stays 12 = .ok (.ireturn, 1) := by decide +kernel
theorem dX12_stays_13 : decode cX12_stays 13 = .ok (.aload_n 0, 1) := by decide +kernel
theorem dX12_stays_14 : decode cX12_stays 14 = .ok (.getfield 307, 3) := by decide +kernel
theorem dX12_stays_17 : decode cX12_stays 17 = .ok (.istore_n 2, 1) := by decide +kernel
theorem dX12_stays_18 : decode cX12_stays 18 = .ok (.aload_n 0, 1) := by decide +kernel
theorem dX12_stays_19 : decode cX12_stays 19 = .ok (.iload_n 1, 1) := by decide +kernel
theorem dX12_stays_20 : decode cX12_stays 20 = .ok (.putfield 307, 3) := by decide +kernel
theorem dX12_stays_23 : decode cX12_stays 23 = .ok (.iload_n 2, 1) := by decide +kernel
theorem dX12_stays_24 : decode cX12_stays 24 = .ok (.ireturn, 1) := by decide +kernel
set_option maxRecDepth 20000 in
theorem ggX12_canFly_X12_fogIn : GoodIn wsX12_canFly wsX12_fogIn := goodIn_r _ [5, 6, 7, 8, 9, 10, 11, 12, 13, 14, 15, 16, 17, 18, 19, 20, 21, 22, 23, 24, 25, 26, 27, 28, 29, 30, 31, 32, 33, 34, 35, 36, 37, 38, 39, 40, 41, 42, 43, 44, 45, 46, 47, 48, 49, 50, 51, 52, 53, 54, 55, 56, 57, 58, 59, 60, 61, 62, 63, 64, 65, 66, 67, 68, 69, 70, 71, 72, 73, 74, 75, 76, 77, 78, 79, 80, 81, 82, 83, 84, 85, 86, 87, 88] (by decide +kernel) (by decide +kernel)
set_option maxRecDepth 20000 in
theorem gX12_canFly_X12_fogIn : GoodIn wsX12_canFly (wsV RX12 278 RX12 yX12_fogIn wsX12_fogIn) := goodIn_app (goodIn_of _ (by decide +kernel)) ggX12_canFly_X12_fogIn
theorem dX12_canFly_0 : decode cX12_canFly 0 = .ok (.iload_n 1, 1) := by decide +kernel
theorem dX12_canFly_1 : decode cX12_canFly 1 = .ok (.iload_n 2, 1) := by decide +kernel
theorem dX12_canFly_2 : decode cX12_canFly 2 = .ok (.iadd, 1) := by decide +kernel
theorem dX12_canFly_3 : decode cX12_canFly 3 = .ok (.sipush 239, 3) := by decide +kernel
theorem dX12_canFly_6 : decode cX12_canFly 6 = .ok (.if_icmp .gt 7, 3) := by decide +kernel
theorem dX12_canFly_9 : decode cX12_canFly 9 = .ok (.iconst 1, 1) := by decide +kernel
theorem dX12_canFly_10 : decode cX12_canFly 10 = .ok (.goto 4, 3) := by decide +kernel
theorem dX12_canFly_13 : decode cX12_canFly 13 = .ok (.iconst 0, 1) := by decide +kernel
theorem dX12_canFly_14 : decode cX12_canFly 14 = .ok (.istore_n 3, 1) := by decide +kernel
theorem dX12_canFly_15 : decode cX12_canFly 15 = .ok (.iload_n 1, 1) := by decide +kernel
theorem dX12_canFly_16 : decode cX12_canFly 16 = .ok (.istore 4, 2) := by decide +kernel
theorem dX12_canFly_18 : decode cX12_canFly 18 = .ok (.iload 4, 2) := by decide +kernel
theorem dX12_canFly_20 : decode cX12_canFly 20 = .ok (.iload_n 1, 1) := by decide +kernel
theorem dX12_canFly_21 : decode cX12_canFly 21 = .ok (.iload_n 2, 1) := by decide +kernel
theorem dX12_canFly_22 : decode cX12_canFly 22 = .ok (.iadd, 1) := by decide +kernel
theorem dX12_canFly_23 : decode cX12_canFly 23 = .ok (.if_icmp .ge 30, 3) := by decide +kernel
theorem dX12_canFly_26 : decode cX12_canFly 26 = .ok (.iload_n 3, 1) := by decide +kernel
theorem dX12_canFly_27 : decode cX12_canFly 27 = .ok (.ifCond .eq 26, 3) := by decide +kernel
theorem dX12_canFly_30 : decode cX12_canFly 30 = .ok (.aload_n 0, 1) := by decide +kernel
theorem dX12_canFly_31 : decode cX12_canFly 31 = .ok (.iload 4, 2) := by decide +kernel
theorem dX12_canFly_33 : decode cX12_canFly 33 = .ok (.invokevirtual 278, 3) := by decide +kernel
theorem dX12_canFly_36 : decode cX12_canFly 36 = .ok (.bipush 8, 2) := by decide +kernel
theorem dX12_canFly_38 : decode cX12_canFly 38 = .ok (.if_icmp .gt 7, 3) := by decide +kernel
theorem dX12_canFly_41 : decode cX12_canFly 41 = .ok (.iconst 1, 1) := by decide +kernel
theorem dX12_canFly_42 : decode cX12_canFly 42 = .ok (.goto 4, 3) := by decide +kernel
theorem dX12_canFly_45 : decode cX12_canFly 45 = .ok (.iconst 0, 1) := by decide +kernel
theorem dX12_canFly_46 : decode cX12_canFly 46 = .ok (.istore_n 3, 1) := by decide +kernel
theorem dX12_canFly_47 : decode cX12_canFly 47 = .ok (.iinc 4 1, 3) := by decide +kernel
theorem dX12_canFly_50 : decode cX12_canFly 50 = .ok (.goto (-32), 3) := by decide +kernel
theorem dX12_canFly_53 : decode cX12_canFly 53 = .ok (.iload_n 3, 1) := by decide +kernel
theorem dX12_canFly_54 : decode cX12_canFly 54 = .ok (.ireturn, 1) := by decide +kernel
set_option maxRecDepth 20000 in
theorem ggX12_comesBack_X12_apart : GoodIn wsX12_comesBack wsX12_apart := goodIn_r _ [6, 7, 8, 5, 9] (by decide +kernel) (by decide +kernel)
set_option maxRecDepth 20000 in
theorem gX12_comesBack_X12_apart : GoodIn wsX12_comesBack (va_wsS RX12 258 yX12_apart wsX12_apart) := goodIn_app (goodIn_of _ (by decide +kernel)) ggX12_comesBack_X12_apart
set_option maxRecDepth 20000 in
theorem ggX12_comesBack_X12_burns : GoodIn wsX12_comesBack wsX12_burns := goodIn_r _ [13, 14, 27, 28, 29, 30, 31, 32, 33, 34, 35, 36, 37, 38, 39, 40, 41, 42, 43, 44, 45, 46, 47, 48, 49, 50, 51, 52, 53, 54, 55, 56, 57, 58, 59, 60, 61, 62, 63, 64, 65, 66, 67, 68, 69, 70, 71, 72, 73, 74, 75, 76, 77, 78, 79, 80, 81, 82, 83, 84, 85, 86, 87, 88, 89, 90, 91, 92, 93, 94, 95, 96, 97, 98, 99, 100, 101, 102, 103, 104, 105] (by decide +kernel) (by decide +kernel)
set_option maxRecDepth 20000 in
theorem gX12_comesBack_X12_burns : GoodIn wsX12_comesBack (wsV RX12 220 RX12 yX12_burns wsX12_burns) := goodIn_app (goodIn_of _ (by decide +kernel)) ggX12_comesBack_X12_burns
set_option maxRecDepth 20000 in
theorem ggX12_comesBack_X12_canFly : GoodIn wsX12_comesBack wsX12_canFly := goodIn_r _ [18, 19, 20, 21, 5, 22, 23, 24, 25, 26, 27, 28, 29, 30, 31, 32, 33, 34, 35, 36, 37, 38, 39, 40, 41, 42, 43, 44, 45, 46, 47, 48, 49, 50, 51, 52, 53, 54, 55, 56, 57, 58, 59, 60, 61, 62, 63, 64, 65, 66, 67, 68, 69, 70, 71, 72, 73, 74, 75, 76, 77, 78, 79, 80, 81, 82, 83, 84, 85, 86, 87, 88, 89, 90, 91, 92, 93, 94, 95, 96, 97, 98, 99, 100, 101, 102, 103, 104, 105] (by decide +kernel) (by decide +kernel)
set_option maxRecDepth 20000 in
theorem gX12_comesBack_X12_canFly : GoodIn wsX12_comesBack (wsV RX12 310 RX12 yX12_canFly wsX12_canFly) := goodIn_app (goodIn_of _ (by decide +kernel)) ggX12_comesBack_X12_canFly
theorem dX12_comesBack_0 : decode cX12_comesBack 0 = .ok (.iload_n 2, 1) := by decide +kernel
theorem dX12_comesBack_1 : decode cX12_comesBack 1 = .ok (.iload_n 3, 1) := by decide +kernel
theorem dX12_comesBack_2 : decode cX12_comesBack 2 = .ok (.invokestatic 258, 3) := by decide +kernel
theorem dX12_comesBack_5 : decode cX12_comesBack 5 = .ok (.istore 5, 2) := by decide +kernel
theorem dX12_comesBack_7 : decode cX12_comesBack 7 = .ok (.aload_n 0, 1) := by decide +kernel
theorem dX12_comesBack_8 : decode cX12_comesBack 8 = .ok (.iload_n 1, 1) := by decide +kernel
theorem dX12_comesBack_9 : decode cX12_comesBack 9 = .ok (.invokevirtual 220, 3) := by decide +kernel
theorem dX12_comesBack_12 : decode cX12_comesBack 12 = .ok (.iconst 2, 1) := by decide +kernel
theorem dX12_comesBack_13 : decode cX12_comesBack 13 = .ok (.imul, 1) := by decide +kernel
theorem dX12_comesBack_14 : decode cX12_comesBack 14 = .ok (.iload 5, 2) := by decide +kernel
theorem dX12_comesBack_16 : decode cX12_comesBack 16 = .ok (.imul, 1) := by decide +kernel
theorem dX12_comesBack_17 : decode cX12_comesBack 17 = .ok (.aload_n 0, 1) := by decide +kernel
theorem dX12_comesBack_18 : decode cX12_comesBack 18 = .ok (.getfield 43, 3) := by decide +kernel
theorem dX12_comesBack_21 : decode cX12_comesBack 21 = .ok (.iload_n 1, 1) := by decide +kernel
theorem dX12_comesBack_22 : decode cX12_comesBack 22 = .ok (.iaload, 1) := by decide +kernel
theorem dX12_comesBack_23 : decode cX12_comesBack 23 = .ok (.if_icmp .gt 14, 3) := by decide +kernel
theorem dX12_comesBack_26 : decode cX12_comesBack 26 = .ok (.aload_n 0, 1) := by decide +kernel
theorem dX12_comesBack_27 : decode cX12_comesBack 27 = .ok (.iload 4, 2) := by decide +kernel
theorem dX12_comesBack_29 : decode cX12_comesBack 29 = .ok (.iload 5, 2) := by decide +kernel
theorem dX12_comesBack_31 : decode cX12_comesBack 31 = .ok (.invokevirtual 310, 3) := by decide +kernel
theorem dX12_comesBack_34 : decode cX12_comesBack 34 = .ok (.ifCond .ne 5, 3) := by decide +kernel
theorem dX12_comesBack_37 : decode cX12_comesBack 37 = .ok (.iconst (-1), 1) := by decide +kernel
theorem dX12_comesBack_38 : decode cX12_comesBack 38 = .ok (.ireturn, 1) := by decide +kernel
theorem dX12_comesBack_39 : decode cX12_comesBack 39 = .ok (.iconst 0, 1) := by decide +kernel
theorem dX12_comesBack_40 : decode cX12_comesBack 40 = .ok (.istore 6, 2) := by decide +kernel
theorem dX12_comesBack_42 : decode cX12_comesBack 42 = .ok (.iload 6, 2) := by decide +kernel
theorem dX12_comesBack_44 : decode cX12_comesBack 44 = .ok (.aload_n 0, 1) := by decide +kernel
theorem dX12_comesBack_45 : decode cX12_comesBack 45 = .ok (.getfield 307, 3) := by decide +kernel
theorem dX12_comesBack_48 : decode cX12_comesBack 48 = .ok (.if_icmp .gt 37, 3) := by decide +kernel
theorem dX12_comesBack_51 : decode cX12_comesBack 51 = .ok (.aload_n 0, 1) := by decide +kernel
theorem dX12_comesBack_52 : decode cX12_comesBack 52 = .ok (.iload 4, 2) := by decide +kernel
theorem dX12_comesBack_54 : decode cX12_comesBack 54 = .ok (.iload 5, 2) := by decide +kernel
theorem dX12_comesBack_56 : decode cX12_comesBack 56 = .ok (.iadd, 1) := by decide +kernel
theorem dX12_comesBack_57 : decode cX12_comesBack 57 = .ok (.iload 6, 2) := by decide +kernel
theorem dX12_comesBack_59 : decode cX12_comesBack 59 = .ok (.iadd, 1) := by decide +kernel
theorem dX12_comesBack_60 : decode cX12_comesBack 60 = .ok (.iload 5, 2) := by decide +kernel
theorem dX12_comesBack_62 : decode cX12_comesBack 62 = .ok (.invokevirtual 310, 3) := by decide +kernel
theorem dX12_comesBack_65 : decode cX12_comesBack 65 = .ok (.ifCond .eq 14, 3) := by decide +kernel
theorem dX12_comesBack_68 : decode cX12_comesBack 68 = .ok (.iload 4, 2) := by decide +kernel
theorem dX12_comesBack_70 : decode cX12_comesBack 70 = .ok (.iconst 2, 1) := by decide +kernel
theorem dX12_comesBack_71 : decode cX12_comesBack 71 = .ok (.iload 5, 2) := by decide +kernel
theorem dX12_comesBack_73 : decode cX12_comesBack 73 = .ok (.imul, 1) := by decide +kernel
theorem dX12_comesBack_74 : decode cX12_comesBack 74 = .ok (.iadd, 1) := by decide +kernel
theorem dX12_comesBack_75 : decode cX12_comesBack 75 = .ok (.iload 6, 2) := by decide +kernel
theorem dX12_comesBack_77 : decode cX12_comesBack 77 = .ok (.iadd, 1) := by decide +kernel
theorem dX12_comesBack_78 : decode cX12_comesBack 78 = .ok (.ireturn, 1) := by decide +kernel
theorem dX12_comesBack_79 : decode cX12_comesBack 79 = .ok (.iinc 6 1, 3) := by decide +kernel
theorem dX12_comesBack_82 : decode cX12_comesBack 82 = .ok (.goto (-40), 3) := by decide +kernel
theorem dX12_comesBack_85 : decode cX12_comesBack 85 = .ok (.iconst (-1), 1) := by decide +kernel
theorem dX12_comesBack_86 : decode cX12_comesBack 86 = .ok (.ireturn, 1) := by decide +kernel
set_option maxRecDepth 20000 in
theorem ggX12_comes_X12_isSeeker : GoodIn wsX12_comes wsX12_isSeeker := goodIn_r _ [5, 6, 7, 8, 9, 4, 10, 11, 49, 50, 51, 52, 53, 54, 55, 56, 57, 58, 59, 60, 61, 62, 63, 64, 65, 66, 67, 68, 69, 70, 71, 72, 73, 74, 75, 76, 77, 78, 79, 80, 81, 82, 83, 84, 85, 86, 87, 88, 89, 90, 91, 92, 93, 94, 95, 96, 97, 98, 99, 100, 101, 102, 103, 104, 105, 106, 107, 108, 109, 110, 111, 112, 113, 114, 115, 116, 117, 118, 119, 120, 121, 122, 123, 124, 125, 126, 127] (by decide +kernel) (by decide +kernel)
set_option maxRecDepth 20000 in
theorem gX12_comes_X12_isSeeker : GoodIn wsX12_comes (wsV RX12 275 RX12 yX12_isSeeker wsX12_isSeeker) := goodIn_app (goodIn_of _ (by decide +kernel)) ggX12_comes_X12_isSeeker
set_option maxRecDepth 20000 in
theorem ggX12_comes_X12_isCell : GoodIn wsX12_comes wsX12_isCell := goodIn_r _ [14, 15, 16, 4, 17] (by decide +kernel) (by decide +kernel)
set_option maxRecDepth 20000 in
theorem gX12_comes_X12_isCell : GoodIn wsX12_comes (va_wsS RX12 217 yX12_isCell wsX12_isCell) := goodIn_app (goodIn_of _ (by decide +kernel)) ggX12_comes_X12_isCell
set_option maxRecDepth 20000 in
theorem ggX12_comes_X12_isHour : GoodIn wsX12_comes wsX12_isHour := goodIn_r _ [20, 15, 16, 4, 17] (by decide +kernel) (by decide +kernel)
set_option maxRecDepth 20000 in
theorem gX12_comes_X12_isHour : GoodIn wsX12_comes (va_wsS RX12 313 yX12_isHour wsX12_isHour) := goodIn_app (goodIn_of _ (by decide +kernel)) ggX12_comes_X12_isHour
set_option maxRecDepth 20000 in
theorem ggX12_comes_X12_comesBack : GoodIn wsX12_comes wsX12_comesBack := goodIn_r _ [24, 25, 26, 27, 28, 4, 29, 30, 31, 32, 33, 34, 35, 36, 6, 37, 38, 39, 40, 41, 42, 43, 44, 45, 46, 47, 48, 49, 50, 51, 52, 53, 54, 55, 56, 57, 58, 59, 60, 61, 62, 63, 64, 65, 66, 67, 68, 69, 70, 71, 72, 73, 74, 75, 76, 77, 78, 79, 80, 81, 82, 83, 84, 85, 86, 87, 88, 89, 90, 91, 92, 93, 94, 95, 96, 97, 98, 99, 100, 101, 102, 103, 104, 105, 106, 107, 108, 109, 110, 111, 112, 113, 114, 115, 116, 117, 118, 119, 120, 121, 122, 123, 124, 125, 126, 127] (by decide +kernel) (by decide +kernel)
set_option maxRecDepth 20000 in
theorem gX12_comes_X12_comesBack : GoodIn wsX12_comes (wsV RX12 316 RX12 yX12_comesBack wsX12_comesBack) := goodIn_app (goodIn_of _ (by decide +kernel)) ggX12_comes_X12_comesBack
theorem dX12_comes_0 : decode cX12_comes 0 = .ok (.aload_n 0, 1) := by decide +kernel
theorem dX12_comes_1 : decode cX12_comes 1 = .ok (.iload_n 1, 1) := by decide +kernel
theorem dX12_comes_2 : decode cX12_comes 2 = .ok (.invokevirtual 275, 3) := by decide +kernel
theorem dX12_comes_5 : decode cX12_comes 5 = .ok (.ifCond .eq 37, 3) := by decide +kernel
theorem dX12_comes_8 : decode cX12_comes 8 = .ok (.iload_n 2, 1) := by decide +kernel
theorem dX12_comes_9 : decode cX12_comes 9 = .ok (.invokestatic 217, 3) := by decide +kernel
theorem dX12_comes_12 : decode cX12_comes 12 = .ok (.ifCond .eq 30, 3) := by decide +kernel
theorem dX12_comes_15 : decode cX12_comes 15 = .ok (.iload_n 3, 1) := by decide +kernel
theorem dX12_comes_16 : decode cX12_comes 16 = .ok (.invokestatic 217, 3) := by decide +kernel
theorem dX12_comes_19 : decode cX12_comes 19 = .ok (.ifCond .eq 23, 3) := by decide +kernel
theorem dX12_comes_22 : decode cX12_comes 22 = .ok (.iload 4, 2) := by decide +kernel
theorem dX12_comes_24 : decode cX12_comes 24 = .ok (.invokestatic 313, 3) := by decide +kernel
theorem dX12_comes_27 : decode cX12_comes 27 = .ok (.ifCond .eq 15, 3) := by decide +kernel
theorem dX12_comes_30 : decode cX12_comes 30 = .ok (.aload_n 0, 1) := by decide +kernel
theorem dX12_comes_31 : decode cX12_comes 31 = .ok (.iload_n 1, 1) := by decide +kernel
theorem dX12_comes_32 : decode cX12_comes 32 = .ok (.iload_n 2, 1) := by decide +kernel
theorem dX12_comes_33 : decode cX12_comes 33 = .ok (.iload_n 3, 1) := by decide +kernel
theorem dX12_comes_34 : decode cX12_comes 34 = .ok (.iload 4, 2) := by decide +kernel
theorem dX12_comes_36 : decode cX12_comes 36 = .ok (.invokevirtual 316, 3) := by decide +kernel
theorem dX12_comes_39 : decode cX12_comes 39 = .ok (.goto 5, 3) := by decide +kernel
theorem dX12_comes_42 : decode cX12_comes 42 = .ok (.bipush (-2), 2) := by decide +kernel
theorem dX12_comes_44 : decode cX12_comes 44 = .ok (.ireturn, 1) := by decide +kernel
set_option maxRecDepth 20000 in
theorem ggX12_last_X12_isSeeker : GoodIn wsX12_last wsX12_isSeeker := goodIn_r _ [5, 6, 7, 8, 9, 4, 10, 11, 46, 47, 48, 49, 50, 51, 52, 53, 54, 55, 56, 57, 58, 59, 60, 61, 62, 63, 64, 65, 66, 67, 68, 69, 70, 71, 72, 73, 74, 75, 76, 77, 78, 79, 80, 81, 82, 83, 84, 85, 86, 87, 88, 89, 90, 91, 92, 93, 94, 95, 96, 97, 98, 99, 100, 101, 102, 103, 104, 105, 106, 107, 108, 109, 110, 111, 112, 113, 114, 115, 116, 117, 118, 119, 120, 121, 122, 123, 124] (by decide +kernel) (by decide +kernel)
set_option maxRecDepth 20000 in
theorem gX12_last_X12_isSeeker : GoodIn wsX12_last (wsV RX12 275 RX12 yX12_isSeeker wsX12_isSeeker) := goodIn_app (goodIn_of _ (by decide +kernel)) ggX12_last_X12_isSeeker
set_option maxRecDepth 20000 in
theorem ggX12_last_X12_isCell : GoodIn wsX12_last wsX12_isCell := goodIn_r _ [14, 15, 16, 4, 17] (by decide +kernel) (by decide +kernel)
set_option maxRecDepth 20000 in
theorem gX12_last_X12_isCell : GoodIn wsX12_last (va_wsS RX12 217 yX12_isCell wsX12_isCell) := goodIn_app (goodIn_of _ (by decide +kernel)) ggX12_last_X12_isCell
set_option maxRecDepth 20000 in
theorem ggX12_last_X12_comesBack : GoodIn wsX12_last wsX12_comesBack := goodIn_r _ [21, 22, 23, 24, 25, 4, 26, 27, 28, 29, 30, 31, 32, 33, 6, 34, 35, 36, 37, 38, 39, 40, 41, 42, 43, 44, 45, 46, 47, 48, 49, 50, 51, 52, 53, 54, 55, 56, 57, 58, 59, 60, 61, 62, 63, 64, 65, 66, 67, 68, 69, 70, 71, 72, 73, 74, 75, 76, 77, 78, 79, 80, 81, 82, 83, 84, 85, 86, 87, 88, 89, 90, 91, 92, 93, 94, 95, 96, 97, 98, 99, 100, 101, 102, 103, 104, 105, 106, 107, 108, 109, 110, 111, 112, 113, 114, 115, 116, 117, 118, 119, 120, 121, 122, 123, 124] (by decide +kernel) (by decide +kernel)
set_option maxRecDepth 20000 in
theorem gX12_last_X12_comesBack : GoodIn wsX12_last (wsV RX12 316 RX12 yX12_comesBack wsX12_comesBack) := goodIn_app (goodIn_of _ (by decide +kernel)) ggX12_last_X12_comesBack
theorem dX12_last_0 : decode cX12_last 0 = .ok (.aload_n 0, 1) := by decide +kernel
theorem dX12_last_1 : decode cX12_last 1 = .ok (.iload_n 1, 1) := by decide +kernel
theorem dX12_last_2 : decode cX12_last 2 = .ok (.invokevirtual 275, 3) := by decide +kernel
theorem dX12_last_5 : decode cX12_last 5 = .ok (.ifCond .eq 17, 3) := by decide +kernel
theorem dX12_last_8 : decode cX12_last 8 = .ok (.iload_n 2, 1) := by decide +kernel
theorem dX12_last_9 : decode cX12_last 9 = .ok (.invokestatic 217, 3) := by decide +kernel
theorem dX12_last_12 : decode cX12_last 12 = .ok (.ifCond .eq 10, 3) := by decide +kernel
theorem dX12_last_15 : decode cX12_last 15 = .ok (.iload_n 3, 1) := by decide +kernel
theorem dX12_last_16 : decode cX12_last 16 = .ok (.invokestatic 217, 3) := by decide +kernel
theorem dX12_last_19 : decode cX12_last 19 = .ok (.ifCond .ne 6, 3) := by decide +kernel
theorem dX12_last_22 : decode cX12_last 22 = .ok (.bipush (-2), 2) := by decide +kernel
theorem dX12_last_24 : decode cX12_last 24 = .ok (.ireturn, 1) := by decide +kernel
theorem dX12_last_25 : decode cX12_last 25 = .ok (.sipush 239, 3) := by decide +kernel
theorem dX12_last_28 : decode cX12_last 28 = .ok (.istore 4, 2) := by decide +kernel
theorem dX12_last_30 : decode cX12_last 30 = .ok (.iload 4, 2) := by decide +kernel
theorem dX12_last_32 : decode cX12_last 32 = .ok (.ifCond .lt 21, 3) := by decide +kernel
theorem dX12_last_35 : decode cX12_last 35 = .ok (.aload_n 0, 1) := by decide +kernel
theorem dX12_last_36 : decode cX12_last 36 = .ok (.iload_n 1, 1) := by decide +kernel
theorem dX12_last_37 : decode cX12_last 37 = .ok (.iload_n 2, 1) := by decide +kernel
theorem dX12_last_38 : decode cX12_last 38 = .ok (.iload_n 3, 1) := by decide +kernel
theorem dX12_last_39 : decode cX12_last 39 = .ok (.iload 4, 2) := by decide +kernel
theorem dX12_last_41 : decode cX12_last 41 = .ok (.invokevirtual 316, 3) := by decide +kernel
theorem dX12_last_44 : decode cX12_last 44 = .ok (.ifCond .ge 9, 3) := by decide +kernel
theorem dX12_last_47 : decode cX12_last 47 = .ok (.iinc 4 (-1), 3) := by decide +kernel
theorem dX12_last_50 : decode cX12_last 50 = .ok (.goto (-20), 3) := by decide +kernel
theorem dX12_last_53 : decode cX12_last 53 = .ok (.iload 4, 2) := by decide +kernel
theorem dX12_last_55 : decode cX12_last 55 = .ok (.ireturn, 1) := by decide +kernel
set_option maxRecDepth 20000 in
theorem ggX12_man_X12_isBody : GoodIn wsX12_man wsX12_isBody := goodIn_r _ [10, 11, 15, 16, 17, 18, 19, 20, 21, 22, 23, 24, 25, 26, 27, 28, 29, 30, 31, 32, 33, 34, 35, 36, 37, 38, 39, 40, 41, 42, 43, 44, 45, 46, 47, 48, 49, 50, 51, 52, 53, 54, 55, 56, 57, 58, 59, 60, 61, 62, 63, 64, 65, 66, 67, 68, 69, 70, 71, 72, 73, 74, 75, 76, 77, 78, 79, 80, 81, 82, 83, 84, 85, 86, 87, 88, 89, 90, 91, 92, 93] (by decide +kernel) (by decide +kernel)
set_option maxRecDepth 20000 in
theorem gX12_man_X12_isBody : GoodIn wsX12_man (wsV RX12 193 RX12 yX12_isBody wsX12_isBody) := goodIn_app (goodIn_of _ (by decide +kernel)) ggX12_man_X12_isBody
set_option maxRecDepth 20000 in
theorem ggX12_man_X12_within : GoodIn wsX12_man wsX12_within := goodIn_r _ [14] (by decide +kernel) (by decide +kernel)
set_option maxRecDepth 20000 in
theorem gX12_man_X12_within : GoodIn wsX12_man (va_wsS RX12 186 yX12_within wsX12_within) := goodIn_app (goodIn_of _ (by decide +kernel)) ggX12_man_X12_within
theorem dX12_man_0 : decode cX12_man 0 = .ok (.aload_n 0, 1) := by decide +kernel
theorem dX12_man_1 : decode cX12_man 1 = .ok (.iload_n 1, 1) := by decide +kernel
theorem dX12_man_2 : decode cX12_man 2 = .ok (.invokevirtual 193, 3) := by decide +kernel
theorem dX12_man_5 : decode cX12_man 5 = .ok (.ifCond .eq 34, 3) := by decide +kernel
theorem dX12_man_8 : decode cX12_man 8 = .ok (.iload_n 2, 1) := by decide +kernel
theorem dX12_man_9 : decode cX12_man 9 = .ok (.iconst 0, 1) := by decide +kernel
theorem dX12_man_10 : decode cX12_man 10 = .ok (.bipush 99, 2) := by decide +kernel
theorem dX12_man_12 : decode cX12_man 12 = .ok (.invokestatic 186, 3) := by decide +kernel
theorem dX12_man_15 : decode cX12_man 15 = .ok (.ifCond .eq 24, 3) := by decide +kernel
theorem dX12_man_18 : decode cX12_man 18 = .ok (.iload_n 3, 1) := by decide +kernel
theorem dX12_man_19 : decode cX12_man 19 = .ok (.iconst 0, 1) := by decide +kernel
theorem dX12_man_20 : decode cX12_man 20 = .ok (.bipush 99, 2) := by decide +kernel
theorem dX12_man_22 : decode cX12_man 22 = .ok (.invokestatic 186, 3) := by decide +kernel
theorem dX12_man_25 : decode cX12_man 25 = .ok (.ifCond .eq 14, 3) := by decide +kernel
theorem dX12_man_28 : decode cX12_man 28 = .ok (.iload 4, 2) := by decide +kernel
theorem dX12_man_30 : decode cX12_man 30 = .ok (.iconst 0, 1) := by decide +kernel
theorem dX12_man_31 : decode cX12_man 31 = .ok (.bipush 99, 2) := by decide +kernel
theorem dX12_man_33 : decode cX12_man 33 = .ok (.invokestatic 186, 3) := by decide +kernel
theorem dX12_man_36 : decode cX12_man 36 = .ok (.ifCond .ne 6, 3) := by decide +kernel
theorem dX12_man_39 : decode cX12_man 39 = .ok (.bipush (-2), 2) := by decide +kernel
theorem dX12_man_41 : decode cX12_man 41 = .ok (.ireturn, 1) := by decide +kernel
theorem dX12_man_42 : decode cX12_man 42 = .ok (.aload_n 0, 1) := by decide +kernel
theorem dX12_man_43 : decode cX12_man 43 = .ok (.getfield 320, 3) := by decide +kernel
theorem dX12_man_46 : decode cX12_man 46 = .ok (.bipush 16, 2) := by decide +kernel
theorem dX12_man_48 : decode cX12_man 48 = .ok (.if_icmp .ne 6, 3) := by decide +kernel
theorem dX12_man_51 : decode cX12_man 51 = .ok (.bipush (-4), 2) := by decide +kernel
theorem dX12_man_53 : decode cX12_man 53 = .ok (.ireturn, 1) := by decide +kernel
theorem dX12_man_54 : decode cX12_man 54 = .ok (.aload_n 0, 1) := by decide +kernel
theorem dX12_man_55 : decode cX12_man 55 = .ok (.getfield 101, 3) := by decide +kernel
theorem dX12_man_58 : decode cX12_man 58 = .ok (.aload_n 0, 1) := by decide +kernel
theorem dX12_man_59 : decode cX12_man 59 = .ok (.getfield 320, 3) := by decide +kernel
theorem dX12_man_62 : decode cX12_man 62 = .ok (.iload_n 1, 1) := by decide +kernel
theorem dX12_man_63 : decode cX12_man 63 = .ok (.iastore, 1) := by decide +kernel
theorem dX12_man_64 : decode cX12_man 64 = .ok (.aload_n 0, 1) := by decide +kernel
theorem dX12_man_65 : decode cX12_man 65 = .ok (.getfield 104, 3) := by decide +kernel
theorem dX12_man_68 : decode cX12_man 68 = .ok (.aload_n 0, 1) := by decide +kernel
theorem dX12_man_69 : decode cX12_man 69 = .ok (.getfield 320, 3) := by decide +kernel
theorem dX12_man_72 : decode cX12_man 72 = .ok (.iload_n 2, 1) := by decide +kernel
theorem dX12_man_73 : decode cX12_man 73 = .ok (.iastore, 1) := by decide +kernel
theorem dX12_man_74 : decode cX12_man 74 = .ok (.aload_n 0, 1) := by decide +kernel
theorem dX12_man_75 : decode cX12_man 75 = .ok (.getfield 107, 3) := by decide +kernel
theorem dX12_man_78 : decode cX12_man 78 = .ok (.aload_n 0, 1) := by decide +kernel
theorem dX12_man_79 : decode cX12_man 79 = .ok (.getfield 320, 3) := by decide +kernel
theorem dX12_man_82 : decode cX12_man 82 = .ok (.iload_n 3, 1) := by decide +kernel
theorem dX12_man_83 : decode cX12_man 83 = .ok (.iastore, 1) := by decide +kernel
theorem dX12_man_84 : decode cX12_man 84 = .ok (.aload_n 0, 1) := by decide +kernel
theorem dX12_man_85 : decode cX12_man 85 = .ok (.getfield 110, 3) := by decide +kernel
theorem dX12_man_88 : decode cX12_man 88 = .ok (.aload_n 0, 1) := by decide +kernel
theorem dX12_man_89 : decode cX12_man 89 = .ok (.getfield 320, 3) := by decide +kernel
theorem dX12_man_92 : decode cX12_man 92 = .ok (.iload 4, 2) := by decide +kernel
theorem dX12_man_94 : decode cX12_man 94 = .ok (.iastore, 1) := by decide +kernel
theorem dX12_man_95 : decode cX12_man 95 = .ok (.aload_n 0, 1) := by decide +kernel
theorem dX12_man_96 : decode cX12_man 96 = .ok (.dup, 1) := by decide +kernel
theorem dX12_man_97 : decode cX12_man 97 = .ok (.getfield 320, 3) := by decide +kernel
theorem dX12_man_100 : decode cX12_man 100 = .ok (.iconst 1, 1) := by decide +kernel
theorem dX12_man_101 : decode cX12_man 101 = .ok (.iadd, 1) := by decide +kernel
theorem dX12_man_102 : decode cX12_man 102 = .ok (.putfield 320, 3) := by decide +kernel
theorem dX12_man_105 : decode cX12_man 105 = .ok (.aload_n 0, 1) := by decide +kernel
theorem dX12_man_106 : decode cX12_man 106 = .ok (.getfield 320, 3) := by decide +kernel
theorem dX12_man_109 : decode cX12_man 109 = .ok (.iconst 1, 1) := by decide +kernel
theorem dX12_man_110 : decode cX12_man 110 = .ok (.isub, 1) := by decide +kernel
theorem dX12_man_111 : decode cX12_man 111 = .ok (.ireturn, 1) := by decide +kernel
set_option maxRecDepth 20000 in
theorem ggX12_feed_X12_within : GoodIn wsX12_feed wsX12_within := goodIn_r _ [7] (by decide +kernel) (by decide +kernel)
set_option maxRecDepth 20000 in
theorem gX12_feed_X12_within : GoodIn wsX12_feed (va_wsS RX12 186 yX12_within wsX12_within) := goodIn_app (goodIn_of _ (by decide +kernel)) ggX12_feed_X12_within
theorem dX12_feed_0 : decode cX12_feed 0 = .ok (.iload_n 1, 1) := by decide +kernel
theorem dX12_feed_1 : decode cX12_feed 1 = .ok (.iconst 1, 1) := by decide +kernel
theorem dX12_feed_2 : decode cX12_feed 2 = .ok (.bipush 8, 2) := by decide +kernel
theorem dX12_feed_4 : decode cX12_feed 4 = .ok (.invokestatic 186, 3) := by decide +kernel
theorem dX12_feed_7 : decode cX12_feed 7 = .ok (.ifCond .ne 6, 3) := by decide +kernel
theorem dX12_feed_10 : decode cX12_feed 10 = .ok (.bipush (-2), 2) := by decide +kernel
theorem dX12_feed_12 : decode cX12_feed 12 = .ok (.ireturn, 1) := by decide +kernel
theorem dX12_feed_13 : decode cX12_feed 13 = .ok (.aload_n 0, 1) := by decide +kernel
theorem dX12_feed_14 : decode cX12_feed 14 = .ok (.getfield 323, 3) := by decide +kernel
theorem dX12_feed_17 : decode cX12_feed 17 = .ok (.iload_n 1, 1) := by decide +kernel
theorem dX12_feed_18 : decode cX12_feed 18 = .ok (.iadd, 1) := by decide +kernel
theorem dX12_feed_19 : decode cX12_feed 19 = .ok (.sipush 160, 3) := by decide +kernel
theorem dX12_feed_22 : decode cX12_feed 22 = .ok (.if_icmp .le 6, 3) := by decide +kernel
theorem dX12_feed_25 : decode cX12_feed 25 = .ok (.bipush (-4), 2) := by decide +kernel
theorem dX12_feed_27 : decode cX12_feed 27 = .ok (.ireturn, 1) := by decide +kernel
theorem dX12_feed_28 : decode cX12_feed 28 = .ok (.iconst 0, 1) := by decide +kernel
theorem dX12_feed_29 : decode cX12_feed 29 = .ok (.istore 4, 2) := by decide +kernel
theorem dX12_feed_31 : decode cX12_feed 31 = .ok (.iload 4, 2) := by decide +kernel
theorem dX12_feed_33 : decode cX12_feed 33 = .ok (.iload_n 1, 1) := by decide +kernel
theorem dX12_feed_34 : decode cX12_feed 34 = .ok (.if_icmp .ge 40, 3) := by decide +kernel
theorem dX12_feed_37 : decode cX12_feed 37 = .ok (.aload_n 0, 1) := by decide +kernel
theorem dX12_feed_38 : decode cX12_feed 38 = .ok (.getfield 125, 3) := by decide +kernel
theorem dX12_feed_41 : decode cX12_feed 41 = .ok (.aload_n 0, 1) := by decide +kernel
theorem dX12_feed_42 : decode cX12_feed 42 = .ok (.getfield 323, 3) := by decide +kernel
theorem dX12_feed_45 : decode cX12_feed 45 = .ok (.lload_n 2, 1) := by decide +kernel
theorem dX12_feed_46 : decode cX12_feed 46 = .ok (.bipush 8, 2) := by decide +kernel
theorem dX12_feed_48 : decode cX12_feed 48 = .ok (.iload 4, 2) := by decide +kernel
theorem dX12_feed_50 : decode cX12_feed 50 = .ok (.imul, 1) := by decide +kernel
theorem dX12_feed_51 : decode cX12_feed 51 = .ok (.lushr, 1) := by decide +kernel
theorem dX12_feed_52 : decode cX12_feed 52 = .ok (.ldc2_w 326, 3) := by decide +kernel
theorem dX12_feed_55 : decode cX12_feed 55 = .ok (.land, 1) := by decide +kernel
theorem dX12_feed_56 : decode cX12_feed 56 = .ok (.l2i, 1) := by decide +kernel
theorem dX12_feed_57 : decode cX12_feed 57 = .ok (.iastore, 1) := by decide +kernel
theorem dX12_feed_58 : decode cX12_feed 58 = .ok (.aload_n 0, 1) := by decide +kernel
theorem dX12_feed_59 : decode cX12_feed 59 = .ok (.dup, 1) := by decide +kernel
theorem dX12_feed_60 : decode cX12_feed 60 = .ok (.getfield 323, 3) := by decide +kernel
theorem dX12_feed_63 : decode cX12_feed 63 = .ok (.iconst 1, 1) := by decide +kernel
theorem dX12_feed_64 : decode cX12_feed 64 = .ok (.iadd, 1) := by decide +kernel
theorem dX12_feed_65 : decode cX12_feed 65 = .ok (.putfield 323, 3) := by decide +kernel
theorem dX12_feed_68 : decode cX12_feed 68 = .ok (.iinc 4 1, 3) := by decide +kernel
theorem dX12_feed_71 : decode cX12_feed 71 = .ok (.goto (-40), 3) := by decide +kernel
theorem dX12_feed_74 : decode cX12_feed 74 = .ok (.aload_n 0, 1) := by decide +kernel
theorem dX12_feed_75 : decode cX12_feed 75 = .ok (.getfield 323, 3) := by decide +kernel
theorem dX12_feed_78 : decode cX12_feed 78 = .ok (.ireturn, 1) := by decide +kernel
theorem dX12_byteAt_0 : decode cX12_byteAt 0 = .ok (.iload_n 1, 1) := by decide +kernel
theorem dX12_byteAt_1 : decode cX12_byteAt 1 = .ok (.aload_n 0, 1) := by decide +kernel
theorem dX12_byteAt_2 : decode cX12_byteAt 2 = .ok (.getfield 328, 3) := by decide +kernel
theorem dX12_byteAt_5 : decode cX12_byteAt 5 = .ok (.if_icmp .ge 33, 3) := by decide +kernel
theorem dX12_byteAt_8 : decode cX12_byteAt 8 = .ok (.aload_n 0, 1) := by decide +kernel
theorem dX12_byteAt_9 : decode cX12_byteAt 9 = .ok (.getfield 331, 3) := by decide +kernel
theorem dX12_byteAt_12 : decode cX12_byteAt 12 = .ok (.ifCond .ge 12, 3) := by decide +kernel
theorem dX12_byteAt_15 : decode cX12_byteAt 15 = .ok (.aload_n 0, 1) := by decide +kernel
theorem dX12_byteAt_16 : decode cX12_byteAt 16 = .ok (.getfield 125, 3) := by decide +kernel
theorem dX12_byteAt_19 : decode cX12_byteAt 19 = .ok (.iload_n 1, 1) := by decide +kernel
theorem dX12_byteAt_20 : decode cX12_byteAt 20 = .ok (.iaload, 1) := by decide +kernel
theorem dX12_byteAt_21 : decode cX12_byteAt 21 = .ok (.goto 18, 3) := by decide +kernel
theorem dX12_byteAt_24 : decode cX12_byteAt 24 = .ok (.aload_n 0, 1) := by decide +kernel
theorem dX12_byteAt_25 : decode cX12_byteAt 25 = .ok (.getfield 128, 3) := by decide +kernel
theorem dX12_byteAt_28 : decode cX12_byteAt 28 = .ok (.aload_n 0, 1) := by decide +kernel
theorem dX12_byteAt_29 : decode cX12_byteAt 29 = .ok (.getfield 331, 3) := by decide +kernel
theorem dX12_byteAt_32 : decode cX12_byteAt 32 = .ok (.iload_n 1, 1) := by decide +kernel
theorem dX12_byteAt_33 : decode cX12_byteAt 33 = .ok (.iadd, 1) := by decide +kernel
theorem dX12_byteAt_34 : decode cX12_byteAt 34 = .ok (.iaload, 1) := by decide +kernel
theorem dX12_byteAt_35 : decode cX12_byteAt 35 = .ok (.goto 4, 3) := by decide +kernel
theorem dX12_byteAt_38 : decode cX12_byteAt 38 = .ok (.iconst 0, 1) := by decide +kernel
theorem dX12_byteAt_39 : decode cX12_byteAt 39 = .ok (.ireturn, 1) := by decide +kernel
set_option maxRecDepth 20000 in
theorem ggX12_isLetter_X12_byteAt : GoodIn wsX12_isLetter wsX12_byteAt := goodIn_r _ [6, 1, 7, 8, 9, 13, 14, 15, 16, 17, 18, 19, 20, 21, 22, 23, 24, 25, 26, 27, 28, 29, 30, 31, 32, 33, 34, 35, 36, 37, 38, 39, 40, 41, 42, 43, 44, 45, 46, 47, 48, 49, 50, 51, 52, 53, 54, 55, 56, 57, 58, 59, 60, 61, 62, 63, 64, 65, 66, 67, 68, 69, 70, 71, 72, 73, 74, 75, 76, 77, 78, 79, 80, 81, 82, 83, 84, 85, 86, 87, 88, 89, 90, 91] (by decide +kernel) (by decide +kernel)
set_option maxRecDepth 20000 in
theorem gX12_isLetter_X12_byteAt : GoodIn wsX12_isLetter (wsV RX12 334 RX12 yX12_byteAt wsX12_byteAt) := goodIn_app (goodIn_of _ (by decide +kernel)) ggX12_isLetter_X12_byteAt
set_option maxRecDepth 20000 in
theorem ggX12_isLetter_X12_within : GoodIn wsX12_isLetter wsX12_within := goodIn_r _ [12] (by decide +kernel) (by decide +kernel)
set_option maxRecDepth 20000 in
theorem gX12_isLetter_X12_within : GoodIn wsX12_isLetter (va_wsS RX12 186 yX12_within wsX12_within) := goodIn_app (goodIn_of _ (by decide +kernel)) ggX12_isLetter_X12_within
theorem dX12_isLetter_0 : decode cX12_isLetter 0 = .ok (.iload_n 1, 1) := by decide +kernel
theorem dX12_isLetter_1 : decode cX12_isLetter 1 = .ok (.aload_n 0, 1) := by decide +kernel
theorem dX12_isLetter_2 : decode cX12_isLetter 2 = .ok (.getfield 328, 3) := by decide +kernel
theorem dX12_isLetter_5 : decode cX12_isLetter 5 = .ok (.if_icmp .ge 22, 3) := by decide +kernel
theorem dX12_isLetter_8 : decode cX12_isLetter 8 = .ok (.aload_n 0, 1) := by decide +kernel
theorem dX12_isLetter_9 : decode cX12_isLetter 9 = .ok (.iload_n 1, 1) := by decide +kernel
theorem dX12_isLetter_10 : decode cX12_isLetter 10 = .ok (.invokevirtual 334, 3) := by decide +kernel
theorem dX12_isLetter_13 : decode cX12_isLetter 13 = .ok (.bipush 97, 2) := by decide +kernel
theorem dX12_isLetter_15 : decode cX12_isLetter 15 = .ok (.bipush 122, 2) := by decide +kernel
theorem dX12_isLetter_17 : decode cX12_isLetter 17 = .ok (.invokestatic 186, 3) := by decide +kernel
theorem dX12_isLetter_20 : decode cX12_isLetter 20 = .ok (.ifCond .eq 7, 3) := by decide +kernel
theorem dX12_isLetter_23 : decode cX12_isLetter 23 = .ok (.iconst 1, 1) := by decide +kernel
theorem dX12_isLetter_24 : decode cX12_isLetter 24 = .ok (.goto 4, 3) := by decide +kernel
theorem dX12_isLetter_27 : decode cX12_isLetter 27 = .ok (.iconst 0, 1) := by decide +kernel
theorem dX12_isLetter_28 : decode cX12_isLetter 28 = .ok (.ireturn, 1) := by decide +kernel
set_option maxRecDepth 20000 in
theorem ggX12_isDigit_X12_byteAt : GoodIn wsX12_isDigit wsX12_byteAt := goodIn_r _ [6, 1, 7, 8, 9, 13, 14, 15, 16, 17, 18, 19, 20, 21, 22, 23, 24, 25, 26, 27, 28, 29, 30, 31, 32, 33, 34, 35, 36, 37, 38, 39, 40, 41, 42, 43, 44, 45, 46, 47, 48, 49, 50, 51, 52, 53, 54, 55, 56, 57, 58, 59, 60, 61, 62, 63, 64, 65, 66, 67, 68, 69, 70, 71, 72, 73, 74, 75, 76, 77, 78, 79, 80, 81, 82, 83, 84, 85, 86, 87, 88, 89, 90, 91] (by decide +kernel) (by decide +kernel)
set_option maxRecDepth 20000 in
theorem gX12_isDigit_X12_byteAt : GoodIn wsX12_isDigit (wsV RX12 334 RX12 yX12_byteAt wsX12_byteAt) := goodIn_app (goodIn_of _ (by decide +kernel)) ggX12_isDigit_X12_byteAt
set_option maxRecDepth 20000 in
theorem ggX12_isDigit_X12_within : GoodIn wsX12_isDigit wsX12_within := goodIn_r _ [12] (by decide +kernel) (by decide +kernel)
set_option maxRecDepth 20000 in
theorem gX12_isDigit_X12_within : GoodIn wsX12_isDigit (va_wsS RX12 186 yX12_within wsX12_within) := goodIn_app (goodIn_of _ (by decide +kernel)) ggX12_isDigit_X12_within
theorem dX12_isDigit_0 : decode cX12_isDigit 0 = .ok (.iload_n 1, 1) := by decide +kernel
theorem dX12_isDigit_1 : decode cX12_isDigit 1 = .ok (.aload_n 0, 1) := by decide +kernel
theorem dX12_isDigit_2 : decode cX12_isDigit 2 = .ok (.getfield 328, 3) := by decide +kernel
theorem dX12_isDigit_5 : decode cX12_isDigit 5 = .ok (.if_icmp .ge 22, 3) := by decide +kernel
theorem dX12_isDigit_8 : decode cX12_isDigit 8 = .ok (.aload_n 0, 1) := by decide +kernel
theorem dX12_isDigit_9 : decode cX12_isDigit 9 = .ok (.iload_n 1, 1) := by decide +kernel
theorem dX12_isDigit_10 : decode cX12_isDigit 10 = .ok (.invokevirtual 334, 3) := by decide +kernel
theorem dX12_isDigit_13 : decode cX12_isDigit 13 = .ok (.bipush 48, 2) := by decide +kernel
theorem dX12_isDigit_15 : decode cX12_isDigit 15 = .ok (.bipush 57, 2) := by decide +kernel
theorem dX12_isDigit_17 : decode cX12_isDigit 17 = .ok (.invokestatic 186, 3) := by decide +kernel
theorem dX12_isDigit_20 : decode cX12_isDigit 20 = .ok (.ifCond .eq 7, 3) := by decide +kernel
theorem dX12_isDigit_23 : decode cX12_isDigit 23 = .ok (.iconst 1, 1) := by decide +kernel
theorem dX12_isDigit_24 : decode cX12_isDigit 24 = .ok (.goto 4, 3) := by decide +kernel
theorem dX12_isDigit_27 : decode cX12_isDigit 27 = .ok (.iconst 0, 1) := by decide +kernel
theorem dX12_isDigit_28 : decode cX12_isDigit 28 = .ok (.ireturn, 1) := by decide +kernel
set_option maxRecDepth 20000 in
theorem ggX12_next_X12_byteAt : GoodIn wsX12_next wsX12_byteAt := goodIn_r _ [8, 2, 9, 10, 11, 23, 24, 25, 26, 27, 28, 29, 30, 31, 32, 33, 34, 35, 36, 37, 38, 39, 40, 41, 42, 43, 44, 45, 46, 47, 48, 49, 50, 51, 52, 53, 54, 55, 56, 57, 58, 59, 60, 61, 62, 63, 64, 65, 66, 67, 68, 69, 70, 71, 72, 73, 74, 75, 76, 77, 78, 79, 80, 81, 82, 83, 84, 85, 86, 87, 88, 89, 90, 91, 92, 93, 94, 95, 96, 97, 98, 99, 100, 101] (by decide +kernel) (by decide +kernel)
set_option maxRecDepth 20000 in
theorem gX12_next_X12_byteAt : GoodIn wsX12_next (wsV RX12 334 RX12 yX12_byteAt wsX12_byteAt) := goodIn_app (goodIn_of _ (by decide +kernel)) ggX12_next_X12_byteAt
set_option maxRecDepth 20000 in
theorem ggX12_next_X12_isLetter : GoodIn wsX12_next wsX12_isLetter := goodIn_r _ [15, 2, 4, 5, 6, 7, 8, 9, 10, 11, 16, 17, 18, 23, 24, 25, 26, 27, 28, 29, 30, 31, 32, 33, 34, 35, 36, 37, 38, 39, 40, 41, 42, 43, 44, 45, 46, 47, 48, 49, 50, 51, 52, 53, 54, 55, 56, 57, 58, 59, 60, 61, 62, 63, 64, 65, 66, 67, 68, 69, 70, 71, 72, 73, 74, 75, 76, 77, 78, 79, 80, 81, 82, 83, 84, 85, 86, 87, 88, 89, 90, 91, 92, 93, 94, 95, 96, 97, 98, 99, 100, 101] (by decide +kernel) (by decide +kernel)
set_option maxRecDepth 20000 in
theorem gX12_next_X12_isLetter : GoodIn wsX12_next (wsV RX12 343 RX12 yX12_isLetter wsX12_isLetter) := goodIn_app (goodIn_of _ (by decide +kernel)) ggX12_next_X12_isLetter
set_option maxRecDepth 20000 in
theorem ggX12_next_X12_isDigit : GoodIn wsX12_next wsX12_isDigit := goodIn_r _ [22, 2, 4, 5, 6, 7, 8, 9, 10, 11, 16, 17, 18, 23, 24, 25, 26, 27, 28, 29, 30, 31, 32, 33, 34, 35, 36, 37, 38, 39, 40, 41, 42, 43, 44, 45, 46, 47, 48, 49, 50, 51, 52, 53, 54, 55, 56, 57, 58, 59, 60, 61, 62, 63, 64, 65, 66, 67, 68, 69, 70, 71, 72, 73, 74, 75, 76, 77, 78, 79, 80, 81, 82, 83, 84, 85, 86, 87, 88, 89, 90, 91, 92, 93, 94, 95, 96, 97, 98, 99, 100, 101] (by decide +kernel) (by decide +kernel)
set_option maxRecDepth 20000 in
theorem gX12_next_X12_isDigit : GoodIn wsX12_next (wsV RX12 346 RX12 yX12_isDigit wsX12_isDigit) := goodIn_app (goodIn_of _ (by decide +kernel)) ggX12_next_X12_isDigit
theorem dX12_next_0 : decode cX12_next 0 = .ok (.aload_n 0, 1) := by decide +kernel
theorem dX12_next_1 : decode cX12_next 1 = .ok (.getfield 337, 3) := by decide +kernel
theorem dX12_next_4 : decode cX12_next 4 = .ok (.aload_n 0, 1) := by decide +kernel
theorem dX12_next_5 : decode cX12_next 5 = .ok (.getfield 328, 3) := by decide +kernel
theorem dX12_next_8 : decode cX12_next 8 = .ok (.if_icmp .ge 42, 3) := by decide +kernel
theorem dX12_next_11 : decode cX12_next 11 = .ok (.aload_n 0, 1) := by decide +kernel
theorem dX12_next_12 : decode cX12_next 12 = .ok (.aload_n 0, 1) := by decide +kernel

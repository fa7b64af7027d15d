theorem dX11_body_0 : decode cX11_body 0 = .ok (.iload_n 1, 1) := by decide +kernel
theorem dX11_body_1 : decode cX11_body 1 = .ok (.ifCond .lt 52, 3) := by decide +kernel
theorem dX11_body_53 : decode cX11_body 53 = .ok (.bipush (-2), 2) := by decide +kernel
theorem dX11_body_55 : decode cX11_body 55 = .ok (.ireturn, 1) := by decide +kernel
theorem dX11_body_4 : decode cX11_body 4 = .ok (.iload_n 1, 1) := by decide +kernel
theorem dX11_body_5 : decode cX11_body 5 = .ok (.bipush 6, 2) := by decide +kernel
theorem dX11_body_7 : decode cX11_body 7 = .ok (.if_icmp .ge 46, 3) := by decide +kernel
theorem dX11_body_10 : decode cX11_body 10 = .ok (.iload_n 2, 1) := by decide +kernel
set_option maxRecDepth 20000 in
theorem ggX11_body_X11_isCell : GoodIn wsX11_body wsX11_isCell := goodIn_r _ [10] (by decide +kernel) (by decide +kernel)
set_option maxRecDepth 20000 in
theorem gX11_body_X11_isCell : GoodIn wsX11_body (va_wsS RX11 110 yX11_isCell wsX11_isCell) := goodIn_app (goodIn_of _ (by decide +kernel)) ggX11_body_X11_isCell
theorem dX11_body_11 : decode cX11_body 11 = .ok (.invokestatic 110, 3) := by decide +kernel
theorem dX11_body_14 : decode cX11_body 14 = .ok (.ifCond .eq 39, 3) := by decide +kernel
theorem dX11_body_17 : decode cX11_body 17 = .ok (.iload_n 3, 1) := by decide +kernel
theorem dX11_body_18 : decode cX11_body 18 = .ok (.ifCond .lt 35, 3) := by decide +kernel
theorem dX11_body_21 : decode cX11_body 21 = .ok (.iload_n 3, 1) := by decide +kernel
theorem dX11_body_22 : decode cX11_body 22 = .ok (.bipush 20, 2) := by decide +kernel
theorem dX11_body_24 : decode cX11_body 24 = .ok (.if_icmp .gt 29, 3) := by decide +kernel
theorem dX11_body_27 : decode cX11_body 27 = .ok (.iload 4, 2) := by decide +kernel
theorem dX11_body_29 : decode cX11_body 29 = .ok (.ifCond .lt 24, 3) := by decide +kernel
theorem dX11_body_32 : decode cX11_body 32 = .ok (.iload 4, 2) := by decide +kernel
theorem dX11_body_34 : decode cX11_body 34 = .ok (.sipush 9999, 3) := by decide +kernel
theorem dX11_body_37 : decode cX11_body 37 = .ok (.if_icmp .gt 16, 3) := by decide +kernel
theorem dX11_body_40 : decode cX11_body 40 = .ok (.iload 5, 2) := by decide +kernel
theorem dX11_body_42 : decode cX11_body 42 = .ok (.ifCond .lt 11, 3) := by decide +kernel
theorem dX11_body_45 : decode cX11_body 45 = .ok (.iload 5, 2) := by decide +kernel
theorem dX11_body_47 : decode cX11_body 47 = .ok (.sipush 999, 3) := by decide +kernel
theorem dX11_body_50 : decode cX11_body 50 = .ok (.if_icmp .le 6, 3) := by decide +kernel
theorem dX11_body_56 : decode cX11_body 56 = .ok (.aload_n 0, 1) := by decide +kernel
theorem dX11_body_57 : decode cX11_body 57 = .ok (.getfield 75, 3) := by decide +kernel
theorem dX11_body_60 : decode cX11_body 60 = .ok (.bipush 12, 2) := by decide +kernel
theorem dX11_body_62 : decode cX11_body 62 = .ok (.if_icmp .lt 6, 3) := by decide +kernel
theorem dX11_body_68 : decode cX11_body 68 = .ok (.aload_n 0, 1) := by decide +kernel
theorem dX11_body_69 : decode cX11_body 69 = .ok (.getfield 18, 3) := by decide +kernel
theorem dX11_body_72 : decode cX11_body 72 = .ok (.aload_n 0, 1) := by decide +kernel
theorem dX11_body_73 : decode cX11_body 73 = .ok (.getfield 75, 3) := by decide +kernel
theorem dX11_body_76 : decode cX11_body 76 = .ok (.new 16, 3) := by decide +kernel
theorem dX11_body_79 : decode cX11_body 79 = .ok (.dup, 1) := by decide +kernel
theorem dX11_body_80 : decode cX11_body 80 = .ok (.iload_n 1, 1) := by decide +kernel
theorem dX11_body_81 : decode cX11_body 81 = .ok (.iload_n 2, 1) := by decide +kernel
theorem dX11_body_82 : decode cX11_body 82 = .ok (.aload_n 0, 1) := by decide +kernel
theorem dX11_body_83 : decode cX11_body 83 = .ok (.getfield 71, 3) := by decide +kernel
theorem dX11_body_86 : decode cX11_body 86 = .ok (.iload_n 3, 1) := by decide +kernel
theorem dX11_body_87 : decode cX11_body 87 = .ok (.iload 4, 2) := by decide +kernel
theorem dX11_body_89 : decode cX11_body 89 = .ok (.iload 5, 2) := by decide +kernel
set_option maxRecDepth 20000 in
theorem ggX11_body_X0_init : GoodIn wsX11_body wsX0_init := goodIn_r _ [13, 14, 15, 16, 17, 18, 19, 20, 21, 22, 23, 24, 25, 26, 27, 28, 29, 30, 31, 45, 46, 47, 48, 49, 50, 51, 52, 53, 54, 55, 56, 57, 58, 59] (by decide +kernel) (by decide +kernel)
set_option maxRecDepth 20000 in
theorem gX11_body_X0_init : GoodIn wsX11_body (wsX0_init) := ggX11_body_X0_init
theorem dX11_body_91 : decode cX11_body 91 = .ok (.invokespecial 113, 3) := by decide +kernel
theorem dX11_body_94 : decode cX11_body 94 = .ok (.aastore, 1) := by decide +kernel
theorem dX11_body_95 : decode cX11_body 95 = .ok (.aload_n 0, 1) := by decide +kernel
theorem dX11_body_96 : decode cX11_body 96 = .ok (.dup, 1) := by decide +kernel
theorem dX11_body_97 : decode cX11_body 97 = .ok (.getfield 75, 3) := by decide +kernel
theorem dX11_body_100 : decode cX11_body 100 = .ok (.dup_x1, 1) := by decide +kernel
theorem dX11_body_101 : decode cX11_body 101 = .ok (.iconst 1, 1) := by decide +kernel
theorem dX11_body_102 : decode cX11_body 102 = .ok (.iadd, 1) := by decide +kernel
theorem dX11_body_103 : decode cX11_body 103 = .ok (.putfield 75, 3) := by decide +kernel
theorem dX11_body_106 : decode cX11_body 106 = .ok (.ireturn, 1) := by decide +kernel
theorem dX3_addBytes_0 : decode cX3_addBytes 0 = .ok (.iconst 0, 1) := by decide +kernel
theorem dX3_addBytes_1 : decode cX3_addBytes 1 = .ok (.istore 4, 2) := by decide +kernel
theorem dX3_addBytes_3 : decode cX3_addBytes 3 = .ok (.iload 4, 2) := by decide +kernel
theorem dX3_addBytes_5 : decode cX3_addBytes 5 = .ok (.iload_n 1, 1) := by decide +kernel
theorem dX3_addBytes_6 : decode cX3_addBytes 6 = .ok (.if_icmp .ge 50, 3) := by decide +kernel
theorem dX3_addBytes_56 : decode cX3_addBytes 56 = .ok (.aload_n 0, 1) := by decide +kernel
theorem dX3_addBytes_57 : decode cX3_addBytes 57 = .ok (.getfield 42, 3) := by decide +kernel
theorem dX3_addBytes_60 : decode cX3_addBytes 60 = .ok (.ireturn, 1) := by decide +kernel
theorem dX3_addBytes_9 : decode cX3_addBytes 9 = .ok (.aload_n 0, 1) := by decide +kernel
theorem dX3_addBytes_10 : decode cX3_addBytes 10 = .ok (.getfield 42, 3) := by decide +kernel
theorem dX3_addBytes_13 : decode cX3_addBytes 13 = .ok (.sipush 160, 3) := by decide +kernel
theorem dX3_addBytes_16 : decode cX3_addBytes 16 = .ok (.if_icmp .ge 40, 3) := by decide +kernel
theorem dX3_addBytes_19 : decode cX3_addBytes 19 = .ok (.aload_n 0, 1) := by decide +kernel
theorem dX3_addBytes_20 : decode cX3_addBytes 20 = .ok (.getfield 9, 3) := by decide +kernel
theorem dX3_addBytes_23 : decode cX3_addBytes 23 = .ok (.aload_n 0, 1) := by decide +kernel
theorem dX3_addBytes_24 : decode cX3_addBytes 24 = .ok (.getfield 42, 3) := by decide +kernel
theorem dX3_addBytes_27 : decode cX3_addBytes 27 = .ok (.lload_n 2, 1) := by decide +kernel
theorem dX3_addBytes_28 : decode cX3_addBytes 28 = .ok (.bipush 8, 2) := by decide +kernel
theorem dX3_addBytes_30 : decode cX3_addBytes 30 = .ok (.iload 4, 2) := by decide +kernel
theorem dX3_addBytes_32 : decode cX3_addBytes 32 = .ok (.imul, 1) := by decide +kernel
theorem dX3_addBytes_33 : decode cX3_addBytes 33 = .ok (.lushr, 1) := by decide +kernel
theorem dX3_addBytes_34 : decode cX3_addBytes 34 = .ok (.ldc2_w 45, 3) := by decide +kernel
theorem dX3_addBytes_37 : decode cX3_addBytes 37 = .ok (.land, 1) := by decide +kernel
theorem dX3_addBytes_38 : decode cX3_addBytes 38 = .ok (.l2i, 1) := by decide +kernel
theorem dX3_addBytes_39 : decode cX3_addBytes 39 = .ok (.iastore, 1) := by decide +kernel
theorem dX3_addBytes_40 : decode cX3_addBytes 40 = .ok (.aload_n 0, 1) := by decide +kernel
theorem dX3_addBytes_41 : decode cX3_addBytes 41 = .ok (.dup, 1) := by decide +kernel
theorem dX3_addBytes_42 : decode cX3_addBytes 42 = .ok (.getfield 42, 3) := by decide +kernel
theorem dX3_addBytes_45 : decode cX3_addBytes 45 = .ok (.iconst 1, 1) := by decide +kernel
theorem dX3_addBytes_46 : decode cX3_addBytes 46 = .ok (.iadd, 1) := by decide +kernel
theorem dX3_addBytes_47 : decode cX3_addBytes 47 = .ok (.putfield 42, 3) := by decide +kernel
theorem dX3_addBytes_50 : decode cX3_addBytes 50 = .ok (.iinc 4 1, 3) := by decide +kernel
theorem dX3_addBytes_53 : decode cX3_addBytes 53 = .ok (.goto (-50), 3) := by decide +kernel
theorem dX11_feed_0 : decode cX11_feed 0 = .ok (.iload_n 1, 1) := by decide +kernel
theorem dX11_feed_1 : decode cX11_feed 1 = .ok (.iconst 1, 1) := by decide +kernel
theorem dX11_feed_2 : decode cX11_feed 2 = .ok (.if_icmp .lt 9, 3) := by decide +kernel
theorem dX11_feed_11 : decode cX11_feed 11 = .ok (.bipush (-2), 2) := by decide +kernel
theorem dX11_feed_13 : decode cX11_feed 13 = .ok (.ireturn, 1) := by decide +kernel
theorem dX11_feed_5 : decode cX11_feed 5 = .ok (.iload_n 1, 1) := by decide +kernel
theorem dX11_feed_6 : decode cX11_feed 6 = .ok (.bipush 8, 2) := by decide +kernel
theorem dX11_feed_8 : decode cX11_feed 8 = .ok (.if_icmp .le 6, 3) := by decide +kernel
theorem dX11_feed_14 : decode cX11_feed 14 = .ok (.aload_n 0, 1) := by decide +kernel
theorem dX11_feed_15 : decode cX11_feed 15 = .ok (.getfield 46, 3) := by decide +kernel
theorem dX11_feed_18 : decode cX11_feed 18 = .ok (.getfield 271, 3) := by decide +kernel
theorem dX11_feed_21 : decode cX11_feed 21 = .ok (.iload_n 1, 1) := by decide +kernel
theorem dX11_feed_22 : decode cX11_feed 22 = .ok (.iadd, 1) := by decide +kernel
theorem dX11_feed_23 : decode cX11_feed 23 = .ok (.sipush 160, 3) := by decide +kernel
theorem dX11_feed_26 : decode cX11_feed 26 = .ok (.if_icmp .le 6, 3) := by decide +kernel
theorem dX11_feed_32 : decode cX11_feed 32 = .ok (.aload_n 0, 1) := by decide +kernel
theorem dX11_feed_33 : decode cX11_feed 33 = .ok (.getfield 46, 3) := by decide +kernel
theorem dX11_feed_36 : decode cX11_feed 36 = .ok (.iload_n 1, 1) := by decide +kernel
theorem dX11_feed_37 : decode cX11_feed 37 = .ok (.lload_n 2, 1) := by decide +kernel
set_option maxRecDepth 20000 in
theorem ggX11_feed_X3_addBytes : GoodIn wsX11_feed wsX3_addBytes := goodIn_r _ [7, 8, 9, 10, 24, 25, 26, 27, 28, 29, 30, 31] (by decide +kernel) (by decide +kernel)
set_option maxRecDepth 20000 in
theorem gX11_feed_X3_addBytes : GoodIn wsX11_feed (wsV RX11 274 RX3 yX3_addBytes wsX3_addBytes) := goodIn_app (goodIn_of _ (by decide +kernel)) ggX11_feed_X3_addBytes
theorem dX11_feed_38 : decode cX11_feed 38 = .ok (.invokevirtual 274, 3) := by decide +kernel
theorem dX11_feed_41 : decode cX11_feed 41 = .ok (.ireturn, 1) := by decide +kernel
theorem dX12_feed_0 : decode cX12_feed 0 = .ok (.iload_n 1, 1) := by decide +kernel
theorem dX12_feed_1 : decode cX12_feed 1 = .ok (.iconst 1, 1) := by decide +kernel
theorem dX12_feed_2 : decode cX12_feed 2 = .ok (.bipush 8, 2) := by decide +kernel
set_option maxRecDepth 20000 in
theorem ggX12_feed_X12_within : GoodIn wsX12_feed wsX12_within := goodIn_r _ [7] (by decide +kernel) (by decide +kernel)
set_option maxRecDepth 20000 in
theorem gX12_feed_X12_within : GoodIn wsX12_feed (va_wsS RX12 186 yX12_within wsX12_within) := goodIn_app (goodIn_of _ (by decide +kernel)) ggX12_feed_X12_within
theorem dX12_feed_4 : decode cX12_feed 4 = .ok (.invokestatic 186, 3) := by decide +kernel
theorem dX12_feed_7 : decode cX12_feed 7 = .ok (.ifCond .ne 6, 3) := by decide +kernel
theorem dX12_feed_13 : decode cX12_feed 13 = .ok (.aload_n 0, 1) := by decide +kernel
theorem dX12_feed_14 : decode cX12_feed 14 = .ok (.getfield 323, 3) := by decide +kernel
theorem dX12_feed_17 : decode cX12_feed 17 = .ok (.iload_n 1, 1) := by decide +kernel
theorem dX12_feed_18 : decode cX12_feed 18 = .ok (.iadd, 1) := by decide +kernel
theorem dX12_feed_19 : decode cX12_feed 19 = .ok (.sipush 160, 3) := by decide +kernel
theorem dX12_feed_22 : decode cX12_feed 22 = .ok (.if_icmp .le 6, 3) := by decide +kernel
theorem dX12_feed_28 : decode cX12_feed 28 = .ok (.iconst 0, 1) := by decide +kernel
theorem dX12_feed_29 : decode cX12_feed 29 = .ok (.istore 4, 2) := by decide +kernel
theorem dX12_feed_31 : decode cX12_feed 31 = .ok (.iload 4, 2) := by decide +kernel
theorem dX12_feed_33 : decode cX12_feed 33 = .ok (.iload_n 1, 1) := by decide +kernel
theorem dX12_feed_34 : decode cX12_feed 34 = .ok (.if_icmp .ge 40, 3) := by decide +kernel
theorem dX12_feed_74 : decode cX12_feed 74 = .ok (.aload_n 0, 1) := by decide +kernel
theorem dX12_feed_75 : decode cX12_feed 75 = .ok (.getfield 323, 3) := by decide +kernel
theorem dX12_feed_78 : decode cX12_feed 78 = .ok (.ireturn, 1) := by decide +kernel
theorem dX12_feed_37 : decode cX12_feed 37 = .ok (.aload_n 0, 1) := by decide +kernel
theorem dX12_feed_38 : decode cX12_feed 38 = .ok (.getfield 125, 3) := by decide +kernel
theorem dX12_feed_41 : decode cX12_feed 41 = .ok (.aload_n 0, 1) := by decide +kernel
theorem dX12_feed_42 : decode cX12_feed 42 = .ok (.getfield 323, 3) := by decide +kernel
theorem dX12_feed_45 : decode cX12_feed 45 = .ok (.lload_n 2, 1) := by decide +kernel
theorem dX12_feed_46 : decode cX12_feed 46 = .ok (.bipush 8, 2) := by decide +kernel
theorem dX12_feed_48 : decode cX12_feed 48 = .ok (.iload 4, 2) := by decide +kernel
theorem dX12_feed_50 : decode cX12_feed 50 = .ok (.imul, 1) := by decide +kernel
theorem dX12_feed_51 : decode cX12_feed 51 = .ok (.lushr, 1) := by decide +kernel
theorem dX12_feed_52 : decode cX12_feed 52 = .ok (.ldc2_w 326, 3) := by decide +kernel
theorem dX12_feed_55 : decode cX12_feed 55 = .ok (.land, 1) := by decide +kernel
theorem dX12_feed_56 : decode cX12_feed 56 = .ok (.l2i, 1) := by decide +kernel
theorem dX12_feed_57 : decode cX12_feed 57 = .ok (.iastore, 1) := by decide +kernel
theorem dX12_feed_58 : decode cX12_feed 58 = .ok (.aload_n 0, 1) := by decide +kernel
theorem dX12_feed_59 : decode cX12_feed 59 = .ok (.dup, 1) := by decide +kernel
theorem dX12_feed_60 : decode cX12_feed 60 = .ok (.getfield 323, 3) := by decide +kernel
theorem dX12_feed_63 : decode cX12_feed 63 = .ok (.iconst 1, 1) := by decide +kernel
theorem dX12_feed_64 : decode cX12_feed 64 = .ok (.iadd, 1) := by decide +kernel
theorem dX12_feed_65 : decode cX12_feed 65 = .ok (.putfield 323, 3) := by decide +kernel
theorem dX12_feed_68 : decode cX12_feed 68 = .ok (.iinc 4 1, 3) := by decide +kernel
theorem dX12_feed_71 : decode cX12_feed 71 = .ok (.goto (-40), 3) := by decide +kernel
theorem dX12_feed_10 : decode cX12_feed 10 = .ok (.bipush (-2), 2) := by decide +kernel
theorem dX12_feed_12 : decode cX12_feed 12 = .ok (.ireturn, 1) := by decide +kernel
theorem dX11_sheetAt_0 : decode cX11_sheetAt 0 = .ok (.iload_n 1, 1) := by decide +kernel
theorem dX11_sheetAt_1 : decode cX11_sheetAt 1 = .ok (.ifCond .lt 21, 3) := by decide +kernel
theorem dX11_sheetAt_4 : decode cX11_sheetAt 4 = .ok (.iload_n 1, 1) := by decide +kernel
theorem dX11_sheetAt_5 : decode cX11_sheetAt 5 = .ok (.aload_n 0, 1) := by decide +kernel
theorem dX11_sheetAt_6 : decode cX11_sheetAt 6 = .ok (.getfield 66, 3) := by decide +kernel
theorem dX11_sheetAt_9 : decode cX11_sheetAt 9 = .ok (.arraylength, 1) := by decide +kernel
theorem dX11_sheetAt_10 : decode cX11_sheetAt 10 = .ok (.if_icmp .ge 12, 3) := by decide +kernel
theorem dX11_sheetAt_13 : decode cX11_sheetAt 13 = .ok (.aload_n 0, 1) := by decide +kernel
theorem dX11_sheetAt_14 : decode cX11_sheetAt 14 = .ok (.getfield 66, 3) := by decide +kernel
theorem dX11_sheetAt_17 : decode cX11_sheetAt 17 = .ok (.iload_n 1, 1) := by decide +kernel
theorem dX11_sheetAt_18 : decode cX11_sheetAt 18 = .ok (.aaload, 1) := by decide +kernel
theorem dX11_sheetAt_19 : decode cX11_sheetAt 19 = .ok (.goto 4, 3) := by decide +kernel
theorem dX11_sheetAt_23 : decode cX11_sheetAt 23 = .ok (.areturn, 1) := by decide +kernel
theorem dX11_sheetAt_22 : decode cX11_sheetAt 22 = .ok (.aconst_null, 1) := by decide +kernel
theorem dX7_become_0 : decode cX7_become 0 = .ok (.aload_n 0, 1) := by decide +kernel
theorem dX7_become_1 : decode cX7_become 1 = .ok (.iload_n 1, 1) := by decide +kernel
theorem dX7_become_2 : decode cX7_become 2 = .ok (.putfield 15, 3) := by decide +kernel
theorem dX7_become_5 : decode cX7_become 5 = .ok (.aload_n 0, 1) := by decide +kernel
theorem dX7_become_6 : decode cX7_become 6 = .ok (.iload_n 2, 1) := by decide +kernel
theorem dX7_become_7 : decode cX7_become 7 = .ok (.putfield 19, 3) := by decide +kernel
theorem dX7_become_10 : decode cX7_become 10 = .ok (.iconst 0, 1) := by decide +kernel
theorem dX7_become_11 : decode cX7_become 11 = .ok (.istore_n 3, 1) := by decide +kernel
theorem dX7_become_12 : decode cX7_become 12 = .ok (.iload_n 3, 1) := by decide +kernel
theorem dX7_become_13 : decode cX7_become 13 = .ok (.bipush 40, 2) := by decide +kernel
theorem dX7_become_15 : decode cX7_become 15 = .ok (.if_icmp .ge 16, 3) := by decide +kernel
theorem dX7_become_31 : decode cX7_become 31 = .ok (.return_, 1) := by decide +kernel
theorem dX7_become_18 : decode cX7_become 18 = .ok (.aload_n 0, 1) := by decide +kernel
theorem dX7_become_19 : decode cX7_become 19 = .ok (.getfield 9, 3) := by decide +kernel
theorem dX7_become_22 : decode cX7_become 22 = .ok (.iload_n 3, 1) := by decide +kernel
theorem dX7_become_23 : decode cX7_become 23 = .ok (.iconst 0, 1) := by decide +kernel
theorem dX7_become_24 : decode cX7_become 24 = .ok (.iastore, 1) := by decide +kernel
theorem dX7_become_25 : decode cX7_become 25 = .ok (.iinc 3 1, 3) := by decide +kernel
theorem dX7_become_28 : decode cX7_become 28 = .ok (.goto (-16), 3) := by decide +kernel
theorem dX11_sheet_0 : decode cX11_sheet 0 = .ok (.aload_n 0, 1) := by decide +kernel
theorem dX11_sheet_1 : decode cX11_sheet 1 = .ok (.iload_n 1, 1) := by decide +kernel
set_option maxRecDepth 20000 in
theorem ggX11_sheet_X11_sheetAt : GoodIn wsX11_sheet wsX11_sheetAt := goodIn_r _ [5, 6, 15, 16, 17, 18, 19, 20, 21, 22, 23, 24, 25, 26, 27] (by decide +kernel) (by decide +kernel)
set_option maxRecDepth 20000 in
theorem gX11_sheet_X11_sheetAt : GoodIn wsX11_sheet (wsV RX11 348 RX11 yX11_sheetAt wsX11_sheetAt) := goodIn_app (goodIn_of _ (by decide +kernel)) ggX11_sheet_X11_sheetAt
theorem dX11_sheet_2 : decode cX11_sheet 2 = .ok (.invokevirtual 348, 3) := by decide +kernel
theorem dX11_sheet_5 : decode cX11_sheet 5 = .ok (.astore 4, 2) := by decide +kernel
theorem dX11_sheet_7 : decode cX11_sheet 7 = .ok (.aload 4, 2) := by decide +kernel
theorem dX11_sheet_9 : decode cX11_sheet 9 = .ok (.ifnull 13, 3) := by decide +kernel
theorem dX11_sheet_12 : decode cX11_sheet 12 = .ok (.iload_n 2, 1) := by decide +kernel
theorem dX11_sheet_13 : decode cX11_sheet 13 = .ok (.iconst (-1), 1) := by decide +kernel
theorem dX11_sheet_14 : decode cX11_sheet 14 = .ok (.if_icmp .lt 8, 3) := by decide +kernel
theorem dX11_sheet_22 : decode cX11_sheet 22 = .ok (.bipush (-2), 2) := by decide +kernel
theorem dX11_sheet_24 : decode cX11_sheet 24 = .ok (.ireturn, 1) := by decide +kernel
theorem dX11_sheet_17 : decode cX11_sheet 17 = .ok (.iload_n 2, 1) := by decide +kernel
theorem dX11_sheet_18 : decode cX11_sheet 18 = .ok (.iconst 3, 1) := by decide +kernel
theorem dX11_sheet_19 : decode cX11_sheet 19 = .ok (.if_icmp .lt 6, 3) := by decide +kernel
theorem dX11_sheet_25 : decode cX11_sheet 25 = .ok (.iload_n 2, 1) := by decide +kernel
theorem dX11_sheet_26 : decode cX11_sheet 26 = .ok (.iconst (-1), 1) := by decide +kernel
theorem dX11_sheet_27 : decode cX11_sheet 27 = .ok (.if_icmp .ne 12, 3) := by decide +kernel
theorem dX11_sheet_39 : decode cX11_sheet 39 = .ok (.iload_n 3, 1) := by decide +kernel
theorem dX11_sheet_40 : decode cX11_sheet 40 = .ok (.bipush 40, 2) := by decide +kernel
theorem dX11_sheet_42 : decode cX11_sheet 42 = .ok (.if_icmp .le 6, 3) := by decide +kernel
theorem dX11_sheet_48 : decode cX11_sheet 48 = .ok (.iload_n 3, 1) := by decide +kernel
theorem dX11_sheet_49 : decode cX11_sheet 49 = .ok (.ifCond .ge 6, 3) := by decide +kernel
theorem dX11_sheet_55 : decode cX11_sheet 55 = .ok (.aload 4, 2) := by decide +kernel
theorem dX11_sheet_57 : decode cX11_sheet 57 = .ok (.iload_n 2, 1) := by decide +kernel
theorem dX11_sheet_58 : decode cX11_sheet 58 = .ok (.iload_n 3, 1) := by decide +kernel
set_option maxRecDepth 20000 in
theorem ggX11_sheet_X7_become : GoodIn wsX11_sheet wsX7_become := goodIn_r _ [11, 12, 13, 14, 28, 29, 30] (by decide +kernel) (by decide +kernel)
set_option maxRecDepth 20000 in
theorem gX11_sheet_X7_become : GoodIn wsX11_sheet (wsV RX11 352 RX7 yX7_become wsX7_become) := goodIn_app (goodIn_of _ (by decide +kernel)) ggX11_sheet_X7_become
theorem dX11_sheet_59 : decode cX11_sheet 59 = .ok (.invokevirtual 352, 3) := by decide +kernel
theorem dX11_sheet_62 : decode cX11_sheet 62 = .ok (.iconst 1, 1) := by decide +kernel
theorem dX11_sheet_63 : decode cX11_sheet 63 = .ok (.ireturn, 1) := by decide +kernel
theorem dX11_sheet_52 : decode cX11_sheet 52 = .ok (.bipush (-14), 2) := by decide +kernel
theorem dX11_sheet_54 : decode cX11_sheet 54 = .ok (.ireturn, 1) := by decide +kernel
theorem dX11_sheet_45 : decode cX11_sheet 45 = .ok (.bipush (-2), 2) := by decide +kernel
theorem dX11_sheet_47 : decode cX11_sheet 47 = .ok (.ireturn, 1) := by decide +kernel
theorem dX11_sheet_30 : decode cX11_sheet 30 = .ok (.aload 4, 2) := by decide +kernel
theorem dX11_sheet_32 : decode cX11_sheet 32 = .ok (.iload_n 2, 1) := by decide +kernel
theorem dX11_sheet_33 : decode cX11_sheet 33 = .ok (.iconst 0, 1) := by decide +kernel
theorem dX11_sheet_34 : decode cX11_sheet 34 = .ok (.invokevirtual 352, 3) := by decide +kernel
theorem dX11_sheet_37 : decode cX11_sheet 37 = .ok (.iconst 1, 1) := by decide +kernel
theorem dX11_sheet_38 : decode cX11_sheet 38 = .ok (.ireturn, 1) := by decide +kernel
theorem dX11_cell_0 : decode cX11_cell 0 = .ok (.aload_n 0, 1) := by decide +kernel
theorem dX11_cell_1 : decode cX11_cell 1 = .ok (.iload_n 1, 1) := by decide +kernel
set_option maxRecDepth 20000 in
theorem ggX11_cell_X11_sheetAt : GoodIn wsX11_cell wsX11_sheetAt := goodIn_r _ [6, 7, 23, 24, 25, 26, 27, 28, 29, 30, 31, 32, 33, 34, 35] (by decide +kernel) (by decide +kernel)
set_option maxRecDepth 20000 in
theorem gX11_cell_X11_sheetAt : GoodIn wsX11_cell (wsV RX11 348 RX11 yX11_sheetAt wsX11_sheetAt) := goodIn_app (goodIn_of _ (by decide +kernel)) ggX11_cell_X11_sheetAt
theorem dX11_cell_2 : decode cX11_cell 2 = .ok (.invokevirtual 348, 3) := by decide +kernel
theorem dX11_cell_5 : decode cX11_cell 5 = .ok (.astore 4, 2) := by decide +kernel
theorem dX11_cell_7 : decode cX11_cell 7 = .ok (.aload 4, 2) := by decide +kernel
theorem dX11_cell_9 : decode cX11_cell 9 = .ok (.ifnonnull 6, 3) := by decide +kernel
theorem dX11_cell_15 : decode cX11_cell 15 = .ok (.aload 4, 2) := by decide +kernel
theorem dX11_cell_17 : decode cX11_cell 17 = .ok (.getfield 355, 3) := by decide +kernel
theorem dX11_cell_20 : decode cX11_cell 20 = .ok (.iconst (-1), 1) := by decide +kernel
theorem dX11_cell_21 : decode cX11_cell 21 = .ok (.if_icmp .ne 6, 3) := by decide +kernel
theorem dX11_cell_24 : decode cX11_cell 24 = .ok (.bipush (-11), 2) := by decide +kernel
theorem dX11_cell_26 : decode cX11_cell 26 = .ok (.ireturn, 1) := by decide +kernel
theorem dX11_cell_12 : decode cX11_cell 12 = .ok (.bipush (-2), 2) := by decide +kernel
theorem dX11_cell_14 : decode cX11_cell 14 = .ok (.ireturn, 1) := by decide +kernel
set_option maxHeartbeats 1000000 in
set_option maxRecDepth 100000 in
theorem rt_X11_body (l : Launch) (dC : Nat → ClassId) (dI : Nat → Nat → Nat) (sz : Nat) (h0 : Nat) (ad : Nat → Nat) (cA : ClassId) (f : Nat → Option Nat) (p0 p1 p2 p3 p4 : Int32) : Met l yX11_body wsX11_body ({ frames := 2, cells := 7, slots := 387, locals := 38 }) (va_Pc [.ref h0, .int p0, .int p1, .int p2, .int p3, .int p4] (fun U => U.heap.size = sz ∧ va_P (dC, dI) vwCl [(h0, .inr (11, [.ref (ad 0), .ref (ad 1), .ref (ad 2), .ref (ad 3), .ref (ad 4), .ref (ad 5), .ref (ad 6), .ref (ad 7), .ref (ad 8), .int 0, .int 0, .int 0, .int 0])), (ad 1, .inl (cA, 12, .inr (.inr (.inr (.inr f)))))] U.heap ∧ va_K (dC, dI) vwCl [(cA, .object RX0)] U ∧ va_D (fun _ => True) [(h0, .inr (11, [.ref (ad 0), .ref (ad 1), .ref (ad 2), .ref (ad 3), .ref (ad 4), .ref (ad 5), .ref (ad 6), .ref (ad 7), .ref (ad 8), .int 0, .int 0, .int 0, .int 0])), (ad 1, .inl (cA, 12, .inr (.inr (.inr (.inr f)))))])) (va_Qi (fun (r : Int32) (u : Unit) => match u with | () => ((0 ≤ p0 ∧ p0 ≤ 5 ∧ 0 ≤ p1 ∧ p1 ≤ 63 ∧ 0 ≤ p2 ∧ p2 ≤ 20 ∧ 0 ≤ p3 ∧ p3 ≤ 9999 ∧ 0 ≤ p4 ∧ p4 ≤ 999) ∧ r = 0) ∨ ((¬ (0 ≤ p0 ∧ p0 ≤ 5 ∧ 0 ≤ p1 ∧ p1 ≤ 63 ∧ 0 ≤ p2 ∧ p2 ≤ 20 ∧ 0 ≤ p3 ∧ p3 ≤ 9999 ∧ 0 ≤ p4 ∧ p4 ≤ 999)) ∧ r = (-2))) (fun (u : Unit) (t : State) => match u with | () => True) (va_A [(h0, .inr (11, [.ref (ad 0), .ref (ad 1), .ref (ad 2), .ref (ad 3), .ref (ad 4), .ref (ad 5), .ref (ad 6), .ref (ad 7), .ref (ad 8), .int 0, .int 0, .int 0, .int 0])), (ad 1, .inl (cA, 12, .inr (.inr (.inr (.inr f)))))] sz)) 7 387 (va_A [(h0, .inr (11, [.ref (ad 0), .ref (ad 1), .ref (ad 2), .ref (ad 3), .ref (ad 4), .ref (ad 5), .ref (ad 6), .ref (ad 7), .ref (ad 8), .int 0, .int 0, .int 0, .int 0])), (ad 1, .inl (cA, 12, .inr (.inr (.inr (.inr f)))))] sz) := by
  refine Met.ofW (cc := cX11_body) (maxL := 6) (ret := (some .int)) (by decide) rfl ?_
  intro p e s m args below meth c s₁ B hml hv
  obtain ⟨rfl, hsz, hP, hK, hD0⟩ := hv
  have hx := B.exec
  have hb := B.bytes
  have hr := B.returns
  have hts := atoms_spec (ws := wsX11_body) B.pre
  have hown : s.vm.findClass RX11 = some m.cls := findClass_of_methodNamed B.named
  have hlocks := B.notSynchronized
  subst hsz
  have hD := hD0.self (sz := s.heap.size)
  generalize hAe : va_A [(h0, .inr (11, [.ref (ad 0), .ref (ad 1), .ref (ad 2), .ref (ad 3), .ref (ad 4), .ref (ad 5), .ref (ad 6), .ref (ad 7), .ref (ad 8), .int 0, .int 0, .int 0, .int 0])), (ad 1, .inl (cA, 12, .inr (.inr (.inr (.inr f)))))] s.heap.size = A at hD  ⊢
  have hA : ∀ q : Nat, s.heap.size ≤ q → A q := fun q h => by rw [← hAe]; exact Or.inr h
  have hS : va_S A s.heap s.heap [] := va_S.rf
  have hl := lv_entry ([.ref h0, .int p0, .int p1, .int p2, .int p3, .int p4]) (n := 6) (Nat.le_of_ble_eq_true rfl)
  rw [lg_entry_eq]
  generalize (lg_sl ([.ref h0, .int p0, .int p1, .int p2, .int p3, .int p4]) ++ List.replicate (6 - (lg_sl ([.ref h0, .int p0, .int p1, .int p2, .int p3, .int p4])).length) Slot.unset).toArray = ls at hl ⊢
  have hl : lv_has ls 6 [(0, .ref h0), (1, .int p0), (2, .int p1), (3, .int p2), (4, .int p3), (5, .int p4)] := hl
  refine lv_iload_n hx hb dX11_body_0 rfl (lv_at hl 1 rfl) ?_
  refine lv_if_lt (tgt := 53) hx hb dX11_body_1 (by decide) (fun c_1 => ?_) (fun c_1 => ?_)
  · refine lv_bipush (v := (-2)) hx hb dX11_body_53 (by decide) ?_
    have hpost : ((0 ≤ p0 ∧ p0 ≤ 5 ∧ 0 ≤ p1 ∧ p1 ≤ 63 ∧ 0 ≤ p2 ∧ p2 ≤ 20 ∧ 0 ≤ p3 ∧ p3 ≤ 9999 ∧ 0 ≤ p4 ∧ p4 ≤ 999) ∧ ((-2) : Int32) = 0) ∨ ((¬ (0 ≤ p0 ∧ p0 ≤ 5 ∧ 0 ≤ p1 ∧ p1 ≤ 63 ∧ 0 ≤ p2 ∧ p2 ≤ 20 ∧ 0 ≤ p3 ∧ p3 ≤ 9999 ∧ 0 ≤ p4 ∧ p4 ≤ 999)) ∧ ((-2) : Int32) = (-2)) := by
      try simp only [fa_lt, fa_le, fa_eq, fa_lt64, fa_le64, fa_eq64, Int32.reduceToInt, Int64.reduceToInt, zi_ite] at c_1
      first
      | exact Or.inl ⟨by (try simp only [fa_lt, fa_le, fa_eq, fa_lt64, fa_le64, fa_eq64, Int32.reduceToInt, Int64.reduceToInt, zi_ite]); omega, rfl⟩
      | exact Or.inr (⟨by (try simp only [fa_lt, fa_le, fa_eq, fa_lt64, fa_le64, fa_eq64, Int32.reduceToInt, Int64.reduceToInt, zi_ite]); omega, rfl⟩)
    refine W.widen (k := 7) (n := 387) (by decide +kernel) (by decide +kernel) ?_
    exact W.iret (v := (-2)) hx hb hr (fun t ht hW => ⟨⟨(-2), (), rfl, hpost, trivial⟩, hS.F ht⟩) hS.2.2 dX11_body_55
  · refine lv_iload_n hx hb dX11_body_4 rfl (lv_at hl 1 rfl) ?_
    refine lv_bipush (v := 6) hx hb dX11_body_5 (by decide) ?_
    refine lv_icmp_ge (tgt := 53) hx hb dX11_body_7 (by decide) (fun c_2 => ?_) (fun c_2 => ?_)
    · refine lv_bipush (v := (-2)) hx hb dX11_body_53 (by decide) ?_
      have hpost : ((0 ≤ p0 ∧ p0 ≤ 5 ∧ 0 ≤ p1 ∧ p1 ≤ 63 ∧ 0 ≤ p2 ∧ p2 ≤ 20 ∧ 0 ≤ p3 ∧ p3 ≤ 9999 ∧ 0 ≤ p4 ∧ p4 ≤ 999) ∧ ((-2) : Int32) = 0) ∨ ((¬ (0 ≤ p0 ∧ p0 ≤ 5 ∧ 0 ≤ p1 ∧ p1 ≤ 63 ∧ 0 ≤ p2 ∧ p2 ≤ 20 ∧ 0 ≤ p3 ∧ p3 ≤ 9999 ∧ 0 ≤ p4 ∧ p4 ≤ 999)) ∧ ((-2) : Int32) = (-2)) := by
        try simp only [fa_lt, fa_le, fa_eq, fa_lt64, fa_le64, fa_eq64, Int32.reduceToInt, Int64.reduceToInt, zi_ite] at c_1
        try simp only [fa_lt, fa_le, fa_eq, fa_lt64, fa_le64, fa_eq64, Int32.reduceToInt, Int64.reduceToInt, zi_ite] at c_2
        first
        | exact Or.inl ⟨by (try simp only [fa_lt, fa_le, fa_eq, fa_lt64, fa_le64, fa_eq64, Int32.reduceToInt, Int64.reduceToInt, zi_ite]); omega, rfl⟩
        | exact Or.inr (⟨by (try simp only [fa_lt, fa_le, fa_eq, fa_lt64, fa_le64, fa_eq64, Int32.reduceToInt, Int64.reduceToInt, zi_ite]); omega, rfl⟩)
      refine W.widen (k := 7) (n := 387) (by decide +kernel) (by decide +kernel) ?_
      exact W.iret (v := (-2)) hx hb hr (fun t ht hW => ⟨⟨(-2), (), rfl, hpost, trivial⟩, hS.F ht⟩) hS.2.2 dX11_body_55
    · refine lv_iload_n hx hb dX11_body_10 rfl (lv_at hl 2 rfl) ?_
      refine vp_callSi (va_Run.run (va_runS (As := [.int p1]) (rest := []) ⟨hx, hb, hml, hown, hts⟩ (rt_X11_isCell l p1) (va_cwS 1 hts gX11_body_X11_isCell rfl rfl rfl (by decide +kernel) ⟨Nat.le_of_ble_eq_true rfl, Nat.le_of_ble_eq_true rfl⟩) ⟨fun a U g mk q => q, fun U hU hW => ⟨rfl, trivial⟩⟩ rfl rfl hl.1 rfl (lv_room (Nat.le_of_ble_eq_true rfl)) dX11_body_11 ⟨by decide +kernel, by decide +kernel⟩)) (fun r_3 hr_3 => ?_)
      rcases hr_3 with ⟨b_4, rfl⟩ | ⟨b_4, rfl⟩
      · refine lv_if_eq (tgt := 53) hx hb dX11_body_14 (by decide) (fun c9 => absurd c9 (by decide)) (fun _ => ?_)
        refine lv_iload_n hx hb dX11_body_17 rfl (lv_at hl 3 rfl) ?_
        refine lv_if_lt (tgt := 53) hx hb dX11_body_18 (by decide) (fun c_5 => ?_) (fun c_5 => ?_)
        · refine lv_bipush (v := (-2)) hx hb dX11_body_53 (by decide) ?_
          have hpost : ((0 ≤ p0 ∧ p0 ≤ 5 ∧ 0 ≤ p1 ∧ p1 ≤ 63 ∧ 0 ≤ p2 ∧ p2 ≤ 20 ∧ 0 ≤ p3 ∧ p3 ≤ 9999 ∧ 0 ≤ p4 ∧ p4 ≤ 999) ∧ ((-2) : Int32) = 0) ∨ ((¬ (0 ≤ p0 ∧ p0 ≤ 5 ∧ 0 ≤ p1 ∧ p1 ≤ 63 ∧ 0 ≤ p2 ∧ p2 ≤ 20 ∧ 0 ≤ p3 ∧ p3 ≤ 9999 ∧ 0 ≤ p4 ∧ p4 ≤ 999)) ∧ ((-2) : Int32) = (-2)) := by
            try simp only [fa_lt, fa_le, fa_eq, fa_lt64, fa_le64, fa_eq64, Int32.reduceToInt, Int64.reduceToInt, zi_ite] at c_1
            try simp only [fa_lt, fa_le, fa_eq, fa_lt64, fa_le64, fa_eq64, Int32.reduceToInt, Int64.reduceToInt, zi_ite] at c_2
            try simp only [fa_lt, fa_le, fa_eq, fa_lt64, fa_le64, fa_eq64, Int32.reduceToInt, Int64.reduceToInt, zi_ite] at b_4
            try simp only [fa_lt, fa_le, fa_eq, fa_lt64, fa_le64, fa_eq64, Int32.reduceToInt, Int64.reduceToInt, zi_ite] at c_5
            first
            | exact Or.inl ⟨by (try simp only [fa_lt, fa_le, fa_eq, fa_lt64, fa_le64, fa_eq64, Int32.reduceToInt, Int64.reduceToInt, zi_ite]); omega, rfl⟩
            | exact Or.inr (⟨by (try simp only [fa_lt, fa_le, fa_eq, fa_lt64, fa_le64, fa_eq64, Int32.reduceToInt, Int64.reduceToInt, zi_ite]); omega, rfl⟩)
          refine W.widen (k := 7) (n := 387) (by decide +kernel) (by decide +kernel) ?_
          exact W.iret (v := (-2)) hx hb hr (fun t ht hW => ⟨⟨(-2), (), rfl, hpost, trivial⟩, hS.F ht⟩) hS.2.2 dX11_body_55
        · refine lv_iload_n hx hb dX11_body_21 rfl (lv_at hl 3 rfl) ?_
          refine lv_bipush (v := 20) hx hb dX11_body_22 (by decide) ?_
          refine lv_icmp_gt (tgt := 53) hx hb dX11_body_24 (by decide) (fun c_6 => ?_) (fun c_6 => ?_)
          · refine lv_bipush (v := (-2)) hx hb dX11_body_53 (by decide) ?_
            have hpost : ((0 ≤ p0 ∧ p0 ≤ 5 ∧ 0 ≤ p1 ∧ p1 ≤ 63 ∧ 0 ≤ p2 ∧ p2 ≤ 20 ∧ 0 ≤ p3 ∧ p3 ≤ 9999 ∧ 0 ≤ p4 ∧ p4 ≤ 999) ∧ ((-2) : Int32) = 0) ∨ ((¬ (0 ≤ p0 ∧ p0 ≤ 5 ∧ 0 ≤ p1 ∧ p1 ≤ 63 ∧ 0 ≤ p2 ∧ p2 ≤ 20 ∧ 0 ≤ p3 ∧ p3 ≤ 9999 ∧ 0 ≤ p4 ∧ p4 ≤ 999)) ∧ ((-2) : Int32) = (-2)) := by
              try simp only [fa_lt, fa_le, fa_eq, fa_lt64, fa_le64, fa_eq64, Int32.reduceToInt, Int64.reduceToInt, zi_ite] at c_1
              try simp only [fa_lt, fa_le, fa_eq, fa_lt64, fa_le64, fa_eq64, Int32.reduceToInt, Int64.reduceToInt, zi_ite] at c_2
              try simp only [fa_lt, fa_le, fa_eq, fa_lt64, fa_le64, fa_eq64, Int32.reduceToInt, Int64.reduceToInt, zi_ite] at b_4
              try simp only [fa_lt, fa_le, fa_eq, fa_lt64, fa_le64, fa_eq64, Int32.reduceToInt, Int64.reduceToInt, zi_ite] at c_5
              try simp only [fa_lt, fa_le, fa_eq, fa_lt64, fa_le64, fa_eq64, Int32.reduceToInt, Int64.reduceToInt, zi_ite] at c_6
              first
              | exact Or.inl ⟨by (try simp only [fa_lt, fa_le, fa_eq, fa_lt64, fa_le64, fa_eq64, Int32.reduceToInt, Int64.reduceToInt, zi_ite]); omega, rfl⟩
              | exact Or.inr (⟨by (try simp only [fa_lt, fa_le, fa_eq, fa_lt64, fa_le64, fa_eq64, Int32.reduceToInt, Int64.reduceToInt, zi_ite]); omega, rfl⟩)
            refine W.widen (k := 7) (n := 387) (by decide +kernel) (by decide +kernel) ?_
            exact W.iret (v := (-2)) hx hb hr (fun t ht hW => ⟨⟨(-2), (), rfl, hpost, trivial⟩, hS.F ht⟩) hS.2.2 dX11_body_55
          · refine lv_iload hx hb dX11_body_27 (lv_at hl 4 rfl) ?_
            refine lv_if_lt (tgt := 53) hx hb dX11_body_29 (by decide) (fun c_7 => ?_) (fun c_7 => ?_)
            · refine lv_bipush (v := (-2)) hx hb dX11_body_53 (by decide) ?_
              have hpost : ((0 ≤ p0 ∧ p0 ≤ 5 ∧ 0 ≤ p1 ∧ p1 ≤ 63 ∧ 0 ≤ p2 ∧ p2 ≤ 20 ∧ 0 ≤ p3 ∧ p3 ≤ 9999 ∧ 0 ≤ p4 ∧ p4 ≤ 999) ∧ ((-2) : Int32) = 0) ∨ ((¬ (0 ≤ p0 ∧ p0 ≤ 5 ∧ 0 ≤ p1 ∧ p1 ≤ 63 ∧ 0 ≤ p2 ∧ p2 ≤ 20 ∧ 0 ≤ p3 ∧ p3 ≤ 9999 ∧ 0 ≤ p4 ∧ p4 ≤ 999)) ∧ ((-2) : Int32) = (-2)) := by
                try simp only [fa_lt, fa_le, fa_eq, fa_lt64, fa_le64, fa_eq64, Int32.reduceToInt, Int64.reduceToInt, zi_ite] at c_1
                try simp only [fa_lt, fa_le, fa_eq, fa_lt64, fa_le64, fa_eq64, Int32.reduceToInt, Int64.reduceToInt, zi_ite] at c_2
                try simp only [fa_lt, fa_le, fa_eq, fa_lt64, fa_le64, fa_eq64, Int32.reduceToInt, Int64.reduceToInt, zi_ite] at b_4
                try simp only [fa_lt, fa_le, fa_eq, fa_lt64, fa_le64, fa_eq64, Int32.reduceToInt, Int64.reduceToInt, zi_ite] at c_5
                try simp only [fa_lt, fa_le, fa_eq, fa_lt64, fa_le64, fa_eq64, Int32.reduceToInt, Int64.reduceToInt, zi_ite] at c_6
                try simp only [fa_lt, fa_le, fa_eq, fa_lt64, fa_le64, fa_eq64, Int32.reduceToInt, Int64.reduceToInt, zi_ite] at c_7
                first
                | exact Or.inl ⟨by (try simp only [fa_lt, fa_le, fa_eq, fa_lt64, fa_le64, fa_eq64, Int32.reduceToInt, Int64.reduceToInt, zi_ite]); omega, rfl⟩
                | exact Or.inr (⟨by (try simp only [fa_lt, fa_le, fa_eq, fa_lt64, fa_le64, fa_eq64, Int32.reduceToInt, Int64.reduceToInt, zi_ite]); omega, rfl⟩)
              refine W.widen (k := 7) (n := 387) (by decide +kernel) (by decide +kernel) ?_
              exact W.iret (v := (-2)) hx hb hr (fun t ht hW => ⟨⟨(-2), (), rfl, hpost, trivial⟩, hS.F ht⟩) hS.2.2 dX11_body_55
            · refine lv_iload hx hb dX11_body_32 (lv_at hl 4 rfl) ?_
              refine lv_sipush (v := 9999) hx hb dX11_body_34 (by decide) ?_
              refine lv_icmp_gt (tgt := 53) hx hb dX11_body_37 (by decide) (fun c_8 => ?_) (fun c_8 => ?_)
              · refine lv_bipush (v := (-2)) hx hb dX11_body_53 (by decide) ?_
                have hpost : ((0 ≤ p0 ∧ p0 ≤ 5 ∧ 0 ≤ p1 ∧ p1 ≤ 63 ∧ 0 ≤ p2 ∧ p2 ≤ 20 ∧ 0 ≤ p3 ∧ p3 ≤ 9999 ∧ 0 ≤ p4 ∧ p4 ≤ 999) ∧ ((-2) : Int32) = 0) ∨ ((¬ (0 ≤ p0 ∧ p0 ≤ 5 ∧ 0 ≤ p1 ∧ p1 ≤ 63 ∧ 0 ≤ p2 ∧ p2 ≤ 20 ∧ 0 ≤ p3 ∧ p3 ≤ 9999 ∧ 0 ≤ p4 ∧ p4 ≤ 999)) ∧ ((-2) : Int32) = (-2)) := by
                  try simp only [fa_lt, fa_le, fa_eq, fa_lt64, fa_le64, fa_eq64, Int32.reduceToInt, Int64.reduceToInt, zi_ite] at c_1
                  try simp only [fa_lt, fa_le, fa_eq, fa_lt64, fa_le64, fa_eq64, Int32.reduceToInt, Int64.reduceToInt, zi_ite] at c_2
                  try simp only [fa_lt, fa_le, fa_eq, fa_lt64, fa_le64, fa_eq64, Int32.reduceToInt, Int64.reduceToInt, zi_ite] at b_4
                  try simp only [fa_lt, fa_le, fa_eq, fa_lt64, fa_le64, fa_eq64, Int32.reduceToInt, Int64.reduceToInt, zi_ite] at c_5
                  try simp only [fa_lt, fa_le, fa_eq, fa_lt64, fa_le64, fa_eq64, Int32.reduceToInt, Int64.reduceToInt, zi_ite] at c_6
                  try simp only [fa_lt, fa_le, fa_eq, fa_lt64, fa_le64, fa_eq64, Int32.reduceToInt, Int64.reduceToInt, zi_ite] at c_7
                  try simp only [fa_lt, fa_le, fa_eq, fa_lt64, fa_le64, fa_eq64, Int32.reduceToInt, Int64.reduceToInt, zi_ite] at c_8
                  first
                  | exact Or.inl ⟨by (try simp only [fa_lt, fa_le, fa_eq, fa_lt64, fa_le64, fa_eq64, Int32.reduceToInt, Int64.reduceToInt, zi_ite]); omega, rfl⟩
                  | exact Or.inr (⟨by (try simp only [fa_lt, fa_le, fa_eq, fa_lt64, fa_le64, fa_eq64, Int32.reduceToInt, Int64.reduceToInt, zi_ite]); omega, rfl⟩)
                refine W.widen (k := 7) (n := 387) (by decide +kernel) (by decide +kernel) ?_
                exact W.iret (v := (-2)) hx hb hr (fun t ht hW => ⟨⟨(-2), (), rfl, hpost, trivial⟩, hS.F ht⟩) hS.2.2 dX11_body_55
              · refine lv_iload hx hb dX11_body_40 (lv_at hl 5 rfl) ?_
                refine lv_if_lt (tgt := 53) hx hb dX11_body_42 (by decide) (fun c_9 => ?_) (fun c_9 => ?_)
                · refine lv_bipush (v := (-2)) hx hb dX11_body_53 (by decide) ?_
                  have hpost : ((0 ≤ p0 ∧ p0 ≤ 5 ∧ 0 ≤ p1 ∧ p1 ≤ 63 ∧ 0 ≤ p2 ∧ p2 ≤ 20 ∧ 0 ≤ p3 ∧ p3 ≤ 9999 ∧ 0 ≤ p4 ∧ p4 ≤ 999) ∧ ((-2) : Int32) = 0) ∨ ((¬ (0 ≤ p0 ∧ p0 ≤ 5 ∧ 0 ≤ p1 ∧ p1 ≤ 63 ∧ 0 ≤ p2 ∧ p2 ≤ 20 ∧ 0 ≤ p3 ∧ p3 ≤ 9999 ∧ 0 ≤ p4 ∧ p4 ≤ 999)) ∧ ((-2) : Int32) = (-2)) := by
                    try simp only [fa_lt, fa_le, fa_eq, fa_lt64, fa_le64, fa_eq64, Int32.reduceToInt, Int64.reduceToInt, zi_ite] at c_1
                    try simp only [fa_lt, fa_le, fa_eq, fa_lt64, fa_le64, fa_eq64, Int32.reduceToInt, Int64.reduceToInt, zi_ite] at c_2
                    try simp only [fa_lt, fa_le, fa_eq, fa_lt64, fa_le64, fa_eq64, Int32.reduceToInt, Int64.reduceToInt, zi_ite] at b_4
                    try simp only [fa_lt, fa_le, fa_eq, fa_lt64, fa_le64, fa_eq64, Int32.reduceToInt, Int64.reduceToInt, zi_ite] at c_5
                    try simp only [fa_lt, fa_le, fa_eq, fa_lt64, fa_le64, fa_eq64, Int32.reduceToInt, Int64.reduceToInt, zi_ite] at c_6
                    try simp only [fa_lt, fa_le, fa_eq, fa_lt64, fa_le64, fa_eq64, Int32.reduceToInt, Int64.reduceToInt, zi_ite] at c_7
                    try simp only [fa_lt, fa_le, fa_eq, fa_lt64, fa_le64, fa_eq64, Int32.reduceToInt, Int64.reduceToInt, zi_ite] at c_8
                    try simp only [fa_lt, fa_le, fa_eq, fa_lt64, fa_le64, fa_eq64, Int32.reduceToInt, Int64.reduceToInt, zi_ite] at c_9
                    first
                    | exact Or.inl ⟨by (try simp only [fa_lt, fa_le, fa_eq, fa_lt64, fa_le64, fa_eq64, Int32.reduceToInt, Int64.reduceToInt, zi_ite]); omega, rfl⟩
                    | exact Or.inr (⟨by (try simp only [fa_lt, fa_le, fa_eq, fa_lt64, fa_le64, fa_eq64, Int32.reduceToInt, Int64.reduceToInt, zi_ite]); omega, rfl⟩)
                  refine W.widen (k := 7) (n := 387) (by decide +kernel) (by decide +kernel) ?_
                  exact W.iret (v := (-2)) hx hb hr (fun t ht hW => ⟨⟨(-2), (), rfl, hpost, trivial⟩, hS.F ht⟩) hS.2.2 dX11_body_55
                · refine lv_iload hx hb dX11_body_45 (lv_at hl 5 rfl) ?_
                  refine lv_sipush (v := 999) hx hb dX11_body_47 (by decide) ?_
                  refine lv_icmp_le (tgt := 56) hx hb dX11_body_50 (by decide) (fun c_10 => ?_) (fun c_10 => ?_)
                  · refine lv_aload_n hx hb dX11_body_56 rfl (lv_at hl 0 rfl) ?_
                    refine va_get (D := (dC, dI)) (ci := 11) (v := .int 0) (C := RX11) (T := TX11) (N := 13) hx hb hts (by decide +kernel) hown hK hP 0 rfl rfl 10 (by decide) (hts (.fieldLink RX11 75 "RedTent" "bodyCount" "I") (by decide +kernel)) (fun _ h9 => h9) rfl dX11_body_57 ?_
                    refine lv_bipush (v := 12) hx hb dX11_body_60 (by decide) ?_
                    refine lv_icmp_lt (tgt := 68) hx hb dX11_body_62 (by decide) (fun _ => ?_) (fun c9 => absurd (by decide) c9)
                    refine lv_aload_n hx hb dX11_body_68 rfl (lv_at hl 0 rfl) ?_
                    refine va_get (D := (dC, dI)) (ci := 11) (v := .ref (ad 1)) (C := RX11) (T := TX11) (N := 13) hx hb hts (by decide +kernel) hown hK hP 0 rfl rfl 1 (by decide) (hts (.fieldLink RX11 18 "RedTent" "bodies" "[LRedTent$Body;") (by decide +kernel)) (fun _ h9 => h9) rfl dX11_body_69 ?_
                    refine lv_aload_n hx hb dX11_body_72 rfl (lv_at hl 0 rfl) ?_
                    refine va_get (D := (dC, dI)) (ci := 11) (v := .int 0) (C := RX11) (T := TX11) (N := 13) hx hb hts (by decide +kernel) hown hK hP 0 rfl rfl 10 (by decide) (hts (.fieldLink RX11 75 "RedTent" "bodyCount" "I") (by decide +kernel)) (fun _ h9 => h9) rfl dX11_body_73 ?_
                    refine va_new (ci := 0) (fs := [.int 0, .int 0, .int 0, .int 0, .int 0, .int 0, .null, .null, .null, .int 0, .null, .null, .int 0, .null, .int 0]) (C := RX0) (T := TX0) (N := 15) hx hb hts (by decide +kernel) tyX0 tyX0_ok hown (hts (.classLink RX11 16 RX0) (by decide +kernel)) (hts (.instantiable RX0 15) (by decide +kernel)) (hts (.initialized RX0) (by decide +kernel)) hK hP hD hS hA rfl (by decide +kernel) (by decide +kernel) (by decide +kernel) dX11_body_76 (fun q_11 H hP hD hS => ?_)
                    have hP : va_P (dC, dI) vwCl [(h0, .inr (11, [.ref (ad 0), .ref (ad 1), .ref (ad 2), .ref (ad 3), .ref (ad 4), .ref (ad 5), .ref (ad 6), .ref (ad 7), .ref (ad 8), .int 0, .int 0, .int 0, .int 0])), (ad 1, .inl (cA, 12, .inr (.inr (.inr (.inr f))))), (q_11, .inr (0, [.int 0, .int 0, .int 0, .int 0, .int 0, .int 0, .null, .null, .null, .int 0, .null, .null, .int 0, .null, .int 0]))] H := hP
                    have hD : va_D A [(h0, .inr (11, [.ref (ad 0), .ref (ad 1), .ref (ad 2), .ref (ad 3), .ref (ad 4), .ref (ad 5), .ref (ad 6), .ref (ad 7), .ref (ad 8), .int 0, .int 0, .int 0, .int 0])), (ad 1, .inl (cA, 12, .inr (.inr (.inr (.inr f))))), (q_11, .inr (0, [.int 0, .int 0, .int 0, .int 0, .int 0, .int 0, .null, .null, .null, .int 0, .null, .null, .int 0, .null, .int 0]))] := hD
                    refine lv_dup hx hb dX11_body_79 rfl ?_
                    refine lv_iload_n hx hb dX11_body_80 rfl (lv_at hl 1 rfl) ?_
                    refine lv_iload_n hx hb dX11_body_81 rfl (lv_at hl 2 rfl) ?_
                    refine lv_aload_n hx hb dX11_body_82 rfl (lv_at hl 0 rfl) ?_
                    refine va_get (D := (dC, dI)) (ci := 11) (v := .int 0) (C := RX11) (T := TX11) (N := 13) hx hb hts (by decide +kernel) hown hK hP 0 rfl rfl 9 (by decide) (hts (.fieldLink RX11 71 "RedTent" "now" "I") (by decide +kernel)) (fun _ h9 => h9) rfl dX11_body_83 ?_
                    refine lv_iload_n hx hb dX11_body_86 rfl (lv_at hl 3 rfl) ?_
                    refine lv_iload hx hb dX11_body_87 (lv_at hl 4 rfl) ?_
                    refine lv_iload hx hb dX11_body_89 (lv_at hl 5 rfl) ?_
                    have hPc := hP.sub (ws' := [(q_11, .inr (0, [.int 0, .int 0, .int 0, .int 0, .int 0, .int 0, .null, .null, .null, .int 0, .null, .null, .int 0, .null, .int 0]))]) [2] rfl
                    have hKc := hK.sub (tys' := []) [] rfl
                    have hDc := hD.sub (ws' := [(q_11, .inr (0, [.int 0, .int 0, .int 0, .int 0, .int 0, .int 0, .null, .null, .null, .int 0, .null, .null, .int 0, .null, .int 0]))]) [2] (by decide) rfl
                    have hFc := va_free (wc := [(q_11, .inr (0, [.int 0, .int 0, .int 0, .int 0, .int 0, .int 0, .null, .null, .null, .int 0, .null, .null, .int 0, .null, .int 0]))]) hD hS hA [2] rfl
                    refine va_callv (va_runI (As := [.int p0, .int p1, .int 0, .int p2, .int p3, .int p4]) (rest := [.ref q_11, .int 0, .ref (ad 1)]) ⟨hx, hb, hml, hown, hts⟩ (rt_X0_init l dC dI H.size q_11 p0 p1 0 p2 p3 p4) (cwI 6 hts gX11_body_X0_init rfl rfl rfl (hts (.initialized RX0) (by decide +kernel)) (hts (.methodLink RX11 113 yX0_init) (by decide +kernel)) (hts (.instanceMethod yX0_init) (by decide +kernel)) rfl (by decide +kernel) ⟨Nat.le_of_ble_eq_true rfl, Nat.le_of_ble_eq_true rfl⟩) ⟨fun a U g mk q => by obtain ⟨q0, q1, qP, qK, qD⟩ := q; exact ⟨q0, q1, qP, va_K.moved (u := U) (U := U.calling g mk a) (Vm.Alike.refl U.vm) qK, qD⟩, fun U hU hW => ⟨rfl, by rw [hU], by rw [hU]; exact hPc, va_K.moved hW.alike hKc, hDc.weaken (fun _ _ _ _ => trivial)⟩⟩ rfl rfl hl.1 rfl (lv_room (Nat.le_of_ble_eq_true rfl)) dX11_body_91 ⟨by decide +kernel, by decide +kernel⟩) hS (fun q _ h => hFc q h) hFc (fun u t H1 locs ht hvm hr_12 hB hz1 hk1 hS => ?_)
                    obtain ⟨⟩ := u
                    obtain ⟨ab_13, p6_14, hP1, hD1⟩ := hB
                    rw [ht] at hP1
                    obtain ⟨hP, hD⟩ := va_join (wr := [(h0, .inr (11, [.ref (ad 0), .ref (ad 1), .ref (ad 2), .ref (ad 3), .ref (ad 4), .ref (ad 5), .ref (ad 6), .ref (ad 7), .ref (ad 8), .int 0, .int 0, .int 0, .int 0])), (ad 1, .inl (cA, 12, .inr (.inr (.inr (.inr f)))))]) (w1 := [(q_11, .inr (0, [.int p0, .int p1, .int 0, .int p2, .int p4, .int p3, .ref (ab_13 6), .ref (ab_13 7), .ref (ab_13 8), .int 0, .ref (ab_13 10), .ref (ab_13 11), .int 0, .ref (ab_13 13), .int p6_14]))]) hP hD [2] [0, 1] rfl rfl (by decide) (by decide) hk1 hFc hP1 hD1
                    generalize H1 = H at hP hS ⊢
                    have hP : va_P (dC, dI) vwCl [(h0, .inr (11, [.ref (ad 0), .ref (ad 1), .ref (ad 2), .ref (ad 3), .ref (ad 4), .ref (ad 5), .ref (ad 6), .ref (ad 7), .ref (ad 8), .int 0, .int 0, .int 0, .int 0])), (ad 1, .inl (cA, 12, .inr (.inr (.inr (.inr f))))), (q_11, .inr (0, [.int p0, .int p1, .int 0, .int p2, .int p4, .int p3, .ref (ab_13 6), .ref (ab_13 7), .ref (ab_13 8), .int 0, .ref (ab_13 10), .ref (ab_13 11), .int 0, .ref (ab_13 13), .int p6_14]))] H := hP
                    have hD : va_D A [(h0, .inr (11, [.ref (ad 0), .ref (ad 1), .ref (ad 2), .ref (ad 3), .ref (ad 4), .ref (ad 5), .ref (ad 6), .ref (ad 7), .ref (ad 8), .int 0, .int 0, .int 0, .int 0])), (ad 1, .inl (cA, 12, .inr (.inr (.inr (.inr f))))), (q_11, .inr (0, [.int p0, .int p1, .int 0, .int p2, .int p4, .int p3, .ref (ab_13 6), .ref (ab_13 7), .ref (ab_13 8), .int 0, .ref (ab_13 10), .ref (ab_13 11), .int 0, .ref (ab_13 13), .int p6_14]))] := hD
                    refine va_astq hx hb hK hP hD hS 1 0 2 0 rfl rfl rfl rfl (by unfold vp_in; decide) dX11_body_94 (fun H locs hP hD hS => ?_)
                    have hP : va_P (dC, dI) vwCl [(h0, .inr (11, [.ref (ad 0), .ref (ad 1), .ref (ad 2), .ref (ad 3), .ref (ad 4), .ref (ad 5), .ref (ad 6), .ref (ad 7), .ref (ad 8), .int 0, .int 0, .int 0, .int 0])), (ad 1, .inl (cA, 12, .inr (.inr (.inr (.inr (va_up f (0 : Int32).toNatClampNeg (some q_11))))))), (q_11, .inr (0, [.int p0, .int p1, .int 0, .int p2, .int p4, .int p3, .ref (ab_13 6), .ref (ab_13 7), .ref (ab_13 8), .int 0, .ref (ab_13 10), .ref (ab_13 11), .int 0, .ref (ab_13 13), .int p6_14]))] H := hP
                    have hD : va_D A [(h0, .inr (11, [.ref (ad 0), .ref (ad 1), .ref (ad 2), .ref (ad 3), .ref (ad 4), .ref (ad 5), .ref (ad 6), .ref (ad 7), .ref (ad 8), .int 0, .int 0, .int 0, .int 0])), (ad 1, .inl (cA, 12, .inr (.inr (.inr (.inr (va_up f (0 : Int32).toNatClampNeg (some q_11))))))), (q_11, .inr (0, [.int p0, .int p1, .int 0, .int p2, .int p4, .int p3, .ref (ab_13 6), .ref (ab_13 7), .ref (ab_13 8), .int 0, .ref (ab_13 10), .ref (ab_13 11), .int 0, .ref (ab_13 13), .int p6_14]))] := hD
                    refine lv_aload_n hx hb dX11_body_95 rfl (lv_at hl 0 rfl) ?_
                    refine lv_dup hx hb dX11_body_96 rfl ?_
                    refine va_get (D := (dC, dI)) (ci := 11) (v := .int 0) (C := RX11) (T := TX11) (N := 13) hx hb hts (by decide +kernel) hown hK hP 0 rfl rfl 10 (by decide) (hts (.fieldLink RX11 75 "RedTent" "bodyCount" "I") (by decide +kernel)) (fun _ h9 => h9) rfl dX11_body_97 ?_
                    refine lv_dup_x1 hx hb dX11_body_100 rfl rfl ?_
                    refine lv_iconst (v := 1) hx hb dX11_body_101 (by decide) ?_
                    refine lv_iadd hx hb dX11_body_102 ?_
                    refine lv_topi (fun y_15 ey_15 => ?_)
                    obtain rfl : y_15 = 1 := ey_15.trans (by decide)
                    refine va_put (D := (dC, dI)) (ci := 11) (v := .int 1) (ty := .int) (C := RX11) (T := TX11) (N := 13) hx hb hts (by decide +kernel) tyX11 tyX11_ok nmX11 hown hK hP hD hS 0 rfl rfl 10 (by decide) (hts (.fieldLink RX11 75 "RedTent" "bodyCount" "I") (by decide +kernel)) (fun _ h9 => h9) rfl (by decide +kernel) rfl rfl (Nat.le_of_ble_eq_true rfl) dX11_body_103 (fun H locs hP hD hS => ?_)
                    have hP : va_P (dC, dI) vwCl [(h0, .inr (11, [.ref (ad 0), .ref (ad 1), .ref (ad 2), .ref (ad 3), .ref (ad 4), .ref (ad 5), .ref (ad 6), .ref (ad 7), .ref (ad 8), .int 0, .int 1, .int 0, .int 0])), (ad 1, .inl (cA, 12, .inr (.inr (.inr (.inr (va_up f (0 : Int32).toNatClampNeg (some q_11))))))), (q_11, .inr (0, [.int p0, .int p1, .int 0, .int p2, .int p4, .int p3, .ref (ab_13 6), .ref (ab_13 7), .ref (ab_13 8), .int 0, .ref (ab_13 10), .ref (ab_13 11), .int 0, .ref (ab_13 13), .int p6_14]))] H := hP
                    have hD : va_D A [(h0, .inr (11, [.ref (ad 0), .ref (ad 1), .ref (ad 2), .ref (ad 3), .ref (ad 4), .ref (ad 5), .ref (ad 6), .ref (ad 7), .ref (ad 8), .int 0, .int 1, .int 0, .int 0])), (ad 1, .inl (cA, 12, .inr (.inr (.inr (.inr (va_up f (0 : Int32).toNatClampNeg (some q_11))))))), (q_11, .inr (0, [.int p0, .int p1, .int 0, .int p2, .int p4, .int p3, .ref (ab_13 6), .ref (ab_13 7), .ref (ab_13 8), .int 0, .ref (ab_13 10), .ref (ab_13 11), .int 0, .ref (ab_13 13), .int p6_14]))] := hD
                    have hpost : ((0 ≤ p0 ∧ p0 ≤ 5 ∧ 0 ≤ p1 ∧ p1 ≤ 63 ∧ 0 ≤ p2 ∧ p2 ≤ 20 ∧ 0 ≤ p3 ∧ p3 ≤ 9999 ∧ 0 ≤ p4 ∧ p4 ≤ 999) ∧ (0 : Int32) = 0) ∨ ((¬ (0 ≤ p0 ∧ p0 ≤ 5 ∧ 0 ≤ p1 ∧ p1 ≤ 63 ∧ 0 ≤ p2 ∧ p2 ≤ 20 ∧ 0 ≤ p3 ∧ p3 ≤ 9999 ∧ 0 ≤ p4 ∧ p4 ≤ 999)) ∧ (0 : Int32) = (-2)) := by
                      try simp only [fa_lt, fa_le, fa_eq, fa_lt64, fa_le64, fa_eq64, Int32.reduceToInt, Int64.reduceToInt, zi_ite] at c_1
                      try simp only [fa_lt, fa_le, fa_eq, fa_lt64, fa_le64, fa_eq64, Int32.reduceToInt, Int64.reduceToInt, zi_ite] at c_2
                      try simp only [fa_lt, fa_le, fa_eq, fa_lt64, fa_le64, fa_eq64, Int32.reduceToInt, Int64.reduceToInt, zi_ite] at b_4
                      try simp only [fa_lt, fa_le, fa_eq, fa_lt64, fa_le64, fa_eq64, Int32.reduceToInt, Int64.reduceToInt, zi_ite] at c_5
                      try simp only [fa_lt, fa_le, fa_eq, fa_lt64, fa_le64, fa_eq64, Int32.reduceToInt, Int64.reduceToInt, zi_ite] at c_6
                      try simp only [fa_lt, fa_le, fa_eq, fa_lt64, fa_le64, fa_eq64, Int32.reduceToInt, Int64.reduceToInt, zi_ite] at c_7
                      try simp only [fa_lt, fa_le, fa_eq, fa_lt64, fa_le64, fa_eq64, Int32.reduceToInt, Int64.reduceToInt, zi_ite] at c_8
                      try simp only [fa_lt, fa_le, fa_eq, fa_lt64, fa_le64, fa_eq64, Int32.reduceToInt, Int64.reduceToInt, zi_ite] at c_9
                      try simp only [fa_lt, fa_le, fa_eq, fa_lt64, fa_le64, fa_eq64, Int32.reduceToInt, Int64.reduceToInt, zi_ite] at c_10
                      first
                      | exact Or.inl ⟨by (try simp only [fa_lt, fa_le, fa_eq, fa_lt64, fa_le64, fa_eq64, Int32.reduceToInt, Int64.reduceToInt, zi_ite]); omega, rfl⟩
                      | exact Or.inr (⟨by (try simp only [fa_lt, fa_le, fa_eq, fa_lt64, fa_le64, fa_eq64, Int32.reduceToInt, Int64.reduceToInt, zi_ite]); omega, rfl⟩)
                    refine W.widen (k := 7) (n := 387) (by decide +kernel) (by decide +kernel) ?_
                    exact W.iret (v := 0) hx hb hr (fun t ht hW => ⟨⟨0, (), rfl, hpost, trivial⟩, hS.F ht⟩) hS.2.2 dX11_body_106
                  · refine lv_bipush (v := (-2)) hx hb dX11_body_53 (by decide) ?_
                    have hpost : ((0 ≤ p0 ∧ p0 ≤ 5 ∧ 0 ≤ p1 ∧ p1 ≤ 63 ∧ 0 ≤ p2 ∧ p2 ≤ 20 ∧ 0 ≤ p3 ∧ p3 ≤ 9999 ∧ 0 ≤ p4 ∧ p4 ≤ 999) ∧ ((-2) : Int32) = 0) ∨ ((¬ (0 ≤ p0 ∧ p0 ≤ 5 ∧ 0 ≤ p1 ∧ p1 ≤ 63 ∧ 0 ≤ p2 ∧ p2 ≤ 20 ∧ 0 ≤ p3 ∧ p3 ≤ 9999 ∧ 0 ≤ p4 ∧ p4 ≤ 999)) ∧ ((-2) : Int32) = (-2)) := by
                      try simp only [fa_lt, fa_le, fa_eq, fa_lt64, fa_le64, fa_eq64, Int32.reduceToInt, Int64.reduceToInt, zi_ite] at c_1
                      try simp only [fa_lt, fa_le, fa_eq, fa_lt64, fa_le64, fa_eq64, Int32.reduceToInt, Int64.reduceToInt, zi_ite] at c_2
                      try simp only [fa_lt, fa_le, fa_eq, fa_lt64, fa_le64, fa_eq64, Int32.reduceToInt, Int64.reduceToInt, zi_ite] at b_4
                      try simp only [fa_lt, fa_le, fa_eq, fa_lt64, fa_le64, fa_eq64, Int32.reduceToInt, Int64.reduceToInt, zi_ite] at c_5
                      try simp only [fa_lt, fa_le, fa_eq, fa_lt64, fa_le64, fa_eq64, Int32.reduceToInt, Int64.reduceToInt, zi_ite] at c_6
                      try simp only [fa_lt, fa_le, fa_eq, fa_lt64, fa_le64, fa_eq64, Int32.reduceToInt, Int64.reduceToInt, zi_ite] at c_7
                      try simp only [fa_lt, fa_le, fa_eq, fa_lt64, fa_le64, fa_eq64, Int32.reduceToInt, Int64.reduceToInt, zi_ite] at c_8
                      try simp only [fa_lt, fa_le, fa_eq, fa_lt64, fa_le64, fa_eq64, Int32.reduceToInt, Int64.reduceToInt, zi_ite] at c_9
                      try simp only [fa_lt, fa_le, fa_eq, fa_lt64, fa_le64, fa_eq64, Int32.reduceToInt, Int64.reduceToInt, zi_ite] at c_10
                      first
                      | exact Or.inl ⟨by (try simp only [fa_lt, fa_le, fa_eq, fa_lt64, fa_le64, fa_eq64, Int32.reduceToInt, Int64.reduceToInt, zi_ite]); omega, rfl⟩
                      | exact Or.inr (⟨by (try simp only [fa_lt, fa_le, fa_eq, fa_lt64, fa_le64, fa_eq64, Int32.reduceToInt, Int64.reduceToInt, zi_ite]); omega, rfl⟩)
                    refine W.widen (k := 7) (n := 387) (by decide +kernel) (by decide +kernel) ?_
                    exact W.iret (v := (-2)) hx hb hr (fun t ht hW => ⟨⟨(-2), (), rfl, hpost, trivial⟩, hS.F ht⟩) hS.2.2 dX11_body_55
      · refine lv_if_eq (tgt := 53) hx hb dX11_body_14 (by decide) (fun _ => ?_) (fun c9 => absurd (by decide) c9)
        refine lv_bipush (v := (-2)) hx hb dX11_body_53 (by decide) ?_
        have hpost : ((0 ≤ p0 ∧ p0 ≤ 5 ∧ 0 ≤ p1 ∧ p1 ≤ 63 ∧ 0 ≤ p2 ∧ p2 ≤ 20 ∧ 0 ≤ p3 ∧ p3 ≤ 9999 ∧ 0 ≤ p4 ∧ p4 ≤ 999) ∧ ((-2) : Int32) = 0) ∨ ((¬ (0 ≤ p0 ∧ p0 ≤ 5 ∧ 0 ≤ p1 ∧ p1 ≤ 63 ∧ 0 ≤ p2 ∧ p2 ≤ 20 ∧ 0 ≤ p3 ∧ p3 ≤ 9999 ∧ 0 ≤ p4 ∧ p4 ≤ 999)) ∧ ((-2) : Int32) = (-2)) := by
          try simp only [fa_lt, fa_le, fa_eq, fa_lt64, fa_le64, fa_eq64, Int32.reduceToInt, Int64.reduceToInt, zi_ite] at c_1
          try simp only [fa_lt, fa_le, fa_eq, fa_lt64, fa_le64, fa_eq64, Int32.reduceToInt, Int64.reduceToInt, zi_ite] at c_2
          try simp only [fa_lt, fa_le, fa_eq, fa_lt64, fa_le64, fa_eq64, Int32.reduceToInt, Int64.reduceToInt, zi_ite] at b_4
          first
          | exact Or.inl ⟨by (try simp only [fa_lt, fa_le, fa_eq, fa_lt64, fa_le64, fa_eq64, Int32.reduceToInt, Int64.reduceToInt, zi_ite]); omega, rfl⟩
          | exact Or.inr (⟨by (try simp only [fa_lt, fa_le, fa_eq, fa_lt64, fa_le64, fa_eq64, Int32.reduceToInt, Int64.reduceToInt, zi_ite]); omega, rfl⟩)
        refine W.widen (k := 7) (n := 387) (by decide +kernel) (by decide +kernel) ?_
        exact W.iret (v := (-2)) hx hb hr (fun t ht hW => ⟨⟨(-2), (), rfl, hpost, trivial⟩, hS.F ht⟩) hS.2.2 dX11_body_55
set_option maxHeartbeats 1000000 in
set_option maxRecDepth 100000 in
theorem rt_X3_addBytes (l : Launch) (dC : Nat → ClassId) (dI : Nat → Nat → Nat) (sz : Nat) (h1 : Nat) (ao : Nat → Nat) (cA : ClassId) (f : Nat → Int32) (p0 : Int32) (p1 : Int64) (hp0 : 0 ≤ p0.toInt) (hp1 : p0.toInt ≤ 8) : Met l yX3_addBytes wsX3_addBytes ({ frames := 0, cells := 0, slots := 0, locals := 0 }) (va_Pc [.ref h1, .int p0, .long p1] (fun U => U.heap.size = sz ∧ va_P (dC, dI) vwCl [(h1, .inr (3, [.ref (ao 0), .int 0, .ref (ao 2), .int 1, .int 0, .ref (ao 5), .ref (ao 6), .ref (ao 7)])), (ao 0, .inl (cA, 160, .inl f))] U.heap ∧ va_K (dC, dI) vwCl [(cA, .int)] U ∧ va_D (fun _ => True) [(h1, .inr (3, [.ref (ao 0), .int 0, .ref (ao 2), .int 1, .int 0, .ref (ao 5), .ref (ao 6), .ref (ao 7)])), (ao 0, .inl (cA, 160, .inl f))])) (va_Qi (fun (r : Int32) (u : Unit) => match u with | () => r = p0) (fun (u : Unit) (t : State) => match u with | () => True) (va_A [(h1, .inr (3, [.ref (ao 0), .int 0, .ref (ao 2), .int 1, .int 0, .ref (ao 5), .ref (ao 6), .ref (ao 7)])), (ao 0, .inl (cA, 160, .inl f))] sz)) 0 0 (va_A [(h1, .inr (3, [.ref (ao 0), .int 0, .ref (ao 2), .int 1, .int 0, .ref (ao 5), .ref (ao 6), .ref (ao 7)])), (ao 0, .inl (cA, 160, .inl f))] sz) := by
  refine Met.ofW (cc := cX3_addBytes) (maxL := 5) (ret := (some .int)) (by decide) rfl ?_
  intro p e s m args below meth c s₁ B hml hv
  obtain ⟨rfl, hsz, hP, hK, hD0⟩ := hv
  have hx := B.exec
  have hb := B.bytes
  have hr := B.returns
  have hts := atoms_spec (ws := wsX3_addBytes) B.pre
  have hown : s.vm.findClass RX3 = some m.cls := findClass_of_methodNamed B.named
  have hlocks := B.notSynchronized
  subst hsz
  have hD := hD0.self (sz := s.heap.size)
  generalize hAe : va_A [(h1, .inr (3, [.ref (ao 0), .int 0, .ref (ao 2), .int 1, .int 0, .ref (ao 5), .ref (ao 6), .ref (ao 7)])), (ao 0, .inl (cA, 160, .inl f))] s.heap.size = A at hD  ⊢
  have hA : ∀ q : Nat, s.heap.size ≤ q → A q := fun q h => by rw [← hAe]; exact Or.inr h
  have hS : va_S A s.heap s.heap [] := va_S.rf
  have hl := lv_entry ([.ref h1, .int p0, .long p1]) (n := 5) (Nat.le_of_ble_eq_true rfl)
  rw [lg_entry_eq]
  generalize (lg_sl ([.ref h1, .int p0, .long p1]) ++ List.replicate (5 - (lg_sl ([.ref h1, .int p0, .long p1])).length) Slot.unset).toArray = ls at hl ⊢
  have hl : lv_has ls 5 [(0, .ref h1), (1, .int p0), (2, .long p1)] := hl
  refine lv_iconst (v := 0) hx hb dX3_addBytes_0 (by decide) ?_
  refine lv_istore (lv' := [(4, .int 0), (0, .ref h1), (1, .int p0), (2, .long p1)]) hx hb dX3_addBytes_1 hl (by decide) rfl (fun ls hl => ?_)
  have lp : ∀ (n : Nat) (x : Int32) (g0 : Nat → Int32), (p0.toInt - x.toInt).toNat < n → 0 ≤ x.toInt → x.toInt ≤ p0.toInt → ∀ (H : Heap) (locs : List Loc), va_P (dC, dI) vwCl [(h1, .inr (3, [.ref (ao 0), .int x, .ref (ao 2), .int 1, .int 0, .ref (ao 5), .ref (ao 6), .ref (ao 7)])), (ao 0, .inl (cA, 160, .inl g0))] H → va_D A [(h1, .inr (3, [.ref (ao 0), .int x, .ref (ao 2), .int 1, .int 0, .ref (ao 5), .ref (ao 6), .ref (ao 7)])), (ao 0, .inl (cA, 160, .inl g0))] → va_S A s.heap H locs → ∀ (ls : Array Slot), lv_has ls 5 [(4, .int x), (0, .ref h1), (1, .int p0), (2, .long p1)] → W p l e (headSpec wsX3_addBytes ({ frames := 0, cells := 0, slots := 0, locals := 0 })).room s m ([.ref h1, .int p0, .long p1] : List Value).toArray below meth c H locs 0 0 (MQ below (va_Qi (fun (r : Int32) (u : Unit) => match u with | () => r = p0) (fun (u : Unit) (t : State) => match u with | () => True) A) ([.ref h1, .int p0, .long p1] : List Value).toArray s 0 0 A) (F0 m 3 ls []) := by
    intro n
    induction n with
    | zero => intro x g0 hm; exact absurd hm (Nat.not_lt_zero _)
    | succ n ih =>
      intro x g0 hm hx0 hx1 H locs hP hD hS ls hl
      refine lv_iload hx hb dX3_addBytes_3 (lv_at hl 0 rfl) ?_
      refine lv_iload_n hx hb dX3_addBytes_5 rfl (lv_at hl 2 rfl) ?_
      refine lv_icmp_ge (tgt := 56) hx hb dX3_addBytes_6 (by decide) (fun c_1 => ?_) (fun c_1 => ?_)
      · refine lv_aload_n hx hb dX3_addBytes_56 rfl (lv_at hl 1 rfl) ?_
        refine va_get (D := (dC, dI)) (ci := 3) (v := .int x) (C := RX3) (T := TX3) (N := 8) hx hb hts (by decide +kernel) hown hK hP 0 rfl rfl 1 (by decide) (hts (.fieldLink RX3 42 "RedTent$Orders" "tapeSize" "I") (by decide +kernel)) (fun _ h9 => h9) rfl dX3_addBytes_57 ?_
        have hpost : (x : Int32) = p0 := by
          try simp only [fa_lt, fa_le, fa_eq, fa_lt64, fa_le64, fa_eq64, Int32.reduceToInt, Int64.reduceToInt, zi_ite] at hm
          try simp only [fa_lt, fa_le, fa_eq, fa_lt64, fa_le64, fa_eq64, Int32.reduceToInt, Int64.reduceToInt, zi_ite] at hx0
          try simp only [fa_lt, fa_le, fa_eq, fa_lt64, fa_le64, fa_eq64, Int32.reduceToInt, Int64.reduceToInt, zi_ite] at hx1
          try simp only [fa_lt, fa_le, fa_eq, fa_lt64, fa_le64, fa_eq64, Int32.reduceToInt, Int64.reduceToInt, zi_ite] at c_1
          simp only [fa_eq]; omega
        refine W.widen (k := 0) (n := 0) (by decide +kernel) (by decide +kernel) ?_
        exact W.iret (v := x) hx hb hr (fun t ht hW => ⟨⟨x, (), rfl, hpost, trivial⟩, hS.F ht⟩) hS.2.2 dX3_addBytes_60
      · refine lv_aload_n hx hb dX3_addBytes_9 rfl (lv_at hl 1 rfl) ?_
        refine va_get (D := (dC, dI)) (ci := 3) (v := .int x) (C := RX3) (T := TX3) (N := 8) hx hb hts (by decide +kernel) hown hK hP 0 rfl rfl 1 (by decide) (hts (.fieldLink RX3 42 "RedTent$Orders" "tapeSize" "I") (by decide +kernel)) (fun _ h9 => h9) rfl dX3_addBytes_10 ?_
        refine lv_sipush (v := 160) hx hb dX3_addBytes_13 (by decide) ?_
        refine lv_icmp_ge (tgt := 56) hx hb dX3_addBytes_16 (by decide) (fun c_2 => ?_) (fun c_2 => ?_)
        · refine lv_aload_n hx hb dX3_addBytes_56 rfl (lv_at hl 1 rfl) ?_
          refine va_get (D := (dC, dI)) (ci := 3) (v := .int x) (C := RX3) (T := TX3) (N := 8) hx hb hts (by decide +kernel) hown hK hP 0 rfl rfl 1 (by decide) (hts (.fieldLink RX3 42 "RedTent$Orders" "tapeSize" "I") (by decide +kernel)) (fun _ h9 => h9) rfl dX3_addBytes_57 ?_
          have hpost : (x : Int32) = p0 := by
            try simp only [fa_lt, fa_le, fa_eq, fa_lt64, fa_le64, fa_eq64, Int32.reduceToInt, Int64.reduceToInt, zi_ite] at hm
            try simp only [fa_lt, fa_le, fa_eq, fa_lt64, fa_le64, fa_eq64, Int32.reduceToInt, Int64.reduceToInt, zi_ite] at hx0
            try simp only [fa_lt, fa_le, fa_eq, fa_lt64, fa_le64, fa_eq64, Int32.reduceToInt, Int64.reduceToInt, zi_ite] at hx1
            try simp only [fa_lt, fa_le, fa_eq, fa_lt64, fa_le64, fa_eq64, Int32.reduceToInt, Int64.reduceToInt, zi_ite] at c_1
            try simp only [fa_lt, fa_le, fa_eq, fa_lt64, fa_le64, fa_eq64, Int32.reduceToInt, Int64.reduceToInt, zi_ite] at c_2
            simp only [fa_eq]; omega
          refine W.widen (k := 0) (n := 0) (by decide +kernel) (by decide +kernel) ?_
          exact W.iret (v := x) hx hb hr (fun t ht hW => ⟨⟨x, (), rfl, hpost, trivial⟩, hS.F ht⟩) hS.2.2 dX3_addBytes_60
        · refine lv_aload_n hx hb dX3_addBytes_19 rfl (lv_at hl 1 rfl) ?_
          refine va_get (D := (dC, dI)) (ci := 3) (v := .ref (ao 0)) (C := RX3) (T := TX3) (N := 8) hx hb hts (by decide +kernel) hown hK hP 0 rfl rfl 0 (by decide) (hts (.fieldLink RX3 9 "RedTent$Orders" "tape" "[I") (by decide +kernel)) (fun _ h9 => h9) rfl dX3_addBytes_20 ?_
          refine lv_aload_n hx hb dX3_addBytes_23 rfl (lv_at hl 1 rfl) ?_
          refine va_get (D := (dC, dI)) (ci := 3) (v := .int x) (C := RX3) (T := TX3) (N := 8) hx hb hts (by decide +kernel) hown hK hP 0 rfl rfl 1 (by decide) (hts (.fieldLink RX3 42 "RedTent$Orders" "tapeSize" "I") (by decide +kernel)) (fun _ h9 => h9) rfl dX3_addBytes_24 ?_
          refine lv_lload_n hx hb dX3_addBytes_27 rfl (lv_at hl 3 rfl) ?_
          refine lv_bipush (v := 8) hx hb dX3_addBytes_28 (by decide) ?_
          refine lv_iload hx hb dX3_addBytes_30 (lv_at hl 0 rfl) ?_
          refine lv_imul hx hb dX3_addBytes_32 ?_
          refine lv_lushr (v := (p1.toUInt64 >>> ((8 * x).toInt64.toUInt64 &&& Int64.toUInt64 63)).toInt64) hx hb dX3_addBytes_33 rfl ?_
          refine lv_ldc2 (v := 255) hx hb hown (hts (.constantLong RX3 45 (255)) (by decide +kernel)) dX3_addBytes_34 ?_
          refine lv_land hx hb dX3_addBytes_37 ?_
          refine lv_l2i (v := (((p1.toUInt64 >>> ((8 * x).toInt64.toUInt64 &&& Int64.toUInt64 63)).toInt64) &&& 255).toInt32) hx hb dX3_addBytes_38 rfl ?_
          refine va_iast hx hb hK hP hD hS 1 0 rfl rfl (vp_in_iff.mpr (by (try simp only [fa_lt, fa_le, fa_eq, fa_lt64, fa_le64, fa_eq64, Int32.reduceToInt, Int64.reduceToInt, zi_ite] at hm hx0 hx1 c_1 c_2 ⊢) <;> omega)) dX3_addBytes_39 (fun H locs hP hD hS => ?_)
          have hP : va_P (dC, dI) vwCl [(h1, .inr (3, [.ref (ao 0), .int x, .ref (ao 2), .int 1, .int 0, .ref (ao 5), .ref (ao 6), .ref (ao 7)])), (ao 0, .inl (cA, 160, .inl (upd g0 x.toNatClampNeg ((((p1.toUInt64 >>> ((8 * x).toInt64.toUInt64 &&& Int64.toUInt64 63)).toInt64) &&& 255).toInt32))))] H := hP
          have hD : va_D A [(h1, .inr (3, [.ref (ao 0), .int x, .ref (ao 2), .int 1, .int 0, .ref (ao 5), .ref (ao 6), .ref (ao 7)])), (ao 0, .inl (cA, 160, .inl (upd g0 x.toNatClampNeg ((((p1.toUInt64 >>> ((8 * x).toInt64.toUInt64 &&& Int64.toUInt64 63)).toInt64) &&& 255).toInt32))))] := hD
          refine lv_aload_n hx hb dX3_addBytes_40 rfl (lv_at hl 1 rfl) ?_
          refine lv_dup hx hb dX3_addBytes_41 rfl ?_
          refine va_get (D := (dC, dI)) (ci := 3) (v := .int x) (C := RX3) (T := TX3) (N := 8) hx hb hts (by decide +kernel) hown hK hP 0 rfl rfl 1 (by decide) (hts (.fieldLink RX3 42 "RedTent$Orders" "tapeSize" "I") (by decide +kernel)) (fun _ h9 => h9) rfl dX3_addBytes_42 ?_
          refine lv_iconst (v := 1) hx hb dX3_addBytes_45 (by decide) ?_
          refine lv_iadd hx hb dX3_addBytes_46 ?_
          refine lv_topi (fun y_3 ey_3 => ?_)
          have ty_3 : y_3.toInt = x.toInt + 1 := by
            try simp only [fa_lt, fa_le, fa_eq, fa_lt64, fa_le64, fa_eq64, Int32.reduceToInt, Int64.reduceToInt, zi_ite] at hm
            try simp only [fa_lt, fa_le, fa_eq, fa_lt64, fa_le64, fa_eq64, Int32.reduceToInt, Int64.reduceToInt, zi_ite] at hx0
            try simp only [fa_lt, fa_le, fa_eq, fa_lt64, fa_le64, fa_eq64, Int32.reduceToInt, Int64.reduceToInt, zi_ite] at hx1
            try simp only [fa_lt, fa_le, fa_eq, fa_lt64, fa_le64, fa_eq64, Int32.reduceToInt, Int64.reduceToInt, zi_ite] at c_1
            try simp only [fa_lt, fa_le, fa_eq, fa_lt64, fa_le64, fa_eq64, Int32.reduceToInt, Int64.reduceToInt, zi_ite] at c_2
            rw [ey_3]; exact (zi_add _ _ (by (try simp only [Int32.reduceToInt]) <;> omega) (by (try simp only [Int32.reduceToInt]) <;> omega))
          refine va_put (D := (dC, dI)) (ci := 3) (v := .int y_3) (ty := .int) (C := RX3) (T := TX3) (N := 8) hx hb hts (by decide +kernel) tyX3 tyX3_ok nmX3 hown hK hP hD hS 0 rfl rfl 1 (by decide) (hts (.fieldLink RX3 42 "RedTent$Orders" "tapeSize" "I") (by decide +kernel)) (fun _ h9 => h9) rfl (by decide +kernel) rfl rfl (Nat.le_of_ble_eq_true rfl) dX3_addBytes_47 (fun H locs hP hD hS => ?_)
          have hP : va_P (dC, dI) vwCl [(h1, .inr (3, [.ref (ao 0), .int y_3, .ref (ao 2), .int 1, .int 0, .ref (ao 5), .ref (ao 6), .ref (ao 7)])), (ao 0, .inl (cA, 160, .inl (upd g0 x.toNatClampNeg ((((p1.toUInt64 >>> ((8 * x).toInt64.toUInt64 &&& Int64.toUInt64 63)).toInt64) &&& 255).toInt32))))] H := hP
          have hD : va_D A [(h1, .inr (3, [.ref (ao 0), .int y_3, .ref (ao 2), .int 1, .int 0, .ref (ao 5), .ref (ao 6), .ref (ao 7)])), (ao 0, .inl (cA, 160, .inl (upd g0 x.toNatClampNeg ((((p1.toUInt64 >>> ((8 * x).toInt64.toUInt64 &&& Int64.toUInt64 63)).toInt64) &&& 255).toInt32))))] := hD
          obtain ⟨x_4, ex_4⟩ : ∃ y : Int32, y = x + 1 := ⟨_, rfl⟩
          refine lv_iinc (v := x_4) (lv' := [(4, .int x_4), (0, .ref h1), (1, .int p0), (2, .long p1)]) hx hb dX3_addBytes_50 hl (k := 0) rfl (by rw [ex_4]; rfl) (by decide) rfl (fun ls hl => ?_)
          refine lv_goto (tgt := 3) hx hb dX3_addBytes_53 (by decide) ?_
          have hq : y_3 = x_4 := by rw [ex_4]; first | rfl | (rw [ey_3]) | skip
          rw [hq] at hP hD
          try simp only [fa_lt, fa_le, fa_eq, fa_lt64, fa_le64, fa_eq64, Int32.reduceToInt, Int64.reduceToInt, zi_ite] at hm
          try simp only [fa_lt, fa_le, fa_eq, fa_lt64, fa_le64, fa_eq64, Int32.reduceToInt, Int64.reduceToInt, zi_ite] at hx0
          try simp only [fa_lt, fa_le, fa_eq, fa_lt64, fa_le64, fa_eq64, Int32.reduceToInt, Int64.reduceToInt, zi_ite] at hx1
          try simp only [fa_lt, fa_le, fa_eq, fa_lt64, fa_le64, fa_eq64, Int32.reduceToInt, Int64.reduceToInt, zi_ite] at c_1
          try simp only [fa_lt, fa_le, fa_eq, fa_lt64, fa_le64, fa_eq64, Int32.reduceToInt, Int64.reduceToInt, zi_ite] at c_2
          try simp only [fa_lt, fa_le, fa_eq, fa_lt64, fa_le64, fa_eq64, Int32.reduceToInt, Int64.reduceToInt, zi_ite] at ty_3
          have tx_4 : x_4.toInt = x.toInt + 1 := by rw [ex_4]; exact zi_inc (by omega)
          exact ih x_4 (upd g0 x.toNatClampNeg ((((p1.toUInt64 >>> ((8 * x).toInt64.toUInt64 &&& Int64.toUInt64 63)).toInt64) &&& 255).toInt32)) (by omega) (by omega) (by omega) _ _ hP hD hS ls (lv_sub hl [0, 1, 2, 3] rfl)
  exact lp _ 0 f (Nat.lt_succ_self _) (by (try simp only [fa_lt, fa_le, fa_eq, fa_lt64, fa_le64, fa_eq64, Int32.reduceToInt, Int64.reduceToInt, zi_ite]) <;> omega) (by (try simp only [fa_lt, fa_le, fa_eq, fa_lt64, fa_le64, fa_eq64, Int32.reduceToInt, Int64.reduceToInt, zi_ite]) <;> omega) _ _ hP hD hS ls hl
set_option maxHeartbeats 1000000 in
set_option maxRecDepth 100000 in
theorem rt_X11_feed (l : Launch) (dC : Nat → ClassId) (dI : Nat → Nat → Nat) (sz : Nat) (h0 : Nat) (ad : Nat → Nat) (ao : Nat → Nat) (cA : ClassId) (f : Nat → Int32) (p0 : Int32) (p1 : Int64) : Met l yX11_feed wsX11_feed ({ frames := 1, cells := 0, slots := 0, locals := 24 }) (va_Pc [.ref h0, .int p0, .long p1] (fun U => U.heap.size = sz ∧ va_P (dC, dI) vwCl [(h0, .inr (11, [.ref (ad 0), .ref (ad 1), .ref (ad 2), .ref (ad 3), .ref (ad 4), .ref (ad 5), .ref (ad 6), .ref (ad 7), .ref (ad 8), .int 0, .int 0, .int 0, .int 0])), (ad 5, .inr (3, [.ref (ao 0), .int 0, .ref (ao 2), .int 1, .int 0, .ref (ao 5), .ref (ao 6), .ref (ao 7)])), (ao 0, .inl (cA, 160, .inl f))] U.heap ∧ va_K (dC, dI) vwCl [(cA, .int)] U ∧ va_D (fun _ => True) [(h0, .inr (11, [.ref (ad 0), .ref (ad 1), .ref (ad 2), .ref (ad 3), .ref (ad 4), .ref (ad 5), .ref (ad 6), .ref (ad 7), .ref (ad 8), .int 0, .int 0, .int 0, .int 0])), (ad 5, .inr (3, [.ref (ao 0), .int 0, .ref (ao 2), .int 1, .int 0, .ref (ao 5), .ref (ao 6), .ref (ao 7)])), (ao 0, .inl (cA, 160, .inl f))])) (va_Qi (fun (r : Int32) (u : Unit) => match u with | () => ((1 ≤ p0 ∧ p0 ≤ 8) ∧ r = p0) ∨ ((¬ (1 ≤ p0 ∧ p0 ≤ 8)) ∧ r = (-2))) (fun (u : Unit) (t : State) => match u with | () => True) (va_A [(h0, .inr (11, [.ref (ad 0), .ref (ad 1), .ref (ad 2), .ref (ad 3), .ref (ad 4), .ref (ad 5), .ref (ad 6), .ref (ad 7), .ref (ad 8), .int 0, .int 0, .int 0, .int 0])), (ad 5, .inr (3, [.ref (ao 0), .int 0, .ref (ao 2), .int 1, .int 0, .ref (ao 5), .ref (ao 6), .ref (ao 7)])), (ao 0, .inl (cA, 160, .inl f))] sz)) 0 0 (va_A [(h0, .inr (11, [.ref (ad 0), .ref (ad 1), .ref (ad 2), .ref (ad 3), .ref (ad 4), .ref (ad 5), .ref (ad 6), .ref (ad 7), .ref (ad 8), .int 0, .int 0, .int 0, .int 0])), (ad 5, .inr (3, [.ref (ao 0), .int 0, .ref (ao 2), .int 1, .int 0, .ref (ao 5), .ref (ao 6), .ref (ao 7)])), (ao 0, .inl (cA, 160, .inl f))] sz) := by
  refine Met.ofW (cc := cX11_feed) (maxL := 4) (ret := (some .int)) (by decide) rfl ?_
  intro p e s m args below meth c s₁ B hml hv
  obtain ⟨rfl, hsz, hP, hK, hD0⟩ := hv
  have hx := B.exec
  have hb := B.bytes
  have hr := B.returns
  have hts := atoms_spec (ws := wsX11_feed) B.pre
  have hown : s.vm.findClass RX11 = some m.cls := findClass_of_methodNamed B.named
  have hlocks := B.notSynchronized
  subst hsz
  have hD := hD0.self (sz := s.heap.size)
  generalize hAe : va_A [(h0, .inr (11, [.ref (ad 0), .ref (ad 1), .ref (ad 2), .ref (ad 3), .ref (ad 4), .ref (ad 5), .ref (ad 6), .ref (ad 7), .ref (ad 8), .int 0, .int 0, .int 0, .int 0])), (ad 5, .inr (3, [.ref (ao 0), .int 0, .ref (ao 2), .int 1, .int 0, .ref (ao 5), .ref (ao 6), .ref (ao 7)])), (ao 0, .inl (cA, 160, .inl f))] s.heap.size = A at hD  ⊢
  have hA : ∀ q : Nat, s.heap.size ≤ q → A q := fun q h => by rw [← hAe]; exact Or.inr h
  have hS : va_S A s.heap s.heap [] := va_S.rf
  have hl := lv_entry ([.ref h0, .int p0, .long p1]) (n := 4) (Nat.le_of_ble_eq_true rfl)
  rw [lg_entry_eq]
  generalize (lg_sl ([.ref h0, .int p0, .long p1]) ++ List.replicate (4 - (lg_sl ([.ref h0, .int p0, .long p1])).length) Slot.unset).toArray = ls at hl ⊢
  have hl : lv_has ls 4 [(0, .ref h0), (1, .int p0), (2, .long p1)] := hl
  refine lv_iload_n hx hb dX11_feed_0 rfl (lv_at hl 1 rfl) ?_
  refine lv_iconst (v := 1) hx hb dX11_feed_1 (by decide) ?_
  refine lv_icmp_lt (tgt := 11) hx hb dX11_feed_2 (by decide) (fun c_1 => ?_) (fun c_1 => ?_)
  · refine lv_bipush (v := (-2)) hx hb dX11_feed_11 (by decide) ?_
    have hpost : ((1 ≤ p0 ∧ p0 ≤ 8) ∧ ((-2) : Int32) = p0) ∨ ((¬ (1 ≤ p0 ∧ p0 ≤ 8)) ∧ ((-2) : Int32) = (-2)) := by
      try simp only [fa_lt, fa_le, fa_eq, fa_lt64, fa_le64, fa_eq64, Int32.reduceToInt, Int64.reduceToInt, zi_ite] at c_1
      first
      | exact Or.inl ⟨by (try simp only [fa_lt, fa_le, fa_eq, fa_lt64, fa_le64, fa_eq64, Int32.reduceToInt, Int64.reduceToInt, zi_ite]); omega, rfl⟩
      | exact Or.inr (⟨by (try simp only [fa_lt, fa_le, fa_eq, fa_lt64, fa_le64, fa_eq64, Int32.reduceToInt, Int64.reduceToInt, zi_ite]); omega, rfl⟩)
    refine W.widen (k := 0) (n := 0) (by decide +kernel) (by decide +kernel) ?_
    exact W.iret (v := (-2)) hx hb hr (fun t ht hW => ⟨⟨(-2), (), rfl, hpost, trivial⟩, hS.F ht⟩) hS.2.2 dX11_feed_13
  · refine lv_iload_n hx hb dX11_feed_5 rfl (lv_at hl 1 rfl) ?_
    refine lv_bipush (v := 8) hx hb dX11_feed_6 (by decide) ?_
    refine lv_icmp_le (tgt := 14) hx hb dX11_feed_8 (by decide) (fun c_2 => ?_) (fun c_2 => ?_)
    · refine lv_aload_n hx hb dX11_feed_14 rfl (lv_at hl 0 rfl) ?_
      refine va_get (D := (dC, dI)) (ci := 11) (v := .ref (ad 5)) (C := RX11) (T := TX11) (N := 13) hx hb hts (by decide +kernel) hown hK hP 0 rfl rfl 5 (by decide) (hts (.fieldLink RX11 46 "RedTent" "orders" "LRedTent$Orders;") (by decide +kernel)) (fun _ h9 => h9) rfl dX11_feed_15 ?_
      refine va_get (D := (dC, dI)) (ci := 3) (v := .int 0) (C := RX3) (T := TX3) (N := 8) hx hb hts (by decide +kernel) hown hK hP 1 rfl rfl 1 (by decide) (hts (.fieldLink RX11 271 "RedTent$Orders" "tapeSize" "I") (by decide +kernel)) (fun _ h9 => h9) rfl dX11_feed_18 ?_
      refine lv_iload_n hx hb dX11_feed_21 rfl (lv_at hl 1 rfl) ?_
      refine lv_iadd hx hb dX11_feed_22 ?_
      refine lv_topi (fun y_3 ey_3 => ?_)
      rw [ey_3.trans (Int32.zero_add p0)]
      refine lv_sipush (v := 160) hx hb dX11_feed_23 (by decide) ?_
      refine lv_icmp_le (tgt := 32) hx hb dX11_feed_26 (by decide) (fun _ => ?_) (fun c9 => absurd (by (try simp only [fa_lt, fa_le, fa_eq, fa_lt64, fa_le64, fa_eq64, Int32.reduceToInt, Int64.reduceToInt, zi_ite] at c_1 c_2 ⊢) <;> omega) c9)
      refine lv_aload_n hx hb dX11_feed_32 rfl (lv_at hl 0 rfl) ?_
      refine va_get (D := (dC, dI)) (ci := 11) (v := .ref (ad 5)) (C := RX11) (T := TX11) (N := 13) hx hb hts (by decide +kernel) hown hK hP 0 rfl rfl 5 (by decide) (hts (.fieldLink RX11 46 "RedTent" "orders" "LRedTent$Orders;") (by decide +kernel)) (fun _ h9 => h9) rfl dX11_feed_33 ?_
      refine lv_iload_n hx hb dX11_feed_36 rfl (lv_at hl 1 rfl) ?_
      refine lv_lload_n hx hb dX11_feed_37 rfl (lv_at hl 2 rfl) ?_
      have hPc := hP.sub (ws' := [(ad 5, .inr (3, [.ref (ao 0), .int 0, .ref (ao 2), .int 1, .int 0, .ref (ao 5), .ref (ao 6), .ref (ao 7)])), (ao 0, .inl (cA, 160, .inl f))]) [1, 2] rfl
      have hKc := hK.sub (tys' := [(cA, .int)]) [0] rfl
      have hDc := hD.sub (ws' := [(ad 5, .inr (3, [.ref (ao 0), .int 0, .ref (ao 2), .int 1, .int 0, .ref (ao 5), .ref (ao 6), .ref (ao 7)])), (ao 0, .inl (cA, 160, .inl f))]) [1, 2] (by decide) rfl
      have hFc := va_free (wc := [(ad 5, .inr (3, [.ref (ao 0), .int 0, .ref (ao 2), .int 1, .int 0, .ref (ao 5), .ref (ao 6), .ref (ao 7)])), (ao 0, .inl (cA, 160, .inl f))]) hD hS hA [1, 2] rfl
      refine va_calli (va_runV (As := [.int p0, .long p1]) (rest := []) ⟨hx, hb, hml, hown, hts⟩ (rt_X3_addBytes l dC dI s.heap.size (ad 5) ao cA f p0 p1 (by (try simp only [fa_lt, fa_le, fa_eq, fa_lt64, fa_le64, fa_eq64, Int32.reduceToInt, Int64.reduceToInt, zi_ite] at c_1 c_2 ⊢) <;> omega) (by (try simp only [fa_lt, fa_le, fa_eq, fa_lt64, fa_le64, fa_eq64, Int32.reduceToInt, Int64.reduceToInt, zi_ite] at c_1 c_2 ⊢) <;> omega)) (cwV 2 hts gX11_feed_X3_addBytes rfl rfl rfl (by decide +kernel) ⟨Nat.le_of_ble_eq_true rfl, Nat.le_of_ble_eq_true rfl⟩) ⟨fun a U g mk q => by obtain ⟨q0, q1, qP, qK, qD⟩ := q; exact ⟨q0, q1, qP, va_K.moved (u := U) (U := U.calling g mk a) (Vm.Alike.refl U.vm) qK, qD⟩, va_recv hKc hPc (ci := 3) (q0 := 0) rfl rfl, fun U hU hW => ⟨rfl, by rw [hU], by rw [hU]; exact hPc, va_K.moved hW.alike hKc, hDc.weaken (fun _ _ _ _ => trivial)⟩⟩ rfl rfl hl.1 rfl (lv_room (Nat.le_of_ble_eq_true rfl)) dX11_feed_38 ⟨by decide +kernel, by decide +kernel⟩) hS (fun q _ h => hFc q h) hFc (fun r_4 u t H1 locs ht hvm hr_4 hB hz1 hk1 hS => ?_)
      obtain ⟨⟩ := u
      have hP1 : va_P (dC, dI) vwCl [] H1 := fun k q h => by simp at h
      have hD1 : va_D (va_A [(ad 5, .inr (3, [.ref (ao 0), .int 0, .ref (ao 2), .int 1, .int 0, .ref (ao 5), .ref (ao 6), .ref (ao 7)])), (ao 0, .inl (cA, 160, .inl f))] s.heap.size) [] := ⟨fun i j p q h => by simp at h, fun k q h => by simp at h⟩
      obtain ⟨hP, hD⟩ := va_join (wr := [(h0, .inr (11, [.ref (ad 0), .ref (ad 1), .ref (ad 2), .ref (ad 3), .ref (ad 4), .ref (ad 5), .ref (ad 6), .ref (ad 7), .ref (ad 8), .int 0, .int 0, .int 0, .int 0]))]) (w1 := []) hP hD [1, 2] [0] rfl rfl (by decide) (by decide) hk1 hFc hP1 hD1
      generalize H1 = H at hP hS ⊢
      have hP : va_P (dC, dI) vwCl [(h0, .inr (11, [.ref (ad 0), .ref (ad 1), .ref (ad 2), .ref (ad 3), .ref (ad 4), .ref (ad 5), .ref (ad 6), .ref (ad 7), .ref (ad 8), .int 0, .int 0, .int 0, .int 0]))] H := hP
      have hD : va_D A [(h0, .inr (11, [.ref (ad 0), .ref (ad 1), .ref (ad 2), .ref (ad 3), .ref (ad 4), .ref (ad 5), .ref (ad 6), .ref (ad 7), .ref (ad 8), .int 0, .int 0, .int 0, .int 0]))] := hD
      try dsimp only at hr_4
      rw [hr_4]
      have hpost : ((1 ≤ p0 ∧ p0 ≤ 8) ∧ (p0 : Int32) = p0) ∨ ((¬ (1 ≤ p0 ∧ p0 ≤ 8)) ∧ (p0 : Int32) = (-2)) := by
        try simp only [fa_lt, fa_le, fa_eq, fa_lt64, fa_le64, fa_eq64, Int32.reduceToInt, Int64.reduceToInt, zi_ite] at c_1
        try simp only [fa_lt, fa_le, fa_eq, fa_lt64, fa_le64, fa_eq64, Int32.reduceToInt, Int64.reduceToInt, zi_ite] at c_2
        first
        | exact Or.inl ⟨by (try simp only [fa_lt, fa_le, fa_eq, fa_lt64, fa_le64, fa_eq64, Int32.reduceToInt, Int64.reduceToInt, zi_ite]); omega, (by first | rfl | (simp only [fa_eq]; omega))⟩
        | exact Or.inr (⟨by (try simp only [fa_lt, fa_le, fa_eq, fa_lt64, fa_le64, fa_eq64, Int32.reduceToInt, Int64.reduceToInt, zi_ite]); omega, (by first | rfl | (simp only [fa_eq]; omega))⟩)
      refine W.widen (k := 0) (n := 0) (by decide +kernel) (by decide +kernel) ?_
      exact W.iret (v := p0) hx hb hr (fun t ht hW => ⟨⟨p0, (), rfl, hpost, trivial⟩, hS.F ht⟩) hS.2.2 dX11_feed_41
    · refine lv_bipush (v := (-2)) hx hb dX11_feed_11 (by decide) ?_
      have hpost : ((1 ≤ p0 ∧ p0 ≤ 8) ∧ ((-2) : Int32) = p0) ∨ ((¬ (1 ≤ p0 ∧ p0 ≤ 8)) ∧ ((-2) : Int32) = (-2)) := by
        try simp only [fa_lt, fa_le, fa_eq, fa_lt64, fa_le64, fa_eq64, Int32.reduceToInt, Int64.reduceToInt, zi_ite] at c_1
        try simp only [fa_lt, fa_le, fa_eq, fa_lt64, fa_le64, fa_eq64, Int32.reduceToInt, Int64.reduceToInt, zi_ite] at c_2
        first
        | exact Or.inl ⟨by (try simp only [fa_lt, fa_le, fa_eq, fa_lt64, fa_le64, fa_eq64, Int32.reduceToInt, Int64.reduceToInt, zi_ite]); omega, rfl⟩
        | exact Or.inr (⟨by (try simp only [fa_lt, fa_le, fa_eq, fa_lt64, fa_le64, fa_eq64, Int32.reduceToInt, Int64.reduceToInt, zi_ite]); omega, rfl⟩)
      refine W.widen (k := 0) (n := 0) (by decide +kernel) (by decide +kernel) ?_
      exact W.iret (v := (-2)) hx hb hr (fun t ht hW => ⟨⟨(-2), (), rfl, hpost, trivial⟩, hS.F ht⟩) hS.2.2 dX11_feed_13
set_option maxHeartbeats 1000000 in
set_option maxRecDepth 100000 in
theorem rt_X12_feed (l : Launch) (dC : Nat → ClassId) (dI : Nat → Nat → Nat) (sz : Nat) (h0 : Nat) (am : Nat → Nat) (cs : Nat → ClassId) (fs : Nat → Nat → Int32) (p0 : Int32) (p1 : Int64) : Met l yX12_feed wsX12_feed ({ frames := 1, cells := 0, slots := 0, locals := 22 }) (va_Pc [.ref h0, .int p0, .long p1] (fun U => U.heap.size = sz ∧ va_P (dC, dI) vwCl [(h0, .inr (12, [.int 0, .int 0, .ref (am 2), .ref (am 3), .ref (am 4), .int 0, .ref (am 6), .ref (am 7), .ref (am 8), .int 0, .ref (am 10), .ref (am 11), .ref (am 12), .ref (am 13), .ref (am 14), .ref (am 15), .int 0, .ref (am 17), .ref (am 18), .ref (am 19), .ref (am 20), .int 0, .ref (am 22), .int 0, .ref (am 24), .ref (am 25), .ref (am 26), .ref (am 27), .ref (am 28), .ref (am 29), .int 0, .ref (am 31), .ref (am 32), .ref (am 33), .int 0, .ref (am 35), .int 0, .ref (am 37), .ref (am 38), .ref (am 39), .ref (am 40), .ref (am 41), .ref (am 42), .ref (am 43), .int 0, .ref (am 45), .ref (am 46), .ref (am 47), .int 0, .ref (am 49), .int 0, .ref (am 51), .int 0, .ref (am 53), .ref (am 54), .int 1, .int 0, .ref (am 57), .long 0, .ref (am 59), .ref (am 60), .long 0, .int 0, .int 0, .int 0, .int 0, .int 0, .int 0, .ref (am 68), .int 0, .int 0, .ref (am 71), .ref (am 72), .ref (am 73), .ref (am 74), .ref (am 75), .ref (am 76), .ref (am 77), .ref (am 78)])), (am 51, .inl (cs 51, 160, .inl (fs 51)))] U.heap ∧ va_K (dC, dI) vwCl [(cs 51, .int)] U ∧ va_D (fun _ => True) [(h0, .inr (12, [.int 0, .int 0, .ref (am 2), .ref (am 3), .ref (am 4), .int 0, .ref (am 6), .ref (am 7), .ref (am 8), .int 0, .ref (am 10), .ref (am 11), .ref (am 12), .ref (am 13), .ref (am 14), .ref (am 15), .int 0, .ref (am 17), .ref (am 18), .ref (am 19), .ref (am 20), .int 0, .ref (am 22), .int 0, .ref (am 24), .ref (am 25), .ref (am 26), .ref (am 27), .ref (am 28), .ref (am 29), .int 0, .ref (am 31), .ref (am 32), .ref (am 33), .int 0, .ref (am 35), .int 0, .ref (am 37), .ref (am 38), .ref (am 39), .ref (am 40), .ref (am 41), .ref (am 42), .ref (am 43), .int 0, .ref (am 45), .ref (am 46), .ref (am 47), .int 0, .ref (am 49), .int 0, .ref (am 51), .int 0, .ref (am 53), .ref (am 54), .int 1, .int 0, .ref (am 57), .long 0, .ref (am 59), .ref (am 60), .long 0, .int 0, .int 0, .int 0, .int 0, .int 0, .int 0, .ref (am 68), .int 0, .int 0, .ref (am 71), .ref (am 72), .ref (am 73), .ref (am 74), .ref (am 75), .ref (am 76), .ref (am 77), .ref (am 78)])), (am 51, .inl (cs 51, 160, .inl (fs 51)))])) (va_Qi (fun (r : Int32) (u : Unit) => match u with | () => ((1 ≤ p0 ∧ p0 ≤ 8) ∧ r = p0) ∨ ((¬ (1 ≤ p0 ∧ p0 ≤ 8)) ∧ r = (-2))) (fun (u : Unit) (t : State) => match u with | () => True) (va_A [(h0, .inr (12, [.int 0, .int 0, .ref (am 2), .ref (am 3), .ref (am 4), .int 0, .ref (am 6), .ref (am 7), .ref (am 8), .int 0, .ref (am 10), .ref (am 11), .ref (am 12), .ref (am 13), .ref (am 14), .ref (am 15), .int 0, .ref (am 17), .ref (am 18), .ref (am 19), .ref (am 20), .int 0, .ref (am 22), .int 0, .ref (am 24), .ref (am 25), .ref (am 26), .ref (am 27), .ref (am 28), .ref (am 29), .int 0, .ref (am 31), .ref (am 32), .ref (am 33), .int 0, .ref (am 35), .int 0, .ref (am 37), .ref (am 38), .ref (am 39), .ref (am 40), .ref (am 41), .ref (am 42), .ref (am 43), .int 0, .ref (am 45), .ref (am 46), .ref (am 47), .int 0, .ref (am 49), .int 0, .ref (am 51), .int 0, .ref (am 53), .ref (am 54), .int 1, .int 0, .ref (am 57), .long 0, .ref (am 59), .ref (am 60), .long 0, .int 0, .int 0, .int 0, .int 0, .int 0, .int 0, .ref (am 68), .int 0, .int 0, .ref (am 71), .ref (am 72), .ref (am 73), .ref (am 74), .ref (am 75), .ref (am 76), .ref (am 77), .ref (am 78)])), (am 51, .inl (cs 51, 160, .inl (fs 51)))] sz)) 0 0 (va_A [(h0, .inr (12, [.int 0, .int 0, .ref (am 2), .ref (am 3), .ref (am 4), .int 0, .ref (am 6), .ref (am 7), .ref (am 8), .int 0, .ref (am 10), .ref (am 11), .ref (am 12), .ref (am 13), .ref (am 14), .ref (am 15), .int 0, .ref (am 17), .ref (am 18), .ref (am 19), .ref (am 20), .int 0, .ref (am 22), .int 0, .ref (am 24), .ref (am 25), .ref (am 26), .ref (am 27), .ref (am 28), .ref (am 29), .int 0, .ref (am 31), .ref (am 32), .ref (am 33), .int 0, .ref (am 35), .int 0, .ref (am 37), .ref (am 38), .ref (am 39), .ref (am 40), .ref (am 41), .ref (am 42), .ref (am 43), .int 0, .ref (am 45), .ref (am 46), .ref (am 47), .int 0, .ref (am 49), .int 0, .ref (am 51), .int 0, .ref (am 53), .ref (am 54), .int 1, .int 0, .ref (am 57), .long 0, .ref (am 59), .ref (am 60), .long 0, .int 0, .int 0, .int 0, .int 0, .int 0, .int 0, .ref (am 68), .int 0, .int 0, .ref (am 71), .ref (am 72), .ref (am 73), .ref (am 74), .ref (am 75), .ref (am 76), .ref (am 77), .ref (am 78)])), (am 51, .inl (cs 51, 160, .inl (fs 51)))] sz) := by
  refine Met.ofW (cc := cX12_feed) (maxL := 5) (ret := (some .int)) (by decide) rfl ?_
  intro p e s m args below meth c s₁ B hml hv
  obtain ⟨rfl, hsz, hP, hK, hD0⟩ := hv
  have hx := B.exec
  have hb := B.bytes
  have hr := B.returns
  have hts := atoms_spec (ws := wsX12_feed) B.pre
  have hown : s.vm.findClass RX12 = some m.cls := findClass_of_methodNamed B.named
  have hlocks := B.notSynchronized
  subst hsz
  have hD := hD0.self (sz := s.heap.size)
  generalize hAe : va_A [(h0, .inr (12, [.int 0, .int 0, .ref (am 2), .ref (am 3), .ref (am 4), .int 0, .ref (am 6), .ref (am 7), .ref (am 8), .int 0, .ref (am 10), .ref (am 11), .ref (am 12), .ref (am 13), .ref (am 14), .ref (am 15), .int 0, .ref (am 17), .ref (am 18), .ref (am 19), .ref (am 20), .int 0, .ref (am 22), .int 0, .ref (am 24), .ref (am 25), .ref (am 26), .ref (am 27), .ref (am 28), .ref (am 29), .int 0, .ref (am 31), .ref (am 32), .ref (am 33), .int 0, .ref (am 35), .int 0, .ref (am 37), .ref (am 38), .ref (am 39), .ref (am 40), .ref (am 41), .ref (am 42), .ref (am 43), .int 0, .ref (am 45), .ref (am 46), .ref (am 47), .int 0, .ref (am 49), .int 0, .ref (am 51), .int 0, .ref (am 53), .ref (am 54), .int 1, .int 0, .ref (am 57), .long 0, .ref (am 59), .ref (am 60), .long 0, .int 0, .int 0, .int 0, .int 0, .int 0, .int 0, .ref (am 68), .int 0, .int 0, .ref (am 71), .ref (am 72), .ref (am 73), .ref (am 74), .ref (am 75), .ref (am 76), .ref (am 77), .ref (am 78)])), (am 51, .inl (cs 51, 160, .inl (fs 51)))] s.heap.size = A at hD  ⊢
  have hA : ∀ q : Nat, s.heap.size ≤ q → A q := fun q h => by rw [← hAe]; exact Or.inr h
  have hS : va_S A s.heap s.heap [] := va_S.rf
  have hl := lv_entry ([.ref h0, .int p0, .long p1]) (n := 5) (Nat.le_of_ble_eq_true rfl)
  rw [lg_entry_eq]
  generalize (lg_sl ([.ref h0, .int p0, .long p1]) ++ List.replicate (5 - (lg_sl ([.ref h0, .int p0, .long p1])).length) Slot.unset).toArray = ls at hl ⊢
  have hl : lv_has ls 5 [(0, .ref h0), (1, .int p0), (2, .long p1)] := hl
  refine lv_iload_n hx hb dX12_feed_0 rfl (lv_at hl 1 rfl) ?_
  refine lv_iconst (v := 1) hx hb dX12_feed_1 (by decide) ?_
  refine lv_bipush (v := 8) hx hb dX12_feed_2 (by decide) ?_
  refine vp_callSi (va_Run.run (va_runS (As := [.int p0, .int 1, .int 8]) (rest := []) ⟨hx, hb, hml, hown, hts⟩ (rt_X12_within l p0 1 8) (va_cwS 3 hts gX12_feed_X12_within rfl rfl rfl (by decide +kernel) ⟨Nat.le_of_ble_eq_true rfl, Nat.le_of_ble_eq_true rfl⟩) ⟨fun a U g mk q => q, fun U hU hW => ⟨rfl, trivial⟩⟩ rfl rfl hl.1 rfl (lv_room (Nat.le_of_ble_eq_true rfl)) dX12_feed_4 ⟨by decide +kernel, by decide +kernel⟩)) (fun r_1 hr_1 => ?_)
  rcases hr_1 with ⟨b_2, rfl⟩ | ⟨b_2, rfl⟩
  · refine lv_if_ne (tgt := 13) hx hb dX12_feed_7 (by decide) (fun _ => ?_) (fun c9 => absurd c9 (by decide))
    refine lv_aload_n hx hb dX12_feed_13 rfl (lv_at hl 0 rfl) ?_
    refine va_get (D := (dC, dI)) (ci := 12) (v := .int 0) (C := RX12) (T := TX12) (N := 79) hx hb hts (by decide +kernel) hown hK hP 0 rfl rfl 52 (by decide) (hts (.fieldLink RX12 323 "RedTentModel" "tapeMany" "I") (by decide +kernel)) (fun _ h9 => h9) rfl dX12_feed_14 ?_
    refine lv_iload_n hx hb dX12_feed_17 rfl (lv_at hl 1 rfl) ?_
    refine lv_iadd hx hb dX12_feed_18 ?_
    refine lv_topi (fun y_3 ey_3 => ?_)
    rw [ey_3.trans (Int32.zero_add p0)]
    refine lv_sipush (v := 160) hx hb dX12_feed_19 (by decide) ?_
    refine lv_icmp_le (tgt := 28) hx hb dX12_feed_22 (by decide) (fun _ => ?_) (fun c9 => absurd (by (try simp only [fa_lt, fa_le, fa_eq, fa_lt64, fa_le64, fa_eq64, Int32.reduceToInt, Int64.reduceToInt, zi_ite] at b_2 ⊢) <;> omega) c9)
    refine lv_iconst (v := 0) hx hb dX12_feed_28 (by decide) ?_
    refine lv_istore (lv' := [(4, .int 0), (0, .ref h0), (1, .int p0), (2, .long p1)]) hx hb dX12_feed_29 hl (by decide) rfl (fun ls hl => ?_)
    try simp only [fa_lt, fa_le, fa_eq, fa_lt64, fa_le64, fa_eq64, Int32.reduceToInt, Int64.reduceToInt, zi_ite] at b_2
    have lp : ∀ (n : Nat) (x : Int32) (g0 : Nat → Int32), (p0.toInt - x.toInt).toNat < n → 0 ≤ x.toInt → x.toInt ≤ p0.toInt → ∀ (H : Heap) (locs : List Loc), va_P (dC, dI) vwCl [(h0, .inr (12, [.int 0, .int 0, .ref (am 2), .ref (am 3), .ref (am 4), .int 0, .ref (am 6), .ref (am 7), .ref (am 8), .int 0, .ref (am 10), .ref (am 11), .ref (am 12), .ref (am 13), .ref (am 14), .ref (am 15), .int 0, .ref (am 17), .ref (am 18), .ref (am 19), .ref (am 20), .int 0, .ref (am 22), .int 0, .ref (am 24), .ref (am 25), .ref (am 26), .ref (am 27), .ref (am 28), .ref (am 29), .int 0, .ref (am 31), .ref (am 32), .ref (am 33), .int 0, .ref (am 35), .int 0, .ref (am 37), .ref (am 38), .ref (am 39), .ref (am 40), .ref (am 41), .ref (am 42), .ref (am 43), .int 0, .ref (am 45), .ref (am 46), .ref (am 47), .int 0, .ref (am 49), .int 0, .ref (am 51), .int x, .ref (am 53), .ref (am 54), .int 1, .int 0, .ref (am 57), .long 0, .ref (am 59), .ref (am 60), .long 0, .int 0, .int 0, .int 0, .int 0, .int 0, .int 0, .ref (am 68), .int 0, .int 0, .ref (am 71), .ref (am 72), .ref (am 73), .ref (am 74), .ref (am 75), .ref (am 76), .ref (am 77), .ref (am 78)])), (am 51, .inl (cs 51, 160, .inl g0))] H → va_D A [(h0, .inr (12, [.int 0, .int 0, .ref (am 2), .ref (am 3), .ref (am 4), .int 0, .ref (am 6), .ref (am 7), .ref (am 8), .int 0, .ref (am 10), .ref (am 11), .ref (am 12), .ref (am 13), .ref (am 14), .ref (am 15), .int 0, .ref (am 17), .ref (am 18), .ref (am 19), .ref (am 20), .int 0, .ref (am 22), .int 0, .ref (am 24), .ref (am 25), .ref (am 26), .ref (am 27), .ref (am 28), .ref (am 29), .int 0, .ref (am 31), .ref (am 32), .ref (am 33), .int 0, .ref (am 35), .int 0, .ref (am 37), .ref (am 38), .ref (am 39), .ref (am 40), .ref (am 41), .ref (am 42), .ref (am 43), .int 0, .ref (am 45), .ref (am 46), .ref (am 47), .int 0, .ref (am 49), .int 0, .ref (am 51), .int x, .ref (am 53), .ref (am 54), .int 1, .int 0, .ref (am 57), .long 0, .ref (am 59), .ref (am 60), .long 0, .int 0, .int 0, .int 0, .int 0, .int 0, .int 0, .ref (am 68), .int 0, .int 0, .ref (am 71), .ref (am 72), .ref (am 73), .ref (am 74), .ref (am 75), .ref (am 76), .ref (am 77), .ref (am 78)])), (am 51, .inl (cs 51, 160, .inl g0))] → va_S A s.heap H locs → ∀ (ls : Array Slot), lv_has ls 5 [(4, .int x), (0, .ref h0), (1, .int p0), (2, .long p1)] → W p l e (headSpec wsX12_feed ({ frames := 1, cells := 0, slots := 0, locals := 22 })).room s m ([.ref h0, .int p0, .long p1] : List Value).toArray below meth c H locs 0 0 (MQ below (va_Qi (fun (r : Int32) (u : Unit) => match u with | () => ((1 ≤ p0 ∧ p0 ≤ 8) ∧ r = p0) ∨ ((¬ (1 ≤ p0 ∧ p0 ≤ 8)) ∧ r = (-2))) (fun (u : Unit) (t : State) => match u with | () => True) A) ([.ref h0, .int p0, .long p1] : List Value).toArray s 0 0 A) (F0 m 31 ls []) := by
      intro n
      induction n with
      | zero => intro x g0 hm; exact absurd hm (Nat.not_lt_zero _)
      | succ n ih =>
        intro x g0 hm hx0 hx1 H locs hP hD hS ls hl
        refine lv_iload hx hb dX12_feed_31 (lv_at hl 0 rfl) ?_
        refine lv_iload_n hx hb dX12_feed_33 rfl (lv_at hl 2 rfl) ?_
        refine lv_icmp_ge (tgt := 74) hx hb dX12_feed_34 (by decide) (fun c_4 => ?_) (fun c_4 => ?_)
        · refine lv_aload_n hx hb dX12_feed_74 rfl (lv_at hl 1 rfl) ?_
          refine va_get (D := (dC, dI)) (ci := 12) (v := .int x) (C := RX12) (T := TX12) (N := 79) hx hb hts (by decide +kernel) hown hK hP 0 rfl rfl 52 (by decide) (hts (.fieldLink RX12 323 "RedTentModel" "tapeMany" "I") (by decide +kernel)) (fun _ h9 => h9) rfl dX12_feed_75 ?_
          have hpost : ((1 ≤ p0 ∧ p0 ≤ 8) ∧ (x : Int32) = p0) ∨ ((¬ (1 ≤ p0 ∧ p0 ≤ 8)) ∧ (x : Int32) = (-2)) := by
            try simp only [fa_lt, fa_le, fa_eq, fa_lt64, fa_le64, fa_eq64, Int32.reduceToInt, Int64.reduceToInt, zi_ite] at b_2
            try simp only [fa_lt, fa_le, fa_eq, fa_lt64, fa_le64, fa_eq64, Int32.reduceToInt, Int64.reduceToInt, zi_ite] at hm
            try simp only [fa_lt, fa_le, fa_eq, fa_lt64, fa_le64, fa_eq64, Int32.reduceToInt, Int64.reduceToInt, zi_ite] at hx0
            try simp only [fa_lt, fa_le, fa_eq, fa_lt64, fa_le64, fa_eq64, Int32.reduceToInt, Int64.reduceToInt, zi_ite] at hx1
            try simp only [fa_lt, fa_le, fa_eq, fa_lt64, fa_le64, fa_eq64, Int32.reduceToInt, Int64.reduceToInt, zi_ite] at c_4
            first
            | exact Or.inl ⟨by (try simp only [fa_lt, fa_le, fa_eq, fa_lt64, fa_le64, fa_eq64, Int32.reduceToInt, Int64.reduceToInt, zi_ite]); omega, (by first | rfl | (simp only [fa_eq]; omega))⟩
            | exact Or.inr (⟨by (try simp only [fa_lt, fa_le, fa_eq, fa_lt64, fa_le64, fa_eq64, Int32.reduceToInt, Int64.reduceToInt, zi_ite]); omega, (by first | rfl | (simp only [fa_eq]; omega))⟩)
          refine W.widen (k := 0) (n := 0) (by decide +kernel) (by decide +kernel) ?_
          exact W.iret (v := x) hx hb hr (fun t ht hW => ⟨⟨x, (), rfl, hpost, trivial⟩, hS.F ht⟩) hS.2.2 dX12_feed_78
        · refine lv_aload_n hx hb dX12_feed_37 rfl (lv_at hl 1 rfl) ?_
          refine va_get (D := (dC, dI)) (ci := 12) (v := .ref (am 51)) (C := RX12) (T := TX12) (N := 79) hx hb hts (by decide +kernel) hown hK hP 0 rfl rfl 51 (by decide) (hts (.fieldLink RX12 125 "RedTentModel" "tape" "[I") (by decide +kernel)) (fun _ h9 => h9) rfl dX12_feed_38 ?_
          refine lv_aload_n hx hb dX12_feed_41 rfl (lv_at hl 1 rfl) ?_
          refine va_get (D := (dC, dI)) (ci := 12) (v := .int x) (C := RX12) (T := TX12) (N := 79) hx hb hts (by decide +kernel) hown hK hP 0 rfl rfl 52 (by decide) (hts (.fieldLink RX12 323 "RedTentModel" "tapeMany" "I") (by decide +kernel)) (fun _ h9 => h9) rfl dX12_feed_42 ?_
          refine lv_lload_n hx hb dX12_feed_45 rfl (lv_at hl 3 rfl) ?_
          refine lv_bipush (v := 8) hx hb dX12_feed_46 (by decide) ?_
          refine lv_iload hx hb dX12_feed_48 (lv_at hl 0 rfl) ?_
          refine lv_imul hx hb dX12_feed_50 ?_
          refine lv_lushr (v := (p1.toUInt64 >>> ((8 * x).toInt64.toUInt64 &&& Int64.toUInt64 63)).toInt64) hx hb dX12_feed_51 rfl ?_
          refine lv_ldc2 (v := 255) hx hb hown (hts (.constantLong RX12 326 (255)) (by decide +kernel)) dX12_feed_52 ?_
          refine lv_land hx hb dX12_feed_55 ?_
          refine lv_l2i (v := (((p1.toUInt64 >>> ((8 * x).toInt64.toUInt64 &&& Int64.toUInt64 63)).toInt64) &&& 255).toInt32) hx hb dX12_feed_56 rfl ?_
          refine va_iast hx hb hK hP hD hS 1 0 rfl rfl (vp_in_iff.mpr (by (try simp only [fa_lt, fa_le, fa_eq, fa_lt64, fa_le64, fa_eq64, Int32.reduceToInt, Int64.reduceToInt, zi_ite] at b_2 hm hx0 hx1 c_4 ⊢) <;> omega)) dX12_feed_57 (fun H locs hP hD hS => ?_)
          have hP : va_P (dC, dI) vwCl [(h0, .inr (12, [.int 0, .int 0, .ref (am 2), .ref (am 3), .ref (am 4), .int 0, .ref (am 6), .ref (am 7), .ref (am 8), .int 0, .ref (am 10), .ref (am 11), .ref (am 12), .ref (am 13), .ref (am 14), .ref (am 15), .int 0, .ref (am 17), .ref (am 18), .ref (am 19), .ref (am 20), .int 0, .ref (am 22), .int 0, .ref (am 24), .ref (am 25), .ref (am 26), .ref (am 27), .ref (am 28), .ref (am 29), .int 0, .ref (am 31), .ref (am 32), .ref (am 33), .int 0, .ref (am 35), .int 0, .ref (am 37), .ref (am 38), .ref (am 39), .ref (am 40), .ref (am 41), .ref (am 42), .ref (am 43), .int 0, .ref (am 45), .ref (am 46), .ref (am 47), .int 0, .ref (am 49), .int 0, .ref (am 51), .int x, .ref (am 53), .ref (am 54), .int 1, .int 0, .ref (am 57), .long 0, .ref (am 59), .ref (am 60), .long 0, .int 0, .int 0, .int 0, .int 0, .int 0, .int 0, .ref (am 68), .int 0, .int 0, .ref (am 71), .ref (am 72), .ref (am 73), .ref (am 74), .ref (am 75), .ref (am 76), .ref (am 77), .ref (am 78)])), (am 51, .inl (cs 51, 160, .inl (upd g0 x.toNatClampNeg ((((p1.toUInt64 >>> ((8 * x).toInt64.toUInt64 &&& Int64.toUInt64 63)).toInt64) &&& 255).toInt32))))] H := hP
          have hD : va_D A [(h0, .inr (12, [.int 0, .int 0, .ref (am 2), .ref (am 3), .ref (am 4), .int 0, .ref (am 6), .ref (am 7), .ref (am 8), .int 0, .ref (am 10), .ref (am 11), .ref (am 12), .ref (am 13), .ref (am 14), .ref (am 15), .int 0, .ref (am 17), .ref (am 18), .ref (am 19), .ref (am 20), .int 0, .ref (am 22), .int 0, .ref (am 24), .ref (am 25), .ref (am 26), .ref (am 27), .ref (am 28), .ref (am 29), .int 0, .ref (am 31), .ref (am 32), .ref (am 33), .int 0, .ref (am 35), .int 0, .ref (am 37), .ref (am 38), .ref (am 39), .ref (am 40), .ref (am 41), .ref (am 42), .ref (am 43), .int 0, .ref (am 45), .ref (am 46), .ref (am 47), .int 0, .ref (am 49), .int 0, .ref (am 51), .int x, .ref (am 53), .ref (am 54), .int 1, .int 0, .ref (am 57), .long 0, .ref (am 59), .ref (am 60), .long 0, .int 0, .int 0, .int 0, .int 0, .int 0, .int 0, .ref (am 68), .int 0, .int 0, .ref (am 71), .ref (am 72), .ref (am 73), .ref (am 74), .ref (am 75), .ref (am 76), .ref (am 77), .ref (am 78)])), (am 51, .inl (cs 51, 160, .inl (upd g0 x.toNatClampNeg ((((p1.toUInt64 >>> ((8 * x).toInt64.toUInt64 &&& Int64.toUInt64 63)).toInt64) &&& 255).toInt32))))] := hD
          refine lv_aload_n hx hb dX12_feed_58 rfl (lv_at hl 1 rfl) ?_
          refine lv_dup hx hb dX12_feed_59 rfl ?_
          refine va_get (D := (dC, dI)) (ci := 12) (v := .int x) (C := RX12) (T := TX12) (N := 79) hx hb hts (by decide +kernel) hown hK hP 0 rfl rfl 52 (by decide) (hts (.fieldLink RX12 323 "RedTentModel" "tapeMany" "I") (by decide +kernel)) (fun _ h9 => h9) rfl dX12_feed_60 ?_
          refine lv_iconst (v := 1) hx hb dX12_feed_63 (by decide) ?_
          refine lv_iadd hx hb dX12_feed_64 ?_
          refine lv_topi (fun y_5 ey_5 => ?_)
          have ty_5 : y_5.toInt = x.toInt + 1 := by
            try simp only [fa_lt, fa_le, fa_eq, fa_lt64, fa_le64, fa_eq64, Int32.reduceToInt, Int64.reduceToInt, zi_ite] at b_2
            try simp only [fa_lt, fa_le, fa_eq, fa_lt64, fa_le64, fa_eq64, Int32.reduceToInt, Int64.reduceToInt, zi_ite] at hm
            try simp only [fa_lt, fa_le, fa_eq, fa_lt64, fa_le64, fa_eq64, Int32.reduceToInt, Int64.reduceToInt, zi_ite] at hx0
            try simp only [fa_lt, fa_le, fa_eq, fa_lt64, fa_le64, fa_eq64, Int32.reduceToInt, Int64.reduceToInt, zi_ite] at hx1
            try simp only [fa_lt, fa_le, fa_eq, fa_lt64, fa_le64, fa_eq64, Int32.reduceToInt, Int64.reduceToInt, zi_ite] at c_4
            rw [ey_5]; exact (zi_add _ _ (by (try simp only [Int32.reduceToInt]) <;> omega) (by (try simp only [Int32.reduceToInt]) <;> omega))
          refine va_put (D := (dC, dI)) (ci := 12) (v := .int y_5) (ty := .int) (C := RX12) (T := TX12) (N := 79) hx hb hts (by decide +kernel) tyX12 tyX12_ok nmX12 hown hK hP hD hS 0 rfl rfl 52 (by decide) (hts (.fieldLink RX12 323 "RedTentModel" "tapeMany" "I") (by decide +kernel)) (fun _ h9 => h9) rfl (by decide +kernel) rfl rfl (Nat.le_of_ble_eq_true rfl) dX12_feed_65 (fun H locs hP hD hS => ?_)
          have hP : va_P (dC, dI) vwCl [(h0, .inr (12, [.int 0, .int 0, .ref (am 2), .ref (am 3), .ref (am 4), .int 0, .ref (am 6), .ref (am 7), .ref (am 8), .int 0, .ref (am 10), .ref (am 11), .ref (am 12), .ref (am 13), .ref (am 14), .ref (am 15), .int 0, .ref (am 17), .ref (am 18), .ref (am 19), .ref (am 20), .int 0, .ref (am 22), .int 0, .ref (am 24), .ref (am 25), .ref (am 26), .ref (am 27), .ref (am 28), .ref (am 29), .int 0, .ref (am 31), .ref (am 32), .ref (am 33), .int 0, .ref (am 35), .int 0, .ref (am 37), .ref (am 38), .ref (am 39), .ref (am 40), .ref (am 41), .ref (am 42), .ref (am 43), .int 0, .ref (am 45), .ref (am 46), .ref (am 47), .int 0, .ref (am 49), .int 0, .ref (am 51), .int y_5, .ref (am 53), .ref (am 54), .int 1, .int 0, .ref (am 57), .long 0, .ref (am 59), .ref (am 60), .long 0, .int 0, .int 0, .int 0, .int 0, .int 0, .int 0, .ref (am 68), .int 0, .int 0, .ref (am 71), .ref (am 72), .ref (am 73), .ref (am 74), .ref (am 75), .ref (am 76), .ref (am 77), .ref (am 78)])), (am 51, .inl (cs 51, 160, .inl (upd g0 x.toNatClampNeg ((((p1.toUInt64 >>> ((8 * x).toInt64.toUInt64 &&& Int64.toUInt64 63)).toInt64) &&& 255).toInt32))))] H := hP
          have hD : va_D A [(h0, .inr (12, [.int 0, .int 0, .ref (am 2), .ref (am 3), .ref (am 4), .int 0, .ref (am 6), .ref (am 7), .ref (am 8), .int 0, .ref (am 10), .ref (am 11), .ref (am 12), .ref (am 13), .ref (am 14), .ref (am 15), .int 0, .ref (am 17), .ref (am 18), .ref (am 19), .ref (am 20), .int 0, .ref (am 22), .int 0, .ref (am 24), .ref (am 25), .ref (am 26), .ref (am 27), .ref (am 28), .ref (am 29), .int 0, .ref (am 31), .ref (am 32), .ref (am 33), .int 0, .ref (am 35), .int 0, .ref (am 37), .ref (am 38), .ref (am 39), .ref (am 40), .ref (am 41), .ref (am 42), .ref (am 43), .int 0, .ref (am 45), .ref (am 46), .ref (am 47), .int 0, .ref (am 49), .int 0, .ref (am 51), .int y_5, .ref (am 53), .ref (am 54), .int 1, .int 0, .ref (am 57), .long 0, .ref (am 59), .ref (am 60), .long 0, .int 0, .int 0, .int 0, .int 0, .int 0, .int 0, .ref (am 68), .int 0, .int 0, .ref (am 71), .ref (am 72), .ref (am 73), .ref (am 74), .ref (am 75), .ref (am 76), .ref (am 77), .ref (am 78)])), (am 51, .inl (cs 51, 160, .inl (upd g0 x.toNatClampNeg ((((p1.toUInt64 >>> ((8 * x).toInt64.toUInt64 &&& Int64.toUInt64 63)).toInt64) &&& 255).toInt32))))] := hD
          obtain ⟨x_6, ex_6⟩ : ∃ y : Int32, y = x + 1 := ⟨_, rfl⟩
          refine lv_iinc (v := x_6) (lv' := [(4, .int x_6), (0, .ref h0), (1, .int p0), (2, .long p1)]) hx hb dX12_feed_68 hl (k := 0) rfl (by rw [ex_6]; rfl) (by decide) rfl (fun ls hl => ?_)
          refine lv_goto (tgt := 31) hx hb dX12_feed_71 (by decide) ?_
          have hq : y_5 = x_6 := by rw [ex_6]; first | rfl | (rw [ey_5]) | skip
          rw [hq] at hP hD
          try simp only [fa_lt, fa_le, fa_eq, fa_lt64, fa_le64, fa_eq64, Int32.reduceToInt, Int64.reduceToInt, zi_ite] at b_2
          try simp only [fa_lt, fa_le, fa_eq, fa_lt64, fa_le64, fa_eq64, Int32.reduceToInt, Int64.reduceToInt, zi_ite] at hm
          try simp only [fa_lt, fa_le, fa_eq, fa_lt64, fa_le64, fa_eq64, Int32.reduceToInt, Int64.reduceToInt, zi_ite] at hx0
          try simp only [fa_lt, fa_le, fa_eq, fa_lt64, fa_le64, fa_eq64, Int32.reduceToInt, Int64.reduceToInt, zi_ite] at hx1
          try simp only [fa_lt, fa_le, fa_eq, fa_lt64, fa_le64, fa_eq64, Int32.reduceToInt, Int64.reduceToInt, zi_ite] at c_4
          try simp only [fa_lt, fa_le, fa_eq, fa_lt64, fa_le64, fa_eq64, Int32.reduceToInt, Int64.reduceToInt, zi_ite] at ty_5
          have tx_6 : x_6.toInt = x.toInt + 1 := by rw [ex_6]; exact zi_inc (by omega)
          exact ih x_6 (upd g0 x.toNatClampNeg ((((p1.toUInt64 >>> ((8 * x).toInt64.toUInt64 &&& Int64.toUInt64 63)).toInt64) &&& 255).toInt32)) (by omega) (by omega) (by omega) _ _ hP hD hS ls (lv_sub hl [0, 1, 2, 3] rfl)
    exact lp _ 0 (fs 51) (Nat.lt_succ_self _) (by (try simp only [fa_lt, fa_le, fa_eq, fa_lt64, fa_le64, fa_eq64, Int32.reduceToInt, Int64.reduceToInt, zi_ite] at b_2 ⊢) <;> omega) (by (try simp only [fa_lt, fa_le, fa_eq, fa_lt64, fa_le64, fa_eq64, Int32.reduceToInt, Int64.reduceToInt, zi_ite] at b_2 ⊢) <;> omega) _ _ hP hD hS ls hl
  · refine lv_if_ne (tgt := 13) hx hb dX12_feed_7 (by decide) (fun c9 => absurd (by decide) c9) (fun _ => ?_)
    refine lv_bipush (v := (-2)) hx hb dX12_feed_10 (by decide) ?_
    have hpost : ((1 ≤ p0 ∧ p0 ≤ 8) ∧ ((-2) : Int32) = p0) ∨ ((¬ (1 ≤ p0 ∧ p0 ≤ 8)) ∧ ((-2) : Int32) = (-2)) := by
      try simp only [fa_lt, fa_le, fa_eq, fa_lt64, fa_le64, fa_eq64, Int32.reduceToInt, Int64.reduceToInt, zi_ite] at b_2
      first
      | exact Or.inl ⟨by (try simp only [fa_lt, fa_le, fa_eq, fa_lt64, fa_le64, fa_eq64, Int32.reduceToInt, Int64.reduceToInt, zi_ite]); omega, rfl⟩
      | exact Or.inr (⟨by (try simp only [fa_lt, fa_le, fa_eq, fa_lt64, fa_le64, fa_eq64, Int32.reduceToInt, Int64.reduceToInt, zi_ite]); omega, rfl⟩)
    refine W.widen (k := 0) (n := 0) (by decide +kernel) (by decide +kernel) ?_
    exact W.iret (v := (-2)) hx hb hr (fun t ht hW => ⟨⟨(-2), (), rfl, hpost, trivial⟩, hS.F ht⟩) hS.2.2 dX12_feed_12
set_option maxHeartbeats 1000000 in
set_option maxRecDepth 100000 in
theorem rt_X11_sheetAtI (l : Launch) (dC : Nat → ClassId) (dI : Nat → Nat → Nat) (h0 : Nat) (ad : Nat → Nat) (cA : ClassId) (fs : Nat → Option Nat) (ha : Nat) (p0 : Int32) (hp : 0 ≤ p0.toInt ∧ p0.toInt < 4) (hfa : fs p0.toNatClampNeg = some ha) : Met l yX11_sheetAt wsX11_sheetAt ({ frames := 0, cells := 0, slots := 0, locals := 0 }) (va_Pc [.ref h0, .int p0] (fun U => va_P (dC, dI) vwCl [(h0, .inr (11, [.ref (ad 0), .ref (ad 1), .ref (ad 2), .ref (ad 3), .ref (ad 4), .ref (ad 5), .ref (ad 6), .ref (ad 7), .ref (ad 8), .int 0, .int 0, .int 0, .int 0])), (ad 8, .inl (cA, 4, .inr (.inr (.inr (.inr fs)))))] U.heap ∧ va_K (dC, dI) vwCl [(cA, .object RX7)] U)) (va_Sq (fun r : Option Nat => r = some ha)) 0 0 (fun _ => False) := by
  refine Met.ofW (cc := cX11_sheetAt) (maxL := 2) (ret := (some (.object "RedTent$Sheet"))) (by decide) rfl ?_
  intro p e s m args below meth c s₁ B hml hv
  obtain ⟨rfl, hP, hK⟩ := hv
  have hx := B.exec
  have hb := B.bytes
  have hr := B.returns
  have hts := atoms_spec (ws := wsX11_sheetAt) B.pre
  have hown : s.vm.findClass RX11 = some m.cls := findClass_of_methodNamed B.named
  have hlocks := B.notSynchronized
  have hl := lv_entry ([.ref h0, .int p0]) (n := 2) (Nat.le_of_ble_eq_true rfl)
  rw [lg_entry_eq]
  generalize (lg_sl ([.ref h0, .int p0]) ++ List.replicate (2 - (lg_sl ([.ref h0, .int p0])).length) Slot.unset).toArray = ls at hl ⊢
  have hl : lv_has ls 2 [(0, .ref h0), (1, .int p0)] := hl
  refine lv_iload_n hx hb dX11_sheetAt_0 rfl (lv_at hl 1 rfl) ?_
  refine lv_if_lt (tgt := 22) hx hb dX11_sheetAt_1 (by decide) (fun c9 => absurd c9 (by (try simp only [fa_lt, fa_le, fa_eq, fa_lt64, fa_le64, fa_eq64, Int32.reduceToInt, Int64.reduceToInt, zi_ite]) <;> omega)) (fun _ => ?_)
  refine lv_iload_n hx hb dX11_sheetAt_4 rfl (lv_at hl 1 rfl) ?_
  refine lv_aload_n hx hb dX11_sheetAt_5 rfl (lv_at hl 0 rfl) ?_
  refine va_get (D := (dC, dI)) (ci := 11) (v := .ref (ad 8)) (C := RX11) (T := TX11) (N := 13) hx hb hts (by decide +kernel) hown hK hP 0 rfl rfl 8 (by decide) (hts (.fieldLink RX11 66 "RedTent" "sheets" "[LRedTent$Sheet;") (by decide +kernel)) (fun _ h9 => h9) rfl dX11_sheetAt_6 ?_
  refine va_alen (v := 4) hx hb hK hP 1 0 rfl rfl rfl dX11_sheetAt_9 ?_
  refine lv_icmp_ge (tgt := 22) hx hb dX11_sheetAt_10 (by decide) (fun c9 => absurd c9 (by (try simp only [fa_lt, fa_le, fa_eq, fa_lt64, fa_le64, fa_eq64, Int32.reduceToInt, Int64.reduceToInt, zi_ite]) <;> omega)) (fun _ => ?_)
  refine lv_aload_n hx hb dX11_sheetAt_13 rfl (lv_at hl 0 rfl) ?_
  refine va_get (D := (dC, dI)) (ci := 11) (v := .ref (ad 8)) (C := RX11) (T := TX11) (N := 13) hx hb hts (by decide +kernel) hown hK hP 0 rfl rfl 8 (by decide) (hts (.fieldLink RX11 66 "RedTent" "sheets" "[LRedTent$Sheet;") (by decide +kernel)) (fun _ h9 => h9) rfl dX11_sheetAt_14 ?_
  refine lv_iload_n hx hb dX11_sheetAt_17 rfl (lv_at hl 1 rfl) ?_
  refine va_aldq hx hb hK hP 1 0 rfl rfl (vp_in_iff.mpr (by (try simp only [fa_lt, fa_le, fa_eq, fa_lt64, fa_le64, fa_eq64, Int32.reduceToInt, Int64.reduceToInt, zi_ite]) <;> omega)) dX11_sheetAt_18 ?_
  rw [show fs p0.toNatClampNeg = some ha from hfa]
  refine lv_goto (tgt := 23) hx hb dX11_sheetAt_19 (by decide) ?_
  exact W.aret (v := .ref ha) hx hb hr (Or.inl ⟨_, rfl⟩) (Or.inr ⟨_, rfl⟩) (fun t ht hW => ⟨some ha, rfl, rfl, ht⟩) (fun _ h => absurd h List.not_mem_nil) dX11_sheetAt_23
set_option maxHeartbeats 1000000 in
set_option maxRecDepth 100000 in
theorem rt_X11_sheetAtO (l : Launch) (dC : Nat → ClassId) (dI : Nat → Nat → Nat) (h0 : Nat) (ad : Nat → Nat) (cA : ClassId) (fs : Nat → Option Nat) (p0 : Int32) (hp : p0.toInt < 0 ∨ 4 ≤ p0.toInt) : Met l yX11_sheetAt wsX11_sheetAt ({ frames := 0, cells := 0, slots := 0, locals := 0 }) (va_Pc [.ref h0, .int p0] (fun U => va_P (dC, dI) vwCl [(h0, .inr (11, [.ref (ad 0), .ref (ad 1), .ref (ad 2), .ref (ad 3), .ref (ad 4), .ref (ad 5), .ref (ad 6), .ref (ad 7), .ref (ad 8), .int 0, .int 0, .int 0, .int 0])), (ad 8, .inl (cA, 4, .inr (.inr (.inr (.inr fs)))))] U.heap ∧ va_K (dC, dI) vwCl [(cA, .object RX7)] U)) (va_Sq (fun r : Option Nat => r = none)) 0 0 (fun _ => False) := by
  refine Met.ofW (cc := cX11_sheetAt) (maxL := 2) (ret := (some (.object "RedTent$Sheet"))) (by decide) rfl ?_
  intro p e s m args below meth c s₁ B hml hv
  obtain ⟨rfl, hP, hK⟩ := hv
  have hx := B.exec
  have hb := B.bytes
  have hr := B.returns
  have hts := atoms_spec (ws := wsX11_sheetAt) B.pre
  have hown : s.vm.findClass RX11 = some m.cls := findClass_of_methodNamed B.named
  have hlocks := B.notSynchronized
  have hl := lv_entry ([.ref h0, .int p0]) (n := 2) (Nat.le_of_ble_eq_true rfl)
  rw [lg_entry_eq]
  generalize (lg_sl ([.ref h0, .int p0]) ++ List.replicate (2 - (lg_sl ([.ref h0, .int p0])).length) Slot.unset).toArray = ls at hl ⊢
  have hl : lv_has ls 2 [(0, .ref h0), (1, .int p0)] := hl
  refine lv_iload_n hx hb dX11_sheetAt_0 rfl (lv_at hl 1 rfl) ?_
  refine lv_if_lt (tgt := 22) hx hb dX11_sheetAt_1 (by decide) (fun c_1 => ?_) (fun c_1 => ?_)
  · refine lv_null hx hb dX11_sheetAt_22 ?_
    exact W.aret (v := .null) hx hb hr (Or.inl ⟨_, rfl⟩) (Or.inl rfl) (fun t ht hW => ⟨none, rfl, rfl, ht⟩) (fun _ h => absurd h List.not_mem_nil) dX11_sheetAt_23
  · refine lv_iload_n hx hb dX11_sheetAt_4 rfl (lv_at hl 1 rfl) ?_
    refine lv_aload_n hx hb dX11_sheetAt_5 rfl (lv_at hl 0 rfl) ?_
    refine va_get (D := (dC, dI)) (ci := 11) (v := .ref (ad 8)) (C := RX11) (T := TX11) (N := 13) hx hb hts (by decide +kernel) hown hK hP 0 rfl rfl 8 (by decide) (hts (.fieldLink RX11 66 "RedTent" "sheets" "[LRedTent$Sheet;") (by decide +kernel)) (fun _ h9 => h9) rfl dX11_sheetAt_6 ?_
    refine va_alen (v := 4) hx hb hK hP 1 0 rfl rfl rfl dX11_sheetAt_9 ?_
    refine lv_icmp_ge (tgt := 22) hx hb dX11_sheetAt_10 (by decide) (fun _ => ?_) (fun c9 => absurd (by (try simp only [fa_lt, fa_le, fa_eq, fa_lt64, fa_le64, fa_eq64, Int32.reduceToInt, Int64.reduceToInt, zi_ite] at c_1 ⊢) <;> omega) c9)
    refine lv_null hx hb dX11_sheetAt_22 ?_
    exact W.aret (v := .null) hx hb hr (Or.inl ⟨_, rfl⟩) (Or.inl rfl) (fun t ht hW => ⟨none, rfl, rfl, ht⟩) (fun _ h => absurd h List.not_mem_nil) dX11_sheetAt_23
set_option maxHeartbeats 1000000 in
set_option maxRecDepth 100000 in
theorem rt_X7_become (l : Launch) (dC : Nat → ClassId) (dI : Nat → Nat → Nat) (sz : Nat) (h1 : Nat) (ah : Nat → Nat) (cB : ClassId) (g : Nat → Int32) (p0 p1 : Int32) : Met l yX7_become wsX7_become ({ frames := 0, cells := 0, slots := 0, locals := 0 }) (va_Pc [.ref h1, .int p0, .int p1] (fun U => U.heap.size = sz ∧ va_P (dC, dI) vwCl [(h1, .inr (7, [.ref (ah 0), .int (-1), .int 0])), (ah 0, .inl (cB, 40, .inl g))] U.heap ∧ va_K (dC, dI) vwCl [(cB, .int)] U ∧ va_D (fun _ => True) [(h1, .inr (7, [.ref (ah 0), .int (-1), .int 0])), (ah 0, .inl (cB, 40, .inl g))])) (va_Qv (fun u : Unit => match u with | () => True) (fun (u : Unit) (t : State) => match u with | () => True) (va_A [(h1, .inr (7, [.ref (ah 0), .int (-1), .int 0])), (ah 0, .inl (cB, 40, .inl g))] sz)) 0 0 (va_A [(h1, .inr (7, [.ref (ah 0), .int (-1), .int 0])), (ah 0, .inl (cB, 40, .inl g))] sz) := by
  refine Met.ofW (cc := cX7_become) (maxL := 4) (ret := none) (by decide) rfl ?_
  intro p e s m args below meth c s₁ B hml hv
  obtain ⟨rfl, hsz, hP, hK, hD0⟩ := hv
  have hx := B.exec
  have hb := B.bytes
  have hr := B.returns
  have hts := atoms_spec (ws := wsX7_become) B.pre
  have hown : s.vm.findClass RX7 = some m.cls := findClass_of_methodNamed B.named
  have hlocks := B.notSynchronized
  subst hsz
  have hD := hD0.self (sz := s.heap.size)
  generalize hAe : va_A [(h1, .inr (7, [.ref (ah 0), .int (-1), .int 0])), (ah 0, .inl (cB, 40, .inl g))] s.heap.size = A at hD  ⊢
  have hA : ∀ q : Nat, s.heap.size ≤ q → A q := fun q h => by rw [← hAe]; exact Or.inr h
  have hS : va_S A s.heap s.heap [] := va_S.rf
  have hl := lv_entry ([.ref h1, .int p0, .int p1]) (n := 4) (Nat.le_of_ble_eq_true rfl)
  rw [lg_entry_eq]
  generalize (lg_sl ([.ref h1, .int p0, .int p1]) ++ List.replicate (4 - (lg_sl ([.ref h1, .int p0, .int p1])).length) Slot.unset).toArray = ls at hl ⊢
  have hl : lv_has ls 4 [(0, .ref h1), (1, .int p0), (2, .int p1)] := hl
  refine lv_aload_n hx hb dX7_become_0 rfl (lv_at hl 0 rfl) ?_
  refine lv_iload_n hx hb dX7_become_1 rfl (lv_at hl 1 rfl) ?_
  refine va_put (D := (dC, dI)) (ci := 7) (v := .int p0) (ty := .int) (C := RX7) (T := TX7) (N := 3) hx hb hts (by decide +kernel) tyX7 tyX7_ok nmX7 hown hK hP hD hS 0 rfl rfl 1 (by decide) (hts (.fieldLink RX7 15 "RedTent$Sheet" "sort" "I") (by decide +kernel)) (fun _ h9 => h9) rfl (by decide +kernel) rfl rfl (Nat.le_of_ble_eq_true rfl) dX7_become_2 (fun H locs hP hD hS => ?_)
  have hP : va_P (dC, dI) vwCl [(h1, .inr (7, [.ref (ah 0), .int p0, .int 0])), (ah 0, .inl (cB, 40, .inl g))] H := hP
  have hD : va_D A [(h1, .inr (7, [.ref (ah 0), .int p0, .int 0])), (ah 0, .inl (cB, 40, .inl g))] := hD
  refine lv_aload_n hx hb dX7_become_5 rfl (lv_at hl 0 rfl) ?_
  refine lv_iload_n hx hb dX7_become_6 rfl (lv_at hl 2 rfl) ?_
  refine va_put (D := (dC, dI)) (ci := 7) (v := .int p1) (ty := .int) (C := RX7) (T := TX7) (N := 3) hx hb hts (by decide +kernel) tyX7 tyX7_ok nmX7 hown hK hP hD hS 0 rfl rfl 2 (by decide) (hts (.fieldLink RX7 19 "RedTent$Sheet" "size" "I") (by decide +kernel)) (fun _ h9 => h9) rfl (by decide +kernel) rfl rfl (Nat.le_of_ble_eq_true rfl) dX7_become_7 (fun H locs hP hD hS => ?_)
  have hP : va_P (dC, dI) vwCl [(h1, .inr (7, [.ref (ah 0), .int p0, .int p1])), (ah 0, .inl (cB, 40, .inl g))] H := hP
  have hD : va_D A [(h1, .inr (7, [.ref (ah 0), .int p0, .int p1])), (ah 0, .inl (cB, 40, .inl g))] := hD
  refine lv_iconst (v := 0) hx hb dX7_become_10 (by decide) ?_
  refine lv_istore_n (lv' := [(3, .int 0), (0, .ref h1), (1, .int p0), (2, .int p1)]) hx hb dX7_become_11 rfl hl (by decide) rfl (fun ls hl => ?_)
  have lp : ∀ (n : Nat) (xlp : Int32) (g0 : Nat → Int32), (40 - xlp.toInt).toNat < n → 0 ≤ xlp.toInt → xlp.toInt ≤ 40 → ∀ (H : Heap) (locs : List Loc), va_P (dC, dI) vwCl [(h1, .inr (7, [.ref (ah 0), .int p0, .int p1])), (ah 0, .inl (cB, 40, .inl g0))] H → va_D A [(h1, .inr (7, [.ref (ah 0), .int p0, .int p1])), (ah 0, .inl (cB, 40, .inl g0))] → va_S A s.heap H locs → ∀ (ls : Array Slot), lv_has ls 4 [(3, .int xlp), (0, .ref h1), (1, .int p0), (2, .int p1)] → W p l e (headSpec wsX7_become ({ frames := 0, cells := 0, slots := 0, locals := 0 })).room s m ([.ref h1, .int p0, .int p1] : List Value).toArray below meth c H locs 0 0 (MQ below (va_Qv (fun u : Unit => match u with | () => True) (fun (u : Unit) (t : State) => match u with | () => True) A) ([.ref h1, .int p0, .int p1] : List Value).toArray s 0 0 A) (F0 m 12 ls []) := by
    intro n
    induction n with
    | zero => intro xlp g0 hm; exact absurd hm (Nat.not_lt_zero _)
    | succ n ih =>
      intro xlp g0 hm h0lp h1lp H locs hP hD hS ls hl
      refine lv_iload_n hx hb dX7_become_12 rfl (lv_at hl 0 rfl) ?_
      refine lv_bipush (v := 40) hx hb dX7_become_13 (by decide) ?_
      refine lv_icmp_ge (tgt := 31) hx hb dX7_become_15 (by decide) (fun c_1 => ?_) (fun c_1 => ?_)
      · refine W.widen (k := 0) (n := 0) (by decide +kernel) (by decide +kernel) ?_
        exact W.vret hx hb hr (fun t ht hW => ⟨⟨(), rfl, trivial, trivial⟩, hS.F ht⟩) hS.2.2 dX7_become_31
      · refine lv_aload_n hx hb dX7_become_18 rfl (lv_at hl 1 rfl) ?_
        refine va_get (D := (dC, dI)) (ci := 7) (v := .ref (ah 0)) (C := RX7) (T := TX7) (N := 3) hx hb hts (by decide +kernel) hown hK hP 0 rfl rfl 0 (by decide) (hts (.fieldLink RX7 9 "RedTent$Sheet" "items" "[I") (by decide +kernel)) (fun _ h9 => h9) rfl dX7_become_19 ?_
        refine lv_iload_n hx hb dX7_become_22 rfl (lv_at hl 0 rfl) ?_
        refine lv_iconst (v := 0) hx hb dX7_become_23 (by decide) ?_
        refine va_iast hx hb hK hP hD hS 1 0 rfl rfl (vp_in_iff.mpr (by (try simp only [fa_lt, fa_le, fa_eq, fa_lt64, fa_le64, fa_eq64, Int32.reduceToInt, Int64.reduceToInt, zi_ite] at hm h0lp h1lp c_1 ⊢) <;> omega)) dX7_become_24 (fun H locs hP hD hS => ?_)
        have hP : va_P (dC, dI) vwCl [(h1, .inr (7, [.ref (ah 0), .int p0, .int p1])), (ah 0, .inl (cB, 40, .inl (upd g0 xlp.toNatClampNeg 0)))] H := hP
        have hD : va_D A [(h1, .inr (7, [.ref (ah 0), .int p0, .int p1])), (ah 0, .inl (cB, 40, .inl (upd g0 xlp.toNatClampNeg 0)))] := hD
        obtain ⟨x_2, ex_2⟩ : ∃ y : Int32, y = xlp + 1 := ⟨_, rfl⟩
        refine lv_iinc (v := x_2) (lv' := [(3, .int x_2), (0, .ref h1), (1, .int p0), (2, .int p1)]) hx hb dX7_become_25 hl (k := 0) rfl (by rw [ex_2]; rfl) (by decide) rfl (fun ls hl => ?_)
        refine lv_goto (tgt := 12) hx hb dX7_become_28 (by decide) ?_
        try simp only [fa_lt, fa_le, fa_eq, fa_lt64, fa_le64, fa_eq64, Int32.reduceToInt, Int64.reduceToInt, zi_ite] at hm
        try simp only [fa_lt, fa_le, fa_eq, fa_lt64, fa_le64, fa_eq64, Int32.reduceToInt, Int64.reduceToInt, zi_ite] at h0lp
        try simp only [fa_lt, fa_le, fa_eq, fa_lt64, fa_le64, fa_eq64, Int32.reduceToInt, Int64.reduceToInt, zi_ite] at h1lp
        try simp only [fa_lt, fa_le, fa_eq, fa_lt64, fa_le64, fa_eq64, Int32.reduceToInt, Int64.reduceToInt, zi_ite] at c_1
        have tx_2 : x_2.toInt = xlp.toInt + 1 := by rw [ex_2]; exact zi_inc (by omega)
        exact ih x_2 (upd g0 xlp.toNatClampNeg 0) (by omega) (by omega) (by omega) _ _ hP hD hS ls (lv_sub hl [0, 1, 2, 3] rfl)
  exact lp _ 0 g (Nat.lt_succ_self _) (by (try simp only [fa_lt, fa_le, fa_eq, fa_lt64, fa_le64, fa_eq64, Int32.reduceToInt, Int64.reduceToInt, zi_ite]) <;> omega) (by (try simp only [fa_lt, fa_le, fa_eq, fa_lt64, fa_le64, fa_eq64, Int32.reduceToInt, Int64.reduceToInt, zi_ite]) <;> omega) _ _ hP hD hS ls hl
set_option maxHeartbeats 1000000 in
set_option maxRecDepth 100000 in
theorem rt_X11_sheetI (l : Launch) (dC : Nat → ClassId) (dI : Nat → Nat → Nat) (sz : Nat) (h0 : Nat) (ad : Nat → Nat) (cA : ClassId) (fs : Nat → Option Nat) (ha : Nat) (ah : Nat → Nat) (cB : ClassId) (g : Nat → Int32) (p0 p1 p2 : Int32) (hp : 0 ≤ p0.toInt ∧ p0.toInt < 4) (hfa : fs p0.toNatClampNeg = some ha) : Met l yX11_sheet wsX11_sheet ({ frames := 1, cells := 0, slots := 0, locals := 23 }) (va_Pc [.ref h0, .int p0, .int p1, .int p2] (fun U => U.heap.size = sz ∧ va_P (dC, dI) vwCl [(h0, .inr (11, [.ref (ad 0), .ref (ad 1), .ref (ad 2), .ref (ad 3), .ref (ad 4), .ref (ad 5), .ref (ad 6), .ref (ad 7), .ref (ad 8), .int 0, .int 0, .int 0, .int 0])), (ad 8, .inl (cA, 4, .inr (.inr (.inr (.inr fs))))), (ha, .inr (7, [.ref (ah 0), .int (-1), .int 0])), (ah 0, .inl (cB, 40, .inl g))] U.heap ∧ va_K (dC, dI) vwCl [(cA, .object RX7), (cB, .int)] U ∧ va_D (fun _ => True) [(h0, .inr (11, [.ref (ad 0), .ref (ad 1), .ref (ad 2), .ref (ad 3), .ref (ad 4), .ref (ad 5), .ref (ad 6), .ref (ad 7), .ref (ad 8), .int 0, .int 0, .int 0, .int 0])), (ad 8, .inl (cA, 4, .inr (.inr (.inr (.inr fs))))), (ha, .inr (7, [.ref (ah 0), .int (-1), .int 0])), (ah 0, .inl (cB, 40, .inl g))])) (va_Qi (fun (r : Int32) (u : Unit) => match u with | () => ((¬ (-1 ≤ p1 ∧ p1 ≤ 2)) ∧ r = (-2)) ∨ ((p1 = -1) ∧ r = 1) ∨ ((0 ≤ p1 ∧ p1 ≤ 2 ∧ 40 < p2) ∧ r = (-2)) ∨ ((0 ≤ p1 ∧ p1 ≤ 2 ∧ p2 < 0) ∧ r = (-14)) ∨ ((0 ≤ p1 ∧ p1 ≤ 2 ∧ 0 ≤ p2 ∧ p2 ≤ 40) ∧ r = 1)) (fun (u : Unit) (t : State) => match u with | () => True) (va_A [(h0, .inr (11, [.ref (ad 0), .ref (ad 1), .ref (ad 2), .ref (ad 3), .ref (ad 4), .ref (ad 5), .ref (ad 6), .ref (ad 7), .ref (ad 8), .int 0, .int 0, .int 0, .int 0])), (ad 8, .inl (cA, 4, .inr (.inr (.inr (.inr fs))))), (ha, .inr (7, [.ref (ah 0), .int (-1), .int 0])), (ah 0, .inl (cB, 40, .inl g))] sz)) 0 0 (va_A [(h0, .inr (11, [.ref (ad 0), .ref (ad 1), .ref (ad 2), .ref (ad 3), .ref (ad 4), .ref (ad 5), .ref (ad 6), .ref (ad 7), .ref (ad 8), .int 0, .int 0, .int 0, .int 0])), (ad 8, .inl (cA, 4, .inr (.inr (.inr (.inr fs))))), (ha, .inr (7, [.ref (ah 0), .int (-1), .int 0])), (ah 0, .inl (cB, 40, .inl g))] sz) := by
  refine Met.ofW (cc := cX11_sheet) (maxL := 5) (ret := (some .int)) (by decide) rfl ?_
  intro p e s m args below meth c s₁ B hml hv
  obtain ⟨rfl, hsz, hP, hK, hD0⟩ := hv
  have hx := B.exec
  have hb := B.bytes
  have hr := B.returns
  have hts := atoms_spec (ws := wsX11_sheet) B.pre
  have hown : s.vm.findClass RX11 = some m.cls := findClass_of_methodNamed B.named
  have hlocks := B.notSynchronized
  subst hsz
  have hD := hD0.self (sz := s.heap.size)
  generalize hAe : va_A [(h0, .inr (11, [.ref (ad 0), .ref (ad 1), .ref (ad 2), .ref (ad 3), .ref (ad 4), .ref (ad 5), .ref (ad 6), .ref (ad 7), .ref (ad 8), .int 0, .int 0, .int 0, .int 0])), (ad 8, .inl (cA, 4, .inr (.inr (.inr (.inr fs))))), (ha, .inr (7, [.ref (ah 0), .int (-1), .int 0])), (ah 0, .inl (cB, 40, .inl g))] s.heap.size = A at hD  ⊢
  have hA : ∀ q : Nat, s.heap.size ≤ q → A q := fun q h => by rw [← hAe]; exact Or.inr h
  have hS : va_S A s.heap s.heap [] := va_S.rf
  have hl := lv_entry ([.ref h0, .int p0, .int p1, .int p2]) (n := 5) (Nat.le_of_ble_eq_true rfl)
  rw [lg_entry_eq]
  generalize (lg_sl ([.ref h0, .int p0, .int p1, .int p2]) ++ List.replicate (5 - (lg_sl ([.ref h0, .int p0, .int p1, .int p2])).length) Slot.unset).toArray = ls at hl ⊢
  have hl : lv_has ls 5 [(0, .ref h0), (1, .int p0), (2, .int p1), (3, .int p2)] := hl
  refine lv_aload_n hx hb dX11_sheet_0 rfl (lv_at hl 0 rfl) ?_
  refine lv_iload_n hx hb dX11_sheet_1 rfl (lv_at hl 1 rfl) ?_
  have hPc := hP.sub (ws' := [(h0, .inr (11, [.ref (ad 0), .ref (ad 1), .ref (ad 2), .ref (ad 3), .ref (ad 4), .ref (ad 5), .ref (ad 6), .ref (ad 7), .ref (ad 8), .int 0, .int 0, .int 0, .int 0])), (ad 8, .inl (cA, 4, .inr (.inr (.inr (.inr fs)))))]) [0, 1] rfl
  have hKc := hK.sub (tys' := [(cA, .object RX7)]) [0] rfl
  refine va_csq (va_Run.run (va_runV (As := [.int p0]) (rest := []) ⟨hx, hb, hml, hown, hts⟩ (rt_X11_sheetAtI l dC dI h0 ad cA fs ha p0 hp hfa) (cwV 1 hts gX11_sheet_X11_sheetAt rfl rfl rfl (by decide +kernel) ⟨Nat.le_of_ble_eq_true rfl, Nat.le_of_ble_eq_true rfl⟩) ⟨fun a U g mk q => by obtain ⟨q0, qP, qK⟩ := q; exact ⟨q0, qP, va_K.moved (u := U) (U := U.calling g mk a) (Vm.Alike.refl U.vm) qK⟩, va_recv hKc hPc (ci := 11) (q0 := 0) rfl rfl, fun U hU hW => ⟨rfl, by rw [hU]; exact hPc, va_K.moved hW.alike hKc⟩⟩ rfl rfl hl.1 rfl (lv_room (Nat.le_of_ble_eq_true rfl)) dX11_sheet_2 ⟨by decide +kernel, by decide +kernel⟩)) (fun r_1 hr_1 => ?_)
  obtain rfl := hr_1
  refine lv_astore (lv' := [(4, .ref ha), (0, .ref h0), (1, .int p0), (2, .int p1), (3, .int p2)]) hx hb dX11_sheet_5 hl (by decide) rfl (fun ls hl => ?_)
  refine lv_aload hx hb dX11_sheet_7 (lv_at hl 0 rfl) ?_
  refine lv_ifnull hx hb dX11_sheet_9 ?_
  refine lv_iload_n hx hb dX11_sheet_12 rfl (lv_at hl 3 rfl) ?_
  refine lv_iconst (v := (-1)) hx hb dX11_sheet_13 (by decide) ?_
  refine lv_icmp_lt (tgt := 22) hx hb dX11_sheet_14 (by decide) (fun c_2 => ?_) (fun c_2 => ?_)
  · refine lv_bipush (v := (-2)) hx hb dX11_sheet_22 (by decide) ?_
    have hpost : ((¬ (-1 ≤ p1 ∧ p1 ≤ 2)) ∧ ((-2) : Int32) = (-2)) ∨ ((p1 = -1) ∧ ((-2) : Int32) = 1) ∨ ((0 ≤ p1 ∧ p1 ≤ 2 ∧ 40 < p2) ∧ ((-2) : Int32) = (-2)) ∨ ((0 ≤ p1 ∧ p1 ≤ 2 ∧ p2 < 0) ∧ ((-2) : Int32) = (-14)) ∨ ((0 ≤ p1 ∧ p1 ≤ 2 ∧ 0 ≤ p2 ∧ p2 ≤ 40) ∧ ((-2) : Int32) = 1) := by
      try simp only [fa_lt, fa_le, fa_eq, fa_lt64, fa_le64, fa_eq64, Int32.reduceToInt, Int64.reduceToInt, zi_ite] at c_2
      first
      | exact Or.inl ⟨by (try simp only [fa_lt, fa_le, fa_eq, fa_lt64, fa_le64, fa_eq64, Int32.reduceToInt, Int64.reduceToInt, zi_ite]); omega, rfl⟩
      | exact Or.inr (Or.inl ⟨by (try simp only [fa_lt, fa_le, fa_eq, fa_lt64, fa_le64, fa_eq64, Int32.reduceToInt, Int64.reduceToInt, zi_ite]); omega, rfl⟩)
      | exact Or.inr (Or.inr (Or.inl ⟨by (try simp only [fa_lt, fa_le, fa_eq, fa_lt64, fa_le64, fa_eq64, Int32.reduceToInt, Int64.reduceToInt, zi_ite]); omega, rfl⟩))
      | exact Or.inr (Or.inr (Or.inr (Or.inl ⟨by (try simp only [fa_lt, fa_le, fa_eq, fa_lt64, fa_le64, fa_eq64, Int32.reduceToInt, Int64.reduceToInt, zi_ite]); omega, rfl⟩)))
      | exact Or.inr (Or.inr (Or.inr (Or.inr (⟨by (try simp only [fa_lt, fa_le, fa_eq, fa_lt64, fa_le64, fa_eq64, Int32.reduceToInt, Int64.reduceToInt, zi_ite]); omega, rfl⟩))))
    refine W.widen (k := 0) (n := 0) (by decide +kernel) (by decide +kernel) ?_
    exact W.iret (v := (-2)) hx hb hr (fun t ht hW => ⟨⟨(-2), (), rfl, hpost, trivial⟩, hS.F ht⟩) hS.2.2 dX11_sheet_24
  · refine lv_iload_n hx hb dX11_sheet_17 rfl (lv_at hl 3 rfl) ?_
    refine lv_iconst (v := 3) hx hb dX11_sheet_18 (by decide) ?_
    refine lv_icmp_lt (tgt := 25) hx hb dX11_sheet_19 (by decide) (fun c_3 => ?_) (fun c_3 => ?_)
    · refine lv_iload_n hx hb dX11_sheet_25 rfl (lv_at hl 3 rfl) ?_
      refine lv_iconst (v := (-1)) hx hb dX11_sheet_26 (by decide) ?_
      refine lv_icmp_ne (tgt := 39) hx hb dX11_sheet_27 (by decide) (fun c_4 => ?_) (fun c_4 => ?_)
      · refine lv_iload_n hx hb dX11_sheet_39 rfl (lv_at hl 4 rfl) ?_
        refine lv_bipush (v := 40) hx hb dX11_sheet_40 (by decide) ?_
        refine lv_icmp_le (tgt := 48) hx hb dX11_sheet_42 (by decide) (fun c_5 => ?_) (fun c_5 => ?_)
        · refine lv_iload_n hx hb dX11_sheet_48 rfl (lv_at hl 4 rfl) ?_
          refine lv_if_ge (tgt := 55) hx hb dX11_sheet_49 (by decide) (fun c_6 => ?_) (fun c_6 => ?_)
          · refine lv_aload hx hb dX11_sheet_55 (lv_at hl 0 rfl) ?_
            refine lv_iload_n hx hb dX11_sheet_57 rfl (lv_at hl 3 rfl) ?_
            refine lv_iload_n hx hb dX11_sheet_58 rfl (lv_at hl 4 rfl) ?_
            have hPc := hP.sub (ws' := [(ha, .inr (7, [.ref (ah 0), .int (-1), .int 0])), (ah 0, .inl (cB, 40, .inl g))]) [2, 3] rfl
            have hKc := hK.sub (tys' := [(cB, .int)]) [1] rfl
            have hDc := hD.sub (ws' := [(ha, .inr (7, [.ref (ah 0), .int (-1), .int 0])), (ah 0, .inl (cB, 40, .inl g))]) [2, 3] (by decide) rfl
            have hFc := va_free (wc := [(ha, .inr (7, [.ref (ah 0), .int (-1), .int 0])), (ah 0, .inl (cB, 40, .inl g))]) hD hS hA [2, 3] rfl
            refine va_callv (va_runV (As := [.int p1, .int p2]) (rest := []) ⟨hx, hb, hml, hown, hts⟩ (rt_X7_become l dC dI s.heap.size ha ah cB g p1 p2) (cwV 2 hts gX11_sheet_X7_become rfl rfl rfl (by decide +kernel) ⟨Nat.le_of_ble_eq_true rfl, Nat.le_of_ble_eq_true rfl⟩) ⟨fun a U g mk q => by obtain ⟨q0, q1, qP, qK, qD⟩ := q; exact ⟨q0, q1, qP, va_K.moved (u := U) (U := U.calling g mk a) (Vm.Alike.refl U.vm) qK, qD⟩, va_recv hKc hPc (ci := 7) (q0 := 0) rfl rfl, fun U hU hW => ⟨rfl, by rw [hU], by rw [hU]; exact hPc, va_K.moved hW.alike hKc, hDc.weaken (fun _ _ _ _ => trivial)⟩⟩ rfl rfl hl.1 rfl (lv_room (Nat.le_of_ble_eq_true rfl)) dX11_sheet_59 ⟨by decide +kernel, by decide +kernel⟩) hS (fun q _ h => hFc q h) hFc (fun u t H1 locs ht hvm hr_7 hB hz1 hk1 hS => ?_)
            obtain ⟨⟩ := u
            have hP1 : va_P (dC, dI) vwCl [] H1 := fun k q h => by simp at h
            have hD1 : va_D (va_A [(ha, .inr (7, [.ref (ah 0), .int (-1), .int 0])), (ah 0, .inl (cB, 40, .inl g))] s.heap.size) [] := ⟨fun i j p q h => by simp at h, fun k q h => by simp at h⟩
            obtain ⟨hP, hD⟩ := va_join (wr := [(h0, .inr (11, [.ref (ad 0), .ref (ad 1), .ref (ad 2), .ref (ad 3), .ref (ad 4), .ref (ad 5), .ref (ad 6), .ref (ad 7), .ref (ad 8), .int 0, .int 0, .int 0, .int 0])), (ad 8, .inl (cA, 4, .inr (.inr (.inr (.inr fs)))))]) (w1 := []) hP hD [2, 3] [0, 1] rfl rfl (by decide) (by decide) hk1 hFc hP1 hD1
            generalize H1 = H at hP hS ⊢
            have hP : va_P (dC, dI) vwCl [(h0, .inr (11, [.ref (ad 0), .ref (ad 1), .ref (ad 2), .ref (ad 3), .ref (ad 4), .ref (ad 5), .ref (ad 6), .ref (ad 7), .ref (ad 8), .int 0, .int 0, .int 0, .int 0])), (ad 8, .inl (cA, 4, .inr (.inr (.inr (.inr fs)))))] H := hP
            have hD : va_D A [(h0, .inr (11, [.ref (ad 0), .ref (ad 1), .ref (ad 2), .ref (ad 3), .ref (ad 4), .ref (ad 5), .ref (ad 6), .ref (ad 7), .ref (ad 8), .int 0, .int 0, .int 0, .int 0])), (ad 8, .inl (cA, 4, .inr (.inr (.inr (.inr fs)))))] := hD
            refine lv_iconst (v := 1) hx hb dX11_sheet_62 (by decide) ?_
            have hpost : ((¬ (-1 ≤ p1 ∧ p1 ≤ 2)) ∧ (1 : Int32) = (-2)) ∨ ((p1 = -1) ∧ (1 : Int32) = 1) ∨ ((0 ≤ p1 ∧ p1 ≤ 2 ∧ 40 < p2) ∧ (1 : Int32) = (-2)) ∨ ((0 ≤ p1 ∧ p1 ≤ 2 ∧ p2 < 0) ∧ (1 : Int32) = (-14)) ∨ ((0 ≤ p1 ∧ p1 ≤ 2 ∧ 0 ≤ p2 ∧ p2 ≤ 40) ∧ (1 : Int32) = 1) := by
              try simp only [fa_lt, fa_le, fa_eq, fa_lt64, fa_le64, fa_eq64, Int32.reduceToInt, Int64.reduceToInt, zi_ite] at c_2
              try simp only [fa_lt, fa_le, fa_eq, fa_lt64, fa_le64, fa_eq64, Int32.reduceToInt, Int64.reduceToInt, zi_ite] at c_3
              try simp only [fa_lt, fa_le, fa_eq, fa_lt64, fa_le64, fa_eq64, Int32.reduceToInt, Int64.reduceToInt, zi_ite] at c_4
              try simp only [fa_lt, fa_le, fa_eq, fa_lt64, fa_le64, fa_eq64, Int32.reduceToInt, Int64.reduceToInt, zi_ite] at c_5
              try simp only [fa_lt, fa_le, fa_eq, fa_lt64, fa_le64, fa_eq64, Int32.reduceToInt, Int64.reduceToInt, zi_ite] at c_6
              first
              | exact Or.inl ⟨by (try simp only [fa_lt, fa_le, fa_eq, fa_lt64, fa_le64, fa_eq64, Int32.reduceToInt, Int64.reduceToInt, zi_ite]); omega, rfl⟩
              | exact Or.inr (Or.inl ⟨by (try simp only [fa_lt, fa_le, fa_eq, fa_lt64, fa_le64, fa_eq64, Int32.reduceToInt, Int64.reduceToInt, zi_ite]); omega, rfl⟩)
              | exact Or.inr (Or.inr (Or.inl ⟨by (try simp only [fa_lt, fa_le, fa_eq, fa_lt64, fa_le64, fa_eq64, Int32.reduceToInt, Int64.reduceToInt, zi_ite]); omega, rfl⟩))
              | exact Or.inr (Or.inr (Or.inr (Or.inl ⟨by (try simp only [fa_lt, fa_le, fa_eq, fa_lt64, fa_le64, fa_eq64, Int32.reduceToInt, Int64.reduceToInt, zi_ite]); omega, rfl⟩)))
              | exact Or.inr (Or.inr (Or.inr (Or.inr (⟨by (try simp only [fa_lt, fa_le, fa_eq, fa_lt64, fa_le64, fa_eq64, Int32.reduceToInt, Int64.reduceToInt, zi_ite]); omega, rfl⟩))))
            refine W.widen (k := 0) (n := 0) (by decide +kernel) (by decide +kernel) ?_
            exact W.iret (v := 1) hx hb hr (fun t ht hW => ⟨⟨1, (), rfl, hpost, trivial⟩, hS.F ht⟩) hS.2.2 dX11_sheet_63
          · refine lv_bipush (v := (-14)) hx hb dX11_sheet_52 (by decide) ?_
            have hpost : ((¬ (-1 ≤ p1 ∧ p1 ≤ 2)) ∧ ((-14) : Int32) = (-2)) ∨ ((p1 = -1) ∧ ((-14) : Int32) = 1) ∨ ((0 ≤ p1 ∧ p1 ≤ 2 ∧ 40 < p2) ∧ ((-14) : Int32) = (-2)) ∨ ((0 ≤ p1 ∧ p1 ≤ 2 ∧ p2 < 0) ∧ ((-14) : Int32) = (-14)) ∨ ((0 ≤ p1 ∧ p1 ≤ 2 ∧ 0 ≤ p2 ∧ p2 ≤ 40) ∧ ((-14) : Int32) = 1) := by
              try simp only [fa_lt, fa_le, fa_eq, fa_lt64, fa_le64, fa_eq64, Int32.reduceToInt, Int64.reduceToInt, zi_ite] at c_2
              try simp only [fa_lt, fa_le, fa_eq, fa_lt64, fa_le64, fa_eq64, Int32.reduceToInt, Int64.reduceToInt, zi_ite] at c_3
              try simp only [fa_lt, fa_le, fa_eq, fa_lt64, fa_le64, fa_eq64, Int32.reduceToInt, Int64.reduceToInt, zi_ite] at c_4
              try simp only [fa_lt, fa_le, fa_eq, fa_lt64, fa_le64, fa_eq64, Int32.reduceToInt, Int64.reduceToInt, zi_ite] at c_5
              try simp only [fa_lt, fa_le, fa_eq, fa_lt64, fa_le64, fa_eq64, Int32.reduceToInt, Int64.reduceToInt, zi_ite] at c_6
              first
              | exact Or.inl ⟨by (try simp only [fa_lt, fa_le, fa_eq, fa_lt64, fa_le64, fa_eq64, Int32.reduceToInt, Int64.reduceToInt, zi_ite]); omega, rfl⟩
              | exact Or.inr (Or.inl ⟨by (try simp only [fa_lt, fa_le, fa_eq, fa_lt64, fa_le64, fa_eq64, Int32.reduceToInt, Int64.reduceToInt, zi_ite]); omega, rfl⟩)
              | exact Or.inr (Or.inr (Or.inl ⟨by (try simp only [fa_lt, fa_le, fa_eq, fa_lt64, fa_le64, fa_eq64, Int32.reduceToInt, Int64.reduceToInt, zi_ite]); omega, rfl⟩))
              | exact Or.inr (Or.inr (Or.inr (Or.inl ⟨by (try simp only [fa_lt, fa_le, fa_eq, fa_lt64, fa_le64, fa_eq64, Int32.reduceToInt, Int64.reduceToInt, zi_ite]); omega, rfl⟩)))
              | exact Or.inr (Or.inr (Or.inr (Or.inr (⟨by (try simp only [fa_lt, fa_le, fa_eq, fa_lt64, fa_le64, fa_eq64, Int32.reduceToInt, Int64.reduceToInt, zi_ite]); omega, rfl⟩))))
            refine W.widen (k := 0) (n := 0) (by decide +kernel) (by decide +kernel) ?_
            exact W.iret (v := (-14)) hx hb hr (fun t ht hW => ⟨⟨(-14), (), rfl, hpost, trivial⟩, hS.F ht⟩) hS.2.2 dX11_sheet_54
        · refine lv_bipush (v := (-2)) hx hb dX11_sheet_45 (by decide) ?_
          have hpost : ((¬ (-1 ≤ p1 ∧ p1 ≤ 2)) ∧ ((-2) : Int32) = (-2)) ∨ ((p1 = -1) ∧ ((-2) : Int32) = 1) ∨ ((0 ≤ p1 ∧ p1 ≤ 2 ∧ 40 < p2) ∧ ((-2) : Int32) = (-2)) ∨ ((0 ≤ p1 ∧ p1 ≤ 2 ∧ p2 < 0) ∧ ((-2) : Int32) = (-14)) ∨ ((0 ≤ p1 ∧ p1 ≤ 2 ∧ 0 ≤ p2 ∧ p2 ≤ 40) ∧ ((-2) : Int32) = 1) := by
            try simp only [fa_lt, fa_le, fa_eq, fa_lt64, fa_le64, fa_eq64, Int32.reduceToInt, Int64.reduceToInt, zi_ite] at c_2
            try simp only [fa_lt, fa_le, fa_eq, fa_lt64, fa_le64, fa_eq64, Int32.reduceToInt, Int64.reduceToInt, zi_ite] at c_3
            try simp only [fa_lt, fa_le, fa_eq, fa_lt64, fa_le64, fa_eq64, Int32.reduceToInt, Int64.reduceToInt, zi_ite] at c_4
            try simp only [fa_lt, fa_le, fa_eq, fa_lt64, fa_le64, fa_eq64, Int32.reduceToInt, Int64.reduceToInt, zi_ite] at c_5
            first
            | exact Or.inl ⟨by (try simp only [fa_lt, fa_le, fa_eq, fa_lt64, fa_le64, fa_eq64, Int32.reduceToInt, Int64.reduceToInt, zi_ite]); omega, rfl⟩
            | exact Or.inr (Or.inl ⟨by (try simp only [fa_lt, fa_le, fa_eq, fa_lt64, fa_le64, fa_eq64, Int32.reduceToInt, Int64.reduceToInt, zi_ite]); omega, rfl⟩)
            | exact Or.inr (Or.inr (Or.inl ⟨by (try simp only [fa_lt, fa_le, fa_eq, fa_lt64, fa_le64, fa_eq64, Int32.reduceToInt, Int64.reduceToInt, zi_ite]); omega, rfl⟩))
            | exact Or.inr (Or.inr (Or.inr (Or.inl ⟨by (try simp only [fa_lt, fa_le, fa_eq, fa_lt64, fa_le64, fa_eq64, Int32.reduceToInt, Int64.reduceToInt, zi_ite]); omega, rfl⟩)))
            | exact Or.inr (Or.inr (Or.inr (Or.inr (⟨by (try simp only [fa_lt, fa_le, fa_eq, fa_lt64, fa_le64, fa_eq64, Int32.reduceToInt, Int64.reduceToInt, zi_ite]); omega, rfl⟩))))
          refine W.widen (k := 0) (n := 0) (by decide +kernel) (by decide +kernel) ?_
          exact W.iret (v := (-2)) hx hb hr (fun t ht hW => ⟨⟨(-2), (), rfl, hpost, trivial⟩, hS.F ht⟩) hS.2.2 dX11_sheet_47
      · refine lv_aload hx hb dX11_sheet_30 (lv_at hl 0 rfl) ?_
        refine lv_iload_n hx hb dX11_sheet_32 rfl (lv_at hl 3 rfl) ?_
        refine lv_iconst (v := 0) hx hb dX11_sheet_33 (by decide) ?_
        have hPc := hP.sub (ws' := [(ha, .inr (7, [.ref (ah 0), .int (-1), .int 0])), (ah 0, .inl (cB, 40, .inl g))]) [2, 3] rfl
        have hKc := hK.sub (tys' := [(cB, .int)]) [1] rfl
        have hDc := hD.sub (ws' := [(ha, .inr (7, [.ref (ah 0), .int (-1), .int 0])), (ah 0, .inl (cB, 40, .inl g))]) [2, 3] (by decide) rfl
        have hFc := va_free (wc := [(ha, .inr (7, [.ref (ah 0), .int (-1), .int 0])), (ah 0, .inl (cB, 40, .inl g))]) hD hS hA [2, 3] rfl
        refine va_callv (va_runV (As := [.int p1, .int 0]) (rest := []) ⟨hx, hb, hml, hown, hts⟩ (rt_X7_become l dC dI s.heap.size ha ah cB g p1 0) (cwV 2 hts gX11_sheet_X7_become rfl rfl rfl (by decide +kernel) ⟨Nat.le_of_ble_eq_true rfl, Nat.le_of_ble_eq_true rfl⟩) ⟨fun a U g mk q => by obtain ⟨q0, q1, qP, qK, qD⟩ := q; exact ⟨q0, q1, qP, va_K.moved (u := U) (U := U.calling g mk a) (Vm.Alike.refl U.vm) qK, qD⟩, va_recv hKc hPc (ci := 7) (q0 := 0) rfl rfl, fun U hU hW => ⟨rfl, by rw [hU], by rw [hU]; exact hPc, va_K.moved hW.alike hKc, hDc.weaken (fun _ _ _ _ => trivial)⟩⟩ rfl rfl hl.1 rfl (lv_room (Nat.le_of_ble_eq_true rfl)) dX11_sheet_34 ⟨by decide +kernel, by decide +kernel⟩) hS (fun q _ h => hFc q h) hFc (fun u t H1 locs ht hvm hr_8 hB hz1 hk1 hS => ?_)
        obtain ⟨⟩ := u
        have hP1 : va_P (dC, dI) vwCl [] H1 := fun k q h => by simp at h
        have hD1 : va_D (va_A [(ha, .inr (7, [.ref (ah 0), .int (-1), .int 0])), (ah 0, .inl (cB, 40, .inl g))] s.heap.size) [] := ⟨fun i j p q h => by simp at h, fun k q h => by simp at h⟩
        obtain ⟨hP, hD⟩ := va_join (wr := [(h0, .inr (11, [.ref (ad 0), .ref (ad 1), .ref (ad 2), .ref (ad 3), .ref (ad 4), .ref (ad 5), .ref (ad 6), .ref (ad 7), .ref (ad 8), .int 0, .int 0, .int 0, .int 0])), (ad 8, .inl (cA, 4, .inr (.inr (.inr (.inr fs)))))]) (w1 := []) hP hD [2, 3] [0, 1] rfl rfl (by decide) (by decide) hk1 hFc hP1 hD1
        generalize H1 = H at hP hS ⊢
        have hP : va_P (dC, dI) vwCl [(h0, .inr (11, [.ref (ad 0), .ref (ad 1), .ref (ad 2), .ref (ad 3), .ref (ad 4), .ref (ad 5), .ref (ad 6), .ref (ad 7), .ref (ad 8), .int 0, .int 0, .int 0, .int 0])), (ad 8, .inl (cA, 4, .inr (.inr (.inr (.inr fs)))))] H := hP
        have hD : va_D A [(h0, .inr (11, [.ref (ad 0), .ref (ad 1), .ref (ad 2), .ref (ad 3), .ref (ad 4), .ref (ad 5), .ref (ad 6), .ref (ad 7), .ref (ad 8), .int 0, .int 0, .int 0, .int 0])), (ad 8, .inl (cA, 4, .inr (.inr (.inr (.inr fs)))))] := hD
        refine lv_iconst (v := 1) hx hb dX11_sheet_37 (by decide) ?_
        have hpost : ((¬ (-1 ≤ p1 ∧ p1 ≤ 2)) ∧ (1 : Int32) = (-2)) ∨ ((p1 = -1) ∧ (1 : Int32) = 1) ∨ ((0 ≤ p1 ∧ p1 ≤ 2 ∧ 40 < p2) ∧ (1 : Int32) = (-2)) ∨ ((0 ≤ p1 ∧ p1 ≤ 2 ∧ p2 < 0) ∧ (1 : Int32) = (-14)) ∨ ((0 ≤ p1 ∧ p1 ≤ 2 ∧ 0 ≤ p2 ∧ p2 ≤ 40) ∧ (1 : Int32) = 1) := by
          try simp only [fa_lt, fa_le, fa_eq, fa_lt64, fa_le64, fa_eq64, Int32.reduceToInt, Int64.reduceToInt, zi_ite] at c_2
          try simp only [fa_lt, fa_le, fa_eq, fa_lt64, fa_le64, fa_eq64, Int32.reduceToInt, Int64.reduceToInt, zi_ite] at c_3
          try simp only [fa_lt, fa_le, fa_eq, fa_lt64, fa_le64, fa_eq64, Int32.reduceToInt, Int64.reduceToInt, zi_ite] at c_4
          first
          | exact Or.inl ⟨by (try simp only [fa_lt, fa_le, fa_eq, fa_lt64, fa_le64, fa_eq64, Int32.reduceToInt, Int64.reduceToInt, zi_ite]); omega, rfl⟩
          | exact Or.inr (Or.inl ⟨by (try simp only [fa_lt, fa_le, fa_eq, fa_lt64, fa_le64, fa_eq64, Int32.reduceToInt, Int64.reduceToInt, zi_ite]); omega, rfl⟩)
          | exact Or.inr (Or.inr (Or.inl ⟨by (try simp only [fa_lt, fa_le, fa_eq, fa_lt64, fa_le64, fa_eq64, Int32.reduceToInt, Int64.reduceToInt, zi_ite]); omega, rfl⟩))
          | exact Or.inr (Or.inr (Or.inr (Or.inl ⟨by (try simp only [fa_lt, fa_le, fa_eq, fa_lt64, fa_le64, fa_eq64, Int32.reduceToInt, Int64.reduceToInt, zi_ite]); omega, rfl⟩)))
          | exact Or.inr (Or.inr (Or.inr (Or.inr (⟨by (try simp only [fa_lt, fa_le, fa_eq, fa_lt64, fa_le64, fa_eq64, Int32.reduceToInt, Int64.reduceToInt, zi_ite]); omega, rfl⟩))))
        refine W.widen (k := 0) (n := 0) (by decide +kernel) (by decide +kernel) ?_
        exact W.iret (v := 1) hx hb hr (fun t ht hW => ⟨⟨1, (), rfl, hpost, trivial⟩, hS.F ht⟩) hS.2.2 dX11_sheet_38
    · refine lv_bipush (v := (-2)) hx hb dX11_sheet_22 (by decide) ?_
      have hpost : ((¬ (-1 ≤ p1 ∧ p1 ≤ 2)) ∧ ((-2) : Int32) = (-2)) ∨ ((p1 = -1) ∧ ((-2) : Int32) = 1) ∨ ((0 ≤ p1 ∧ p1 ≤ 2 ∧ 40 < p2) ∧ ((-2) : Int32) = (-2)) ∨ ((0 ≤ p1 ∧ p1 ≤ 2 ∧ p2 < 0) ∧ ((-2) : Int32) = (-14)) ∨ ((0 ≤ p1 ∧ p1 ≤ 2 ∧ 0 ≤ p2 ∧ p2 ≤ 40) ∧ ((-2) : Int32) = 1) := by
        try simp only [fa_lt, fa_le, fa_eq, fa_lt64, fa_le64, fa_eq64, Int32.reduceToInt, Int64.reduceToInt, zi_ite] at c_2
        try simp only [fa_lt, fa_le, fa_eq, fa_lt64, fa_le64, fa_eq64, Int32.reduceToInt, Int64.reduceToInt, zi_ite] at c_3
        first
        | exact Or.inl ⟨by (try simp only [fa_lt, fa_le, fa_eq, fa_lt64, fa_le64, fa_eq64, Int32.reduceToInt, Int64.reduceToInt, zi_ite]); omega, rfl⟩
        | exact Or.inr (Or.inl ⟨by (try simp only [fa_lt, fa_le, fa_eq, fa_lt64, fa_le64, fa_eq64, Int32.reduceToInt, Int64.reduceToInt, zi_ite]); omega, rfl⟩)
        | exact Or.inr (Or.inr (Or.inl ⟨by (try simp only [fa_lt, fa_le, fa_eq, fa_lt64, fa_le64, fa_eq64, Int32.reduceToInt, Int64.reduceToInt, zi_ite]); omega, rfl⟩))
        | exact Or.inr (Or.inr (Or.inr (Or.inl ⟨by (try simp only [fa_lt, fa_le, fa_eq, fa_lt64, fa_le64, fa_eq64, Int32.reduceToInt, Int64.reduceToInt, zi_ite]); omega, rfl⟩)))
        | exact Or.inr (Or.inr (Or.inr (Or.inr (⟨by (try simp only [fa_lt, fa_le, fa_eq, fa_lt64, fa_le64, fa_eq64, Int32.reduceToInt, Int64.reduceToInt, zi_ite]); omega, rfl⟩))))
      refine W.widen (k := 0) (n := 0) (by decide +kernel) (by decide +kernel) ?_
      exact W.iret (v := (-2)) hx hb hr (fun t ht hW => ⟨⟨(-2), (), rfl, hpost, trivial⟩, hS.F ht⟩) hS.2.2 dX11_sheet_24
set_option maxHeartbeats 1000000 in
set_option maxRecDepth 100000 in
theorem rt_X11_sheetO (l : Launch) (dC : Nat → ClassId) (dI : Nat → Nat → Nat) (h0 : Nat) (ad : Nat → Nat) (cA : ClassId) (fs : Nat → Option Nat) (p0 p1 p2 : Int32) (hp : p0.toInt < 0 ∨ 4 ≤ p0.toInt) : Met l yX11_sheet wsX11_sheet ({ frames := 1, cells := 0, slots := 0, locals := 21 }) (va_Pc [.ref h0, .int p0, .int p1, .int p2] (fun U => va_P (dC, dI) vwCl [(h0, .inr (11, [.ref (ad 0), .ref (ad 1), .ref (ad 2), .ref (ad 3), .ref (ad 4), .ref (ad 5), .ref (ad 6), .ref (ad 7), .ref (ad 8), .int 0, .int 0, .int 0, .int 0])), (ad 8, .inl (cA, 4, .inr (.inr (.inr (.inr fs)))))] U.heap ∧ va_K (dC, dI) vwCl [(cA, .object RX7)] U)) (vp_Si (fun r : Int32 => r = (-2))) 0 0 (fun _ => False) := by
  refine Met.ofW (cc := cX11_sheet) (maxL := 5) (ret := (some .int)) (by decide) rfl ?_
  intro p e s m args below meth c s₁ B hml hv
  obtain ⟨rfl, hP, hK⟩ := hv
  have hx := B.exec
  have hb := B.bytes
  have hr := B.returns
  have hts := atoms_spec (ws := wsX11_sheet) B.pre
  have hown : s.vm.findClass RX11 = some m.cls := findClass_of_methodNamed B.named
  have hlocks := B.notSynchronized
  have hl := lv_entry ([.ref h0, .int p0, .int p1, .int p2]) (n := 5) (Nat.le_of_ble_eq_true rfl)
  rw [lg_entry_eq]
  generalize (lg_sl ([.ref h0, .int p0, .int p1, .int p2]) ++ List.replicate (5 - (lg_sl ([.ref h0, .int p0, .int p1, .int p2])).length) Slot.unset).toArray = ls at hl ⊢
  have hl : lv_has ls 5 [(0, .ref h0), (1, .int p0), (2, .int p1), (3, .int p2)] := hl
  refine lv_aload_n hx hb dX11_sheet_0 rfl (lv_at hl 0 rfl) ?_
  refine lv_iload_n hx hb dX11_sheet_1 rfl (lv_at hl 1 rfl) ?_
  have hPc := hP.sub (ws' := [(h0, .inr (11, [.ref (ad 0), .ref (ad 1), .ref (ad 2), .ref (ad 3), .ref (ad 4), .ref (ad 5), .ref (ad 6), .ref (ad 7), .ref (ad 8), .int 0, .int 0, .int 0, .int 0])), (ad 8, .inl (cA, 4, .inr (.inr (.inr (.inr fs)))))]) [0, 1] rfl
  have hKc := hK.sub (tys' := [(cA, .object RX7)]) [0] rfl
  refine va_csq (va_Run.run (va_runV (As := [.int p0]) (rest := []) ⟨hx, hb, hml, hown, hts⟩ (rt_X11_sheetAtO l dC dI h0 ad cA fs p0 hp) (cwV 1 hts gX11_sheet_X11_sheetAt rfl rfl rfl (by decide +kernel) ⟨Nat.le_of_ble_eq_true rfl, Nat.le_of_ble_eq_true rfl⟩) ⟨fun a U g mk q => by obtain ⟨q0, qP, qK⟩ := q; exact ⟨q0, qP, va_K.moved (u := U) (U := U.calling g mk a) (Vm.Alike.refl U.vm) qK⟩, va_recv hKc hPc (ci := 11) (q0 := 0) rfl rfl, fun U hU hW => ⟨rfl, by rw [hU]; exact hPc, va_K.moved hW.alike hKc⟩⟩ rfl rfl hl.1 rfl (lv_room (Nat.le_of_ble_eq_true rfl)) dX11_sheet_2 ⟨by decide +kernel, by decide +kernel⟩)) (fun r_1 hr_1 => ?_)
  obtain rfl := hr_1
  refine lv_astoreN (lv' := [(4, .null), (0, .ref h0), (1, .int p0), (2, .int p1), (3, .int p2)]) hx hb dX11_sheet_5 hl (by decide) rfl (fun ls hl => ?_)
  refine lv_aloadN hx hb dX11_sheet_7 (lv_at hl 0 rfl) ?_
  refine lv_ifnullN (tgt := 22) hx hb dX11_sheet_9 (by decide) ?_
  refine lv_bipush (v := (-2)) hx hb dX11_sheet_22 (by decide) ?_
  exact W.iret (v := (-2)) hx hb hr (fun t ht hW => ⟨(-2), rfl, rfl, ht⟩) (fun _ h => absurd h List.not_mem_nil) dX11_sheet_24
set_option maxHeartbeats 1000000 in
set_option maxRecDepth 100000 in
theorem rt_X11_cellI (l : Launch) (dC : Nat → ClassId) (dI : Nat → Nat → Nat) (h0 : Nat) (ad : Nat → Nat) (cA : ClassId) (fs : Nat → Option Nat) (ha : Nat) (ah : Nat → Nat) (p0 p1 p2 : Int32) (hp : 0 ≤ p0.toInt ∧ p0.toInt < 4) (hfa : fs p0.toNatClampNeg = some ha) : Met l yX11_cell wsX11_cell ({ frames := 1, cells := 0, slots := 0, locals := 21 }) (va_Pc [.ref h0, .int p0, .int p1, .int p2] (fun U => va_P (dC, dI) vwCl [(h0, .inr (11, [.ref (ad 0), .ref (ad 1), .ref (ad 2), .ref (ad 3), .ref (ad 4), .ref (ad 5), .ref (ad 6), .ref (ad 7), .ref (ad 8), .int 0, .int 0, .int 0, .int 0])), (ad 8, .inl (cA, 4, .inr (.inr (.inr (.inr fs))))), (ha, .inr (7, [.ref (ah 0), .int (-1), .int 0]))] U.heap ∧ va_K (dC, dI) vwCl [(cA, .object RX7)] U)) (vp_Si (fun r : Int32 => r = (-11))) 0 0 (fun _ => False) := by
  refine Met.ofW (cc := cX11_cell) (maxL := 5) (ret := (some .int)) (by decide) rfl ?_
  intro p e s m args below meth c s₁ B hml hv
  obtain ⟨rfl, hP, hK⟩ := hv
  have hx := B.exec
  have hb := B.bytes
  have hr := B.returns
  have hts := atoms_spec (ws := wsX11_cell) B.pre
  have hown : s.vm.findClass RX11 = some m.cls := findClass_of_methodNamed B.named
  have hlocks := B.notSynchronized
  have hl := lv_entry ([.ref h0, .int p0, .int p1, .int p2]) (n := 5) (Nat.le_of_ble_eq_true rfl)
  rw [lg_entry_eq]
  generalize (lg_sl ([.ref h0, .int p0, .int p1, .int p2]) ++ List.replicate (5 - (lg_sl ([.ref h0, .int p0, .int p1, .int p2])).length) Slot.unset).toArray = ls at hl ⊢
  have hl : lv_has ls 5 [(0, .ref h0), (1, .int p0), (2, .int p1), (3, .int p2)] := hl
  refine lv_aload_n hx hb dX11_cell_0 rfl (lv_at hl 0 rfl) ?_
  refine lv_iload_n hx hb dX11_cell_1 rfl (lv_at hl 1 rfl) ?_
  have hPc := hP.sub (ws' := [(h0, .inr (11, [.ref (ad 0), .ref (ad 1), .ref (ad 2), .ref (ad 3), .ref (ad 4), .ref (ad 5), .ref (ad 6), .ref (ad 7), .ref (ad 8), .int 0, .int 0, .int 0, .int 0])), (ad 8, .inl (cA, 4, .inr (.inr (.inr (.inr fs)))))]) [0, 1] rfl
  have hKc := hK.sub (tys' := [(cA, .object RX7)]) [0] rfl
  refine va_csq (va_Run.run (va_runV (As := [.int p0]) (rest := []) ⟨hx, hb, hml, hown, hts⟩ (rt_X11_sheetAtI l dC dI h0 ad cA fs ha p0 hp hfa) (cwV 1 hts gX11_cell_X11_sheetAt rfl rfl rfl (by decide +kernel) ⟨Nat.le_of_ble_eq_true rfl, Nat.le_of_ble_eq_true rfl⟩) ⟨fun a U g mk q => by obtain ⟨q0, qP, qK⟩ := q; exact ⟨q0, qP, va_K.moved (u := U) (U := U.calling g mk a) (Vm.Alike.refl U.vm) qK⟩, va_recv hKc hPc (ci := 11) (q0 := 0) rfl rfl, fun U hU hW => ⟨rfl, by rw [hU]; exact hPc, va_K.moved hW.alike hKc⟩⟩ rfl rfl hl.1 rfl (lv_room (Nat.le_of_ble_eq_true rfl)) dX11_cell_2 ⟨by decide +kernel, by decide +kernel⟩)) (fun r_1 hr_1 => ?_)
  obtain rfl := hr_1
  refine lv_astore (lv' := [(4, .ref ha), (0, .ref h0), (1, .int p0), (2, .int p1), (3, .int p2)]) hx hb dX11_cell_5 hl (by decide) rfl (fun ls hl => ?_)
  refine lv_aload hx hb dX11_cell_7 (lv_at hl 0 rfl) ?_
  refine lv_ifnonnull (tgt := 15) hx hb dX11_cell_9 (by decide) ?_
  refine lv_aload hx hb dX11_cell_15 (lv_at hl 0 rfl) ?_
  refine va_get (D := (dC, dI)) (ci := 7) (v := .int (-1)) (C := RX7) (T := TX7) (N := 3) hx hb hts (by decide +kernel) hown hK hP 2 rfl rfl 1 (by decide) (hts (.fieldLink RX11 355 "RedTent$Sheet" "sort" "I") (by decide +kernel)) (fun _ h9 => h9) rfl dX11_cell_17 ?_
  refine lv_iconst (v := (-1)) hx hb dX11_cell_20 (by decide) ?_
  refine lv_icmp_ne (tgt := 27) hx hb dX11_cell_21 (by decide) (fun c9 => absurd (by decide) c9) (fun _ => ?_)
  refine lv_bipush (v := (-11)) hx hb dX11_cell_24 (by decide) ?_
  exact W.iret (v := (-11)) hx hb hr (fun t ht hW => ⟨(-11), rfl, rfl, ht⟩) (fun _ h => absurd h List.not_mem_nil) dX11_cell_26
set_option maxHeartbeats 1000000 in
set_option maxRecDepth 100000 in
theorem rt_X11_cellO (l : Launch) (dC : Nat → ClassId) (dI : Nat → Nat → Nat) (h0 : Nat) (ad : Nat → Nat) (cA : ClassId) (fs : Nat → Option Nat) (p0 p1 p2 : Int32) (hp : p0.toInt < 0 ∨ 4 ≤ p0.toInt) : Met l yX11_cell wsX11_cell ({ frames := 1, cells := 0, slots := 0, locals := 21 }) (va_Pc [.ref h0, .int p0, .int p1, .int p2] (fun U => va_P (dC, dI) vwCl [(h0, .inr (11, [.ref (ad 0), .ref (ad 1), .ref (ad 2), .ref (ad 3), .ref (ad 4), .ref (ad 5), .ref (ad 6), .ref (ad 7), .ref (ad 8), .int 0, .int 0, .int 0, .int 0])), (ad 8, .inl (cA, 4, .inr (.inr (.inr (.inr fs)))))] U.heap ∧ va_K (dC, dI) vwCl [(cA, .object RX7)] U)) (vp_Si (fun r : Int32 => r = (-2))) 0 0 (fun _ => False) := by
  refine Met.ofW (cc := cX11_cell) (maxL := 5) (ret := (some .int)) (by decide) rfl ?_
  intro p e s m args below meth c s₁ B hml hv
  obtain ⟨rfl, hP, hK⟩ := hv
  have hx := B.exec
  have hb := B.bytes
  have hr := B.returns
  have hts := atoms_spec (ws := wsX11_cell) B.pre
  have hown : s.vm.findClass RX11 = some m.cls := findClass_of_methodNamed B.named
  have hlocks := B.notSynchronized
  have hl := lv_entry ([.ref h0, .int p0, .int p1, .int p2]) (n := 5) (Nat.le_of_ble_eq_true rfl)
  rw [lg_entry_eq]
  generalize (lg_sl ([.ref h0, .int p0, .int p1, .int p2]) ++ List.replicate (5 - (lg_sl ([.ref h0, .int p0, .int p1, .int p2])).length) Slot.unset).toArray = ls at hl ⊢
  have hl : lv_has ls 5 [(0, .ref h0), (1, .int p0), (2, .int p1), (3, .int p2)] := hl
  refine lv_aload_n hx hb dX11_cell_0 rfl (lv_at hl 0 rfl) ?_
  refine lv_iload_n hx hb dX11_cell_1 rfl (lv_at hl 1 rfl) ?_
  have hPc := hP.sub (ws' := [(h0, .inr (11, [.ref (ad 0), .ref (ad 1), .ref (ad 2), .ref (ad 3), .ref (ad 4), .ref (ad 5), .ref (ad 6), .ref (ad 7), .ref (ad 8), .int 0, .int 0, .int 0, .int 0])), (ad 8, .inl (cA, 4, .inr (.inr (.inr (.inr fs)))))]) [0, 1] rfl
  have hKc := hK.sub (tys' := [(cA, .object RX7)]) [0] rfl
  refine va_csq (va_Run.run (va_runV (As := [.int p0]) (rest := []) ⟨hx, hb, hml, hown, hts⟩ (rt_X11_sheetAtO l dC dI h0 ad cA fs p0 hp) (cwV 1 hts gX11_cell_X11_sheetAt rfl rfl rfl (by decide +kernel) ⟨Nat.le_of_ble_eq_true rfl, Nat.le_of_ble_eq_true rfl⟩) ⟨fun a U g mk q => by obtain ⟨q0, qP, qK⟩ := q; exact ⟨q0, qP, va_K.moved (u := U) (U := U.calling g mk a) (Vm.Alike.refl U.vm) qK⟩, va_recv hKc hPc (ci := 11) (q0 := 0) rfl rfl, fun U hU hW => ⟨rfl, by rw [hU]; exact hPc, va_K.moved hW.alike hKc⟩⟩ rfl rfl hl.1 rfl (lv_room (Nat.le_of_ble_eq_true rfl)) dX11_cell_2 ⟨by decide +kernel, by decide +kernel⟩)) (fun r_1 hr_1 => ?_)
  obtain rfl := hr_1
  refine lv_astoreN (lv' := [(4, .null), (0, .ref h0), (1, .int p0), (2, .int p1), (3, .int p2)]) hx hb dX11_cell_5 hl (by decide) rfl (fun ls hl => ?_)
  refine lv_aloadN hx hb dX11_cell_7 (lv_at hl 0 rfl) ?_
  refine lv_ifnonnullN hx hb dX11_cell_9 ?_
  refine lv_bipush (v := (-2)) hx hb dX11_cell_12 (by decide) ?_
  exact W.iret (v := (-2)) hx hb hr (fun t ht hW => ⟨(-2), rfl, rfl, ht⟩) (fun _ h => absurd h List.not_mem_nil) dX11_cell_14

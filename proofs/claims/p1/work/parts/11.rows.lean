theorem zi_lt4 {d : Int32} (h : 0 ≤ d.toInt ∧ d.toInt < 4) : d.toNatClampNeg < 4 := by
  have h9 := zi_cl h.1
  omega
theorem dX11_copy_0 : decode cX11_copy 0 = .ok (.aload_n 0, 1) := by decide +kernel
theorem dX11_copy_1 : decode cX11_copy 1 = .ok (.iload_n 1, 1) := by decide +kernel
set_option maxRecDepth 20000 in
theorem ggX11_copy_X11_sheetAt : GoodIn wsX11_copy wsX11_sheetAt := goodIn_r _ [11, 12, 22, 23, 24, 25, 26, 27, 28, 29, 30, 31, 32, 33, 34] (by decide +kernel) (by decide +kernel)
set_option maxRecDepth 20000 in
theorem gX11_copy_X11_sheetAt : GoodIn wsX11_copy (wsV RX11 348 RX11 yX11_sheetAt wsX11_sheetAt) := goodIn_app (goodIn_of _ (by decide +kernel)) ggX11_copy_X11_sheetAt
theorem dX11_copy_2 : decode cX11_copy 2 = .ok (.invokevirtual 348, 3) := by decide +kernel
theorem dX11_copy_5 : decode cX11_copy 5 = .ok (.astore 6, 2) := by decide +kernel
theorem dX11_copy_7 : decode cX11_copy 7 = .ok (.aload_n 0, 1) := by decide +kernel
theorem dX11_copy_8 : decode cX11_copy 8 = .ok (.iload_n 3, 1) := by decide +kernel
theorem dX11_copy_9 : decode cX11_copy 9 = .ok (.invokevirtual 348, 3) := by decide +kernel
theorem dX11_copy_12 : decode cX11_copy 12 = .ok (.astore 7, 2) := by decide +kernel
theorem dX11_copy_14 : decode cX11_copy 14 = .ok (.aload 6, 2) := by decide +kernel
theorem dX11_copy_16 : decode cX11_copy 16 = .ok (.ifnull 8, 3) := by decide +kernel
theorem dX11_copy_19 : decode cX11_copy 19 = .ok (.aload 7, 2) := by decide +kernel
theorem dX11_copy_21 : decode cX11_copy 21 = .ok (.ifnonnull 6, 3) := by decide +kernel
theorem dX11_copy_27 : decode cX11_copy 27 = .ok (.aload 6, 2) := by decide +kernel
theorem dX11_copy_29 : decode cX11_copy 29 = .ok (.getfield 355, 3) := by decide +kernel
theorem dX11_copy_32 : decode cX11_copy 32 = .ok (.iconst (-1), 1) := by decide +kernel
theorem dX11_copy_33 : decode cX11_copy 33 = .ok (.if_icmp .eq 12, 3) := by decide +kernel
theorem dX11_copy_45 : decode cX11_copy 45 = .ok (.bipush (-11), 2) := by decide +kernel
theorem dX11_copy_47 : decode cX11_copy 47 = .ok (.ireturn, 1) := by decide +kernel
theorem dX11_copy_24 : decode cX11_copy 24 = .ok (.bipush (-2), 2) := by decide +kernel
theorem dX11_copy_26 : decode cX11_copy 26 = .ok (.ireturn, 1) := by decide +kernel
theorem dX11_fixes_0 : decode cX11_fixes 0 = .ok (.aload_n 0, 1) := by decide +kernel
theorem dX11_fixes_1 : decode cX11_fixes 1 = .ok (.iload_n 1, 1) := by decide +kernel
set_option maxRecDepth 20000 in
theorem ggX11_fixes_X11_bodyAt : GoodIn wsX11_fixes wsX11_bodyAt := goodIn_r _ [7, 8, 9, 56, 57, 58, 59, 60, 61, 62, 63, 64, 65, 66, 67, 68] (by decide +kernel) (by decide +kernel)
set_option maxRecDepth 20000 in
theorem gX11_fixes_X11_bodyAt : GoodIn wsX11_fixes (wsV RX11 78 RX11 yX11_bodyAt wsX11_bodyAt) := goodIn_app (goodIn_of _ (by decide +kernel)) ggX11_fixes_X11_bodyAt
theorem dX11_fixes_2 : decode cX11_fixes 2 = .ok (.invokevirtual 78, 3) := by decide +kernel
theorem dX11_fixes_5 : decode cX11_fixes 5 = .ok (.astore 6, 2) := by decide +kernel
theorem dX11_fixes_7 : decode cX11_fixes 7 = .ok (.aload_n 0, 1) := by decide +kernel
theorem dX11_fixes_8 : decode cX11_fixes 8 = .ok (.iload_n 2, 1) := by decide +kernel
set_option maxRecDepth 20000 in
theorem ggX11_fixes_X11_sheetAt : GoodIn wsX11_fixes wsX11_sheetAt := goodIn_r _ [13, 14, 56, 57, 58, 59, 60, 61, 62, 63, 64, 65, 66, 67, 68] (by decide +kernel) (by decide +kernel)
set_option maxRecDepth 20000 in
theorem gX11_fixes_X11_sheetAt : GoodIn wsX11_fixes (wsV RX11 348 RX11 yX11_sheetAt wsX11_sheetAt) := goodIn_app (goodIn_of _ (by decide +kernel)) ggX11_fixes_X11_sheetAt
theorem dX11_fixes_9 : decode cX11_fixes 9 = .ok (.invokevirtual 348, 3) := by decide +kernel
theorem dX11_fixes_12 : decode cX11_fixes 12 = .ok (.astore 7, 2) := by decide +kernel
theorem dX11_fixes_14 : decode cX11_fixes 14 = .ok (.aload 6, 2) := by decide +kernel
theorem dX11_fixes_16 : decode cX11_fixes 16 = .ok (.ifnull 29, 3) := by decide +kernel
theorem dX11_fixes_45 : decode cX11_fixes 45 = .ok (.bipush (-2), 2) := by decide +kernel
theorem dX11_fixes_47 : decode cX11_fixes 47 = .ok (.ireturn, 1) := by decide +kernel
theorem dX12_cell_0 : decode cX12_cell 0 = .ok (.iload_n 1, 1) := by decide +kernel
set_option maxRecDepth 20000 in
theorem ggX12_cell_X12_isSheet : GoodIn wsX12_cell wsX12_isSheet := goodIn_r _ [6, 7, 8, 5, 9] (by decide +kernel) (by decide +kernel)
set_option maxRecDepth 20000 in
theorem gX12_cell_X12_isSheet : GoodIn wsX12_cell (va_wsS RX12 457 yX12_isSheet wsX12_isSheet) := goodIn_app (goodIn_of _ (by decide +kernel)) ggX12_cell_X12_isSheet
theorem dX12_cell_1 : decode cX12_cell 1 = .ok (.invokestatic 457, 3) := by decide +kernel
theorem dX12_cell_4 : decode cX12_cell 4 = .ok (.ifCond .ne 6, 3) := by decide +kernel
theorem dX12_cell_10 : decode cX12_cell 10 = .ok (.aload_n 0, 1) := by decide +kernel
theorem dX12_cell_11 : decode cX12_cell 11 = .ok (.getfield 158, 3) := by decide +kernel
theorem dX12_cell_14 : decode cX12_cell 14 = .ok (.iload_n 1, 1) := by decide +kernel
theorem dX12_cell_15 : decode cX12_cell 15 = .ok (.iaload, 1) := by decide +kernel
theorem dX12_cell_16 : decode cX12_cell 16 = .ok (.ifCond .ge 6, 3) := by decide +kernel
theorem dX12_cell_19 : decode cX12_cell 19 = .ok (.bipush (-11), 2) := by decide +kernel
theorem dX12_cell_21 : decode cX12_cell 21 = .ok (.ireturn, 1) := by decide +kernel
theorem dX12_cell_7 : decode cX12_cell 7 = .ok (.bipush (-2), 2) := by decide +kernel
theorem dX12_cell_9 : decode cX12_cell 9 = .ok (.ireturn, 1) := by decide +kernel
theorem dX12_copy_0 : decode cX12_copy 0 = .ok (.iload_n 1, 1) := by decide +kernel
set_option maxRecDepth 20000 in
theorem ggX12_copy_X12_isSheet : GoodIn wsX12_copy wsX12_isSheet := goodIn_r _ [8, 9, 10, 7, 11] (by decide +kernel) (by decide +kernel)
set_option maxRecDepth 20000 in
theorem gX12_copy_X12_isSheet : GoodIn wsX12_copy (va_wsS RX12 457 yX12_isSheet wsX12_isSheet) := goodIn_app (goodIn_of _ (by decide +kernel)) ggX12_copy_X12_isSheet
theorem dX12_copy_1 : decode cX12_copy 1 = .ok (.invokestatic 457, 3) := by decide +kernel
theorem dX12_copy_4 : decode cX12_copy 4 = .ok (.ifCond .eq 10, 3) := by decide +kernel
theorem dX12_copy_7 : decode cX12_copy 7 = .ok (.iload_n 3, 1) := by decide +kernel
theorem dX12_copy_8 : decode cX12_copy 8 = .ok (.invokestatic 457, 3) := by decide +kernel
theorem dX12_copy_11 : decode cX12_copy 11 = .ok (.ifCond .ne 6, 3) := by decide +kernel
theorem dX12_copy_17 : decode cX12_copy 17 = .ok (.aload_n 0, 1) := by decide +kernel
theorem dX12_copy_18 : decode cX12_copy 18 = .ok (.getfield 158, 3) := by decide +kernel
theorem dX12_copy_21 : decode cX12_copy 21 = .ok (.iload_n 1, 1) := by decide +kernel
theorem dX12_copy_22 : decode cX12_copy 22 = .ok (.iaload, 1) := by decide +kernel
theorem dX12_copy_23 : decode cX12_copy 23 = .ok (.ifCond .lt 12, 3) := by decide +kernel
theorem dX12_copy_35 : decode cX12_copy 35 = .ok (.bipush (-11), 2) := by decide +kernel
theorem dX12_copy_37 : decode cX12_copy 37 = .ok (.ireturn, 1) := by decide +kernel
theorem dX12_copy_14 : decode cX12_copy 14 = .ok (.bipush (-2), 2) := by decide +kernel
theorem dX12_copy_16 : decode cX12_copy 16 = .ok (.ireturn, 1) := by decide +kernel
theorem dX12_sheet_0 : decode cX12_sheet 0 = .ok (.iload_n 1, 1) := by decide +kernel
set_option maxRecDepth 20000 in
theorem ggX12_sheet_X12_isSheet : GoodIn wsX12_sheet wsX12_isSheet := goodIn_r _ [7, 8, 9, 6, 10] (by decide +kernel) (by decide +kernel)
set_option maxRecDepth 20000 in
theorem gX12_sheet_X12_isSheet : GoodIn wsX12_sheet (va_wsS RX12 457 yX12_isSheet wsX12_isSheet) := goodIn_app (goodIn_of _ (by decide +kernel)) ggX12_sheet_X12_isSheet
theorem dX12_sheet_1 : decode cX12_sheet 1 = .ok (.invokestatic 457, 3) := by decide +kernel
theorem dX12_sheet_4 : decode cX12_sheet 4 = .ok (.ifCond .eq 22, 3) := by decide +kernel
theorem dX12_sheet_7 : decode cX12_sheet 7 = .ok (.iload_n 2, 1) := by decide +kernel
theorem dX12_sheet_8 : decode cX12_sheet 8 = .ok (.iconst (-1), 1) := by decide +kernel
theorem dX12_sheet_9 : decode cX12_sheet 9 = .ok (.iconst 2, 1) := by decide +kernel
set_option maxRecDepth 20000 in
theorem ggX12_sheet_X12_within : GoodIn wsX12_sheet wsX12_within := goodIn_r _ [10] (by decide +kernel) (by decide +kernel)
set_option maxRecDepth 20000 in
theorem gX12_sheet_X12_within : GoodIn wsX12_sheet (va_wsS RX12 186 yX12_within wsX12_within) := goodIn_app (goodIn_of _ (by decide +kernel)) ggX12_sheet_X12_within
theorem dX12_sheet_10 : decode cX12_sheet 10 = .ok (.invokestatic 186, 3) := by decide +kernel
theorem dX12_sheet_13 : decode cX12_sheet 13 = .ok (.ifCond .eq 13, 3) := by decide +kernel
theorem dX12_sheet_16 : decode cX12_sheet 16 = .ok (.iload_n 2, 1) := by decide +kernel
theorem dX12_sheet_17 : decode cX12_sheet 17 = .ok (.ifCond .lt 12, 3) := by decide +kernel
theorem dX12_sheet_29 : decode cX12_sheet 29 = .ok (.iload_n 2, 1) := by decide +kernel
theorem dX12_sheet_30 : decode cX12_sheet 30 = .ok (.ifCond .lt 10, 3) := by decide +kernel
theorem dX12_sheet_40 : decode cX12_sheet 40 = .ok (.aload_n 0, 1) := by decide +kernel
theorem dX12_sheet_41 : decode cX12_sheet 41 = .ok (.getfield 158, 3) := by decide +kernel
theorem dX12_sheet_44 : decode cX12_sheet 44 = .ok (.iload_n 1, 1) := by decide +kernel
theorem dX12_sheet_45 : decode cX12_sheet 45 = .ok (.iload_n 2, 1) := by decide +kernel
theorem dX12_sheet_46 : decode cX12_sheet 46 = .ok (.iastore, 1) := by decide +kernel
theorem dX12_sheet_47 : decode cX12_sheet 47 = .ok (.aload_n 0, 1) := by decide +kernel
theorem dX12_sheet_48 : decode cX12_sheet 48 = .ok (.getfield 161, 3) := by decide +kernel
theorem dX12_sheet_51 : decode cX12_sheet 51 = .ok (.iload_n 1, 1) := by decide +kernel
theorem dX12_sheet_52 : decode cX12_sheet 52 = .ok (.iload_n 2, 1) := by decide +kernel
theorem dX12_sheet_53 : decode cX12_sheet 53 = .ok (.ifCond .ge 7, 3) := by decide +kernel
theorem dX12_sheet_56 : decode cX12_sheet 56 = .ok (.iconst 0, 1) := by decide +kernel
theorem dX12_sheet_57 : decode cX12_sheet 57 = .ok (.goto 4, 3) := by decide +kernel
theorem dX12_sheet_61 : decode cX12_sheet 61 = .ok (.iastore, 1) := by decide +kernel
theorem dX12_sheet_62 : decode cX12_sheet 62 = .ok (.bipush 40, 2) := by decide +kernel
theorem dX12_sheet_64 : decode cX12_sheet 64 = .ok (.iload_n 1, 1) := by decide +kernel
theorem dX12_sheet_65 : decode cX12_sheet 65 = .ok (.imul, 1) := by decide +kernel
theorem dX12_sheet_66 : decode cX12_sheet 66 = .ok (.istore 4, 2) := by decide +kernel
theorem dX12_sheet_68 : decode cX12_sheet 68 = .ok (.iload 4, 2) := by decide +kernel
theorem dX12_sheet_70 : decode cX12_sheet 70 = .ok (.bipush 40, 2) := by decide +kernel
theorem dX12_sheet_72 : decode cX12_sheet 72 = .ok (.iload_n 1, 1) := by decide +kernel
theorem dX12_sheet_73 : decode cX12_sheet 73 = .ok (.imul, 1) := by decide +kernel
theorem dX12_sheet_74 : decode cX12_sheet 74 = .ok (.bipush 40, 2) := by decide +kernel
theorem dX12_sheet_76 : decode cX12_sheet 76 = .ok (.iadd, 1) := by decide +kernel
theorem dX12_sheet_77 : decode cX12_sheet 77 = .ok (.if_icmp .ge 17, 3) := by decide +kernel
theorem dX12_sheet_94 : decode cX12_sheet 94 = .ok (.iconst 1, 1) := by decide +kernel
theorem dX12_sheet_95 : decode cX12_sheet 95 = .ok (.ireturn, 1) := by decide +kernel
theorem dX12_sheet_80 : decode cX12_sheet 80 = .ok (.aload_n 0, 1) := by decide +kernel
theorem dX12_sheet_81 : decode cX12_sheet 81 = .ok (.getfield 164, 3) := by decide +kernel
theorem dX12_sheet_84 : decode cX12_sheet 84 = .ok (.iload 4, 2) := by decide +kernel
theorem dX12_sheet_86 : decode cX12_sheet 86 = .ok (.iconst 0, 1) := by decide +kernel
theorem dX12_sheet_87 : decode cX12_sheet 87 = .ok (.iastore, 1) := by decide +kernel
theorem dX12_sheet_88 : decode cX12_sheet 88 = .ok (.iinc 4 1, 3) := by decide +kernel
theorem dX12_sheet_91 : decode cX12_sheet 91 = .ok (.goto (-23), 3) := by decide +kernel
theorem dX12_sheet_20 : decode cX12_sheet 20 = .ok (.iload_n 3, 1) := by decide +kernel
theorem dX12_sheet_21 : decode cX12_sheet 21 = .ok (.bipush 40, 2) := by decide +kernel
theorem dX12_sheet_23 : decode cX12_sheet 23 = .ok (.if_icmp .le 6, 3) := by decide +kernel
theorem dX12_sheet_33 : decode cX12_sheet 33 = .ok (.iload_n 3, 1) := by decide +kernel
theorem dX12_sheet_34 : decode cX12_sheet 34 = .ok (.ifCond .ge 6, 3) := by decide +kernel
theorem dX12_sheet_60 : decode cX12_sheet 60 = .ok (.iload_n 3, 1) := by decide +kernel
theorem dX12_sheet_37 : decode cX12_sheet 37 = .ok (.bipush (-14), 2) := by decide +kernel
theorem dX12_sheet_39 : decode cX12_sheet 39 = .ok (.ireturn, 1) := by decide +kernel
theorem dX12_sheet_26 : decode cX12_sheet 26 = .ok (.bipush (-2), 2) := by decide +kernel
theorem dX12_sheet_28 : decode cX12_sheet 28 = .ok (.ireturn, 1) := by decide +kernel
theorem dX12_row_0 : decode cX12_row 0 = .ok (.lload_n 1, 1) := by decide +kernel
theorem dX12_row_1 : decode cX12_row 1 = .ok (.lconst 0, 1) := by decide +kernel
theorem dX12_row_2 : decode cX12_row 2 = .ok (.lcmp, 1) := by decide +kernel
theorem dX12_row_3 : decode cX12_row 3 = .ok (.ifCond .lt 11, 3) := by decide +kernel
theorem dX12_row_14 : decode cX12_row 14 = .ok (.bipush (-2), 2) := by decide +kernel
theorem dX12_row_16 : decode cX12_row 16 = .ok (.ireturn, 1) := by decide +kernel
theorem dX12_row_6 : decode cX12_row 6 = .ok (.lload_n 1, 1) := by decide +kernel
theorem dX12_row_7 : decode cX12_row 7 = .ok (.ldc2_w 446, 3) := by decide +kernel
theorem dX12_row_10 : decode cX12_row 10 = .ok (.lcmp, 1) := by decide +kernel
theorem dX12_row_11 : decode cX12_row 11 = .ok (.ifCond .le 6, 3) := by decide +kernel
theorem dX12_row_17 : decode cX12_row 17 = .ok (.aload_n 0, 1) := by decide +kernel
theorem dX12_row_18 : decode cX12_row 18 = .ok (.getfield 448, 3) := by decide +kernel
theorem dX12_row_21 : decode cX12_row 21 = .ok (.iconst 4, 1) := by decide +kernel
theorem dX12_row_22 : decode cX12_row 22 = .ok (.if_icmp .ne 6, 3) := by decide +kernel
theorem dX12_row_28 : decode cX12_row 28 = .ok (.lload_n 1, 1) := by decide +kernel
theorem dX12_row_29 : decode cX12_row 29 = .ok (.lstore_n 3, 1) := by decide +kernel
theorem dX12_row_30 : decode cX12_row 30 = .ok (.iconst 0, 1) := by decide +kernel
theorem dX12_row_31 : decode cX12_row 31 = .ok (.istore 5, 2) := by decide +kernel
theorem dX12_row_33 : decode cX12_row 33 = .ok (.iload 5, 2) := by decide +kernel
theorem dX12_row_35 : decode cX12_row 35 = .ok (.bipush 15, 2) := by decide +kernel
theorem dX12_row_37 : decode cX12_row 37 = .ok (.if_icmp .ge 36, 3) := by decide +kernel
theorem dX12_row_73 : decode cX12_row 73 = .ok (.aload_n 0, 1) := by decide +kernel
theorem dX12_row_74 : decode cX12_row 74 = .ok (.dup, 1) := by decide +kernel
theorem dX12_row_75 : decode cX12_row 75 = .ok (.getfield 448, 3) := by decide +kernel
theorem dX12_row_78 : decode cX12_row 78 = .ok (.iconst 1, 1) := by decide +kernel
theorem dX12_row_79 : decode cX12_row 79 = .ok (.iadd, 1) := by decide +kernel
theorem dX12_row_80 : decode cX12_row 80 = .ok (.putfield 448, 3) := by decide +kernel
theorem dX12_row_83 : decode cX12_row 83 = .ok (.aload_n 0, 1) := by decide +kernel
theorem dX12_row_84 : decode cX12_row 84 = .ok (.getfield 448, 3) := by decide +kernel
theorem dX12_row_87 : decode cX12_row 87 = .ok (.iconst 1, 1) := by decide +kernel
theorem dX12_row_88 : decode cX12_row 88 = .ok (.isub, 1) := by decide +kernel
theorem dX12_row_89 : decode cX12_row 89 = .ok (.ireturn, 1) := by decide +kernel
theorem dX12_row_40 : decode cX12_row 40 = .ok (.aload_n 0, 1) := by decide +kernel
theorem dX12_row_41 : decode cX12_row 41 = .ok (.getfield 122, 3) := by decide +kernel
theorem dX12_row_44 : decode cX12_row 44 = .ok (.bipush 15, 2) := by decide +kernel
theorem dX12_row_46 : decode cX12_row 46 = .ok (.aload_n 0, 1) := by decide +kernel
theorem dX12_row_47 : decode cX12_row 47 = .ok (.getfield 448, 3) := by decide +kernel
theorem dX12_row_50 : decode cX12_row 50 = .ok (.imul, 1) := by decide +kernel
theorem dX12_row_51 : decode cX12_row 51 = .ok (.iload 5, 2) := by decide +kernel
theorem dX12_row_53 : decode cX12_row 53 = .ok (.iadd, 1) := by decide +kernel
theorem dX12_row_54 : decode cX12_row 54 = .ok (.lload_n 3, 1) := by decide +kernel
theorem dX12_row_55 : decode cX12_row 55 = .ok (.ldc2_w 451, 3) := by decide +kernel
theorem dX12_row_58 : decode cX12_row 58 = .ok (.lrem, 1) := by decide +kernel
theorem dX12_row_59 : decode cX12_row 59 = .ok (.l2i, 1) := by decide +kernel
theorem dX12_row_60 : decode cX12_row 60 = .ok (.iastore, 1) := by decide +kernel
theorem dX12_row_61 : decode cX12_row 61 = .ok (.lload_n 3, 1) := by decide +kernel
theorem dX12_row_62 : decode cX12_row 62 = .ok (.ldc2_w 451, 3) := by decide +kernel
theorem dX12_row_65 : decode cX12_row 65 = .ok (.ldiv, 1) := by decide +kernel
theorem dX12_row_66 : decode cX12_row 66 = .ok (.lstore_n 3, 1) := by decide +kernel
theorem dX12_row_67 : decode cX12_row 67 = .ok (.iinc 5 1, 3) := by decide +kernel
theorem dX12_row_70 : decode cX12_row 70 = .ok (.goto (-37), 3) := by decide +kernel
theorem dX1_addRow_0 : decode cX1_addRow 0 = .ok (.lload_n 1, 1) := by decide +kernel
theorem dX1_addRow_1 : decode cX1_addRow 1 = .ok (.lstore_n 3, 1) := by decide +kernel
theorem dX1_addRow_2 : decode cX1_addRow 2 = .ok (.iconst 0, 1) := by decide +kernel
theorem dX1_addRow_3 : decode cX1_addRow 3 = .ok (.istore 5, 2) := by decide +kernel
theorem dX1_addRow_5 : decode cX1_addRow 5 = .ok (.iload 5, 2) := by decide +kernel
theorem dX1_addRow_7 : decode cX1_addRow 7 = .ok (.bipush 15, 2) := by decide +kernel
theorem dX1_addRow_9 : decode cX1_addRow 9 = .ok (.if_icmp .ge 33, 3) := by decide +kernel
theorem dX1_addRow_42 : decode cX1_addRow 42 = .ok (.aload_n 0, 1) := by decide +kernel
theorem dX1_addRow_43 : decode cX1_addRow 43 = .ok (.dup, 1) := by decide +kernel
theorem dX1_addRow_44 : decode cX1_addRow 44 = .ok (.getfield 16, 3) := by decide +kernel
theorem dX1_addRow_47 : decode cX1_addRow 47 = .ok (.dup_x1, 1) := by decide +kernel
theorem dX1_addRow_48 : decode cX1_addRow 48 = .ok (.iconst 1, 1) := by decide +kernel
theorem dX1_addRow_49 : decode cX1_addRow 49 = .ok (.iadd, 1) := by decide +kernel
theorem dX1_addRow_50 : decode cX1_addRow 50 = .ok (.putfield 16, 3) := by decide +kernel
theorem dX1_addRow_53 : decode cX1_addRow 53 = .ok (.ireturn, 1) := by decide +kernel
theorem dX1_addRow_12 : decode cX1_addRow 12 = .ok (.aload_n 0, 1) := by decide +kernel
theorem dX1_addRow_13 : decode cX1_addRow 13 = .ok (.getfield 11, 3) := by decide +kernel
theorem dX1_addRow_16 : decode cX1_addRow 16 = .ok (.aload_n 0, 1) := by decide +kernel
theorem dX1_addRow_17 : decode cX1_addRow 17 = .ok (.getfield 16, 3) := by decide +kernel
theorem dX1_addRow_20 : decode cX1_addRow 20 = .ok (.aaload, 1) := by decide +kernel
theorem dX1_addRow_21 : decode cX1_addRow 21 = .ok (.iload 5, 2) := by decide +kernel
theorem dX1_addRow_23 : decode cX1_addRow 23 = .ok (.lload_n 3, 1) := by decide +kernel
theorem dX1_addRow_24 : decode cX1_addRow 24 = .ok (.ldc2_w 20, 3) := by decide +kernel
theorem dX1_addRow_27 : decode cX1_addRow 27 = .ok (.lrem, 1) := by decide +kernel
theorem dX1_addRow_28 : decode cX1_addRow 28 = .ok (.l2i, 1) := by decide +kernel
theorem dX1_addRow_29 : decode cX1_addRow 29 = .ok (.iastore, 1) := by decide +kernel
theorem dX1_addRow_30 : decode cX1_addRow 30 = .ok (.lload_n 3, 1) := by decide +kernel
theorem dX1_addRow_31 : decode cX1_addRow 31 = .ok (.ldc2_w 20, 3) := by decide +kernel
theorem dX1_addRow_34 : decode cX1_addRow 34 = .ok (.ldiv, 1) := by decide +kernel
theorem dX1_addRow_35 : decode cX1_addRow 35 = .ok (.lstore_n 3, 1) := by decide +kernel
theorem dX1_addRow_36 : decode cX1_addRow 36 = .ok (.iinc 5 1, 3) := by decide +kernel
theorem dX1_addRow_39 : decode cX1_addRow 39 = .ok (.goto (-34), 3) := by decide +kernel
theorem dX11_row_0 : decode cX11_row 0 = .ok (.lload_n 1, 1) := by decide +kernel
theorem dX11_row_1 : decode cX11_row 1 = .ok (.lconst 0, 1) := by decide +kernel
theorem dX11_row_2 : decode cX11_row 2 = .ok (.lcmp, 1) := by decide +kernel
theorem dX11_row_3 : decode cX11_row 3 = .ok (.ifCond .lt 11, 3) := by decide +kernel
theorem dX11_row_14 : decode cX11_row 14 = .ok (.bipush (-2), 2) := by decide +kernel
theorem dX11_row_16 : decode cX11_row 16 = .ok (.ireturn, 1) := by decide +kernel
theorem dX11_row_6 : decode cX11_row 6 = .ok (.lload_n 1, 1) := by decide +kernel
theorem dX11_row_7 : decode cX11_row 7 = .ok (.ldc2_w 328, 3) := by decide +kernel
theorem dX11_row_10 : decode cX11_row 10 = .ok (.lcmp, 1) := by decide +kernel
theorem dX11_row_11 : decode cX11_row 11 = .ok (.ifCond .le 6, 3) := by decide +kernel
theorem dX11_row_17 : decode cX11_row 17 = .ok (.aload_n 0, 1) := by decide +kernel
theorem dX11_row_18 : decode cX11_row 18 = .ok (.getfield 60, 3) := by decide +kernel
theorem dX11_row_21 : decode cX11_row 21 = .ok (.getfield 330, 3) := by decide +kernel
theorem dX11_row_24 : decode cX11_row 24 = .ok (.iconst 4, 1) := by decide +kernel
theorem dX11_row_25 : decode cX11_row 25 = .ok (.if_icmp .lt 6, 3) := by decide +kernel
theorem dX11_row_31 : decode cX11_row 31 = .ok (.aload_n 0, 1) := by decide +kernel
theorem dX11_row_32 : decode cX11_row 32 = .ok (.getfield 60, 3) := by decide +kernel
theorem dX11_row_35 : decode cX11_row 35 = .ok (.lload_n 1, 1) := by decide +kernel
set_option maxRecDepth 20000 in
theorem ggX11_row_X1_addRow : GoodIn wsX11_row wsX1_addRow := goodIn_r _ [8, 9, 10, 11, 25, 26, 27, 28] (by decide +kernel) (by decide +kernel)
set_option maxRecDepth 20000 in
theorem gX11_row_X1_addRow : GoodIn wsX11_row (wsV RX11 333 RX1 yX1_addRow wsX1_addRow) := goodIn_app (goodIn_of _ (by decide +kernel)) ggX11_row_X1_addRow
theorem dX11_row_36 : decode cX11_row 36 = .ok (.invokevirtual 333, 3) := by decide +kernel
theorem dX11_row_39 : decode cX11_row 39 = .ok (.ireturn, 1) := by decide +kernel
set_option maxHeartbeats 1000000 in
set_option maxRecDepth 100000 in
theorem rt_X11_copyII (l : Launch) (dC : Nat → ClassId) (dI : Nat → Nat → Nat) (h0 : Nat) (ad : Nat → Nat) (cA : ClassId) (fs : Nat → Option Nat) (ha : Nat) (ah : Nat → Nat) (hb_ : Nat) (p0 p1 p2 p3 p4 : Int32) (hp : 0 ≤ p0.toInt ∧ p0.toInt < 4) (hfa : fs p0.toNatClampNeg = some ha) (hp2 : 0 ≤ p2.toInt ∧ p2.toInt < 4) (hfb : fs p2.toNatClampNeg = some hb_) : Met l yX11_copy wsX11_copy ({ frames := 1, cells := 0, slots := 0, locals := 21 }) (va_Pc [.ref h0, .int p0, .int p1, .int p2, .int p3, .int p4] (fun U => va_P (dC, dI) vwCl [(h0, .inr (11, [.ref (ad 0), .ref (ad 1), .ref (ad 2), .ref (ad 3), .ref (ad 4), .ref (ad 5), .ref (ad 6), .ref (ad 7), .ref (ad 8), .int 0, .int 0, .int 0, .int 0])), (ad 8, .inl (cA, 4, .inr (.inr (.inr (.inr fs))))), (ha, .inr (7, [.ref (ah 0), .int (-1), .int 0]))] U.heap ∧ va_K (dC, dI) vwCl [(cA, .object RX7)] U)) (vp_Si (fun r : Int32 => r = (-11))) 0 0 (fun _ => False) := by
  refine Met.ofW (cc := cX11_copy) (maxL := 8) (ret := (some .int)) (by decide) rfl ?_
  intro p e s m args below meth c s₁ B hml hv
  obtain ⟨rfl, hP, hK⟩ := hv
  have hx := B.exec
  have hb := B.bytes
  have hr := B.returns
  have hts := atoms_spec (ws := wsX11_copy) B.pre
  have hown : s.vm.findClass RX11 = some m.cls := findClass_of_methodNamed B.named
  have hlocks := B.notSynchronized
  have hl := lv_entry ([.ref h0, .int p0, .int p1, .int p2, .int p3, .int p4]) (n := 8) (Nat.le_of_ble_eq_true rfl)
  rw [lg_entry_eq]
  generalize (lg_sl ([.ref h0, .int p0, .int p1, .int p2, .int p3, .int p4]) ++ List.replicate (8 - (lg_sl ([.ref h0, .int p0, .int p1, .int p2, .int p3, .int p4])).length) Slot.unset).toArray = ls at hl ⊢
  have hl : lv_has ls 8 [(0, .ref h0), (1, .int p0), (2, .int p1), (3, .int p2), (4, .int p3), (5, .int p4)] := hl
  refine lv_aload_n hx hb dX11_copy_0 rfl (lv_at hl 0 rfl) ?_
  refine lv_iload_n hx hb dX11_copy_1 rfl (lv_at hl 1 rfl) ?_
  have hPc := hP.sub (ws' := [(h0, .inr (11, [.ref (ad 0), .ref (ad 1), .ref (ad 2), .ref (ad 3), .ref (ad 4), .ref (ad 5), .ref (ad 6), .ref (ad 7), .ref (ad 8), .int 0, .int 0, .int 0, .int 0])), (ad 8, .inl (cA, 4, .inr (.inr (.inr (.inr fs)))))]) [0, 1] rfl
  have hKc := hK.sub (tys' := [(cA, .object RX7)]) [0] rfl
  refine va_csq (va_Run.run (va_runV (As := [.int p0]) (rest := []) ⟨hx, hb, hml, hown, hts⟩ (rt_X11_sheetAtI l dC dI h0 ad cA fs ha p0 hp hfa) (cwV 1 hts gX11_copy_X11_sheetAt rfl rfl rfl (by decide +kernel) ⟨Nat.le_of_ble_eq_true rfl, Nat.le_of_ble_eq_true rfl⟩) ⟨fun a U g mk q => by obtain ⟨q0, qP, qK⟩ := q; exact ⟨q0, qP, va_K.moved (u := U) (U := U.calling g mk a) (Vm.Alike.refl U.vm) qK⟩, va_recv hKc hPc (ci := 11) (q0 := 0) rfl rfl, fun U hU hW => ⟨rfl, by rw [hU]; exact hPc, va_K.moved hW.alike hKc⟩⟩ rfl rfl hl.1 rfl (lv_room (Nat.le_of_ble_eq_true rfl)) dX11_copy_2 ⟨by decide +kernel, by decide +kernel⟩)) (fun r_1 hr_1 => ?_)
  obtain rfl := hr_1
  refine lv_astore (lv' := [(6, .ref ha), (0, .ref h0), (1, .int p0), (2, .int p1), (3, .int p2), (4, .int p3), (5, .int p4)]) hx hb dX11_copy_5 hl (by decide) rfl (fun ls hl => ?_)
  refine lv_aload_n hx hb dX11_copy_7 rfl (lv_at hl 1 rfl) ?_
  refine lv_iload_n hx hb dX11_copy_8 rfl (lv_at hl 4 rfl) ?_
  have hPc := hP.sub (ws' := [(h0, .inr (11, [.ref (ad 0), .ref (ad 1), .ref (ad 2), .ref (ad 3), .ref (ad 4), .ref (ad 5), .ref (ad 6), .ref (ad 7), .ref (ad 8), .int 0, .int 0, .int 0, .int 0])), (ad 8, .inl (cA, 4, .inr (.inr (.inr (.inr fs)))))]) [0, 1] rfl
  have hKc := hK.sub (tys' := [(cA, .object RX7)]) [0] rfl
  refine va_csq (va_Run.run (va_runV (As := [.int p2]) (rest := []) ⟨hx, hb, hml, hown, hts⟩ (rt_X11_sheetAtI l dC dI h0 ad cA fs hb_ p2 hp2 hfb) (cwV 1 hts gX11_copy_X11_sheetAt rfl rfl rfl (by decide +kernel) ⟨Nat.le_of_ble_eq_true rfl, Nat.le_of_ble_eq_true rfl⟩) ⟨fun a U g mk q => by obtain ⟨q0, qP, qK⟩ := q; exact ⟨q0, qP, va_K.moved (u := U) (U := U.calling g mk a) (Vm.Alike.refl U.vm) qK⟩, va_recv hKc hPc (ci := 11) (q0 := 0) rfl rfl, fun U hU hW => ⟨rfl, by rw [hU]; exact hPc, va_K.moved hW.alike hKc⟩⟩ rfl rfl hl.1 rfl (lv_room (Nat.le_of_ble_eq_true rfl)) dX11_copy_9 ⟨by decide +kernel, by decide +kernel⟩)) (fun r_2 hr_2 => ?_)
  obtain rfl := hr_2
  refine lv_astore (lv' := [(7, .ref hb_), (6, .ref ha), (0, .ref h0), (1, .int p0), (2, .int p1), (3, .int p2), (4, .int p3), (5, .int p4)]) hx hb dX11_copy_12 hl (by decide) rfl (fun ls hl => ?_)
  refine lv_aload hx hb dX11_copy_14 (lv_at hl 1 rfl) ?_
  refine lv_ifnull hx hb dX11_copy_16 ?_
  refine lv_aload hx hb dX11_copy_19 (lv_at hl 0 rfl) ?_
  refine lv_ifnonnull (tgt := 27) hx hb dX11_copy_21 (by decide) ?_
  refine lv_aload hx hb dX11_copy_27 (lv_at hl 1 rfl) ?_
  refine va_get (D := (dC, dI)) (ci := 7) (v := .int (-1)) (C := RX7) (T := TX7) (N := 3) hx hb hts (by decide +kernel) hown hK hP 2 rfl rfl 1 (by decide) (hts (.fieldLink RX11 355 "RedTent$Sheet" "sort" "I") (by decide +kernel)) (fun _ h9 => h9) rfl dX11_copy_29 ?_
  refine lv_iconst (v := (-1)) hx hb dX11_copy_32 (by decide) ?_
  refine lv_icmp_eq (tgt := 45) hx hb dX11_copy_33 (by decide) (fun _ => ?_) (fun c9 => absurd (by decide) c9)
  refine lv_bipush (v := (-11)) hx hb dX11_copy_45 (by decide) ?_
  exact W.iret (v := (-11)) hx hb hr (fun t ht hW => ⟨(-11), rfl, rfl, ht⟩) (fun _ h => absurd h List.not_mem_nil) dX11_copy_47
set_option maxHeartbeats 1000000 in
set_option maxRecDepth 100000 in
theorem rt_X11_copyIO (l : Launch) (dC : Nat → ClassId) (dI : Nat → Nat → Nat) (h0 : Nat) (ad : Nat → Nat) (cA : ClassId) (fs : Nat → Option Nat) (ha : Nat) (p0 p1 p2 p3 p4 : Int32) (hp : 0 ≤ p0.toInt ∧ p0.toInt < 4) (hfa : fs p0.toNatClampNeg = some ha) (hp2 : p2.toInt < 0 ∨ 4 ≤ p2.toInt) : Met l yX11_copy wsX11_copy ({ frames := 1, cells := 0, slots := 0, locals := 21 }) (va_Pc [.ref h0, .int p0, .int p1, .int p2, .int p3, .int p4] (fun U => va_P (dC, dI) vwCl [(h0, .inr (11, [.ref (ad 0), .ref (ad 1), .ref (ad 2), .ref (ad 3), .ref (ad 4), .ref (ad 5), .ref (ad 6), .ref (ad 7), .ref (ad 8), .int 0, .int 0, .int 0, .int 0])), (ad 8, .inl (cA, 4, .inr (.inr (.inr (.inr fs)))))] U.heap ∧ va_K (dC, dI) vwCl [(cA, .object RX7)] U)) (vp_Si (fun r : Int32 => r = (-2))) 0 0 (fun _ => False) := by
  refine Met.ofW (cc := cX11_copy) (maxL := 8) (ret := (some .int)) (by decide) rfl ?_
  intro p e s m args below meth c s₁ B hml hv
  obtain ⟨rfl, hP, hK⟩ := hv
  have hx := B.exec
  have hb := B.bytes
  have hr := B.returns
  have hts := atoms_spec (ws := wsX11_copy) B.pre
  have hown : s.vm.findClass RX11 = some m.cls := findClass_of_methodNamed B.named
  have hlocks := B.notSynchronized
  have hl := lv_entry ([.ref h0, .int p0, .int p1, .int p2, .int p3, .int p4]) (n := 8) (Nat.le_of_ble_eq_true rfl)
  rw [lg_entry_eq]
  generalize (lg_sl ([.ref h0, .int p0, .int p1, .int p2, .int p3, .int p4]) ++ List.replicate (8 - (lg_sl ([.ref h0, .int p0, .int p1, .int p2, .int p3, .int p4])).length) Slot.unset).toArray = ls at hl ⊢
  have hl : lv_has ls 8 [(0, .ref h0), (1, .int p0), (2, .int p1), (3, .int p2), (4, .int p3), (5, .int p4)] := hl
  refine lv_aload_n hx hb dX11_copy_0 rfl (lv_at hl 0 rfl) ?_
  refine lv_iload_n hx hb dX11_copy_1 rfl (lv_at hl 1 rfl) ?_
  have hPc := hP.sub (ws' := [(h0, .inr (11, [.ref (ad 0), .ref (ad 1), .ref (ad 2), .ref (ad 3), .ref (ad 4), .ref (ad 5), .ref (ad 6), .ref (ad 7), .ref (ad 8), .int 0, .int 0, .int 0, .int 0])), (ad 8, .inl (cA, 4, .inr (.inr (.inr (.inr fs)))))]) [0, 1] rfl
  have hKc := hK.sub (tys' := [(cA, .object RX7)]) [0] rfl
  refine va_csq (va_Run.run (va_runV (As := [.int p0]) (rest := []) ⟨hx, hb, hml, hown, hts⟩ (rt_X11_sheetAtI l dC dI h0 ad cA fs ha p0 hp hfa) (cwV 1 hts gX11_copy_X11_sheetAt rfl rfl rfl (by decide +kernel) ⟨Nat.le_of_ble_eq_true rfl, Nat.le_of_ble_eq_true rfl⟩) ⟨fun a U g mk q => by obtain ⟨q0, qP, qK⟩ := q; exact ⟨q0, qP, va_K.moved (u := U) (U := U.calling g mk a) (Vm.Alike.refl U.vm) qK⟩, va_recv hKc hPc (ci := 11) (q0 := 0) rfl rfl, fun U hU hW => ⟨rfl, by rw [hU]; exact hPc, va_K.moved hW.alike hKc⟩⟩ rfl rfl hl.1 rfl (lv_room (Nat.le_of_ble_eq_true rfl)) dX11_copy_2 ⟨by decide +kernel, by decide +kernel⟩)) (fun r_1 hr_1 => ?_)
  obtain rfl := hr_1
  refine lv_astore (lv' := [(6, .ref ha), (0, .ref h0), (1, .int p0), (2, .int p1), (3, .int p2), (4, .int p3), (5, .int p4)]) hx hb dX11_copy_5 hl (by decide) rfl (fun ls hl => ?_)
  refine lv_aload_n hx hb dX11_copy_7 rfl (lv_at hl 1 rfl) ?_
  refine lv_iload_n hx hb dX11_copy_8 rfl (lv_at hl 4 rfl) ?_
  have hPc := hP.sub (ws' := [(h0, .inr (11, [.ref (ad 0), .ref (ad 1), .ref (ad 2), .ref (ad 3), .ref (ad 4), .ref (ad 5), .ref (ad 6), .ref (ad 7), .ref (ad 8), .int 0, .int 0, .int 0, .int 0])), (ad 8, .inl (cA, 4, .inr (.inr (.inr (.inr fs)))))]) [0, 1] rfl
  have hKc := hK.sub (tys' := [(cA, .object RX7)]) [0] rfl
  refine va_csq (va_Run.run (va_runV (As := [.int p2]) (rest := []) ⟨hx, hb, hml, hown, hts⟩ (rt_X11_sheetAtO l dC dI h0 ad cA fs p2 hp2) (cwV 1 hts gX11_copy_X11_sheetAt rfl rfl rfl (by decide +kernel) ⟨Nat.le_of_ble_eq_true rfl, Nat.le_of_ble_eq_true rfl⟩) ⟨fun a U g mk q => by obtain ⟨q0, qP, qK⟩ := q; exact ⟨q0, qP, va_K.moved (u := U) (U := U.calling g mk a) (Vm.Alike.refl U.vm) qK⟩, va_recv hKc hPc (ci := 11) (q0 := 0) rfl rfl, fun U hU hW => ⟨rfl, by rw [hU]; exact hPc, va_K.moved hW.alike hKc⟩⟩ rfl rfl hl.1 rfl (lv_room (Nat.le_of_ble_eq_true rfl)) dX11_copy_9 ⟨by decide +kernel, by decide +kernel⟩)) (fun r_2 hr_2 => ?_)
  obtain rfl := hr_2
  refine lv_astoreN (lv' := [(7, .null), (6, .ref ha), (0, .ref h0), (1, .int p0), (2, .int p1), (3, .int p2), (4, .int p3), (5, .int p4)]) hx hb dX11_copy_12 hl (by decide) rfl (fun ls hl => ?_)
  refine lv_aload hx hb dX11_copy_14 (lv_at hl 1 rfl) ?_
  refine lv_ifnull hx hb dX11_copy_16 ?_
  refine lv_aloadN hx hb dX11_copy_19 (lv_at hl 0 rfl) ?_
  refine lv_ifnonnullN hx hb dX11_copy_21 ?_
  refine lv_bipush (v := (-2)) hx hb dX11_copy_24 (by decide) ?_
  exact W.iret (v := (-2)) hx hb hr (fun t ht hW => ⟨(-2), rfl, rfl, ht⟩) (fun _ h => absurd h List.not_mem_nil) dX11_copy_26
set_option maxHeartbeats 1000000 in
set_option maxRecDepth 100000 in
theorem rt_X11_copyOI (l : Launch) (dC : Nat → ClassId) (dI : Nat → Nat → Nat) (h0 : Nat) (ad : Nat → Nat) (cA : ClassId) (fs : Nat → Option Nat) (hb_ : Nat) (p0 p1 p2 p3 p4 : Int32) (hp : p0.toInt < 0 ∨ 4 ≤ p0.toInt) (hp2 : 0 ≤ p2.toInt ∧ p2.toInt < 4) (hfb : fs p2.toNatClampNeg = some hb_) : Met l yX11_copy wsX11_copy ({ frames := 1, cells := 0, slots := 0, locals := 21 }) (va_Pc [.ref h0, .int p0, .int p1, .int p2, .int p3, .int p4] (fun U => va_P (dC, dI) vwCl [(h0, .inr (11, [.ref (ad 0), .ref (ad 1), .ref (ad 2), .ref (ad 3), .ref (ad 4), .ref (ad 5), .ref (ad 6), .ref (ad 7), .ref (ad 8), .int 0, .int 0, .int 0, .int 0])), (ad 8, .inl (cA, 4, .inr (.inr (.inr (.inr fs)))))] U.heap ∧ va_K (dC, dI) vwCl [(cA, .object RX7)] U)) (vp_Si (fun r : Int32 => r = (-2))) 0 0 (fun _ => False) := by
  refine Met.ofW (cc := cX11_copy) (maxL := 8) (ret := (some .int)) (by decide) rfl ?_
  intro p e s m args below meth c s₁ B hml hv
  obtain ⟨rfl, hP, hK⟩ := hv
  have hx := B.exec
  have hb := B.bytes
  have hr := B.returns
  have hts := atoms_spec (ws := wsX11_copy) B.pre
  have hown : s.vm.findClass RX11 = some m.cls := findClass_of_methodNamed B.named
  have hlocks := B.notSynchronized
  have hl := lv_entry ([.ref h0, .int p0, .int p1, .int p2, .int p3, .int p4]) (n := 8) (Nat.le_of_ble_eq_true rfl)
  rw [lg_entry_eq]
  generalize (lg_sl ([.ref h0, .int p0, .int p1, .int p2, .int p3, .int p4]) ++ List.replicate (8 - (lg_sl ([.ref h0, .int p0, .int p1, .int p2, .int p3, .int p4])).length) Slot.unset).toArray = ls at hl ⊢
  have hl : lv_has ls 8 [(0, .ref h0), (1, .int p0), (2, .int p1), (3, .int p2), (4, .int p3), (5, .int p4)] := hl
  refine lv_aload_n hx hb dX11_copy_0 rfl (lv_at hl 0 rfl) ?_
  refine lv_iload_n hx hb dX11_copy_1 rfl (lv_at hl 1 rfl) ?_
  have hPc := hP.sub (ws' := [(h0, .inr (11, [.ref (ad 0), .ref (ad 1), .ref (ad 2), .ref (ad 3), .ref (ad 4), .ref (ad 5), .ref (ad 6), .ref (ad 7), .ref (ad 8), .int 0, .int 0, .int 0, .int 0])), (ad 8, .inl (cA, 4, .inr (.inr (.inr (.inr fs)))))]) [0, 1] rfl
  have hKc := hK.sub (tys' := [(cA, .object RX7)]) [0] rfl
  refine va_csq (va_Run.run (va_runV (As := [.int p0]) (rest := []) ⟨hx, hb, hml, hown, hts⟩ (rt_X11_sheetAtO l dC dI h0 ad cA fs p0 hp) (cwV 1 hts gX11_copy_X11_sheetAt rfl rfl rfl (by decide +kernel) ⟨Nat.le_of_ble_eq_true rfl, Nat.le_of_ble_eq_true rfl⟩) ⟨fun a U g mk q => by obtain ⟨q0, qP, qK⟩ := q; exact ⟨q0, qP, va_K.moved (u := U) (U := U.calling g mk a) (Vm.Alike.refl U.vm) qK⟩, va_recv hKc hPc (ci := 11) (q0 := 0) rfl rfl, fun U hU hW => ⟨rfl, by rw [hU]; exact hPc, va_K.moved hW.alike hKc⟩⟩ rfl rfl hl.1 rfl (lv_room (Nat.le_of_ble_eq_true rfl)) dX11_copy_2 ⟨by decide +kernel, by decide +kernel⟩)) (fun r_1 hr_1 => ?_)
  obtain rfl := hr_1
  refine lv_astoreN (lv' := [(6, .null), (0, .ref h0), (1, .int p0), (2, .int p1), (3, .int p2), (4, .int p3), (5, .int p4)]) hx hb dX11_copy_5 hl (by decide) rfl (fun ls hl => ?_)
  refine lv_aload_n hx hb dX11_copy_7 rfl (lv_at hl 1 rfl) ?_
  refine lv_iload_n hx hb dX11_copy_8 rfl (lv_at hl 4 rfl) ?_
  have hPc := hP.sub (ws' := [(h0, .inr (11, [.ref (ad 0), .ref (ad 1), .ref (ad 2), .ref (ad 3), .ref (ad 4), .ref (ad 5), .ref (ad 6), .ref (ad 7), .ref (ad 8), .int 0, .int 0, .int 0, .int 0])), (ad 8, .inl (cA, 4, .inr (.inr (.inr (.inr fs)))))]) [0, 1] rfl
  have hKc := hK.sub (tys' := [(cA, .object RX7)]) [0] rfl
  refine va_csq (va_Run.run (va_runV (As := [.int p2]) (rest := []) ⟨hx, hb, hml, hown, hts⟩ (rt_X11_sheetAtI l dC dI h0 ad cA fs hb_ p2 hp2 hfb) (cwV 1 hts gX11_copy_X11_sheetAt rfl rfl rfl (by decide +kernel) ⟨Nat.le_of_ble_eq_true rfl, Nat.le_of_ble_eq_true rfl⟩) ⟨fun a U g mk q => by obtain ⟨q0, qP, qK⟩ := q; exact ⟨q0, qP, va_K.moved (u := U) (U := U.calling g mk a) (Vm.Alike.refl U.vm) qK⟩, va_recv hKc hPc (ci := 11) (q0 := 0) rfl rfl, fun U hU hW => ⟨rfl, by rw [hU]; exact hPc, va_K.moved hW.alike hKc⟩⟩ rfl rfl hl.1 rfl (lv_room (Nat.le_of_ble_eq_true rfl)) dX11_copy_9 ⟨by decide +kernel, by decide +kernel⟩)) (fun r_2 hr_2 => ?_)
  obtain rfl := hr_2
  refine lv_astore (lv' := [(7, .ref hb_), (6, .null), (0, .ref h0), (1, .int p0), (2, .int p1), (3, .int p2), (4, .int p3), (5, .int p4)]) hx hb dX11_copy_12 hl (by decide) rfl (fun ls hl => ?_)
  refine lv_aloadN hx hb dX11_copy_14 (lv_at hl 1 rfl) ?_
  refine lv_ifnullN (tgt := 24) hx hb dX11_copy_16 (by decide) ?_
  refine lv_bipush (v := (-2)) hx hb dX11_copy_24 (by decide) ?_
  exact W.iret (v := (-2)) hx hb hr (fun t ht hW => ⟨(-2), rfl, rfl, ht⟩) (fun _ h => absurd h List.not_mem_nil) dX11_copy_26
set_option maxHeartbeats 1000000 in
set_option maxRecDepth 100000 in
theorem rt_X11_copyOO (l : Launch) (dC : Nat → ClassId) (dI : Nat → Nat → Nat) (h0 : Nat) (ad : Nat → Nat) (cA : ClassId) (fs : Nat → Option Nat) (p0 p1 p2 p3 p4 : Int32) (hp : p0.toInt < 0 ∨ 4 ≤ p0.toInt) (hp2 : p2.toInt < 0 ∨ 4 ≤ p2.toInt) : Met l yX11_copy wsX11_copy ({ frames := 1, cells := 0, slots := 0, locals := 21 }) (va_Pc [.ref h0, .int p0, .int p1, .int p2, .int p3, .int p4] (fun U => va_P (dC, dI) vwCl [(h0, .inr (11, [.ref (ad 0), .ref (ad 1), .ref (ad 2), .ref (ad 3), .ref (ad 4), .ref (ad 5), .ref (ad 6), .ref (ad 7), .ref (ad 8), .int 0, .int 0, .int 0, .int 0])), (ad 8, .inl (cA, 4, .inr (.inr (.inr (.inr fs)))))] U.heap ∧ va_K (dC, dI) vwCl [(cA, .object RX7)] U)) (vp_Si (fun r : Int32 => r = (-2))) 0 0 (fun _ => False) := by
  refine Met.ofW (cc := cX11_copy) (maxL := 8) (ret := (some .int)) (by decide) rfl ?_
  intro p e s m args below meth c s₁ B hml hv
  obtain ⟨rfl, hP, hK⟩ := hv
  have hx := B.exec
  have hb := B.bytes
  have hr := B.returns
  have hts := atoms_spec (ws := wsX11_copy) B.pre
  have hown : s.vm.findClass RX11 = some m.cls := findClass_of_methodNamed B.named
  have hlocks := B.notSynchronized
  have hl := lv_entry ([.ref h0, .int p0, .int p1, .int p2, .int p3, .int p4]) (n := 8) (Nat.le_of_ble_eq_true rfl)
  rw [lg_entry_eq]
  generalize (lg_sl ([.ref h0, .int p0, .int p1, .int p2, .int p3, .int p4]) ++ List.replicate (8 - (lg_sl ([.ref h0, .int p0, .int p1, .int p2, .int p3, .int p4])).length) Slot.unset).toArray = ls at hl ⊢
  have hl : lv_has ls 8 [(0, .ref h0), (1, .int p0), (2, .int p1), (3, .int p2), (4, .int p3), (5, .int p4)] := hl
  refine lv_aload_n hx hb dX11_copy_0 rfl (lv_at hl 0 rfl) ?_
  refine lv_iload_n hx hb dX11_copy_1 rfl (lv_at hl 1 rfl) ?_
  have hPc := hP.sub (ws' := [(h0, .inr (11, [.ref (ad 0), .ref (ad 1), .ref (ad 2), .ref (ad 3), .ref (ad 4), .ref (ad 5), .ref (ad 6), .ref (ad 7), .ref (ad 8), .int 0, .int 0, .int 0, .int 0])), (ad 8, .inl (cA, 4, .inr (.inr (.inr (.inr fs)))))]) [0, 1] rfl
  have hKc := hK.sub (tys' := [(cA, .object RX7)]) [0] rfl
  refine va_csq (va_Run.run (va_runV (As := [.int p0]) (rest := []) ⟨hx, hb, hml, hown, hts⟩ (rt_X11_sheetAtO l dC dI h0 ad cA fs p0 hp) (cwV 1 hts gX11_copy_X11_sheetAt rfl rfl rfl (by decide +kernel) ⟨Nat.le_of_ble_eq_true rfl, Nat.le_of_ble_eq_true rfl⟩) ⟨fun a U g mk q => by obtain ⟨q0, qP, qK⟩ := q; exact ⟨q0, qP, va_K.moved (u := U) (U := U.calling g mk a) (Vm.Alike.refl U.vm) qK⟩, va_recv hKc hPc (ci := 11) (q0 := 0) rfl rfl, fun U hU hW => ⟨rfl, by rw [hU]; exact hPc, va_K.moved hW.alike hKc⟩⟩ rfl rfl hl.1 rfl (lv_room (Nat.le_of_ble_eq_true rfl)) dX11_copy_2 ⟨by decide +kernel, by decide +kernel⟩)) (fun r_1 hr_1 => ?_)
  obtain rfl := hr_1
  refine lv_astoreN (lv' := [(6, .null), (0, .ref h0), (1, .int p0), (2, .int p1), (3, .int p2), (4, .int p3), (5, .int p4)]) hx hb dX11_copy_5 hl (by decide) rfl (fun ls hl => ?_)
  refine lv_aload_n hx hb dX11_copy_7 rfl (lv_at hl 1 rfl) ?_
  refine lv_iload_n hx hb dX11_copy_8 rfl (lv_at hl 4 rfl) ?_
  have hPc := hP.sub (ws' := [(h0, .inr (11, [.ref (ad 0), .ref (ad 1), .ref (ad 2), .ref (ad 3), .ref (ad 4), .ref (ad 5), .ref (ad 6), .ref (ad 7), .ref (ad 8), .int 0, .int 0, .int 0, .int 0])), (ad 8, .inl (cA, 4, .inr (.inr (.inr (.inr fs)))))]) [0, 1] rfl
  have hKc := hK.sub (tys' := [(cA, .object RX7)]) [0] rfl
  refine va_csq (va_Run.run (va_runV (As := [.int p2]) (rest := []) ⟨hx, hb, hml, hown, hts⟩ (rt_X11_sheetAtO l dC dI h0 ad cA fs p2 hp2) (cwV 1 hts gX11_copy_X11_sheetAt rfl rfl rfl (by decide +kernel) ⟨Nat.le_of_ble_eq_true rfl, Nat.le_of_ble_eq_true rfl⟩) ⟨fun a U g mk q => by obtain ⟨q0, qP, qK⟩ := q; exact ⟨q0, qP, va_K.moved (u := U) (U := U.calling g mk a) (Vm.Alike.refl U.vm) qK⟩, va_recv hKc hPc (ci := 11) (q0 := 0) rfl rfl, fun U hU hW => ⟨rfl, by rw [hU]; exact hPc, va_K.moved hW.alike hKc⟩⟩ rfl rfl hl.1 rfl (lv_room (Nat.le_of_ble_eq_true rfl)) dX11_copy_9 ⟨by decide +kernel, by decide +kernel⟩)) (fun r_2 hr_2 => ?_)
  obtain rfl := hr_2
  refine lv_astoreN (lv' := [(7, .null), (6, .null), (0, .ref h0), (1, .int p0), (2, .int p1), (3, .int p2), (4, .int p3), (5, .int p4)]) hx hb dX11_copy_12 hl (by decide) rfl (fun ls hl => ?_)
  refine lv_aloadN hx hb dX11_copy_14 (lv_at hl 1 rfl) ?_
  refine lv_ifnullN (tgt := 24) hx hb dX11_copy_16 (by decide) ?_
  refine lv_bipush (v := (-2)) hx hb dX11_copy_24 (by decide) ?_
  exact W.iret (v := (-2)) hx hb hr (fun t ht hW => ⟨(-2), rfl, rfl, ht⟩) (fun _ h => absurd h List.not_mem_nil) dX11_copy_26
set_option maxHeartbeats 1000000 in
set_option maxRecDepth 100000 in
theorem rt_X11_fixesI (l : Launch) (dC : Nat → ClassId) (dI : Nat → Nat → Nat) (h0 : Nat) (ad : Nat → Nat) (cA : ClassId) (fs : Nat → Option Nat) (ha : Nat) (p0 p1 p2 p3 p4 : Int32) (hp : 0 ≤ p1.toInt ∧ p1.toInt < 4) (hfa : fs p1.toNatClampNeg = some ha) : Met l yX11_fixes wsX11_fixes ({ frames := 1, cells := 0, slots := 0, locals := 21 }) (va_Pc [.ref h0, .int p0, .int p1, .int p2, .int p3, .int p4] (fun U => va_P (dC, dI) vwCl [(h0, .inr (11, [.ref (ad 0), .ref (ad 1), .ref (ad 2), .ref (ad 3), .ref (ad 4), .ref (ad 5), .ref (ad 6), .ref (ad 7), .ref (ad 8), .int 0, .int 0, .int 0, .int 0])), (ad 8, .inl (cA, 4, .inr (.inr (.inr (.inr fs)))))] U.heap ∧ va_K (dC, dI) vwCl [(cA, .object RX7)] U)) (vp_Si (fun r : Int32 => r = (-2))) 0 0 (fun _ => False) := by
  refine Met.ofW (cc := cX11_fixes) (maxL := 12) (ret := (some .int)) (by decide) rfl ?_
  intro p e s m args below meth c s₁ B hml hv
  obtain ⟨rfl, hP, hK⟩ := hv
  have hx := B.exec
  have hb := B.bytes
  have hr := B.returns
  have hts := atoms_spec (ws := wsX11_fixes) B.pre
  have hown : s.vm.findClass RX11 = some m.cls := findClass_of_methodNamed B.named
  have hlocks := B.notSynchronized
  have hl := lv_entry ([.ref h0, .int p0, .int p1, .int p2, .int p3, .int p4]) (n := 12) (Nat.le_of_ble_eq_true rfl)
  rw [lg_entry_eq]
  generalize (lg_sl ([.ref h0, .int p0, .int p1, .int p2, .int p3, .int p4]) ++ List.replicate (12 - (lg_sl ([.ref h0, .int p0, .int p1, .int p2, .int p3, .int p4])).length) Slot.unset).toArray = ls at hl ⊢
  have hl : lv_has ls 12 [(0, .ref h0), (1, .int p0), (2, .int p1), (3, .int p2), (4, .int p3), (5, .int p4)] := hl
  refine lv_aload_n hx hb dX11_fixes_0 rfl (lv_at hl 0 rfl) ?_
  refine lv_iload_n hx hb dX11_fixes_1 rfl (lv_at hl 1 rfl) ?_
  have hPc := hP.sub (ws' := [(h0, .inr (11, [.ref (ad 0), .ref (ad 1), .ref (ad 2), .ref (ad 3), .ref (ad 4), .ref (ad 5), .ref (ad 6), .ref (ad 7), .ref (ad 8), .int 0, .int 0, .int 0, .int 0]))]) [0] rfl
  have hKc := hK.sub (tys' := []) [] rfl
  refine va_csq (va_Run.run (va_runV (As := [.int p0]) (rest := []) ⟨hx, hb, hml, hown, hts⟩ (rt_X11_bodyAt l dC dI h0 ad p0) (cwV 1 hts gX11_fixes_X11_bodyAt rfl rfl rfl (by decide +kernel) ⟨Nat.le_of_ble_eq_true rfl, Nat.le_of_ble_eq_true rfl⟩) ⟨fun a U g mk q => by obtain ⟨q0, qP, qK⟩ := q; exact ⟨q0, qP, va_K.moved (u := U) (U := U.calling g mk a) (Vm.Alike.refl U.vm) qK⟩, va_recv hKc hPc (ci := 11) (q0 := 0) rfl rfl, fun U hU hW => ⟨rfl, by rw [hU]; exact hPc, va_K.moved hW.alike hKc⟩⟩ rfl rfl hl.1 rfl (lv_room (Nat.le_of_ble_eq_true rfl)) dX11_fixes_2 ⟨by decide +kernel, by decide +kernel⟩)) (fun r_1 hr_1 => ?_)
  obtain rfl := hr_1
  refine lv_astoreN (lv' := [(6, .null), (0, .ref h0), (1, .int p0), (2, .int p1), (3, .int p2), (4, .int p3), (5, .int p4)]) hx hb dX11_fixes_5 hl (by decide) rfl (fun ls hl => ?_)
  refine lv_aload_n hx hb dX11_fixes_7 rfl (lv_at hl 1 rfl) ?_
  refine lv_iload_n hx hb dX11_fixes_8 rfl (lv_at hl 3 rfl) ?_
  have hPc := hP.sub (ws' := [(h0, .inr (11, [.ref (ad 0), .ref (ad 1), .ref (ad 2), .ref (ad 3), .ref (ad 4), .ref (ad 5), .ref (ad 6), .ref (ad 7), .ref (ad 8), .int 0, .int 0, .int 0, .int 0])), (ad 8, .inl (cA, 4, .inr (.inr (.inr (.inr fs)))))]) [0, 1] rfl
  have hKc := hK.sub (tys' := [(cA, .object RX7)]) [0] rfl
  refine va_csq (va_Run.run (va_runV (As := [.int p1]) (rest := []) ⟨hx, hb, hml, hown, hts⟩ (rt_X11_sheetAtI l dC dI h0 ad cA fs ha p1 hp hfa) (cwV 1 hts gX11_fixes_X11_sheetAt rfl rfl rfl (by decide +kernel) ⟨Nat.le_of_ble_eq_true rfl, Nat.le_of_ble_eq_true rfl⟩) ⟨fun a U g mk q => by obtain ⟨q0, qP, qK⟩ := q; exact ⟨q0, qP, va_K.moved (u := U) (U := U.calling g mk a) (Vm.Alike.refl U.vm) qK⟩, va_recv hKc hPc (ci := 11) (q0 := 0) rfl rfl, fun U hU hW => ⟨rfl, by rw [hU]; exact hPc, va_K.moved hW.alike hKc⟩⟩ rfl rfl hl.1 rfl (lv_room (Nat.le_of_ble_eq_true rfl)) dX11_fixes_9 ⟨by decide +kernel, by decide +kernel⟩)) (fun r_2 hr_2 => ?_)
  obtain rfl := hr_2
  refine lv_astore (lv' := [(7, .ref ha), (6, .null), (0, .ref h0), (1, .int p0), (2, .int p1), (3, .int p2), (4, .int p3), (5, .int p4)]) hx hb dX11_fixes_12 hl (by decide) rfl (fun ls hl => ?_)
  refine lv_aloadN hx hb dX11_fixes_14 (lv_at hl 1 rfl) ?_
  refine lv_ifnullN (tgt := 45) hx hb dX11_fixes_16 (by decide) ?_
  refine lv_bipush (v := (-2)) hx hb dX11_fixes_45 (by decide) ?_
  exact W.iret (v := (-2)) hx hb hr (fun t ht hW => ⟨(-2), rfl, rfl, ht⟩) (fun _ h => absurd h List.not_mem_nil) dX11_fixes_47
set_option maxHeartbeats 1000000 in
set_option maxRecDepth 100000 in
theorem rt_X11_fixesO (l : Launch) (dC : Nat → ClassId) (dI : Nat → Nat → Nat) (h0 : Nat) (ad : Nat → Nat) (cA : ClassId) (fs : Nat → Option Nat) (p0 p1 p2 p3 p4 : Int32) (hp : p1.toInt < 0 ∨ 4 ≤ p1.toInt) : Met l yX11_fixes wsX11_fixes ({ frames := 1, cells := 0, slots := 0, locals := 21 }) (va_Pc [.ref h0, .int p0, .int p1, .int p2, .int p3, .int p4] (fun U => va_P (dC, dI) vwCl [(h0, .inr (11, [.ref (ad 0), .ref (ad 1), .ref (ad 2), .ref (ad 3), .ref (ad 4), .ref (ad 5), .ref (ad 6), .ref (ad 7), .ref (ad 8), .int 0, .int 0, .int 0, .int 0])), (ad 8, .inl (cA, 4, .inr (.inr (.inr (.inr fs)))))] U.heap ∧ va_K (dC, dI) vwCl [(cA, .object RX7)] U)) (vp_Si (fun r : Int32 => r = (-2))) 0 0 (fun _ => False) := by
  refine Met.ofW (cc := cX11_fixes) (maxL := 12) (ret := (some .int)) (by decide) rfl ?_
  intro p e s m args below meth c s₁ B hml hv
  obtain ⟨rfl, hP, hK⟩ := hv
  have hx := B.exec
  have hb := B.bytes
  have hr := B.returns
  have hts := atoms_spec (ws := wsX11_fixes) B.pre
  have hown : s.vm.findClass RX11 = some m.cls := findClass_of_methodNamed B.named
  have hlocks := B.notSynchronized
  have hl := lv_entry ([.ref h0, .int p0, .int p1, .int p2, .int p3, .int p4]) (n := 12) (Nat.le_of_ble_eq_true rfl)
  rw [lg_entry_eq]
  generalize (lg_sl ([.ref h0, .int p0, .int p1, .int p2, .int p3, .int p4]) ++ List.replicate (12 - (lg_sl ([.ref h0, .int p0, .int p1, .int p2, .int p3, .int p4])).length) Slot.unset).toArray = ls at hl ⊢
  have hl : lv_has ls 12 [(0, .ref h0), (1, .int p0), (2, .int p1), (3, .int p2), (4, .int p3), (5, .int p4)] := hl
  refine lv_aload_n hx hb dX11_fixes_0 rfl (lv_at hl 0 rfl) ?_
  refine lv_iload_n hx hb dX11_fixes_1 rfl (lv_at hl 1 rfl) ?_
  have hPc := hP.sub (ws' := [(h0, .inr (11, [.ref (ad 0), .ref (ad 1), .ref (ad 2), .ref (ad 3), .ref (ad 4), .ref (ad 5), .ref (ad 6), .ref (ad 7), .ref (ad 8), .int 0, .int 0, .int 0, .int 0]))]) [0] rfl
  have hKc := hK.sub (tys' := []) [] rfl
  refine va_csq (va_Run.run (va_runV (As := [.int p0]) (rest := []) ⟨hx, hb, hml, hown, hts⟩ (rt_X11_bodyAt l dC dI h0 ad p0) (cwV 1 hts gX11_fixes_X11_bodyAt rfl rfl rfl (by decide +kernel) ⟨Nat.le_of_ble_eq_true rfl, Nat.le_of_ble_eq_true rfl⟩) ⟨fun a U g mk q => by obtain ⟨q0, qP, qK⟩ := q; exact ⟨q0, qP, va_K.moved (u := U) (U := U.calling g mk a) (Vm.Alike.refl U.vm) qK⟩, va_recv hKc hPc (ci := 11) (q0 := 0) rfl rfl, fun U hU hW => ⟨rfl, by rw [hU]; exact hPc, va_K.moved hW.alike hKc⟩⟩ rfl rfl hl.1 rfl (lv_room (Nat.le_of_ble_eq_true rfl)) dX11_fixes_2 ⟨by decide +kernel, by decide +kernel⟩)) (fun r_1 hr_1 => ?_)
  obtain rfl := hr_1
  refine lv_astoreN (lv' := [(6, .null), (0, .ref h0), (1, .int p0), (2, .int p1), (3, .int p2), (4, .int p3), (5, .int p4)]) hx hb dX11_fixes_5 hl (by decide) rfl (fun ls hl => ?_)
  refine lv_aload_n hx hb dX11_fixes_7 rfl (lv_at hl 1 rfl) ?_
  refine lv_iload_n hx hb dX11_fixes_8 rfl (lv_at hl 3 rfl) ?_
  have hPc := hP.sub (ws' := [(h0, .inr (11, [.ref (ad 0), .ref (ad 1), .ref (ad 2), .ref (ad 3), .ref (ad 4), .ref (ad 5), .ref (ad 6), .ref (ad 7), .ref (ad 8), .int 0, .int 0, .int 0, .int 0])), (ad 8, .inl (cA, 4, .inr (.inr (.inr (.inr fs)))))]) [0, 1] rfl
  have hKc := hK.sub (tys' := [(cA, .object RX7)]) [0] rfl
  refine va_csq (va_Run.run (va_runV (As := [.int p1]) (rest := []) ⟨hx, hb, hml, hown, hts⟩ (rt_X11_sheetAtO l dC dI h0 ad cA fs p1 hp) (cwV 1 hts gX11_fixes_X11_sheetAt rfl rfl rfl (by decide +kernel) ⟨Nat.le_of_ble_eq_true rfl, Nat.le_of_ble_eq_true rfl⟩) ⟨fun a U g mk q => by obtain ⟨q0, qP, qK⟩ := q; exact ⟨q0, qP, va_K.moved (u := U) (U := U.calling g mk a) (Vm.Alike.refl U.vm) qK⟩, va_recv hKc hPc (ci := 11) (q0 := 0) rfl rfl, fun U hU hW => ⟨rfl, by rw [hU]; exact hPc, va_K.moved hW.alike hKc⟩⟩ rfl rfl hl.1 rfl (lv_room (Nat.le_of_ble_eq_true rfl)) dX11_fixes_9 ⟨by decide +kernel, by decide +kernel⟩)) (fun r_2 hr_2 => ?_)
  obtain rfl := hr_2
  refine lv_astoreN (lv' := [(7, .null), (6, .null), (0, .ref h0), (1, .int p0), (2, .int p1), (3, .int p2), (4, .int p3), (5, .int p4)]) hx hb dX11_fixes_12 hl (by decide) rfl (fun ls hl => ?_)
  refine lv_aloadN hx hb dX11_fixes_14 (lv_at hl 1 rfl) ?_
  refine lv_ifnullN (tgt := 45) hx hb dX11_fixes_16 (by decide) ?_
  refine lv_bipush (v := (-2)) hx hb dX11_fixes_45 (by decide) ?_
  exact W.iret (v := (-2)) hx hb hr (fun t ht hW => ⟨(-2), rfl, rfl, ht⟩) (fun _ h => absurd h List.not_mem_nil) dX11_fixes_47
set_option maxHeartbeats 1000000 in
set_option maxRecDepth 100000 in
theorem rt_X12_cell (l : Launch) (dC : Nat → ClassId) (dI : Nat → Nat → Nat) (h0 : Nat) (am : Nat → Nat) (cs : Nat → ClassId) (fs : Nat → Int32) (p0 p1 p2 : Int32) (hsrt : ∀ j : Nat, j < 4 → fs j = -1) : Met l yX12_cell wsX12_cell ({ frames := 2, cells := 0, slots := 0, locals := 42 }) (va_Pc [.ref h0, .int p0, .int p1, .int p2] (fun U => va_P (dC, dI) vwCl [(h0, .inr (12, [.int 0, .int 0, .ref (am 2), .ref (am 3), .ref (am 4), .int 0, .ref (am 6), .ref (am 7), .ref (am 8), .int 0, .ref (am 10), .ref (am 11), .ref (am 12), .ref (am 13), .ref (am 14), .ref (am 15), .int 0, .ref (am 17), .ref (am 18), .ref (am 19), .ref (am 20), .int 0, .ref (am 22), .int 0, .ref (am 24), .ref (am 25), .ref (am 26), .ref (am 27), .ref (am 28), .ref (am 29), .int 0, .ref (am 31), .ref (am 32), .ref (am 33), .int 0, .ref (am 35), .int 0, .ref (am 37), .ref (am 38), .ref (am 39), .ref (am 40), .ref (am 41), .ref (am 42), .ref (am 43), .int 0, .ref (am 45), .ref (am 46), .ref (am 47), .int 0, .ref (am 49), .int 0, .ref (am 51), .int 0, .ref (am 53), .ref (am 54), .int 1, .int 0, .ref (am 57), .long 0, .ref (am 59), .ref (am 60), .long 0, .int 0, .int 0, .int 0, .int 0, .int 0, .int 0, .ref (am 68), .int 0, .int 0, .ref (am 71), .ref (am 72), .ref (am 73), .ref (am 74), .ref (am 75), .ref (am 76), .ref (am 77), .ref (am 78)])), (am 75, .inl (cs 75, 4, .inl fs))] U.heap ∧ va_K (dC, dI) vwCl [(cs 75, .int)] U)) (vp_Si (fun r : Int32 => ((0 ≤ p0 ∧ p0 ≤ 3) ∧ r = (-11)) ∨ ((¬ (0 ≤ p0 ∧ p0 ≤ 3)) ∧ r = (-2)))) 0 0 (fun _ => False) := by
  refine Met.ofW (cc := cX12_cell) (maxL := 4) (ret := (some .int)) (by decide) rfl ?_
  intro p e s m args below meth c s₁ B hml hv
  obtain ⟨rfl, hP, hK⟩ := hv
  have hx := B.exec
  have hb := B.bytes
  have hr := B.returns
  have hts := atoms_spec (ws := wsX12_cell) B.pre
  have hown : s.vm.findClass RX12 = some m.cls := findClass_of_methodNamed B.named
  have hlocks := B.notSynchronized
  have hl := lv_entry ([.ref h0, .int p0, .int p1, .int p2]) (n := 4) (Nat.le_of_ble_eq_true rfl)
  rw [lg_entry_eq]
  generalize (lg_sl ([.ref h0, .int p0, .int p1, .int p2]) ++ List.replicate (4 - (lg_sl ([.ref h0, .int p0, .int p1, .int p2])).length) Slot.unset).toArray = ls at hl ⊢
  have hl : lv_has ls 4 [(0, .ref h0), (1, .int p0), (2, .int p1), (3, .int p2)] := hl
  refine lv_iload_n hx hb dX12_cell_0 rfl (lv_at hl 1 rfl) ?_
  refine vp_callSi (va_Run.run (va_runS (As := [.int p0]) (rest := []) ⟨hx, hb, hml, hown, hts⟩ (rt_X12_isSheet l p0) (va_cwS 1 hts gX12_cell_X12_isSheet rfl rfl rfl (by decide +kernel) ⟨Nat.le_of_ble_eq_true rfl, Nat.le_of_ble_eq_true rfl⟩) ⟨fun a U g mk q => q, fun U hU hW => ⟨rfl, trivial⟩⟩ rfl rfl hl.1 rfl (lv_room (Nat.le_of_ble_eq_true rfl)) dX12_cell_1 ⟨by decide +kernel, by decide +kernel⟩)) (fun r_1 hr_1 => ?_)
  rcases hr_1 with ⟨b_2, rfl⟩ | ⟨b_2, rfl⟩
  · refine lv_if_ne (tgt := 10) hx hb dX12_cell_4 (by decide) (fun _ => ?_) (fun c9 => absurd c9 (by decide))
    refine lv_aload_n hx hb dX12_cell_10 rfl (lv_at hl 0 rfl) ?_
    refine va_get (D := (dC, dI)) (ci := 12) (v := .ref (am 75)) (C := RX12) (T := TX12) (N := 79) hx hb hts (by decide +kernel) hown hK hP 0 rfl rfl 75 (by decide) (hts (.fieldLink RX12 158 "RedTentModel" "sort" "[I") (by decide +kernel)) (fun _ h9 => h9) rfl dX12_cell_11 ?_
    refine lv_iload_n hx hb dX12_cell_14 rfl (lv_at hl 1 rfl) ?_
    refine va_iald hx hb hK hP 1 0 rfl rfl (vp_in_iff.mpr (by (try simp only [fa_lt, fa_le, fa_eq, fa_lt64, fa_le64, fa_eq64, Int32.reduceToInt, Int64.reduceToInt, zi_ite] at b_2 ⊢) <;> omega)) dX12_cell_15 ?_
    rw [show fs p0.toNatClampNeg = (-1) from (hsrt p0.toNatClampNeg (zi_lt4 (by (try simp only [fa_lt, fa_le, fa_eq, fa_lt64, fa_le64, fa_eq64, Int32.reduceToInt, Int64.reduceToInt, zi_ite] at b_2 ⊢) <;> omega)))]
    refine lv_if_ge (tgt := 22) hx hb dX12_cell_16 (by decide) (fun c9 => absurd c9 (by decide)) (fun _ => ?_)
    refine lv_bipush (v := (-11)) hx hb dX12_cell_19 (by decide) ?_
    have hpost : ((0 ≤ p0 ∧ p0 ≤ 3) ∧ ((-11) : Int32) = (-11)) ∨ ((¬ (0 ≤ p0 ∧ p0 ≤ 3)) ∧ ((-11) : Int32) = (-2)) := by
      try simp only [fa_lt, fa_le, fa_eq, fa_lt64, fa_le64, fa_eq64, Int32.reduceToInt, Int64.reduceToInt, zi_ite] at b_2
      first
      | exact Or.inl ⟨by (try simp only [fa_lt, fa_le, fa_eq, fa_lt64, fa_le64, fa_eq64, Int32.reduceToInt, Int64.reduceToInt, zi_ite]); omega, rfl⟩
      | exact Or.inr (⟨by (try simp only [fa_lt, fa_le, fa_eq, fa_lt64, fa_le64, fa_eq64, Int32.reduceToInt, Int64.reduceToInt, zi_ite]); omega, rfl⟩)
    exact W.iret (v := (-11)) hx hb hr (fun t ht hW => ⟨(-11), rfl, hpost, ht⟩) (fun _ h => absurd h List.not_mem_nil) dX12_cell_21
  · refine lv_if_ne (tgt := 10) hx hb dX12_cell_4 (by decide) (fun c9 => absurd (by decide) c9) (fun _ => ?_)
    refine lv_bipush (v := (-2)) hx hb dX12_cell_7 (by decide) ?_
    have hpost : ((0 ≤ p0 ∧ p0 ≤ 3) ∧ ((-2) : Int32) = (-11)) ∨ ((¬ (0 ≤ p0 ∧ p0 ≤ 3)) ∧ ((-2) : Int32) = (-2)) := by
      try simp only [fa_lt, fa_le, fa_eq, fa_lt64, fa_le64, fa_eq64, Int32.reduceToInt, Int64.reduceToInt, zi_ite] at b_2
      first
      | exact Or.inl ⟨by (try simp only [fa_lt, fa_le, fa_eq, fa_lt64, fa_le64, fa_eq64, Int32.reduceToInt, Int64.reduceToInt, zi_ite]); omega, rfl⟩
      | exact Or.inr (⟨by (try simp only [fa_lt, fa_le, fa_eq, fa_lt64, fa_le64, fa_eq64, Int32.reduceToInt, Int64.reduceToInt, zi_ite]); omega, rfl⟩)
    exact W.iret (v := (-2)) hx hb hr (fun t ht hW => ⟨(-2), rfl, hpost, ht⟩) (fun _ h => absurd h List.not_mem_nil) dX12_cell_9
set_option maxHeartbeats 1000000 in
set_option maxRecDepth 100000 in
theorem rt_X12_copy (l : Launch) (dC : Nat → ClassId) (dI : Nat → Nat → Nat) (h0 : Nat) (am : Nat → Nat) (cs : Nat → ClassId) (fs : Nat → Int32) (p0 p1 p2 p3 p4 : Int32) (hsrt : ∀ j : Nat, j < 4 → fs j = -1) : Met l yX12_copy wsX12_copy ({ frames := 2, cells := 0, slots := 0, locals := 42 }) (va_Pc [.ref h0, .int p0, .int p1, .int p2, .int p3, .int p4] (fun U => va_P (dC, dI) vwCl [(h0, .inr (12, [.int 0, .int 0, .ref (am 2), .ref (am 3), .ref (am 4), .int 0, .ref (am 6), .ref (am 7), .ref (am 8), .int 0, .ref (am 10), .ref (am 11), .ref (am 12), .ref (am 13), .ref (am 14), .ref (am 15), .int 0, .ref (am 17), .ref (am 18), .ref (am 19), .ref (am 20), .int 0, .ref (am 22), .int 0, .ref (am 24), .ref (am 25), .ref (am 26), .ref (am 27), .ref (am 28), .ref (am 29), .int 0, .ref (am 31), .ref (am 32), .ref (am 33), .int 0, .ref (am 35), .int 0, .ref (am 37), .ref (am 38), .ref (am 39), .ref (am 40), .ref (am 41), .ref (am 42), .ref (am 43), .int 0, .ref (am 45), .ref (am 46), .ref (am 47), .int 0, .ref (am 49), .int 0, .ref (am 51), .int 0, .ref (am 53), .ref (am 54), .int 1, .int 0, .ref (am 57), .long 0, .ref (am 59), .ref (am 60), .long 0, .int 0, .int 0, .int 0, .int 0, .int 0, .int 0, .ref (am 68), .int 0, .int 0, .ref (am 71), .ref (am 72), .ref (am 73), .ref (am 74), .ref (am 75), .ref (am 76), .ref (am 77), .ref (am 78)])), (am 75, .inl (cs 75, 4, .inl fs))] U.heap ∧ va_K (dC, dI) vwCl [(cs 75, .int)] U)) (vp_Si (fun r : Int32 => ((0 ≤ p0 ∧ p0 ≤ 3 ∧ 0 ≤ p2 ∧ p2 ≤ 3) ∧ r = (-11)) ∨ ((¬ (0 ≤ p0 ∧ p0 ≤ 3 ∧ 0 ≤ p2 ∧ p2 ≤ 3)) ∧ r = (-2)))) 0 0 (fun _ => False) := by
  refine Met.ofW (cc := cX12_copy) (maxL := 7) (ret := (some .int)) (by decide) rfl ?_
  intro p e s m args below meth c s₁ B hml hv
  obtain ⟨rfl, hP, hK⟩ := hv
  have hx := B.exec
  have hb := B.bytes
  have hr := B.returns
  have hts := atoms_spec (ws := wsX12_copy) B.pre
  have hown : s.vm.findClass RX12 = some m.cls := findClass_of_methodNamed B.named
  have hlocks := B.notSynchronized
  have hl := lv_entry ([.ref h0, .int p0, .int p1, .int p2, .int p3, .int p4]) (n := 7) (Nat.le_of_ble_eq_true rfl)
  rw [lg_entry_eq]
  generalize (lg_sl ([.ref h0, .int p0, .int p1, .int p2, .int p3, .int p4]) ++ List.replicate (7 - (lg_sl ([.ref h0, .int p0, .int p1, .int p2, .int p3, .int p4])).length) Slot.unset).toArray = ls at hl ⊢
  have hl : lv_has ls 7 [(0, .ref h0), (1, .int p0), (2, .int p1), (3, .int p2), (4, .int p3), (5, .int p4)] := hl
  refine lv_iload_n hx hb dX12_copy_0 rfl (lv_at hl 1 rfl) ?_
  refine vp_callSi (va_Run.run (va_runS (As := [.int p0]) (rest := []) ⟨hx, hb, hml, hown, hts⟩ (rt_X12_isSheet l p0) (va_cwS 1 hts gX12_copy_X12_isSheet rfl rfl rfl (by decide +kernel) ⟨Nat.le_of_ble_eq_true rfl, Nat.le_of_ble_eq_true rfl⟩) ⟨fun a U g mk q => q, fun U hU hW => ⟨rfl, trivial⟩⟩ rfl rfl hl.1 rfl (lv_room (Nat.le_of_ble_eq_true rfl)) dX12_copy_1 ⟨by decide +kernel, by decide +kernel⟩)) (fun r_1 hr_1 => ?_)
  rcases hr_1 with ⟨b_2, rfl⟩ | ⟨b_2, rfl⟩
  · refine lv_if_eq (tgt := 14) hx hb dX12_copy_4 (by decide) (fun c9 => absurd c9 (by decide)) (fun _ => ?_)
    refine lv_iload_n hx hb dX12_copy_7 rfl (lv_at hl 3 rfl) ?_
    refine vp_callSi (va_Run.run (va_runS (As := [.int p2]) (rest := []) ⟨hx, hb, hml, hown, hts⟩ (rt_X12_isSheet l p2) (va_cwS 1 hts gX12_copy_X12_isSheet rfl rfl rfl (by decide +kernel) ⟨Nat.le_of_ble_eq_true rfl, Nat.le_of_ble_eq_true rfl⟩) ⟨fun a U g mk q => q, fun U hU hW => ⟨rfl, trivial⟩⟩ rfl rfl hl.1 rfl (lv_room (Nat.le_of_ble_eq_true rfl)) dX12_copy_8 ⟨by decide +kernel, by decide +kernel⟩)) (fun r_3 hr_3 => ?_)
    rcases hr_3 with ⟨b_4, rfl⟩ | ⟨b_4, rfl⟩
    · refine lv_if_ne (tgt := 17) hx hb dX12_copy_11 (by decide) (fun _ => ?_) (fun c9 => absurd c9 (by decide))
      refine lv_aload_n hx hb dX12_copy_17 rfl (lv_at hl 0 rfl) ?_
      refine va_get (D := (dC, dI)) (ci := 12) (v := .ref (am 75)) (C := RX12) (T := TX12) (N := 79) hx hb hts (by decide +kernel) hown hK hP 0 rfl rfl 75 (by decide) (hts (.fieldLink RX12 158 "RedTentModel" "sort" "[I") (by decide +kernel)) (fun _ h9 => h9) rfl dX12_copy_18 ?_
      refine lv_iload_n hx hb dX12_copy_21 rfl (lv_at hl 1 rfl) ?_
      refine va_iald hx hb hK hP 1 0 rfl rfl (vp_in_iff.mpr (by (try simp only [fa_lt, fa_le, fa_eq, fa_lt64, fa_le64, fa_eq64, Int32.reduceToInt, Int64.reduceToInt, zi_ite] at b_2 b_4 ⊢) <;> omega)) dX12_copy_22 ?_
      rw [show fs p0.toNatClampNeg = (-1) from (hsrt p0.toNatClampNeg (zi_lt4 (by (try simp only [fa_lt, fa_le, fa_eq, fa_lt64, fa_le64, fa_eq64, Int32.reduceToInt, Int64.reduceToInt, zi_ite] at b_2 b_4 ⊢) <;> omega)))]
      refine lv_if_lt (tgt := 35) hx hb dX12_copy_23 (by decide) (fun _ => ?_) (fun c9 => absurd (by decide) c9)
      refine lv_bipush (v := (-11)) hx hb dX12_copy_35 (by decide) ?_
      have hpost : ((0 ≤ p0 ∧ p0 ≤ 3 ∧ 0 ≤ p2 ∧ p2 ≤ 3) ∧ ((-11) : Int32) = (-11)) ∨ ((¬ (0 ≤ p0 ∧ p0 ≤ 3 ∧ 0 ≤ p2 ∧ p2 ≤ 3)) ∧ ((-11) : Int32) = (-2)) := by
        try simp only [fa_lt, fa_le, fa_eq, fa_lt64, fa_le64, fa_eq64, Int32.reduceToInt, Int64.reduceToInt, zi_ite] at b_2
        try simp only [fa_lt, fa_le, fa_eq, fa_lt64, fa_le64, fa_eq64, Int32.reduceToInt, Int64.reduceToInt, zi_ite] at b_4
        first
        | exact Or.inl ⟨by (try simp only [fa_lt, fa_le, fa_eq, fa_lt64, fa_le64, fa_eq64, Int32.reduceToInt, Int64.reduceToInt, zi_ite]); omega, rfl⟩
        | exact Or.inr (⟨by (try simp only [fa_lt, fa_le, fa_eq, fa_lt64, fa_le64, fa_eq64, Int32.reduceToInt, Int64.reduceToInt, zi_ite]); omega, rfl⟩)
      exact W.iret (v := (-11)) hx hb hr (fun t ht hW => ⟨(-11), rfl, hpost, ht⟩) (fun _ h => absurd h List.not_mem_nil) dX12_copy_37
    · refine lv_if_ne (tgt := 17) hx hb dX12_copy_11 (by decide) (fun c9 => absurd (by decide) c9) (fun _ => ?_)
      refine lv_bipush (v := (-2)) hx hb dX12_copy_14 (by decide) ?_
      have hpost : ((0 ≤ p0 ∧ p0 ≤ 3 ∧ 0 ≤ p2 ∧ p2 ≤ 3) ∧ ((-2) : Int32) = (-11)) ∨ ((¬ (0 ≤ p0 ∧ p0 ≤ 3 ∧ 0 ≤ p2 ∧ p2 ≤ 3)) ∧ ((-2) : Int32) = (-2)) := by
        try simp only [fa_lt, fa_le, fa_eq, fa_lt64, fa_le64, fa_eq64, Int32.reduceToInt, Int64.reduceToInt, zi_ite] at b_2
        try simp only [fa_lt, fa_le, fa_eq, fa_lt64, fa_le64, fa_eq64, Int32.reduceToInt, Int64.reduceToInt, zi_ite] at b_4
        first
        | exact Or.inl ⟨by (try simp only [fa_lt, fa_le, fa_eq, fa_lt64, fa_le64, fa_eq64, Int32.reduceToInt, Int64.reduceToInt, zi_ite]); omega, rfl⟩
        | exact Or.inr (⟨by (try simp only [fa_lt, fa_le, fa_eq, fa_lt64, fa_le64, fa_eq64, Int32.reduceToInt, Int64.reduceToInt, zi_ite]); omega, rfl⟩)
      exact W.iret (v := (-2)) hx hb hr (fun t ht hW => ⟨(-2), rfl, hpost, ht⟩) (fun _ h => absurd h List.not_mem_nil) dX12_copy_16
  · refine lv_if_eq (tgt := 14) hx hb dX12_copy_4 (by decide) (fun _ => ?_) (fun c9 => absurd (by decide) c9)
    refine lv_bipush (v := (-2)) hx hb dX12_copy_14 (by decide) ?_
    have hpost : ((0 ≤ p0 ∧ p0 ≤ 3 ∧ 0 ≤ p2 ∧ p2 ≤ 3) ∧ ((-2) : Int32) = (-11)) ∨ ((¬ (0 ≤ p0 ∧ p0 ≤ 3 ∧ 0 ≤ p2 ∧ p2 ≤ 3)) ∧ ((-2) : Int32) = (-2)) := by
      try simp only [fa_lt, fa_le, fa_eq, fa_lt64, fa_le64, fa_eq64, Int32.reduceToInt, Int64.reduceToInt, zi_ite] at b_2
      first
      | exact Or.inl ⟨by (try simp only [fa_lt, fa_le, fa_eq, fa_lt64, fa_le64, fa_eq64, Int32.reduceToInt, Int64.reduceToInt, zi_ite]); omega, rfl⟩
      | exact Or.inr (⟨by (try simp only [fa_lt, fa_le, fa_eq, fa_lt64, fa_le64, fa_eq64, Int32.reduceToInt, Int64.reduceToInt, zi_ite]); omega, rfl⟩)
    exact W.iret (v := (-2)) hx hb hr (fun t ht hW => ⟨(-2), rfl, hpost, ht⟩) (fun _ h => absurd h List.not_mem_nil) dX12_copy_16
set_option maxHeartbeats 1000000 in
set_option maxRecDepth 100000 in
theorem rt_X12_sheet (l : Launch) (dC : Nat → ClassId) (dI : Nat → Nat → Nat) (sz : Nat) (h0 : Nat) (am : Nat → Nat) (cs : Nat → ClassId) (fs gs hs : Nat → Int32) (p0 p1 p2 : Int32) : Met l yX12_sheet wsX12_sheet ({ frames := 2, cells := 0, slots := 0, locals := 42 }) (va_Pc [.ref h0, .int p0, .int p1, .int p2] (fun U => U.heap.size = sz ∧ va_P (dC, dI) vwCl [(h0, .inr (12, [.int 0, .int 0, .ref (am 2), .ref (am 3), .ref (am 4), .int 0, .ref (am 6), .ref (am 7), .ref (am 8), .int 0, .ref (am 10), .ref (am 11), .ref (am 12), .ref (am 13), .ref (am 14), .ref (am 15), .int 0, .ref (am 17), .ref (am 18), .ref (am 19), .ref (am 20), .int 0, .ref (am 22), .int 0, .ref (am 24), .ref (am 25), .ref (am 26), .ref (am 27), .ref (am 28), .ref (am 29), .int 0, .ref (am 31), .ref (am 32), .ref (am 33), .int 0, .ref (am 35), .int 0, .ref (am 37), .ref (am 38), .ref (am 39), .ref (am 40), .ref (am 41), .ref (am 42), .ref (am 43), .int 0, .ref (am 45), .ref (am 46), .ref (am 47), .int 0, .ref (am 49), .int 0, .ref (am 51), .int 0, .ref (am 53), .ref (am 54), .int 1, .int 0, .ref (am 57), .long 0, .ref (am 59), .ref (am 60), .long 0, .int 0, .int 0, .int 0, .int 0, .int 0, .int 0, .ref (am 68), .int 0, .int 0, .ref (am 71), .ref (am 72), .ref (am 73), .ref (am 74), .ref (am 75), .ref (am 76), .ref (am 77), .ref (am 78)])), (am 75, .inl (cs 75, 4, .inl fs)), (am 76, .inl (cs 76, 4, .inl gs)), (am 77, .inl (cs 77, 160, .inl hs))] U.heap ∧ va_K (dC, dI) vwCl [(cs 75, .int), (cs 76, .int), (cs 77, .int)] U ∧ va_D (fun _ => True) [(h0, .inr (12, [.int 0, .int 0, .ref (am 2), .ref (am 3), .ref (am 4), .int 0, .ref (am 6), .ref (am 7), .ref (am 8), .int 0, .ref (am 10), .ref (am 11), .ref (am 12), .ref (am 13), .ref (am 14), .ref (am 15), .int 0, .ref (am 17), .ref (am 18), .ref (am 19), .ref (am 20), .int 0, .ref (am 22), .int 0, .ref (am 24), .ref (am 25), .ref (am 26), .ref (am 27), .ref (am 28), .ref (am 29), .int 0, .ref (am 31), .ref (am 32), .ref (am 33), .int 0, .ref (am 35), .int 0, .ref (am 37), .ref (am 38), .ref (am 39), .ref (am 40), .ref (am 41), .ref (am 42), .ref (am 43), .int 0, .ref (am 45), .ref (am 46), .ref (am 47), .int 0, .ref (am 49), .int 0, .ref (am 51), .int 0, .ref (am 53), .ref (am 54), .int 1, .int 0, .ref (am 57), .long 0, .ref (am 59), .ref (am 60), .long 0, .int 0, .int 0, .int 0, .int 0, .int 0, .int 0, .ref (am 68), .int 0, .int 0, .ref (am 71), .ref (am 72), .ref (am 73), .ref (am 74), .ref (am 75), .ref (am 76), .ref (am 77), .ref (am 78)])), (am 75, .inl (cs 75, 4, .inl fs)), (am 76, .inl (cs 76, 4, .inl gs)), (am 77, .inl (cs 77, 160, .inl hs))])) (va_Qi (fun (r : Int32) (u : Unit) => match u with | () => ((¬ (0 ≤ p0 ∧ p0 ≤ 3) ∨ ¬ (-1 ≤ p1 ∧ p1 ≤ 2)) ∧ r = (-2)) ∨ ((0 ≤ p0 ∧ p0 ≤ 3 ∧ p1 = -1) ∧ r = 1) ∨ ((0 ≤ p0 ∧ p0 ≤ 3 ∧ 0 ≤ p1 ∧ p1 ≤ 2 ∧ 40 < p2) ∧ r = (-2)) ∨ ((0 ≤ p0 ∧ p0 ≤ 3 ∧ 0 ≤ p1 ∧ p1 ≤ 2 ∧ p2 < 0) ∧ r = (-14)) ∨ ((0 ≤ p0 ∧ p0 ≤ 3 ∧ 0 ≤ p1 ∧ p1 ≤ 2 ∧ 0 ≤ p2 ∧ p2 ≤ 40) ∧ r = 1)) (fun (u : Unit) (t : State) => match u with | () => True) (va_A [(h0, .inr (12, [.int 0, .int 0, .ref (am 2), .ref (am 3), .ref (am 4), .int 0, .ref (am 6), .ref (am 7), .ref (am 8), .int 0, .ref (am 10), .ref (am 11), .ref (am 12), .ref (am 13), .ref (am 14), .ref (am 15), .int 0, .ref (am 17), .ref (am 18), .ref (am 19), .ref (am 20), .int 0, .ref (am 22), .int 0, .ref (am 24), .ref (am 25), .ref (am 26), .ref (am 27), .ref (am 28), .ref (am 29), .int 0, .ref (am 31), .ref (am 32), .ref (am 33), .int 0, .ref (am 35), .int 0, .ref (am 37), .ref (am 38), .ref (am 39), .ref (am 40), .ref (am 41), .ref (am 42), .ref (am 43), .int 0, .ref (am 45), .ref (am 46), .ref (am 47), .int 0, .ref (am 49), .int 0, .ref (am 51), .int 0, .ref (am 53), .ref (am 54), .int 1, .int 0, .ref (am 57), .long 0, .ref (am 59), .ref (am 60), .long 0, .int 0, .int 0, .int 0, .int 0, .int 0, .int 0, .ref (am 68), .int 0, .int 0, .ref (am 71), .ref (am 72), .ref (am 73), .ref (am 74), .ref (am 75), .ref (am 76), .ref (am 77), .ref (am 78)])), (am 75, .inl (cs 75, 4, .inl fs)), (am 76, .inl (cs 76, 4, .inl gs)), (am 77, .inl (cs 77, 160, .inl hs))] sz)) 0 0 (va_A [(h0, .inr (12, [.int 0, .int 0, .ref (am 2), .ref (am 3), .ref (am 4), .int 0, .ref (am 6), .ref (am 7), .ref (am 8), .int 0, .ref (am 10), .ref (am 11), .ref (am 12), .ref (am 13), .ref (am 14), .ref (am 15), .int 0, .ref (am 17), .ref (am 18), .ref (am 19), .ref (am 20), .int 0, .ref (am 22), .int 0, .ref (am 24), .ref (am 25), .ref (am 26), .ref (am 27), .ref (am 28), .ref (am 29), .int 0, .ref (am 31), .ref (am 32), .ref (am 33), .int 0, .ref (am 35), .int 0, .ref (am 37), .ref (am 38), .ref (am 39), .ref (am 40), .ref (am 41), .ref (am 42), .ref (am 43), .int 0, .ref (am 45), .ref (am 46), .ref (am 47), .int 0, .ref (am 49), .int 0, .ref (am 51), .int 0, .ref (am 53), .ref (am 54), .int 1, .int 0, .ref (am 57), .long 0, .ref (am 59), .ref (am 60), .long 0, .int 0, .int 0, .int 0, .int 0, .int 0, .int 0, .ref (am 68), .int 0, .int 0, .ref (am 71), .ref (am 72), .ref (am 73), .ref (am 74), .ref (am 75), .ref (am 76), .ref (am 77), .ref (am 78)])), (am 75, .inl (cs 75, 4, .inl fs)), (am 76, .inl (cs 76, 4, .inl gs)), (am 77, .inl (cs 77, 160, .inl hs))] sz) := by
  refine Met.ofW (cc := cX12_sheet) (maxL := 5) (ret := (some .int)) (by decide) rfl ?_
  intro p e s m args below meth c s₁ B hml hv
  obtain ⟨rfl, hsz, hP, hK, hD0⟩ := hv
  have hx := B.exec
  have hb := B.bytes
  have hr := B.returns
  have hts := atoms_spec (ws := wsX12_sheet) B.pre
  have hown : s.vm.findClass RX12 = some m.cls := findClass_of_methodNamed B.named
  have hlocks := B.notSynchronized
  subst hsz
  have hD := hD0.self (sz := s.heap.size)
  generalize hAe : va_A [(h0, .inr (12, [.int 0, .int 0, .ref (am 2), .ref (am 3), .ref (am 4), .int 0, .ref (am 6), .ref (am 7), .ref (am 8), .int 0, .ref (am 10), .ref (am 11), .ref (am 12), .ref (am 13), .ref (am 14), .ref (am 15), .int 0, .ref (am 17), .ref (am 18), .ref (am 19), .ref (am 20), .int 0, .ref (am 22), .int 0, .ref (am 24), .ref (am 25), .ref (am 26), .ref (am 27), .ref (am 28), .ref (am 29), .int 0, .ref (am 31), .ref (am 32), .ref (am 33), .int 0, .ref (am 35), .int 0, .ref (am 37), .ref (am 38), .ref (am 39), .ref (am 40), .ref (am 41), .ref (am 42), .ref (am 43), .int 0, .ref (am 45), .ref (am 46), .ref (am 47), .int 0, .ref (am 49), .int 0, .ref (am 51), .int 0, .ref (am 53), .ref (am 54), .int 1, .int 0, .ref (am 57), .long 0, .ref (am 59), .ref (am 60), .long 0, .int 0, .int 0, .int 0, .int 0, .int 0, .int 0, .ref (am 68), .int 0, .int 0, .ref (am 71), .ref (am 72), .ref (am 73), .ref (am 74), .ref (am 75), .ref (am 76), .ref (am 77), .ref (am 78)])), (am 75, .inl (cs 75, 4, .inl fs)), (am 76, .inl (cs 76, 4, .inl gs)), (am 77, .inl (cs 77, 160, .inl hs))] s.heap.size = A at hD  ⊢
  have hA : ∀ q : Nat, s.heap.size ≤ q → A q := fun q h => by rw [← hAe]; exact Or.inr h
  have hS : va_S A s.heap s.heap [] := va_S.rf
  have hl := lv_entry ([.ref h0, .int p0, .int p1, .int p2]) (n := 5) (Nat.le_of_ble_eq_true rfl)
  rw [lg_entry_eq]
  generalize (lg_sl ([.ref h0, .int p0, .int p1, .int p2]) ++ List.replicate (5 - (lg_sl ([.ref h0, .int p0, .int p1, .int p2])).length) Slot.unset).toArray = ls at hl ⊢
  have hl : lv_has ls 5 [(0, .ref h0), (1, .int p0), (2, .int p1), (3, .int p2)] := hl
  refine lv_iload_n hx hb dX12_sheet_0 rfl (lv_at hl 1 rfl) ?_
  refine vp_callSi (va_Run.run (va_runS (As := [.int p0]) (rest := []) ⟨hx, hb, hml, hown, hts⟩ (rt_X12_isSheet l p0) (va_cwS 1 hts gX12_sheet_X12_isSheet rfl rfl rfl (by decide +kernel) ⟨Nat.le_of_ble_eq_true rfl, Nat.le_of_ble_eq_true rfl⟩) ⟨fun a U g mk q => q, fun U hU hW => ⟨rfl, trivial⟩⟩ rfl rfl hl.1 rfl (lv_room (Nat.le_of_ble_eq_true rfl)) dX12_sheet_1 ⟨by decide +kernel, by decide +kernel⟩)) (fun r_1 hr_1 => ?_)
  rcases hr_1 with ⟨b_2, rfl⟩ | ⟨b_2, rfl⟩
  · refine lv_if_eq (tgt := 26) hx hb dX12_sheet_4 (by decide) (fun c9 => absurd c9 (by decide)) (fun _ => ?_)
    refine lv_iload_n hx hb dX12_sheet_7 rfl (lv_at hl 2 rfl) ?_
    refine lv_iconst (v := (-1)) hx hb dX12_sheet_8 (by decide) ?_
    refine lv_iconst (v := 2) hx hb dX12_sheet_9 (by decide) ?_
    refine vp_callSi (va_Run.run (va_runS (As := [.int p1, .int (-1), .int 2]) (rest := []) ⟨hx, hb, hml, hown, hts⟩ (rt_X12_within l p1 (-1) 2) (va_cwS 3 hts gX12_sheet_X12_within rfl rfl rfl (by decide +kernel) ⟨Nat.le_of_ble_eq_true rfl, Nat.le_of_ble_eq_true rfl⟩) ⟨fun a U g mk q => q, fun U hU hW => ⟨rfl, trivial⟩⟩ rfl rfl hl.1 rfl (lv_room (Nat.le_of_ble_eq_true rfl)) dX12_sheet_10 ⟨by decide +kernel, by decide +kernel⟩)) (fun r_3 hr_3 => ?_)
    rcases hr_3 with ⟨b_4, rfl⟩ | ⟨b_4, rfl⟩
    · refine lv_if_eq (tgt := 26) hx hb dX12_sheet_13 (by decide) (fun c9 => absurd c9 (by decide)) (fun _ => ?_)
      refine lv_iload_n hx hb dX12_sheet_16 rfl (lv_at hl 2 rfl) ?_
      refine lv_if_lt (tgt := 29) hx hb dX12_sheet_17 (by decide) (fun c_5 => ?_) (fun c_5 => ?_)
      · refine lv_iload_n hx hb dX12_sheet_29 rfl (lv_at hl 2 rfl) ?_
        refine lv_if_lt (tgt := 40) hx hb dX12_sheet_30 (by decide) (fun _ => ?_) (fun c9 => absurd (by (try simp only [fa_lt, fa_le, fa_eq, fa_lt64, fa_le64, fa_eq64, Int32.reduceToInt, Int64.reduceToInt, zi_ite] at b_2 b_4 c_5 ⊢) <;> omega) c9)
        refine lv_aload_n hx hb dX12_sheet_40 rfl (lv_at hl 0 rfl) ?_
        refine va_get (D := (dC, dI)) (ci := 12) (v := .ref (am 75)) (C := RX12) (T := TX12) (N := 79) hx hb hts (by decide +kernel) hown hK hP 0 rfl rfl 75 (by decide) (hts (.fieldLink RX12 158 "RedTentModel" "sort" "[I") (by decide +kernel)) (fun _ h9 => h9) rfl dX12_sheet_41 ?_
        refine lv_iload_n hx hb dX12_sheet_44 rfl (lv_at hl 1 rfl) ?_
        refine lv_iload_n hx hb dX12_sheet_45 rfl (lv_at hl 2 rfl) ?_
        refine va_iast hx hb hK hP hD hS 1 0 rfl rfl (vp_in_iff.mpr (by (try simp only [fa_lt, fa_le, fa_eq, fa_lt64, fa_le64, fa_eq64, Int32.reduceToInt, Int64.reduceToInt, zi_ite] at b_2 b_4 c_5 ⊢) <;> omega)) dX12_sheet_46 (fun H locs hP hD hS => ?_)
        have hP : va_P (dC, dI) vwCl [(h0, .inr (12, [.int 0, .int 0, .ref (am 2), .ref (am 3), .ref (am 4), .int 0, .ref (am 6), .ref (am 7), .ref (am 8), .int 0, .ref (am 10), .ref (am 11), .ref (am 12), .ref (am 13), .ref (am 14), .ref (am 15), .int 0, .ref (am 17), .ref (am 18), .ref (am 19), .ref (am 20), .int 0, .ref (am 22), .int 0, .ref (am 24), .ref (am 25), .ref (am 26), .ref (am 27), .ref (am 28), .ref (am 29), .int 0, .ref (am 31), .ref (am 32), .ref (am 33), .int 0, .ref (am 35), .int 0, .ref (am 37), .ref (am 38), .ref (am 39), .ref (am 40), .ref (am 41), .ref (am 42), .ref (am 43), .int 0, .ref (am 45), .ref (am 46), .ref (am 47), .int 0, .ref (am 49), .int 0, .ref (am 51), .int 0, .ref (am 53), .ref (am 54), .int 1, .int 0, .ref (am 57), .long 0, .ref (am 59), .ref (am 60), .long 0, .int 0, .int 0, .int 0, .int 0, .int 0, .int 0, .ref (am 68), .int 0, .int 0, .ref (am 71), .ref (am 72), .ref (am 73), .ref (am 74), .ref (am 75), .ref (am 76), .ref (am 77), .ref (am 78)])), (am 75, .inl (cs 75, 4, .inl (upd fs p0.toNatClampNeg p1))), (am 76, .inl (cs 76, 4, .inl gs)), (am 77, .inl (cs 77, 160, .inl hs))] H := hP
        have hD : va_D A [(h0, .inr (12, [.int 0, .int 0, .ref (am 2), .ref (am 3), .ref (am 4), .int 0, .ref (am 6), .ref (am 7), .ref (am 8), .int 0, .ref (am 10), .ref (am 11), .ref (am 12), .ref (am 13), .ref (am 14), .ref (am 15), .int 0, .ref (am 17), .ref (am 18), .ref (am 19), .ref (am 20), .int 0, .ref (am 22), .int 0, .ref (am 24), .ref (am 25), .ref (am 26), .ref (am 27), .ref (am 28), .ref (am 29), .int 0, .ref (am 31), .ref (am 32), .ref (am 33), .int 0, .ref (am 35), .int 0, .ref (am 37), .ref (am 38), .ref (am 39), .ref (am 40), .ref (am 41), .ref (am 42), .ref (am 43), .int 0, .ref (am 45), .ref (am 46), .ref (am 47), .int 0, .ref (am 49), .int 0, .ref (am 51), .int 0, .ref (am 53), .ref (am 54), .int 1, .int 0, .ref (am 57), .long 0, .ref (am 59), .ref (am 60), .long 0, .int 0, .int 0, .int 0, .int 0, .int 0, .int 0, .ref (am 68), .int 0, .int 0, .ref (am 71), .ref (am 72), .ref (am 73), .ref (am 74), .ref (am 75), .ref (am 76), .ref (am 77), .ref (am 78)])), (am 75, .inl (cs 75, 4, .inl (upd fs p0.toNatClampNeg p1))), (am 76, .inl (cs 76, 4, .inl gs)), (am 77, .inl (cs 77, 160, .inl hs))] := hD
        refine lv_aload_n hx hb dX12_sheet_47 rfl (lv_at hl 0 rfl) ?_
        refine va_get (D := (dC, dI)) (ci := 12) (v := .ref (am 76)) (C := RX12) (T := TX12) (N := 79) hx hb hts (by decide +kernel) hown hK hP 0 rfl rfl 76 (by decide) (hts (.fieldLink RX12 161 "RedTentModel" "many" "[I") (by decide +kernel)) (fun _ h9 => h9) rfl dX12_sheet_48 ?_
        refine lv_iload_n hx hb dX12_sheet_51 rfl (lv_at hl 1 rfl) ?_
        refine lv_iload_n hx hb dX12_sheet_52 rfl (lv_at hl 2 rfl) ?_
        refine lv_if_ge (tgt := 60) hx hb dX12_sheet_53 (by decide) (fun c9 => absurd c9 (by (try simp only [fa_lt, fa_le, fa_eq, fa_lt64, fa_le64, fa_eq64, Int32.reduceToInt, Int64.reduceToInt, zi_ite] at b_2 b_4 c_5 ⊢) <;> omega)) (fun _ => ?_)
        refine lv_iconst (v := 0) hx hb dX12_sheet_56 (by decide) ?_
        refine lv_goto (tgt := 61) hx hb dX12_sheet_57 (by decide) ?_
        refine va_iast hx hb hK hP hD hS 2 1 rfl rfl (vp_in_iff.mpr (by (try simp only [fa_lt, fa_le, fa_eq, fa_lt64, fa_le64, fa_eq64, Int32.reduceToInt, Int64.reduceToInt, zi_ite] at b_2 b_4 c_5 ⊢) <;> omega)) dX12_sheet_61 (fun H locs hP hD hS => ?_)
        have hP : va_P (dC, dI) vwCl [(h0, .inr (12, [.int 0, .int 0, .ref (am 2), .ref (am 3), .ref (am 4), .int 0, .ref (am 6), .ref (am 7), .ref (am 8), .int 0, .ref (am 10), .ref (am 11), .ref (am 12), .ref (am 13), .ref (am 14), .ref (am 15), .int 0, .ref (am 17), .ref (am 18), .ref (am 19), .ref (am 20), .int 0, .ref (am 22), .int 0, .ref (am 24), .ref (am 25), .ref (am 26), .ref (am 27), .ref (am 28), .ref (am 29), .int 0, .ref (am 31), .ref (am 32), .ref (am 33), .int 0, .ref (am 35), .int 0, .ref (am 37), .ref (am 38), .ref (am 39), .ref (am 40), .ref (am 41), .ref (am 42), .ref (am 43), .int 0, .ref (am 45), .ref (am 46), .ref (am 47), .int 0, .ref (am 49), .int 0, .ref (am 51), .int 0, .ref (am 53), .ref (am 54), .int 1, .int 0, .ref (am 57), .long 0, .ref (am 59), .ref (am 60), .long 0, .int 0, .int 0, .int 0, .int 0, .int 0, .int 0, .ref (am 68), .int 0, .int 0, .ref (am 71), .ref (am 72), .ref (am 73), .ref (am 74), .ref (am 75), .ref (am 76), .ref (am 77), .ref (am 78)])), (am 75, .inl (cs 75, 4, .inl (upd fs p0.toNatClampNeg p1))), (am 76, .inl (cs 76, 4, .inl (upd gs p0.toNatClampNeg 0))), (am 77, .inl (cs 77, 160, .inl hs))] H := hP
        have hD : va_D A [(h0, .inr (12, [.int 0, .int 0, .ref (am 2), .ref (am 3), .ref (am 4), .int 0, .ref (am 6), .ref (am 7), .ref (am 8), .int 0, .ref (am 10), .ref (am 11), .ref (am 12), .ref (am 13), .ref (am 14), .ref (am 15), .int 0, .ref (am 17), .ref (am 18), .ref (am 19), .ref (am 20), .int 0, .ref (am 22), .int 0, .ref (am 24), .ref (am 25), .ref (am 26), .ref (am 27), .ref (am 28), .ref (am 29), .int 0, .ref (am 31), .ref (am 32), .ref (am 33), .int 0, .ref (am 35), .int 0, .ref (am 37), .ref (am 38), .ref (am 39), .ref (am 40), .ref (am 41), .ref (am 42), .ref (am 43), .int 0, .ref (am 45), .ref (am 46), .ref (am 47), .int 0, .ref (am 49), .int 0, .ref (am 51), .int 0, .ref (am 53), .ref (am 54), .int 1, .int 0, .ref (am 57), .long 0, .ref (am 59), .ref (am 60), .long 0, .int 0, .int 0, .int 0, .int 0, .int 0, .int 0, .ref (am 68), .int 0, .int 0, .ref (am 71), .ref (am 72), .ref (am 73), .ref (am 74), .ref (am 75), .ref (am 76), .ref (am 77), .ref (am 78)])), (am 75, .inl (cs 75, 4, .inl (upd fs p0.toNatClampNeg p1))), (am 76, .inl (cs 76, 4, .inl (upd gs p0.toNatClampNeg 0))), (am 77, .inl (cs 77, 160, .inl hs))] := hD
        refine lv_bipush (v := 40) hx hb dX12_sheet_62 (by decide) ?_
        refine lv_iload_n hx hb dX12_sheet_64 rfl (lv_at hl 1 rfl) ?_
        refine lv_imul hx hb dX12_sheet_65 ?_
        refine lv_topi (fun y_6 ey_6 => ?_)
        have ty_6 : y_6.toInt = 40 * p0.toInt := by
          try simp only [fa_lt, fa_le, fa_eq, fa_lt64, fa_le64, fa_eq64, Int32.reduceToInt, Int64.reduceToInt, zi_ite] at b_2
          try simp only [fa_lt, fa_le, fa_eq, fa_lt64, fa_le64, fa_eq64, Int32.reduceToInt, Int64.reduceToInt, zi_ite] at b_4
          try simp only [fa_lt, fa_le, fa_eq, fa_lt64, fa_le64, fa_eq64, Int32.reduceToInt, Int64.reduceToInt, zi_ite] at c_5
          rw [ey_6]; exact (zi_mul _ _ (by (try simp only [Int32.reduceToInt]) <;> omega) (by (try simp only [Int32.reduceToInt]) <;> omega))
        refine lv_istore (lv' := [(4, .int y_6), (0, .ref h0), (1, .int p0), (2, .int p1), (3, .int p2)]) hx hb dX12_sheet_66 hl (by decide) rfl (fun ls hl => ?_)
        have lp : ∀ (n : Nat) (xlp : Int32) (g0 : Nat → Int32), (160 - xlp.toInt).toNat < n → 0 ≤ xlp.toInt → xlp.toInt ≤ 160 → ∀ (H : Heap) (locs : List Loc), va_P (dC, dI) vwCl [(h0, .inr (12, [.int 0, .int 0, .ref (am 2), .ref (am 3), .ref (am 4), .int 0, .ref (am 6), .ref (am 7), .ref (am 8), .int 0, .ref (am 10), .ref (am 11), .ref (am 12), .ref (am 13), .ref (am 14), .ref (am 15), .int 0, .ref (am 17), .ref (am 18), .ref (am 19), .ref (am 20), .int 0, .ref (am 22), .int 0, .ref (am 24), .ref (am 25), .ref (am 26), .ref (am 27), .ref (am 28), .ref (am 29), .int 0, .ref (am 31), .ref (am 32), .ref (am 33), .int 0, .ref (am 35), .int 0, .ref (am 37), .ref (am 38), .ref (am 39), .ref (am 40), .ref (am 41), .ref (am 42), .ref (am 43), .int 0, .ref (am 45), .ref (am 46), .ref (am 47), .int 0, .ref (am 49), .int 0, .ref (am 51), .int 0, .ref (am 53), .ref (am 54), .int 1, .int 0, .ref (am 57), .long 0, .ref (am 59), .ref (am 60), .long 0, .int 0, .int 0, .int 0, .int 0, .int 0, .int 0, .ref (am 68), .int 0, .int 0, .ref (am 71), .ref (am 72), .ref (am 73), .ref (am 74), .ref (am 75), .ref (am 76), .ref (am 77), .ref (am 78)])), (am 75, .inl (cs 75, 4, .inl (upd fs p0.toNatClampNeg p1))), (am 76, .inl (cs 76, 4, .inl (upd gs p0.toNatClampNeg 0))), (am 77, .inl (cs 77, 160, .inl g0))] H → va_D A [(h0, .inr (12, [.int 0, .int 0, .ref (am 2), .ref (am 3), .ref (am 4), .int 0, .ref (am 6), .ref (am 7), .ref (am 8), .int 0, .ref (am 10), .ref (am 11), .ref (am 12), .ref (am 13), .ref (am 14), .ref (am 15), .int 0, .ref (am 17), .ref (am 18), .ref (am 19), .ref (am 20), .int 0, .ref (am 22), .int 0, .ref (am 24), .ref (am 25), .ref (am 26), .ref (am 27), .ref (am 28), .ref (am 29), .int 0, .ref (am 31), .ref (am 32), .ref (am 33), .int 0, .ref (am 35), .int 0, .ref (am 37), .ref (am 38), .ref (am 39), .ref (am 40), .ref (am 41), .ref (am 42), .ref (am 43), .int 0, .ref (am 45), .ref (am 46), .ref (am 47), .int 0, .ref (am 49), .int 0, .ref (am 51), .int 0, .ref (am 53), .ref (am 54), .int 1, .int 0, .ref (am 57), .long 0, .ref (am 59), .ref (am 60), .long 0, .int 0, .int 0, .int 0, .int 0, .int 0, .int 0, .ref (am 68), .int 0, .int 0, .ref (am 71), .ref (am 72), .ref (am 73), .ref (am 74), .ref (am 75), .ref (am 76), .ref (am 77), .ref (am 78)])), (am 75, .inl (cs 75, 4, .inl (upd fs p0.toNatClampNeg p1))), (am 76, .inl (cs 76, 4, .inl (upd gs p0.toNatClampNeg 0))), (am 77, .inl (cs 77, 160, .inl g0))] → va_S A s.heap H locs → ∀ (ls : Array Slot), lv_has ls 5 [(4, .int xlp), (0, .ref h0), (1, .int p0), (2, .int p1), (3, .int p2)] → W p l e (headSpec wsX12_sheet ({ frames := 2, cells := 0, slots := 0, locals := 42 })).room s m ([.ref h0, .int p0, .int p1, .int p2] : List Value).toArray below meth c H locs 0 0 (MQ below (va_Qi (fun (r : Int32) (u : Unit) => match u with | () => ((¬ (0 ≤ p0 ∧ p0 ≤ 3) ∨ ¬ (-1 ≤ p1 ∧ p1 ≤ 2)) ∧ r = (-2)) ∨ ((0 ≤ p0 ∧ p0 ≤ 3 ∧ p1 = -1) ∧ r = 1) ∨ ((0 ≤ p0 ∧ p0 ≤ 3 ∧ 0 ≤ p1 ∧ p1 ≤ 2 ∧ 40 < p2) ∧ r = (-2)) ∨ ((0 ≤ p0 ∧ p0 ≤ 3 ∧ 0 ≤ p1 ∧ p1 ≤ 2 ∧ p2 < 0) ∧ r = (-14)) ∨ ((0 ≤ p0 ∧ p0 ≤ 3 ∧ 0 ≤ p1 ∧ p1 ≤ 2 ∧ 0 ≤ p2 ∧ p2 ≤ 40) ∧ r = 1)) (fun (u : Unit) (t : State) => match u with | () => True) A) ([.ref h0, .int p0, .int p1, .int p2] : List Value).toArray s 0 0 A) (F0 m 68 ls []) := by
          intro n
          induction n with
          | zero => intro xlp g0 hm; exact absurd hm (Nat.not_lt_zero _)
          | succ n ih =>
            intro xlp g0 hm h0lp h1lp H locs hP hD hS ls hl
            refine lv_iload hx hb dX12_sheet_68 (lv_at hl 0 rfl) ?_
            refine lv_bipush (v := 40) hx hb dX12_sheet_70 (by decide) ?_
            refine lv_iload_n hx hb dX12_sheet_72 rfl (lv_at hl 2 rfl) ?_
            refine lv_imul hx hb dX12_sheet_73 ?_
            refine lv_topi (fun y_7 ey_7 => ?_)
            have ty_7 : y_7.toInt = 40 * p0.toInt := by
              try simp only [fa_lt, fa_le, fa_eq, fa_lt64, fa_le64, fa_eq64, Int32.reduceToInt, Int64.reduceToInt, zi_ite] at b_2
              try simp only [fa_lt, fa_le, fa_eq, fa_lt64, fa_le64, fa_eq64, Int32.reduceToInt, Int64.reduceToInt, zi_ite] at b_4
              try simp only [fa_lt, fa_le, fa_eq, fa_lt64, fa_le64, fa_eq64, Int32.reduceToInt, Int64.reduceToInt, zi_ite] at c_5
              try simp only [fa_lt, fa_le, fa_eq, fa_lt64, fa_le64, fa_eq64, Int32.reduceToInt, Int64.reduceToInt, zi_ite] at ty_6
              try simp only [fa_lt, fa_le, fa_eq, fa_lt64, fa_le64, fa_eq64, Int32.reduceToInt, Int64.reduceToInt, zi_ite] at hm
              try simp only [fa_lt, fa_le, fa_eq, fa_lt64, fa_le64, fa_eq64, Int32.reduceToInt, Int64.reduceToInt, zi_ite] at h0lp
              try simp only [fa_lt, fa_le, fa_eq, fa_lt64, fa_le64, fa_eq64, Int32.reduceToInt, Int64.reduceToInt, zi_ite] at h1lp
              rw [ey_7]; exact (zi_mul _ _ (by (try simp only [Int32.reduceToInt]) <;> omega) (by (try simp only [Int32.reduceToInt]) <;> omega))
            refine lv_bipush (v := 40) hx hb dX12_sheet_74 (by decide) ?_
            refine lv_iadd hx hb dX12_sheet_76 ?_
            refine lv_topi (fun y_8 ey_8 => ?_)
            have ty_8 : y_8.toInt = y_7.toInt + 40 := by
              try simp only [fa_lt, fa_le, fa_eq, fa_lt64, fa_le64, fa_eq64, Int32.reduceToInt, Int64.reduceToInt, zi_ite] at b_2
              try simp only [fa_lt, fa_le, fa_eq, fa_lt64, fa_le64, fa_eq64, Int32.reduceToInt, Int64.reduceToInt, zi_ite] at b_4
              try simp only [fa_lt, fa_le, fa_eq, fa_lt64, fa_le64, fa_eq64, Int32.reduceToInt, Int64.reduceToInt, zi_ite] at c_5
              try simp only [fa_lt, fa_le, fa_eq, fa_lt64, fa_le64, fa_eq64, Int32.reduceToInt, Int64.reduceToInt, zi_ite] at ty_6
              try simp only [fa_lt, fa_le, fa_eq, fa_lt64, fa_le64, fa_eq64, Int32.reduceToInt, Int64.reduceToInt, zi_ite] at hm
              try simp only [fa_lt, fa_le, fa_eq, fa_lt64, fa_le64, fa_eq64, Int32.reduceToInt, Int64.reduceToInt, zi_ite] at h0lp
              try simp only [fa_lt, fa_le, fa_eq, fa_lt64, fa_le64, fa_eq64, Int32.reduceToInt, Int64.reduceToInt, zi_ite] at h1lp
              try simp only [fa_lt, fa_le, fa_eq, fa_lt64, fa_le64, fa_eq64, Int32.reduceToInt, Int64.reduceToInt, zi_ite] at ty_7
              rw [ey_8]; exact (zi_add _ _ (by (try simp only [Int32.reduceToInt]) <;> omega) (by (try simp only [Int32.reduceToInt]) <;> omega))
            refine lv_icmp_ge (tgt := 94) hx hb dX12_sheet_77 (by decide) (fun c_9 => ?_) (fun c_9 => ?_)
            · refine lv_iconst (v := 1) hx hb dX12_sheet_94 (by decide) ?_
              have hpost : ((¬ (0 ≤ p0 ∧ p0 ≤ 3) ∨ ¬ (-1 ≤ p1 ∧ p1 ≤ 2)) ∧ (1 : Int32) = (-2)) ∨ ((0 ≤ p0 ∧ p0 ≤ 3 ∧ p1 = -1) ∧ (1 : Int32) = 1) ∨ ((0 ≤ p0 ∧ p0 ≤ 3 ∧ 0 ≤ p1 ∧ p1 ≤ 2 ∧ 40 < p2) ∧ (1 : Int32) = (-2)) ∨ ((0 ≤ p0 ∧ p0 ≤ 3 ∧ 0 ≤ p1 ∧ p1 ≤ 2 ∧ p2 < 0) ∧ (1 : Int32) = (-14)) ∨ ((0 ≤ p0 ∧ p0 ≤ 3 ∧ 0 ≤ p1 ∧ p1 ≤ 2 ∧ 0 ≤ p2 ∧ p2 ≤ 40) ∧ (1 : Int32) = 1) := by
                try simp only [fa_lt, fa_le, fa_eq, fa_lt64, fa_le64, fa_eq64, Int32.reduceToInt, Int64.reduceToInt, zi_ite] at b_2
                try simp only [fa_lt, fa_le, fa_eq, fa_lt64, fa_le64, fa_eq64, Int32.reduceToInt, Int64.reduceToInt, zi_ite] at b_4
                try simp only [fa_lt, fa_le, fa_eq, fa_lt64, fa_le64, fa_eq64, Int32.reduceToInt, Int64.reduceToInt, zi_ite] at c_5
                try simp only [fa_lt, fa_le, fa_eq, fa_lt64, fa_le64, fa_eq64, Int32.reduceToInt, Int64.reduceToInt, zi_ite] at ty_6
                try simp only [fa_lt, fa_le, fa_eq, fa_lt64, fa_le64, fa_eq64, Int32.reduceToInt, Int64.reduceToInt, zi_ite] at hm
                try simp only [fa_lt, fa_le, fa_eq, fa_lt64, fa_le64, fa_eq64, Int32.reduceToInt, Int64.reduceToInt, zi_ite] at h0lp
                try simp only [fa_lt, fa_le, fa_eq, fa_lt64, fa_le64, fa_eq64, Int32.reduceToInt, Int64.reduceToInt, zi_ite] at h1lp
                try simp only [fa_lt, fa_le, fa_eq, fa_lt64, fa_le64, fa_eq64, Int32.reduceToInt, Int64.reduceToInt, zi_ite] at ty_7
                try simp only [fa_lt, fa_le, fa_eq, fa_lt64, fa_le64, fa_eq64, Int32.reduceToInt, Int64.reduceToInt, zi_ite] at ty_8
                try simp only [fa_lt, fa_le, fa_eq, fa_lt64, fa_le64, fa_eq64, Int32.reduceToInt, Int64.reduceToInt, zi_ite] at c_9
                first
                | exact Or.inl ⟨by (try simp only [fa_lt, fa_le, fa_eq, fa_lt64, fa_le64, fa_eq64, Int32.reduceToInt, Int64.reduceToInt, zi_ite]); omega, rfl⟩
                | exact Or.inr (Or.inl ⟨by (try simp only [fa_lt, fa_le, fa_eq, fa_lt64, fa_le64, fa_eq64, Int32.reduceToInt, Int64.reduceToInt, zi_ite]); omega, rfl⟩)
                | exact Or.inr (Or.inr (Or.inl ⟨by (try simp only [fa_lt, fa_le, fa_eq, fa_lt64, fa_le64, fa_eq64, Int32.reduceToInt, Int64.reduceToInt, zi_ite]); omega, rfl⟩))
                | exact Or.inr (Or.inr (Or.inr (Or.inl ⟨by (try simp only [fa_lt, fa_le, fa_eq, fa_lt64, fa_le64, fa_eq64, Int32.reduceToInt, Int64.reduceToInt, zi_ite]); omega, rfl⟩)))
                | exact Or.inr (Or.inr (Or.inr (Or.inr (⟨by (try simp only [fa_lt, fa_le, fa_eq, fa_lt64, fa_le64, fa_eq64, Int32.reduceToInt, Int64.reduceToInt, zi_ite]); omega, rfl⟩))))
              refine W.widen (k := 0) (n := 0) (by decide +kernel) (by decide +kernel) ?_
              exact W.iret (v := 1) hx hb hr (fun t ht hW => ⟨⟨1, (), rfl, hpost, trivial⟩, hS.F ht⟩) hS.2.2 dX12_sheet_95
            · refine lv_aload_n hx hb dX12_sheet_80 rfl (lv_at hl 1 rfl) ?_
              refine va_get (D := (dC, dI)) (ci := 12) (v := .ref (am 77)) (C := RX12) (T := TX12) (N := 79) hx hb hts (by decide +kernel) hown hK hP 0 rfl rfl 77 (by decide) (hts (.fieldLink RX12 164 "RedTentModel" "items" "[I") (by decide +kernel)) (fun _ h9 => h9) rfl dX12_sheet_81 ?_
              refine lv_iload hx hb dX12_sheet_84 (lv_at hl 0 rfl) ?_
              refine lv_iconst (v := 0) hx hb dX12_sheet_86 (by decide) ?_
              refine va_iast hx hb hK hP hD hS 3 2 rfl rfl (vp_in_iff.mpr (by (try simp only [fa_lt, fa_le, fa_eq, fa_lt64, fa_le64, fa_eq64, Int32.reduceToInt, Int64.reduceToInt, zi_ite] at b_2 b_4 c_5 ty_6 hm h0lp h1lp ty_7 ty_8 c_9 ⊢) <;> omega)) dX12_sheet_87 (fun H locs hP hD hS => ?_)
              have hP : va_P (dC, dI) vwCl [(h0, .inr (12, [.int 0, .int 0, .ref (am 2), .ref (am 3), .ref (am 4), .int 0, .ref (am 6), .ref (am 7), .ref (am 8), .int 0, .ref (am 10), .ref (am 11), .ref (am 12), .ref (am 13), .ref (am 14), .ref (am 15), .int 0, .ref (am 17), .ref (am 18), .ref (am 19), .ref (am 20), .int 0, .ref (am 22), .int 0, .ref (am 24), .ref (am 25), .ref (am 26), .ref (am 27), .ref (am 28), .ref (am 29), .int 0, .ref (am 31), .ref (am 32), .ref (am 33), .int 0, .ref (am 35), .int 0, .ref (am 37), .ref (am 38), .ref (am 39), .ref (am 40), .ref (am 41), .ref (am 42), .ref (am 43), .int 0, .ref (am 45), .ref (am 46), .ref (am 47), .int 0, .ref (am 49), .int 0, .ref (am 51), .int 0, .ref (am 53), .ref (am 54), .int 1, .int 0, .ref (am 57), .long 0, .ref (am 59), .ref (am 60), .long 0, .int 0, .int 0, .int 0, .int 0, .int 0, .int 0, .ref (am 68), .int 0, .int 0, .ref (am 71), .ref (am 72), .ref (am 73), .ref (am 74), .ref (am 75), .ref (am 76), .ref (am 77), .ref (am 78)])), (am 75, .inl (cs 75, 4, .inl (upd fs p0.toNatClampNeg p1))), (am 76, .inl (cs 76, 4, .inl (upd gs p0.toNatClampNeg 0))), (am 77, .inl (cs 77, 160, .inl (upd g0 xlp.toNatClampNeg 0)))] H := hP
              have hD : va_D A [(h0, .inr (12, [.int 0, .int 0, .ref (am 2), .ref (am 3), .ref (am 4), .int 0, .ref (am 6), .ref (am 7), .ref (am 8), .int 0, .ref (am 10), .ref (am 11), .ref (am 12), .ref (am 13), .ref (am 14), .ref (am 15), .int 0, .ref (am 17), .ref (am 18), .ref (am 19), .ref (am 20), .int 0, .ref (am 22), .int 0, .ref (am 24), .ref (am 25), .ref (am 26), .ref (am 27), .ref (am 28), .ref (am 29), .int 0, .ref (am 31), .ref (am 32), .ref (am 33), .int 0, .ref (am 35), .int 0, .ref (am 37), .ref (am 38), .ref (am 39), .ref (am 40), .ref (am 41), .ref (am 42), .ref (am 43), .int 0, .ref (am 45), .ref (am 46), .ref (am 47), .int 0, .ref (am 49), .int 0, .ref (am 51), .int 0, .ref (am 53), .ref (am 54), .int 1, .int 0, .ref (am 57), .long 0, .ref (am 59), .ref (am 60), .long 0, .int 0, .int 0, .int 0, .int 0, .int 0, .int 0, .ref (am 68), .int 0, .int 0, .ref (am 71), .ref (am 72), .ref (am 73), .ref (am 74), .ref (am 75), .ref (am 76), .ref (am 77), .ref (am 78)])), (am 75, .inl (cs 75, 4, .inl (upd fs p0.toNatClampNeg p1))), (am 76, .inl (cs 76, 4, .inl (upd gs p0.toNatClampNeg 0))), (am 77, .inl (cs 77, 160, .inl (upd g0 xlp.toNatClampNeg 0)))] := hD
              obtain ⟨x_10, ex_10⟩ : ∃ y : Int32, y = xlp + 1 := ⟨_, rfl⟩
              refine lv_iinc (v := x_10) (lv' := [(4, .int x_10), (0, .ref h0), (1, .int p0), (2, .int p1), (3, .int p2)]) hx hb dX12_sheet_88 hl (k := 0) rfl (by rw [ex_10]; rfl) (by decide) rfl (fun ls hl => ?_)
              refine lv_goto (tgt := 68) hx hb dX12_sheet_91 (by decide) ?_
              try simp only [fa_lt, fa_le, fa_eq, fa_lt64, fa_le64, fa_eq64, Int32.reduceToInt, Int64.reduceToInt, zi_ite] at b_2
              try simp only [fa_lt, fa_le, fa_eq, fa_lt64, fa_le64, fa_eq64, Int32.reduceToInt, Int64.reduceToInt, zi_ite] at b_4
              try simp only [fa_lt, fa_le, fa_eq, fa_lt64, fa_le64, fa_eq64, Int32.reduceToInt, Int64.reduceToInt, zi_ite] at c_5
              try simp only [fa_lt, fa_le, fa_eq, fa_lt64, fa_le64, fa_eq64, Int32.reduceToInt, Int64.reduceToInt, zi_ite] at ty_6
              try simp only [fa_lt, fa_le, fa_eq, fa_lt64, fa_le64, fa_eq64, Int32.reduceToInt, Int64.reduceToInt, zi_ite] at hm
              try simp only [fa_lt, fa_le, fa_eq, fa_lt64, fa_le64, fa_eq64, Int32.reduceToInt, Int64.reduceToInt, zi_ite] at h0lp
              try simp only [fa_lt, fa_le, fa_eq, fa_lt64, fa_le64, fa_eq64, Int32.reduceToInt, Int64.reduceToInt, zi_ite] at h1lp
              try simp only [fa_lt, fa_le, fa_eq, fa_lt64, fa_le64, fa_eq64, Int32.reduceToInt, Int64.reduceToInt, zi_ite] at ty_7
              try simp only [fa_lt, fa_le, fa_eq, fa_lt64, fa_le64, fa_eq64, Int32.reduceToInt, Int64.reduceToInt, zi_ite] at ty_8
              try simp only [fa_lt, fa_le, fa_eq, fa_lt64, fa_le64, fa_eq64, Int32.reduceToInt, Int64.reduceToInt, zi_ite] at c_9
              have tx_10 : x_10.toInt = xlp.toInt + 1 := by rw [ex_10]; exact zi_inc (by omega)
              exact ih x_10 (upd g0 xlp.toNatClampNeg 0) (by omega) (by omega) (by omega) _ _ hP hD hS ls (lv_sub hl [0, 1, 2, 3, 4] rfl)
        exact lp _ y_6 hs (Nat.lt_succ_self _) (by (try simp only [fa_lt, fa_le, fa_eq, fa_lt64, fa_le64, fa_eq64, Int32.reduceToInt, Int64.reduceToInt, zi_ite] at b_2 b_4 c_5 ty_6 ⊢) <;> omega) (by (try simp only [fa_lt, fa_le, fa_eq, fa_lt64, fa_le64, fa_eq64, Int32.reduceToInt, Int64.reduceToInt, zi_ite] at b_2 b_4 c_5 ty_6 ⊢) <;> omega) _ _ hP hD hS ls hl
      · refine lv_iload_n hx hb dX12_sheet_20 rfl (lv_at hl 3 rfl) ?_
        refine lv_bipush (v := 40) hx hb dX12_sheet_21 (by decide) ?_
        refine lv_icmp_le (tgt := 29) hx hb dX12_sheet_23 (by decide) (fun c_11 => ?_) (fun c_11 => ?_)
        · refine lv_iload_n hx hb dX12_sheet_29 rfl (lv_at hl 2 rfl) ?_
          refine lv_if_lt (tgt := 40) hx hb dX12_sheet_30 (by decide) (fun c9 => absurd c9 (by (try simp only [fa_lt, fa_le, fa_eq, fa_lt64, fa_le64, fa_eq64, Int32.reduceToInt, Int64.reduceToInt, zi_ite] at b_2 b_4 c_5 c_11 ⊢) <;> omega)) (fun _ => ?_)
          refine lv_iload_n hx hb dX12_sheet_33 rfl (lv_at hl 3 rfl) ?_
          refine lv_if_ge (tgt := 40) hx hb dX12_sheet_34 (by decide) (fun c_12 => ?_) (fun c_12 => ?_)
          · refine lv_aload_n hx hb dX12_sheet_40 rfl (lv_at hl 0 rfl) ?_
            refine va_get (D := (dC, dI)) (ci := 12) (v := .ref (am 75)) (C := RX12) (T := TX12) (N := 79) hx hb hts (by decide +kernel) hown hK hP 0 rfl rfl 75 (by decide) (hts (.fieldLink RX12 158 "RedTentModel" "sort" "[I") (by decide +kernel)) (fun _ h9 => h9) rfl dX12_sheet_41 ?_
            refine lv_iload_n hx hb dX12_sheet_44 rfl (lv_at hl 1 rfl) ?_
            refine lv_iload_n hx hb dX12_sheet_45 rfl (lv_at hl 2 rfl) ?_
            refine va_iast hx hb hK hP hD hS 1 0 rfl rfl (vp_in_iff.mpr (by (try simp only [fa_lt, fa_le, fa_eq, fa_lt64, fa_le64, fa_eq64, Int32.reduceToInt, Int64.reduceToInt, zi_ite] at b_2 b_4 c_5 c_11 c_12 ⊢) <;> omega)) dX12_sheet_46 (fun H locs hP hD hS => ?_)
            have hP : va_P (dC, dI) vwCl [(h0, .inr (12, [.int 0, .int 0, .ref (am 2), .ref (am 3), .ref (am 4), .int 0, .ref (am 6), .ref (am 7), .ref (am 8), .int 0, .ref (am 10), .ref (am 11), .ref (am 12), .ref (am 13), .ref (am 14), .ref (am 15), .int 0, .ref (am 17), .ref (am 18), .ref (am 19), .ref (am 20), .int 0, .ref (am 22), .int 0, .ref (am 24), .ref (am 25), .ref (am 26), .ref (am 27), .ref (am 28), .ref (am 29), .int 0, .ref (am 31), .ref (am 32), .ref (am 33), .int 0, .ref (am 35), .int 0, .ref (am 37), .ref (am 38), .ref (am 39), .ref (am 40), .ref (am 41), .ref (am 42), .ref (am 43), .int 0, .ref (am 45), .ref (am 46), .ref (am 47), .int 0, .ref (am 49), .int 0, .ref (am 51), .int 0, .ref (am 53), .ref (am 54), .int 1, .int 0, .ref (am 57), .long 0, .ref (am 59), .ref (am 60), .long 0, .int 0, .int 0, .int 0, .int 0, .int 0, .int 0, .ref (am 68), .int 0, .int 0, .ref (am 71), .ref (am 72), .ref (am 73), .ref (am 74), .ref (am 75), .ref (am 76), .ref (am 77), .ref (am 78)])), (am 75, .inl (cs 75, 4, .inl (upd fs p0.toNatClampNeg p1))), (am 76, .inl (cs 76, 4, .inl gs)), (am 77, .inl (cs 77, 160, .inl hs))] H := hP
            have hD : va_D A [(h0, .inr (12, [.int 0, .int 0, .ref (am 2), .ref (am 3), .ref (am 4), .int 0, .ref (am 6), .ref (am 7), .ref (am 8), .int 0, .ref (am 10), .ref (am 11), .ref (am 12), .ref (am 13), .ref (am 14), .ref (am 15), .int 0, .ref (am 17), .ref (am 18), .ref (am 19), .ref (am 20), .int 0, .ref (am 22), .int 0, .ref (am 24), .ref (am 25), .ref (am 26), .ref (am 27), .ref (am 28), .ref (am 29), .int 0, .ref (am 31), .ref (am 32), .ref (am 33), .int 0, .ref (am 35), .int 0, .ref (am 37), .ref (am 38), .ref (am 39), .ref (am 40), .ref (am 41), .ref (am 42), .ref (am 43), .int 0, .ref (am 45), .ref (am 46), .ref (am 47), .int 0, .ref (am 49), .int 0, .ref (am 51), .int 0, .ref (am 53), .ref (am 54), .int 1, .int 0, .ref (am 57), .long 0, .ref (am 59), .ref (am 60), .long 0, .int 0, .int 0, .int 0, .int 0, .int 0, .int 0, .ref (am 68), .int 0, .int 0, .ref (am 71), .ref (am 72), .ref (am 73), .ref (am 74), .ref (am 75), .ref (am 76), .ref (am 77), .ref (am 78)])), (am 75, .inl (cs 75, 4, .inl (upd fs p0.toNatClampNeg p1))), (am 76, .inl (cs 76, 4, .inl gs)), (am 77, .inl (cs 77, 160, .inl hs))] := hD
            refine lv_aload_n hx hb dX12_sheet_47 rfl (lv_at hl 0 rfl) ?_
            refine va_get (D := (dC, dI)) (ci := 12) (v := .ref (am 76)) (C := RX12) (T := TX12) (N := 79) hx hb hts (by decide +kernel) hown hK hP 0 rfl rfl 76 (by decide) (hts (.fieldLink RX12 161 "RedTentModel" "many" "[I") (by decide +kernel)) (fun _ h9 => h9) rfl dX12_sheet_48 ?_
            refine lv_iload_n hx hb dX12_sheet_51 rfl (lv_at hl 1 rfl) ?_
            refine lv_iload_n hx hb dX12_sheet_52 rfl (lv_at hl 2 rfl) ?_
            refine lv_if_ge (tgt := 60) hx hb dX12_sheet_53 (by decide) (fun _ => ?_) (fun c9 => absurd (by (try simp only [fa_lt, fa_le, fa_eq, fa_lt64, fa_le64, fa_eq64, Int32.reduceToInt, Int64.reduceToInt, zi_ite] at b_2 b_4 c_5 c_11 c_12 ⊢) <;> omega) c9)
            refine lv_iload_n hx hb dX12_sheet_60 rfl (lv_at hl 3 rfl) ?_
            refine va_iast hx hb hK hP hD hS 2 1 rfl rfl (vp_in_iff.mpr (by (try simp only [fa_lt, fa_le, fa_eq, fa_lt64, fa_le64, fa_eq64, Int32.reduceToInt, Int64.reduceToInt, zi_ite] at b_2 b_4 c_5 c_11 c_12 ⊢) <;> omega)) dX12_sheet_61 (fun H locs hP hD hS => ?_)
            have hP : va_P (dC, dI) vwCl [(h0, .inr (12, [.int 0, .int 0, .ref (am 2), .ref (am 3), .ref (am 4), .int 0, .ref (am 6), .ref (am 7), .ref (am 8), .int 0, .ref (am 10), .ref (am 11), .ref (am 12), .ref (am 13), .ref (am 14), .ref (am 15), .int 0, .ref (am 17), .ref (am 18), .ref (am 19), .ref (am 20), .int 0, .ref (am 22), .int 0, .ref (am 24), .ref (am 25), .ref (am 26), .ref (am 27), .ref (am 28), .ref (am 29), .int 0, .ref (am 31), .ref (am 32), .ref (am 33), .int 0, .ref (am 35), .int 0, .ref (am 37), .ref (am 38), .ref (am 39), .ref (am 40), .ref (am 41), .ref (am 42), .ref (am 43), .int 0, .ref (am 45), .ref (am 46), .ref (am 47), .int 0, .ref (am 49), .int 0, .ref (am 51), .int 0, .ref (am 53), .ref (am 54), .int 1, .int 0, .ref (am 57), .long 0, .ref (am 59), .ref (am 60), .long 0, .int 0, .int 0, .int 0, .int 0, .int 0, .int 0, .ref (am 68), .int 0, .int 0, .ref (am 71), .ref (am 72), .ref (am 73), .ref (am 74), .ref (am 75), .ref (am 76), .ref (am 77), .ref (am 78)])), (am 75, .inl (cs 75, 4, .inl (upd fs p0.toNatClampNeg p1))), (am 76, .inl (cs 76, 4, .inl (upd gs p0.toNatClampNeg p2))), (am 77, .inl (cs 77, 160, .inl hs))] H := hP
            have hD : va_D A [(h0, .inr (12, [.int 0, .int 0, .ref (am 2), .ref (am 3), .ref (am 4), .int 0, .ref (am 6), .ref (am 7), .ref (am 8), .int 0, .ref (am 10), .ref (am 11), .ref (am 12), .ref (am 13), .ref (am 14), .ref (am 15), .int 0, .ref (am 17), .ref (am 18), .ref (am 19), .ref (am 20), .int 0, .ref (am 22), .int 0, .ref (am 24), .ref (am 25), .ref (am 26), .ref (am 27), .ref (am 28), .ref (am 29), .int 0, .ref (am 31), .ref (am 32), .ref (am 33), .int 0, .ref (am 35), .int 0, .ref (am 37), .ref (am 38), .ref (am 39), .ref (am 40), .ref (am 41), .ref (am 42), .ref (am 43), .int 0, .ref (am 45), .ref (am 46), .ref (am 47), .int 0, .ref (am 49), .int 0, .ref (am 51), .int 0, .ref (am 53), .ref (am 54), .int 1, .int 0, .ref (am 57), .long 0, .ref (am 59), .ref (am 60), .long 0, .int 0, .int 0, .int 0, .int 0, .int 0, .int 0, .ref (am 68), .int 0, .int 0, .ref (am 71), .ref (am 72), .ref (am 73), .ref (am 74), .ref (am 75), .ref (am 76), .ref (am 77), .ref (am 78)])), (am 75, .inl (cs 75, 4, .inl (upd fs p0.toNatClampNeg p1))), (am 76, .inl (cs 76, 4, .inl (upd gs p0.toNatClampNeg p2))), (am 77, .inl (cs 77, 160, .inl hs))] := hD
            refine lv_bipush (v := 40) hx hb dX12_sheet_62 (by decide) ?_
            refine lv_iload_n hx hb dX12_sheet_64 rfl (lv_at hl 1 rfl) ?_
            refine lv_imul hx hb dX12_sheet_65 ?_
            refine lv_topi (fun y_13 ey_13 => ?_)
            have ty_13 : y_13.toInt = 40 * p0.toInt := by
              try simp only [fa_lt, fa_le, fa_eq, fa_lt64, fa_le64, fa_eq64, Int32.reduceToInt, Int64.reduceToInt, zi_ite] at b_2
              try simp only [fa_lt, fa_le, fa_eq, fa_lt64, fa_le64, fa_eq64, Int32.reduceToInt, Int64.reduceToInt, zi_ite] at b_4
              try simp only [fa_lt, fa_le, fa_eq, fa_lt64, fa_le64, fa_eq64, Int32.reduceToInt, Int64.reduceToInt, zi_ite] at c_5
              try simp only [fa_lt, fa_le, fa_eq, fa_lt64, fa_le64, fa_eq64, Int32.reduceToInt, Int64.reduceToInt, zi_ite] at c_11
              try simp only [fa_lt, fa_le, fa_eq, fa_lt64, fa_le64, fa_eq64, Int32.reduceToInt, Int64.reduceToInt, zi_ite] at c_12
              rw [ey_13]; exact (zi_mul _ _ (by (try simp only [Int32.reduceToInt]) <;> omega) (by (try simp only [Int32.reduceToInt]) <;> omega))
            refine lv_istore (lv' := [(4, .int y_13), (0, .ref h0), (1, .int p0), (2, .int p1), (3, .int p2)]) hx hb dX12_sheet_66 hl (by decide) rfl (fun ls hl => ?_)
            have lp : ∀ (n : Nat) (xlp : Int32) (g0 : Nat → Int32), (160 - xlp.toInt).toNat < n → 0 ≤ xlp.toInt → xlp.toInt ≤ 160 → ∀ (H : Heap) (locs : List Loc), va_P (dC, dI) vwCl [(h0, .inr (12, [.int 0, .int 0, .ref (am 2), .ref (am 3), .ref (am 4), .int 0, .ref (am 6), .ref (am 7), .ref (am 8), .int 0, .ref (am 10), .ref (am 11), .ref (am 12), .ref (am 13), .ref (am 14), .ref (am 15), .int 0, .ref (am 17), .ref (am 18), .ref (am 19), .ref (am 20), .int 0, .ref (am 22), .int 0, .ref (am 24), .ref (am 25), .ref (am 26), .ref (am 27), .ref (am 28), .ref (am 29), .int 0, .ref (am 31), .ref (am 32), .ref (am 33), .int 0, .ref (am 35), .int 0, .ref (am 37), .ref (am 38), .ref (am 39), .ref (am 40), .ref (am 41), .ref (am 42), .ref (am 43), .int 0, .ref (am 45), .ref (am 46), .ref (am 47), .int 0, .ref (am 49), .int 0, .ref (am 51), .int 0, .ref (am 53), .ref (am 54), .int 1, .int 0, .ref (am 57), .long 0, .ref (am 59), .ref (am 60), .long 0, .int 0, .int 0, .int 0, .int 0, .int 0, .int 0, .ref (am 68), .int 0, .int 0, .ref (am 71), .ref (am 72), .ref (am 73), .ref (am 74), .ref (am 75), .ref (am 76), .ref (am 77), .ref (am 78)])), (am 75, .inl (cs 75, 4, .inl (upd fs p0.toNatClampNeg p1))), (am 76, .inl (cs 76, 4, .inl (upd gs p0.toNatClampNeg p2))), (am 77, .inl (cs 77, 160, .inl g0))] H → va_D A [(h0, .inr (12, [.int 0, .int 0, .ref (am 2), .ref (am 3), .ref (am 4), .int 0, .ref (am 6), .ref (am 7), .ref (am 8), .int 0, .ref (am 10), .ref (am 11), .ref (am 12), .ref (am 13), .ref (am 14), .ref (am 15), .int 0, .ref (am 17), .ref (am 18), .ref (am 19), .ref (am 20), .int 0, .ref (am 22), .int 0, .ref (am 24), .ref (am 25), .ref (am 26), .ref (am 27), .ref (am 28), .ref (am 29), .int 0, .ref (am 31), .ref (am 32), .ref (am 33), .int 0, .ref (am 35), .int 0, .ref (am 37), .ref (am 38), .ref (am 39), .ref (am 40), .ref (am 41), .ref (am 42), .ref (am 43), .int 0, .ref (am 45), .ref (am 46), .ref (am 47), .int 0, .ref (am 49), .int 0, .ref (am 51), .int 0, .ref (am 53), .ref (am 54), .int 1, .int 0, .ref (am 57), .long 0, .ref (am 59), .ref (am 60), .long 0, .int 0, .int 0, .int 0, .int 0, .int 0, .int 0, .ref (am 68), .int 0, .int 0, .ref (am 71), .ref (am 72), .ref (am 73), .ref (am 74), .ref (am 75), .ref (am 76), .ref (am 77), .ref (am 78)])), (am 75, .inl (cs 75, 4, .inl (upd fs p0.toNatClampNeg p1))), (am 76, .inl (cs 76, 4, .inl (upd gs p0.toNatClampNeg p2))), (am 77, .inl (cs 77, 160, .inl g0))] → va_S A s.heap H locs → ∀ (ls : Array Slot), lv_has ls 5 [(4, .int xlp), (0, .ref h0), (1, .int p0), (2, .int p1), (3, .int p2)] → W p l e (headSpec wsX12_sheet ({ frames := 2, cells := 0, slots := 0, locals := 42 })).room s m ([.ref h0, .int p0, .int p1, .int p2] : List Value).toArray below meth c H locs 0 0 (MQ below (va_Qi (fun (r : Int32) (u : Unit) => match u with | () => ((¬ (0 ≤ p0 ∧ p0 ≤ 3) ∨ ¬ (-1 ≤ p1 ∧ p1 ≤ 2)) ∧ r = (-2)) ∨ ((0 ≤ p0 ∧ p0 ≤ 3 ∧ p1 = -1) ∧ r = 1) ∨ ((0 ≤ p0 ∧ p0 ≤ 3 ∧ 0 ≤ p1 ∧ p1 ≤ 2 ∧ 40 < p2) ∧ r = (-2)) ∨ ((0 ≤ p0 ∧ p0 ≤ 3 ∧ 0 ≤ p1 ∧ p1 ≤ 2 ∧ p2 < 0) ∧ r = (-14)) ∨ ((0 ≤ p0 ∧ p0 ≤ 3 ∧ 0 ≤ p1 ∧ p1 ≤ 2 ∧ 0 ≤ p2 ∧ p2 ≤ 40) ∧ r = 1)) (fun (u : Unit) (t : State) => match u with | () => True) A) ([.ref h0, .int p0, .int p1, .int p2] : List Value).toArray s 0 0 A) (F0 m 68 ls []) := by
              intro n
              induction n with
              | zero => intro xlp g0 hm; exact absurd hm (Nat.not_lt_zero _)
              | succ n ih =>
                intro xlp g0 hm h0lp h1lp H locs hP hD hS ls hl
                refine lv_iload hx hb dX12_sheet_68 (lv_at hl 0 rfl) ?_
                refine lv_bipush (v := 40) hx hb dX12_sheet_70 (by decide) ?_
                refine lv_iload_n hx hb dX12_sheet_72 rfl (lv_at hl 2 rfl) ?_
                refine lv_imul hx hb dX12_sheet_73 ?_
                refine lv_topi (fun y_14 ey_14 => ?_)
                have ty_14 : y_14.toInt = 40 * p0.toInt := by
                  try simp only [fa_lt, fa_le, fa_eq, fa_lt64, fa_le64, fa_eq64, Int32.reduceToInt, Int64.reduceToInt, zi_ite] at b_2
                  try simp only [fa_lt, fa_le, fa_eq, fa_lt64, fa_le64, fa_eq64, Int32.reduceToInt, Int64.reduceToInt, zi_ite] at b_4
                  try simp only [fa_lt, fa_le, fa_eq, fa_lt64, fa_le64, fa_eq64, Int32.reduceToInt, Int64.reduceToInt, zi_ite] at c_5
                  try simp only [fa_lt, fa_le, fa_eq, fa_lt64, fa_le64, fa_eq64, Int32.reduceToInt, Int64.reduceToInt, zi_ite] at c_11
                  try simp only [fa_lt, fa_le, fa_eq, fa_lt64, fa_le64, fa_eq64, Int32.reduceToInt, Int64.reduceToInt, zi_ite] at c_12
                  try simp only [fa_lt, fa_le, fa_eq, fa_lt64, fa_le64, fa_eq64, Int32.reduceToInt, Int64.reduceToInt, zi_ite] at ty_13
                  try simp only [fa_lt, fa_le, fa_eq, fa_lt64, fa_le64, fa_eq64, Int32.reduceToInt, Int64.reduceToInt, zi_ite] at hm
                  try simp only [fa_lt, fa_le, fa_eq, fa_lt64, fa_le64, fa_eq64, Int32.reduceToInt, Int64.reduceToInt, zi_ite] at h0lp
                  try simp only [fa_lt, fa_le, fa_eq, fa_lt64, fa_le64, fa_eq64, Int32.reduceToInt, Int64.reduceToInt, zi_ite] at h1lp
                  rw [ey_14]; exact (zi_mul _ _ (by (try simp only [Int32.reduceToInt]) <;> omega) (by (try simp only [Int32.reduceToInt]) <;> omega))
                refine lv_bipush (v := 40) hx hb dX12_sheet_74 (by decide) ?_
                refine lv_iadd hx hb dX12_sheet_76 ?_
                refine lv_topi (fun y_15 ey_15 => ?_)
                have ty_15 : y_15.toInt = y_14.toInt + 40 := by
                  try simp only [fa_lt, fa_le, fa_eq, fa_lt64, fa_le64, fa_eq64, Int32.reduceToInt, Int64.reduceToInt, zi_ite] at b_2
                  try simp only [fa_lt, fa_le, fa_eq, fa_lt64, fa_le64, fa_eq64, Int32.reduceToInt, Int64.reduceToInt, zi_ite] at b_4
                  try simp only [fa_lt, fa_le, fa_eq, fa_lt64, fa_le64, fa_eq64, Int32.reduceToInt, Int64.reduceToInt, zi_ite] at c_5
                  try simp only [fa_lt, fa_le, fa_eq, fa_lt64, fa_le64, fa_eq64, Int32.reduceToInt, Int64.reduceToInt, zi_ite] at c_11
                  try simp only [fa_lt, fa_le, fa_eq, fa_lt64, fa_le64, fa_eq64, Int32.reduceToInt, Int64.reduceToInt, zi_ite] at c_12
                  try simp only [fa_lt, fa_le, fa_eq, fa_lt64, fa_le64, fa_eq64, Int32.reduceToInt, Int64.reduceToInt, zi_ite] at ty_13
                  try simp only [fa_lt, fa_le, fa_eq, fa_lt64, fa_le64, fa_eq64, Int32.reduceToInt, Int64.reduceToInt, zi_ite] at hm
                  try simp only [fa_lt, fa_le, fa_eq, fa_lt64, fa_le64, fa_eq64, Int32.reduceToInt, Int64.reduceToInt, zi_ite] at h0lp
                  try simp only [fa_lt, fa_le, fa_eq, fa_lt64, fa_le64, fa_eq64, Int32.reduceToInt, Int64.reduceToInt, zi_ite] at h1lp
                  try simp only [fa_lt, fa_le, fa_eq, fa_lt64, fa_le64, fa_eq64, Int32.reduceToInt, Int64.reduceToInt, zi_ite] at ty_14
                  rw [ey_15]; exact (zi_add _ _ (by (try simp only [Int32.reduceToInt]) <;> omega) (by (try simp only [Int32.reduceToInt]) <;> omega))
                refine lv_icmp_ge (tgt := 94) hx hb dX12_sheet_77 (by decide) (fun c_16 => ?_) (fun c_16 => ?_)
                · refine lv_iconst (v := 1) hx hb dX12_sheet_94 (by decide) ?_
                  have hpost : ((¬ (0 ≤ p0 ∧ p0 ≤ 3) ∨ ¬ (-1 ≤ p1 ∧ p1 ≤ 2)) ∧ (1 : Int32) = (-2)) ∨ ((0 ≤ p0 ∧ p0 ≤ 3 ∧ p1 = -1) ∧ (1 : Int32) = 1) ∨ ((0 ≤ p0 ∧ p0 ≤ 3 ∧ 0 ≤ p1 ∧ p1 ≤ 2 ∧ 40 < p2) ∧ (1 : Int32) = (-2)) ∨ ((0 ≤ p0 ∧ p0 ≤ 3 ∧ 0 ≤ p1 ∧ p1 ≤ 2 ∧ p2 < 0) ∧ (1 : Int32) = (-14)) ∨ ((0 ≤ p0 ∧ p0 ≤ 3 ∧ 0 ≤ p1 ∧ p1 ≤ 2 ∧ 0 ≤ p2 ∧ p2 ≤ 40) ∧ (1 : Int32) = 1) := by
                    try simp only [fa_lt, fa_le, fa_eq, fa_lt64, fa_le64, fa_eq64, Int32.reduceToInt, Int64.reduceToInt, zi_ite] at b_2
                    try simp only [fa_lt, fa_le, fa_eq, fa_lt64, fa_le64, fa_eq64, Int32.reduceToInt, Int64.reduceToInt, zi_ite] at b_4
                    try simp only [fa_lt, fa_le, fa_eq, fa_lt64, fa_le64, fa_eq64, Int32.reduceToInt, Int64.reduceToInt, zi_ite] at c_5
                    try simp only [fa_lt, fa_le, fa_eq, fa_lt64, fa_le64, fa_eq64, Int32.reduceToInt, Int64.reduceToInt, zi_ite] at c_11
                    try simp only [fa_lt, fa_le, fa_eq, fa_lt64, fa_le64, fa_eq64, Int32.reduceToInt, Int64.reduceToInt, zi_ite] at c_12
                    try simp only [fa_lt, fa_le, fa_eq, fa_lt64, fa_le64, fa_eq64, Int32.reduceToInt, Int64.reduceToInt, zi_ite] at ty_13
                    try simp only [fa_lt, fa_le, fa_eq, fa_lt64, fa_le64, fa_eq64, Int32.reduceToInt, Int64.reduceToInt, zi_ite] at hm
                    try simp only [fa_lt, fa_le, fa_eq, fa_lt64, fa_le64, fa_eq64, Int32.reduceToInt, Int64.reduceToInt, zi_ite] at h0lp
                    try simp only [fa_lt, fa_le, fa_eq, fa_lt64, fa_le64, fa_eq64, Int32.reduceToInt, Int64.reduceToInt, zi_ite] at h1lp
                    try simp only [fa_lt, fa_le, fa_eq, fa_lt64, fa_le64, fa_eq64, Int32.reduceToInt, Int64.reduceToInt, zi_ite] at ty_14
                    try simp only [fa_lt, fa_le, fa_eq, fa_lt64, fa_le64, fa_eq64, Int32.reduceToInt, Int64.reduceToInt, zi_ite] at ty_15
                    try simp only [fa_lt, fa_le, fa_eq, fa_lt64, fa_le64, fa_eq64, Int32.reduceToInt, Int64.reduceToInt, zi_ite] at c_16
                    first
                    | exact Or.inl ⟨by (try simp only [fa_lt, fa_le, fa_eq, fa_lt64, fa_le64, fa_eq64, Int32.reduceToInt, Int64.reduceToInt, zi_ite]); omega, rfl⟩
                    | exact Or.inr (Or.inl ⟨by (try simp only [fa_lt, fa_le, fa_eq, fa_lt64, fa_le64, fa_eq64, Int32.reduceToInt, Int64.reduceToInt, zi_ite]); omega, rfl⟩)
                    | exact Or.inr (Or.inr (Or.inl ⟨by (try simp only [fa_lt, fa_le, fa_eq, fa_lt64, fa_le64, fa_eq64, Int32.reduceToInt, Int64.reduceToInt, zi_ite]); omega, rfl⟩))
                    | exact Or.inr (Or.inr (Or.inr (Or.inl ⟨by (try simp only [fa_lt, fa_le, fa_eq, fa_lt64, fa_le64, fa_eq64, Int32.reduceToInt, Int64.reduceToInt, zi_ite]); omega, rfl⟩)))
                    | exact Or.inr (Or.inr (Or.inr (Or.inr (⟨by (try simp only [fa_lt, fa_le, fa_eq, fa_lt64, fa_le64, fa_eq64, Int32.reduceToInt, Int64.reduceToInt, zi_ite]); omega, rfl⟩))))
                  refine W.widen (k := 0) (n := 0) (by decide +kernel) (by decide +kernel) ?_
                  exact W.iret (v := 1) hx hb hr (fun t ht hW => ⟨⟨1, (), rfl, hpost, trivial⟩, hS.F ht⟩) hS.2.2 dX12_sheet_95
                · refine lv_aload_n hx hb dX12_sheet_80 rfl (lv_at hl 1 rfl) ?_
                  refine va_get (D := (dC, dI)) (ci := 12) (v := .ref (am 77)) (C := RX12) (T := TX12) (N := 79) hx hb hts (by decide +kernel) hown hK hP 0 rfl rfl 77 (by decide) (hts (.fieldLink RX12 164 "RedTentModel" "items" "[I") (by decide +kernel)) (fun _ h9 => h9) rfl dX12_sheet_81 ?_
                  refine lv_iload hx hb dX12_sheet_84 (lv_at hl 0 rfl) ?_
                  refine lv_iconst (v := 0) hx hb dX12_sheet_86 (by decide) ?_
                  refine va_iast hx hb hK hP hD hS 3 2 rfl rfl (vp_in_iff.mpr (by (try simp only [fa_lt, fa_le, fa_eq, fa_lt64, fa_le64, fa_eq64, Int32.reduceToInt, Int64.reduceToInt, zi_ite] at b_2 b_4 c_5 c_11 c_12 ty_13 hm h0lp h1lp ty_14 ty_15 c_16 ⊢) <;> omega)) dX12_sheet_87 (fun H locs hP hD hS => ?_)
                  have hP : va_P (dC, dI) vwCl [(h0, .inr (12, [.int 0, .int 0, .ref (am 2), .ref (am 3), .ref (am 4), .int 0, .ref (am 6), .ref (am 7), .ref (am 8), .int 0, .ref (am 10), .ref (am 11), .ref (am 12), .ref (am 13), .ref (am 14), .ref (am 15), .int 0, .ref (am 17), .ref (am 18), .ref (am 19), .ref (am 20), .int 0, .ref (am 22), .int 0, .ref (am 24), .ref (am 25), .ref (am 26), .ref (am 27), .ref (am 28), .ref (am 29), .int 0, .ref (am 31), .ref (am 32), .ref (am 33), .int 0, .ref (am 35), .int 0, .ref (am 37), .ref (am 38), .ref (am 39), .ref (am 40), .ref (am 41), .ref (am 42), .ref (am 43), .int 0, .ref (am 45), .ref (am 46), .ref (am 47), .int 0, .ref (am 49), .int 0, .ref (am 51), .int 0, .ref (am 53), .ref (am 54), .int 1, .int 0, .ref (am 57), .long 0, .ref (am 59), .ref (am 60), .long 0, .int 0, .int 0, .int 0, .int 0, .int 0, .int 0, .ref (am 68), .int 0, .int 0, .ref (am 71), .ref (am 72), .ref (am 73), .ref (am 74), .ref (am 75), .ref (am 76), .ref (am 77), .ref (am 78)])), (am 75, .inl (cs 75, 4, .inl (upd fs p0.toNatClampNeg p1))), (am 76, .inl (cs 76, 4, .inl (upd gs p0.toNatClampNeg p2))), (am 77, .inl (cs 77, 160, .inl (upd g0 xlp.toNatClampNeg 0)))] H := hP
                  have hD : va_D A [(h0, .inr (12, [.int 0, .int 0, .ref (am 2), .ref (am 3), .ref (am 4), .int 0, .ref (am 6), .ref (am 7), .ref (am 8), .int 0, .ref (am 10), .ref (am 11), .ref (am 12), .ref (am 13), .ref (am 14), .ref (am 15), .int 0, .ref (am 17), .ref (am 18), .ref (am 19), .ref (am 20), .int 0, .ref (am 22), .int 0, .ref (am 24), .ref (am 25), .ref (am 26), .ref (am 27), .ref (am 28), .ref (am 29), .int 0, .ref (am 31), .ref (am 32), .ref (am 33), .int 0, .ref (am 35), .int 0, .ref (am 37), .ref (am 38), .ref (am 39), .ref (am 40), .ref (am 41), .ref (am 42), .ref (am 43), .int 0, .ref (am 45), .ref (am 46), .ref (am 47), .int 0, .ref (am 49), .int 0, .ref (am 51), .int 0, .ref (am 53), .ref (am 54), .int 1, .int 0, .ref (am 57), .long 0, .ref (am 59), .ref (am 60), .long 0, .int 0, .int 0, .int 0, .int 0, .int 0, .int 0, .ref (am 68), .int 0, .int 0, .ref (am 71), .ref (am 72), .ref (am 73), .ref (am 74), .ref (am 75), .ref (am 76), .ref (am 77), .ref (am 78)])), (am 75, .inl (cs 75, 4, .inl (upd fs p0.toNatClampNeg p1))), (am 76, .inl (cs 76, 4, .inl (upd gs p0.toNatClampNeg p2))), (am 77, .inl (cs 77, 160, .inl (upd g0 xlp.toNatClampNeg 0)))] := hD
                  obtain ⟨x_17, ex_17⟩ : ∃ y : Int32, y = xlp + 1 := ⟨_, rfl⟩
                  refine lv_iinc (v := x_17) (lv' := [(4, .int x_17), (0, .ref h0), (1, .int p0), (2, .int p1), (3, .int p2)]) hx hb dX12_sheet_88 hl (k := 0) rfl (by rw [ex_17]; rfl) (by decide) rfl (fun ls hl => ?_)
                  refine lv_goto (tgt := 68) hx hb dX12_sheet_91 (by decide) ?_
                  try simp only [fa_lt, fa_le, fa_eq, fa_lt64, fa_le64, fa_eq64, Int32.reduceToInt, Int64.reduceToInt, zi_ite] at b_2
                  try simp only [fa_lt, fa_le, fa_eq, fa_lt64, fa_le64, fa_eq64, Int32.reduceToInt, Int64.reduceToInt, zi_ite] at b_4
                  try simp only [fa_lt, fa_le, fa_eq, fa_lt64, fa_le64, fa_eq64, Int32.reduceToInt, Int64.reduceToInt, zi_ite] at c_5
                  try simp only [fa_lt, fa_le, fa_eq, fa_lt64, fa_le64, fa_eq64, Int32.reduceToInt, Int64.reduceToInt, zi_ite] at c_11
                  try simp only [fa_lt, fa_le, fa_eq, fa_lt64, fa_le64, fa_eq64, Int32.reduceToInt, Int64.reduceToInt, zi_ite] at c_12
                  try simp only [fa_lt, fa_le, fa_eq, fa_lt64, fa_le64, fa_eq64, Int32.reduceToInt, Int64.reduceToInt, zi_ite] at ty_13
                  try simp only [fa_lt, fa_le, fa_eq, fa_lt64, fa_le64, fa_eq64, Int32.reduceToInt, Int64.reduceToInt, zi_ite] at hm
                  try simp only [fa_lt, fa_le, fa_eq, fa_lt64, fa_le64, fa_eq64, Int32.reduceToInt, Int64.reduceToInt, zi_ite] at h0lp
                  try simp only [fa_lt, fa_le, fa_eq, fa_lt64, fa_le64, fa_eq64, Int32.reduceToInt, Int64.reduceToInt, zi_ite] at h1lp
                  try simp only [fa_lt, fa_le, fa_eq, fa_lt64, fa_le64, fa_eq64, Int32.reduceToInt, Int64.reduceToInt, zi_ite] at ty_14
                  try simp only [fa_lt, fa_le, fa_eq, fa_lt64, fa_le64, fa_eq64, Int32.reduceToInt, Int64.reduceToInt, zi_ite] at ty_15
                  try simp only [fa_lt, fa_le, fa_eq, fa_lt64, fa_le64, fa_eq64, Int32.reduceToInt, Int64.reduceToInt, zi_ite] at c_16
                  have tx_17 : x_17.toInt = xlp.toInt + 1 := by rw [ex_17]; exact zi_inc (by omega)
                  exact ih x_17 (upd g0 xlp.toNatClampNeg 0) (by omega) (by omega) (by omega) _ _ hP hD hS ls (lv_sub hl [0, 1, 2, 3, 4] rfl)
            exact lp _ y_13 hs (Nat.lt_succ_self _) (by (try simp only [fa_lt, fa_le, fa_eq, fa_lt64, fa_le64, fa_eq64, Int32.reduceToInt, Int64.reduceToInt, zi_ite] at b_2 b_4 c_5 c_11 c_12 ty_13 ⊢) <;> omega) (by (try simp only [fa_lt, fa_le, fa_eq, fa_lt64, fa_le64, fa_eq64, Int32.reduceToInt, Int64.reduceToInt, zi_ite] at b_2 b_4 c_5 c_11 c_12 ty_13 ⊢) <;> omega) _ _ hP hD hS ls hl
          · refine lv_bipush (v := (-14)) hx hb dX12_sheet_37 (by decide) ?_
            have hpost : ((¬ (0 ≤ p0 ∧ p0 ≤ 3) ∨ ¬ (-1 ≤ p1 ∧ p1 ≤ 2)) ∧ ((-14) : Int32) = (-2)) ∨ ((0 ≤ p0 ∧ p0 ≤ 3 ∧ p1 = -1) ∧ ((-14) : Int32) = 1) ∨ ((0 ≤ p0 ∧ p0 ≤ 3 ∧ 0 ≤ p1 ∧ p1 ≤ 2 ∧ 40 < p2) ∧ ((-14) : Int32) = (-2)) ∨ ((0 ≤ p0 ∧ p0 ≤ 3 ∧ 0 ≤ p1 ∧ p1 ≤ 2 ∧ p2 < 0) ∧ ((-14) : Int32) = (-14)) ∨ ((0 ≤ p0 ∧ p0 ≤ 3 ∧ 0 ≤ p1 ∧ p1 ≤ 2 ∧ 0 ≤ p2 ∧ p2 ≤ 40) ∧ ((-14) : Int32) = 1) := by
              try simp only [fa_lt, fa_le, fa_eq, fa_lt64, fa_le64, fa_eq64, Int32.reduceToInt, Int64.reduceToInt, zi_ite] at b_2
              try simp only [fa_lt, fa_le, fa_eq, fa_lt64, fa_le64, fa_eq64, Int32.reduceToInt, Int64.reduceToInt, zi_ite] at b_4
              try simp only [fa_lt, fa_le, fa_eq, fa_lt64, fa_le64, fa_eq64, Int32.reduceToInt, Int64.reduceToInt, zi_ite] at c_5
              try simp only [fa_lt, fa_le, fa_eq, fa_lt64, fa_le64, fa_eq64, Int32.reduceToInt, Int64.reduceToInt, zi_ite] at c_11
              try simp only [fa_lt, fa_le, fa_eq, fa_lt64, fa_le64, fa_eq64, Int32.reduceToInt, Int64.reduceToInt, zi_ite] at c_12
              first
              | exact Or.inl ⟨by (try simp only [fa_lt, fa_le, fa_eq, fa_lt64, fa_le64, fa_eq64, Int32.reduceToInt, Int64.reduceToInt, zi_ite]); omega, rfl⟩
              | exact Or.inr (Or.inl ⟨by (try simp only [fa_lt, fa_le, fa_eq, fa_lt64, fa_le64, fa_eq64, Int32.reduceToInt, Int64.reduceToInt, zi_ite]); omega, rfl⟩)
              | exact Or.inr (Or.inr (Or.inl ⟨by (try simp only [fa_lt, fa_le, fa_eq, fa_lt64, fa_le64, fa_eq64, Int32.reduceToInt, Int64.reduceToInt, zi_ite]); omega, rfl⟩))
              | exact Or.inr (Or.inr (Or.inr (Or.inl ⟨by (try simp only [fa_lt, fa_le, fa_eq, fa_lt64, fa_le64, fa_eq64, Int32.reduceToInt, Int64.reduceToInt, zi_ite]); omega, rfl⟩)))
              | exact Or.inr (Or.inr (Or.inr (Or.inr (⟨by (try simp only [fa_lt, fa_le, fa_eq, fa_lt64, fa_le64, fa_eq64, Int32.reduceToInt, Int64.reduceToInt, zi_ite]); omega, rfl⟩))))
            refine W.widen (k := 0) (n := 0) (by decide +kernel) (by decide +kernel) ?_
            exact W.iret (v := (-14)) hx hb hr (fun t ht hW => ⟨⟨(-14), (), rfl, hpost, trivial⟩, hS.F ht⟩) hS.2.2 dX12_sheet_39
        · refine lv_bipush (v := (-2)) hx hb dX12_sheet_26 (by decide) ?_
          have hpost : ((¬ (0 ≤ p0 ∧ p0 ≤ 3) ∨ ¬ (-1 ≤ p1 ∧ p1 ≤ 2)) ∧ ((-2) : Int32) = (-2)) ∨ ((0 ≤ p0 ∧ p0 ≤ 3 ∧ p1 = -1) ∧ ((-2) : Int32) = 1) ∨ ((0 ≤ p0 ∧ p0 ≤ 3 ∧ 0 ≤ p1 ∧ p1 ≤ 2 ∧ 40 < p2) ∧ ((-2) : Int32) = (-2)) ∨ ((0 ≤ p0 ∧ p0 ≤ 3 ∧ 0 ≤ p1 ∧ p1 ≤ 2 ∧ p2 < 0) ∧ ((-2) : Int32) = (-14)) ∨ ((0 ≤ p0 ∧ p0 ≤ 3 ∧ 0 ≤ p1 ∧ p1 ≤ 2 ∧ 0 ≤ p2 ∧ p2 ≤ 40) ∧ ((-2) : Int32) = 1) := by
            try simp only [fa_lt, fa_le, fa_eq, fa_lt64, fa_le64, fa_eq64, Int32.reduceToInt, Int64.reduceToInt, zi_ite] at b_2
            try simp only [fa_lt, fa_le, fa_eq, fa_lt64, fa_le64, fa_eq64, Int32.reduceToInt, Int64.reduceToInt, zi_ite] at b_4
            try simp only [fa_lt, fa_le, fa_eq, fa_lt64, fa_le64, fa_eq64, Int32.reduceToInt, Int64.reduceToInt, zi_ite] at c_5
            try simp only [fa_lt, fa_le, fa_eq, fa_lt64, fa_le64, fa_eq64, Int32.reduceToInt, Int64.reduceToInt, zi_ite] at c_11
            first
            | exact Or.inl ⟨by (try simp only [fa_lt, fa_le, fa_eq, fa_lt64, fa_le64, fa_eq64, Int32.reduceToInt, Int64.reduceToInt, zi_ite]); omega, rfl⟩
            | exact Or.inr (Or.inl ⟨by (try simp only [fa_lt, fa_le, fa_eq, fa_lt64, fa_le64, fa_eq64, Int32.reduceToInt, Int64.reduceToInt, zi_ite]); omega, rfl⟩)
            | exact Or.inr (Or.inr (Or.inl ⟨by (try simp only [fa_lt, fa_le, fa_eq, fa_lt64, fa_le64, fa_eq64, Int32.reduceToInt, Int64.reduceToInt, zi_ite]); omega, rfl⟩))
            | exact Or.inr (Or.inr (Or.inr (Or.inl ⟨by (try simp only [fa_lt, fa_le, fa_eq, fa_lt64, fa_le64, fa_eq64, Int32.reduceToInt, Int64.reduceToInt, zi_ite]); omega, rfl⟩)))
            | exact Or.inr (Or.inr (Or.inr (Or.inr (⟨by (try simp only [fa_lt, fa_le, fa_eq, fa_lt64, fa_le64, fa_eq64, Int32.reduceToInt, Int64.reduceToInt, zi_ite]); omega, rfl⟩))))
          refine W.widen (k := 0) (n := 0) (by decide +kernel) (by decide +kernel) ?_
          exact W.iret (v := (-2)) hx hb hr (fun t ht hW => ⟨⟨(-2), (), rfl, hpost, trivial⟩, hS.F ht⟩) hS.2.2 dX12_sheet_28
    · refine lv_if_eq (tgt := 26) hx hb dX12_sheet_13 (by decide) (fun _ => ?_) (fun c9 => absurd (by decide) c9)
      refine lv_bipush (v := (-2)) hx hb dX12_sheet_26 (by decide) ?_
      have hpost : ((¬ (0 ≤ p0 ∧ p0 ≤ 3) ∨ ¬ (-1 ≤ p1 ∧ p1 ≤ 2)) ∧ ((-2) : Int32) = (-2)) ∨ ((0 ≤ p0 ∧ p0 ≤ 3 ∧ p1 = -1) ∧ ((-2) : Int32) = 1) ∨ ((0 ≤ p0 ∧ p0 ≤ 3 ∧ 0 ≤ p1 ∧ p1 ≤ 2 ∧ 40 < p2) ∧ ((-2) : Int32) = (-2)) ∨ ((0 ≤ p0 ∧ p0 ≤ 3 ∧ 0 ≤ p1 ∧ p1 ≤ 2 ∧ p2 < 0) ∧ ((-2) : Int32) = (-14)) ∨ ((0 ≤ p0 ∧ p0 ≤ 3 ∧ 0 ≤ p1 ∧ p1 ≤ 2 ∧ 0 ≤ p2 ∧ p2 ≤ 40) ∧ ((-2) : Int32) = 1) := by
        try simp only [fa_lt, fa_le, fa_eq, fa_lt64, fa_le64, fa_eq64, Int32.reduceToInt, Int64.reduceToInt, zi_ite] at b_2
        try simp only [fa_lt, fa_le, fa_eq, fa_lt64, fa_le64, fa_eq64, Int32.reduceToInt, Int64.reduceToInt, zi_ite] at b_4
        first
        | exact Or.inl ⟨by (try simp only [fa_lt, fa_le, fa_eq, fa_lt64, fa_le64, fa_eq64, Int32.reduceToInt, Int64.reduceToInt, zi_ite]); omega, rfl⟩
        | exact Or.inr (Or.inl ⟨by (try simp only [fa_lt, fa_le, fa_eq, fa_lt64, fa_le64, fa_eq64, Int32.reduceToInt, Int64.reduceToInt, zi_ite]); omega, rfl⟩)
        | exact Or.inr (Or.inr (Or.inl ⟨by (try simp only [fa_lt, fa_le, fa_eq, fa_lt64, fa_le64, fa_eq64, Int32.reduceToInt, Int64.reduceToInt, zi_ite]); omega, rfl⟩))
        | exact Or.inr (Or.inr (Or.inr (Or.inl ⟨by (try simp only [fa_lt, fa_le, fa_eq, fa_lt64, fa_le64, fa_eq64, Int32.reduceToInt, Int64.reduceToInt, zi_ite]); omega, rfl⟩)))
        | exact Or.inr (Or.inr (Or.inr (Or.inr (⟨by (try simp only [fa_lt, fa_le, fa_eq, fa_lt64, fa_le64, fa_eq64, Int32.reduceToInt, Int64.reduceToInt, zi_ite]); omega, rfl⟩))))
      refine W.widen (k := 0) (n := 0) (by decide +kernel) (by decide +kernel) ?_
      exact W.iret (v := (-2)) hx hb hr (fun t ht hW => ⟨⟨(-2), (), rfl, hpost, trivial⟩, hS.F ht⟩) hS.2.2 dX12_sheet_28
  · refine lv_if_eq (tgt := 26) hx hb dX12_sheet_4 (by decide) (fun _ => ?_) (fun c9 => absurd (by decide) c9)
    refine lv_bipush (v := (-2)) hx hb dX12_sheet_26 (by decide) ?_
    have hpost : ((¬ (0 ≤ p0 ∧ p0 ≤ 3) ∨ ¬ (-1 ≤ p1 ∧ p1 ≤ 2)) ∧ ((-2) : Int32) = (-2)) ∨ ((0 ≤ p0 ∧ p0 ≤ 3 ∧ p1 = -1) ∧ ((-2) : Int32) = 1) ∨ ((0 ≤ p0 ∧ p0 ≤ 3 ∧ 0 ≤ p1 ∧ p1 ≤ 2 ∧ 40 < p2) ∧ ((-2) : Int32) = (-2)) ∨ ((0 ≤ p0 ∧ p0 ≤ 3 ∧ 0 ≤ p1 ∧ p1 ≤ 2 ∧ p2 < 0) ∧ ((-2) : Int32) = (-14)) ∨ ((0 ≤ p0 ∧ p0 ≤ 3 ∧ 0 ≤ p1 ∧ p1 ≤ 2 ∧ 0 ≤ p2 ∧ p2 ≤ 40) ∧ ((-2) : Int32) = 1) := by
      try simp only [fa_lt, fa_le, fa_eq, fa_lt64, fa_le64, fa_eq64, Int32.reduceToInt, Int64.reduceToInt, zi_ite] at b_2
      first
      | exact Or.inl ⟨by (try simp only [fa_lt, fa_le, fa_eq, fa_lt64, fa_le64, fa_eq64, Int32.reduceToInt, Int64.reduceToInt, zi_ite]); omega, rfl⟩
      | exact Or.inr (Or.inl ⟨by (try simp only [fa_lt, fa_le, fa_eq, fa_lt64, fa_le64, fa_eq64, Int32.reduceToInt, Int64.reduceToInt, zi_ite]); omega, rfl⟩)
      | exact Or.inr (Or.inr (Or.inl ⟨by (try simp only [fa_lt, fa_le, fa_eq, fa_lt64, fa_le64, fa_eq64, Int32.reduceToInt, Int64.reduceToInt, zi_ite]); omega, rfl⟩))
      | exact Or.inr (Or.inr (Or.inr (Or.inl ⟨by (try simp only [fa_lt, fa_le, fa_eq, fa_lt64, fa_le64, fa_eq64, Int32.reduceToInt, Int64.reduceToInt, zi_ite]); omega, rfl⟩)))
      | exact Or.inr (Or.inr (Or.inr (Or.inr (⟨by (try simp only [fa_lt, fa_le, fa_eq, fa_lt64, fa_le64, fa_eq64, Int32.reduceToInt, Int64.reduceToInt, zi_ite]); omega, rfl⟩))))
    refine W.widen (k := 0) (n := 0) (by decide +kernel) (by decide +kernel) ?_
    exact W.iret (v := (-2)) hx hb hr (fun t ht hW => ⟨⟨(-2), (), rfl, hpost, trivial⟩, hS.F ht⟩) hS.2.2 dX12_sheet_28
set_option maxHeartbeats 1000000 in
set_option maxRecDepth 100000 in
theorem rt_X12_row (l : Launch) (dC : Nat → ClassId) (dI : Nat → Nat → Nat) (sz : Nat) (h0 : Nat) (am : Nat → Nat) (cs : Nat → ClassId) (fs : Nat → Int32) (p0 : Int64) : Met l yX12_row wsX12_row ({ frames := 0, cells := 0, slots := 0, locals := 0 }) (va_Pc [.ref h0, .long p0] (fun U => U.heap.size = sz ∧ va_P (dC, dI) vwCl [(h0, .inr (12, [.int 0, .int 0, .ref (am 2), .ref (am 3), .ref (am 4), .int 0, .ref (am 6), .ref (am 7), .ref (am 8), .int 0, .ref (am 10), .ref (am 11), .ref (am 12), .ref (am 13), .ref (am 14), .ref (am 15), .int 0, .ref (am 17), .ref (am 18), .ref (am 19), .ref (am 20), .int 0, .ref (am 22), .int 0, .ref (am 24), .ref (am 25), .ref (am 26), .ref (am 27), .ref (am 28), .ref (am 29), .int 0, .ref (am 31), .ref (am 32), .ref (am 33), .int 0, .ref (am 35), .int 0, .ref (am 37), .ref (am 38), .ref (am 39), .ref (am 40), .ref (am 41), .ref (am 42), .ref (am 43), .int 0, .ref (am 45), .ref (am 46), .ref (am 47), .int 0, .ref (am 49), .int 0, .ref (am 51), .int 0, .ref (am 53), .ref (am 54), .int 1, .int 0, .ref (am 57), .long 0, .ref (am 59), .ref (am 60), .long 0, .int 0, .int 0, .int 0, .int 0, .int 0, .int 0, .ref (am 68), .int 0, .int 0, .ref (am 71), .ref (am 72), .ref (am 73), .ref (am 74), .ref (am 75), .ref (am 76), .ref (am 77), .ref (am 78)])), (am 49, .inl (cs 49, 60, .inl fs))] U.heap ∧ va_K (dC, dI) vwCl [(cs 49, .int)] U ∧ va_D (fun _ => True) [(h0, .inr (12, [.int 0, .int 0, .ref (am 2), .ref (am 3), .ref (am 4), .int 0, .ref (am 6), .ref (am 7), .ref (am 8), .int 0, .ref (am 10), .ref (am 11), .ref (am 12), .ref (am 13), .ref (am 14), .ref (am 15), .int 0, .ref (am 17), .ref (am 18), .ref (am 19), .ref (am 20), .int 0, .ref (am 22), .int 0, .ref (am 24), .ref (am 25), .ref (am 26), .ref (am 27), .ref (am 28), .ref (am 29), .int 0, .ref (am 31), .ref (am 32), .ref (am 33), .int 0, .ref (am 35), .int 0, .ref (am 37), .ref (am 38), .ref (am 39), .ref (am 40), .ref (am 41), .ref (am 42), .ref (am 43), .int 0, .ref (am 45), .ref (am 46), .ref (am 47), .int 0, .ref (am 49), .int 0, .ref (am 51), .int 0, .ref (am 53), .ref (am 54), .int 1, .int 0, .ref (am 57), .long 0, .ref (am 59), .ref (am 60), .long 0, .int 0, .int 0, .int 0, .int 0, .int 0, .int 0, .ref (am 68), .int 0, .int 0, .ref (am 71), .ref (am 72), .ref (am 73), .ref (am 74), .ref (am 75), .ref (am 76), .ref (am 77), .ref (am 78)])), (am 49, .inl (cs 49, 60, .inl fs))])) (va_Qi (fun (r : Int32) (u : Unit) => match u with | () => ((0 ≤ p0 ∧ p0 ≤ 999999999999999) ∧ r = 0) ∨ ((¬ (0 ≤ p0 ∧ p0 ≤ 999999999999999)) ∧ r = (-2))) (fun (u : Unit) (t : State) => match u with | () => True) (va_A [(h0, .inr (12, [.int 0, .int 0, .ref (am 2), .ref (am 3), .ref (am 4), .int 0, .ref (am 6), .ref (am 7), .ref (am 8), .int 0, .ref (am 10), .ref (am 11), .ref (am 12), .ref (am 13), .ref (am 14), .ref (am 15), .int 0, .ref (am 17), .ref (am 18), .ref (am 19), .ref (am 20), .int 0, .ref (am 22), .int 0, .ref (am 24), .ref (am 25), .ref (am 26), .ref (am 27), .ref (am 28), .ref (am 29), .int 0, .ref (am 31), .ref (am 32), .ref (am 33), .int 0, .ref (am 35), .int 0, .ref (am 37), .ref (am 38), .ref (am 39), .ref (am 40), .ref (am 41), .ref (am 42), .ref (am 43), .int 0, .ref (am 45), .ref (am 46), .ref (am 47), .int 0, .ref (am 49), .int 0, .ref (am 51), .int 0, .ref (am 53), .ref (am 54), .int 1, .int 0, .ref (am 57), .long 0, .ref (am 59), .ref (am 60), .long 0, .int 0, .int 0, .int 0, .int 0, .int 0, .int 0, .ref (am 68), .int 0, .int 0, .ref (am 71), .ref (am 72), .ref (am 73), .ref (am 74), .ref (am 75), .ref (am 76), .ref (am 77), .ref (am 78)])), (am 49, .inl (cs 49, 60, .inl fs))] sz)) 0 0 (va_A [(h0, .inr (12, [.int 0, .int 0, .ref (am 2), .ref (am 3), .ref (am 4), .int 0, .ref (am 6), .ref (am 7), .ref (am 8), .int 0, .ref (am 10), .ref (am 11), .ref (am 12), .ref (am 13), .ref (am 14), .ref (am 15), .int 0, .ref (am 17), .ref (am 18), .ref (am 19), .ref (am 20), .int 0, .ref (am 22), .int 0, .ref (am 24), .ref (am 25), .ref (am 26), .ref (am 27), .ref (am 28), .ref (am 29), .int 0, .ref (am 31), .ref (am 32), .ref (am 33), .int 0, .ref (am 35), .int 0, .ref (am 37), .ref (am 38), .ref (am 39), .ref (am 40), .ref (am 41), .ref (am 42), .ref (am 43), .int 0, .ref (am 45), .ref (am 46), .ref (am 47), .int 0, .ref (am 49), .int 0, .ref (am 51), .int 0, .ref (am 53), .ref (am 54), .int 1, .int 0, .ref (am 57), .long 0, .ref (am 59), .ref (am 60), .long 0, .int 0, .int 0, .int 0, .int 0, .int 0, .int 0, .ref (am 68), .int 0, .int 0, .ref (am 71), .ref (am 72), .ref (am 73), .ref (am 74), .ref (am 75), .ref (am 76), .ref (am 77), .ref (am 78)])), (am 49, .inl (cs 49, 60, .inl fs))] sz) := by
  refine Met.ofW (cc := cX12_row) (maxL := 6) (ret := (some .int)) (by decide) rfl ?_
  intro p e s m args below meth c s₁ B hml hv
  obtain ⟨rfl, hsz, hP, hK, hD0⟩ := hv
  have hx := B.exec
  have hb := B.bytes
  have hr := B.returns
  have hts := atoms_spec (ws := wsX12_row) B.pre
  have hown : s.vm.findClass RX12 = some m.cls := findClass_of_methodNamed B.named
  have hlocks := B.notSynchronized
  subst hsz
  have hD := hD0.self (sz := s.heap.size)
  generalize hAe : va_A [(h0, .inr (12, [.int 0, .int 0, .ref (am 2), .ref (am 3), .ref (am 4), .int 0, .ref (am 6), .ref (am 7), .ref (am 8), .int 0, .ref (am 10), .ref (am 11), .ref (am 12), .ref (am 13), .ref (am 14), .ref (am 15), .int 0, .ref (am 17), .ref (am 18), .ref (am 19), .ref (am 20), .int 0, .ref (am 22), .int 0, .ref (am 24), .ref (am 25), .ref (am 26), .ref (am 27), .ref (am 28), .ref (am 29), .int 0, .ref (am 31), .ref (am 32), .ref (am 33), .int 0, .ref (am 35), .int 0, .ref (am 37), .ref (am 38), .ref (am 39), .ref (am 40), .ref (am 41), .ref (am 42), .ref (am 43), .int 0, .ref (am 45), .ref (am 46), .ref (am 47), .int 0, .ref (am 49), .int 0, .ref (am 51), .int 0, .ref (am 53), .ref (am 54), .int 1, .int 0, .ref (am 57), .long 0, .ref (am 59), .ref (am 60), .long 0, .int 0, .int 0, .int 0, .int 0, .int 0, .int 0, .ref (am 68), .int 0, .int 0, .ref (am 71), .ref (am 72), .ref (am 73), .ref (am 74), .ref (am 75), .ref (am 76), .ref (am 77), .ref (am 78)])), (am 49, .inl (cs 49, 60, .inl fs))] s.heap.size = A at hD  ⊢
  have hA : ∀ q : Nat, s.heap.size ≤ q → A q := fun q h => by rw [← hAe]; exact Or.inr h
  have hS : va_S A s.heap s.heap [] := va_S.rf
  have hl := lv_entry ([.ref h0, .long p0]) (n := 6) (Nat.le_of_ble_eq_true rfl)
  rw [lg_entry_eq]
  generalize (lg_sl ([.ref h0, .long p0]) ++ List.replicate (6 - (lg_sl ([.ref h0, .long p0])).length) Slot.unset).toArray = ls at hl ⊢
  have hl : lv_has ls 6 [(0, .ref h0), (1, .long p0)] := hl
  refine lv_lload_n hx hb dX12_row_0 rfl (lv_at hl 1 rfl) ?_
  refine lv_lconst (v := 0) hx hb dX12_row_1 (by decide) ?_
  refine W.lcmp hx hb dX12_row_2 ?_
  refine lv_if_lt (tgt := 14) hx hb dX12_row_3 (by decide) (fun c_1 => ?_) (fun c_1 => ?_)
  · refine lv_bipush (v := (-2)) hx hb dX12_row_14 (by decide) ?_
    have hpost : ((0 ≤ p0 ∧ p0 ≤ 999999999999999) ∧ ((-2) : Int32) = 0) ∨ ((¬ (0 ≤ p0 ∧ p0 ≤ 999999999999999)) ∧ ((-2) : Int32) = (-2)) := by
      try simp only [lg_cmp_ge, lg_cmp_le, lg_cmp_gt, lg_cmp_lt, lg_cmp_eq] at c_1
      try simp only [fa_lt, fa_le, fa_eq, fa_lt64, fa_le64, fa_eq64, Int32.reduceToInt, Int64.reduceToInt, zi_ite] at c_1
      first
      | exact Or.inl ⟨by (try simp only [fa_lt, fa_le, fa_eq, fa_lt64, fa_le64, fa_eq64, Int32.reduceToInt, Int64.reduceToInt, zi_ite]); omega, rfl⟩
      | exact Or.inr (⟨by (try simp only [fa_lt, fa_le, fa_eq, fa_lt64, fa_le64, fa_eq64, Int32.reduceToInt, Int64.reduceToInt, zi_ite]); omega, rfl⟩)
    refine W.widen (k := 0) (n := 0) (by decide +kernel) (by decide +kernel) ?_
    exact W.iret (v := (-2)) hx hb hr (fun t ht hW => ⟨⟨(-2), (), rfl, hpost, trivial⟩, hS.F ht⟩) hS.2.2 dX12_row_16
  · refine lv_lload_n hx hb dX12_row_6 rfl (lv_at hl 1 rfl) ?_
    refine lv_ldc2 (v := 999999999999999) hx hb hown (hts (.constantLong RX12 446 (999999999999999)) (by decide +kernel)) dX12_row_7 ?_
    refine W.lcmp hx hb dX12_row_10 ?_
    refine lv_if_le (tgt := 17) hx hb dX12_row_11 (by decide) (fun c_2 => ?_) (fun c_2 => ?_)
    · refine lv_aload_n hx hb dX12_row_17 rfl (lv_at hl 0 rfl) ?_
      refine va_get (D := (dC, dI)) (ci := 12) (v := .int 0) (C := RX12) (T := TX12) (N := 79) hx hb hts (by decide +kernel) hown hK hP 0 rfl rfl 50 (by decide) (hts (.fieldLink RX12 448 "RedTentModel" "rows" "I") (by decide +kernel)) (fun _ h9 => h9) rfl dX12_row_18 ?_
      refine lv_iconst (v := 4) hx hb dX12_row_21 (by decide) ?_
      refine lv_icmp_ne (tgt := 28) hx hb dX12_row_22 (by decide) (fun _ => ?_) (fun c9 => absurd c9 (by decide))
      refine lv_lload_n hx hb dX12_row_28 rfl (lv_at hl 1 rfl) ?_
      refine lv_lstore_n (lv' := [(3, .long p0), (0, .ref h0), (1, .long p0)]) hx hb dX12_row_29 rfl hl (by decide) rfl (fun ls hl => ?_)
      refine lv_iconst (v := 0) hx hb dX12_row_30 (by decide) ?_
      refine lv_istore (lv' := [(5, .int 0), (3, .long p0), (0, .ref h0), (1, .long p0)]) hx hb dX12_row_31 hl (by decide) rfl (fun ls hl => ?_)
      have lp : ∀ (n : Nat) (xlp : Int32) (g0 : Nat → Int32) (v0 : Int64), (15 - xlp.toInt).toNat < n → 0 ≤ xlp.toInt → xlp.toInt ≤ 15 → ∀ (H : Heap) (locs : List Loc), va_P (dC, dI) vwCl [(h0, .inr (12, [.int 0, .int 0, .ref (am 2), .ref (am 3), .ref (am 4), .int 0, .ref (am 6), .ref (am 7), .ref (am 8), .int 0, .ref (am 10), .ref (am 11), .ref (am 12), .ref (am 13), .ref (am 14), .ref (am 15), .int 0, .ref (am 17), .ref (am 18), .ref (am 19), .ref (am 20), .int 0, .ref (am 22), .int 0, .ref (am 24), .ref (am 25), .ref (am 26), .ref (am 27), .ref (am 28), .ref (am 29), .int 0, .ref (am 31), .ref (am 32), .ref (am 33), .int 0, .ref (am 35), .int 0, .ref (am 37), .ref (am 38), .ref (am 39), .ref (am 40), .ref (am 41), .ref (am 42), .ref (am 43), .int 0, .ref (am 45), .ref (am 46), .ref (am 47), .int 0, .ref (am 49), .int 0, .ref (am 51), .int 0, .ref (am 53), .ref (am 54), .int 1, .int 0, .ref (am 57), .long 0, .ref (am 59), .ref (am 60), .long 0, .int 0, .int 0, .int 0, .int 0, .int 0, .int 0, .ref (am 68), .int 0, .int 0, .ref (am 71), .ref (am 72), .ref (am 73), .ref (am 74), .ref (am 75), .ref (am 76), .ref (am 77), .ref (am 78)])), (am 49, .inl (cs 49, 60, .inl g0))] H → va_D A [(h0, .inr (12, [.int 0, .int 0, .ref (am 2), .ref (am 3), .ref (am 4), .int 0, .ref (am 6), .ref (am 7), .ref (am 8), .int 0, .ref (am 10), .ref (am 11), .ref (am 12), .ref (am 13), .ref (am 14), .ref (am 15), .int 0, .ref (am 17), .ref (am 18), .ref (am 19), .ref (am 20), .int 0, .ref (am 22), .int 0, .ref (am 24), .ref (am 25), .ref (am 26), .ref (am 27), .ref (am 28), .ref (am 29), .int 0, .ref (am 31), .ref (am 32), .ref (am 33), .int 0, .ref (am 35), .int 0, .ref (am 37), .ref (am 38), .ref (am 39), .ref (am 40), .ref (am 41), .ref (am 42), .ref (am 43), .int 0, .ref (am 45), .ref (am 46), .ref (am 47), .int 0, .ref (am 49), .int 0, .ref (am 51), .int 0, .ref (am 53), .ref (am 54), .int 1, .int 0, .ref (am 57), .long 0, .ref (am 59), .ref (am 60), .long 0, .int 0, .int 0, .int 0, .int 0, .int 0, .int 0, .ref (am 68), .int 0, .int 0, .ref (am 71), .ref (am 72), .ref (am 73), .ref (am 74), .ref (am 75), .ref (am 76), .ref (am 77), .ref (am 78)])), (am 49, .inl (cs 49, 60, .inl g0))] → va_S A s.heap H locs → ∀ (ls : Array Slot), lv_has ls 6 [(5, .int xlp), (3, .long v0), (0, .ref h0), (1, .long p0)] → W p l e (headSpec wsX12_row ({ frames := 0, cells := 0, slots := 0, locals := 0 })).room s m ([.ref h0, .long p0] : List Value).toArray below meth c H locs 0 0 (MQ below (va_Qi (fun (r : Int32) (u : Unit) => match u with | () => ((0 ≤ p0 ∧ p0 ≤ 999999999999999) ∧ r = 0) ∨ ((¬ (0 ≤ p0 ∧ p0 ≤ 999999999999999)) ∧ r = (-2))) (fun (u : Unit) (t : State) => match u with | () => True) A) ([.ref h0, .long p0] : List Value).toArray s 0 0 A) (F0 m 33 ls []) := by
        intro n
        induction n with
        | zero => intro xlp g0 v0 hm; exact absurd hm (Nat.not_lt_zero _)
        | succ n ih =>
          intro xlp g0 v0 hm h0lp h1lp H locs hP hD hS ls hl
          refine lv_iload hx hb dX12_row_33 (lv_at hl 0 rfl) ?_
          refine lv_bipush (v := 15) hx hb dX12_row_35 (by decide) ?_
          refine lv_icmp_ge (tgt := 73) hx hb dX12_row_37 (by decide) (fun c_3 => ?_) (fun c_3 => ?_)
          · refine lv_aload_n hx hb dX12_row_73 rfl (lv_at hl 2 rfl) ?_
            refine lv_dup hx hb dX12_row_74 rfl ?_
            refine va_get (D := (dC, dI)) (ci := 12) (v := .int 0) (C := RX12) (T := TX12) (N := 79) hx hb hts (by decide +kernel) hown hK hP 0 rfl rfl 50 (by decide) (hts (.fieldLink RX12 448 "RedTentModel" "rows" "I") (by decide +kernel)) (fun _ h9 => h9) rfl dX12_row_75 ?_
            refine lv_iconst (v := 1) hx hb dX12_row_78 (by decide) ?_
            refine lv_iadd hx hb dX12_row_79 ?_
            refine lv_topi (fun y_4 ey_4 => ?_)
            obtain rfl : y_4 = 1 := ey_4.trans (by decide)
            refine va_put (D := (dC, dI)) (ci := 12) (v := .int 1) (ty := .int) (C := RX12) (T := TX12) (N := 79) hx hb hts (by decide +kernel) tyX12 tyX12_ok nmX12 hown hK hP hD hS 0 rfl rfl 50 (by decide) (hts (.fieldLink RX12 448 "RedTentModel" "rows" "I") (by decide +kernel)) (fun _ h9 => h9) rfl (by decide +kernel) rfl rfl (Nat.le_of_ble_eq_true rfl) dX12_row_80 (fun H locs hP hD hS => ?_)
            have hP : va_P (dC, dI) vwCl [(h0, .inr (12, [.int 0, .int 0, .ref (am 2), .ref (am 3), .ref (am 4), .int 0, .ref (am 6), .ref (am 7), .ref (am 8), .int 0, .ref (am 10), .ref (am 11), .ref (am 12), .ref (am 13), .ref (am 14), .ref (am 15), .int 0, .ref (am 17), .ref (am 18), .ref (am 19), .ref (am 20), .int 0, .ref (am 22), .int 0, .ref (am 24), .ref (am 25), .ref (am 26), .ref (am 27), .ref (am 28), .ref (am 29), .int 0, .ref (am 31), .ref (am 32), .ref (am 33), .int 0, .ref (am 35), .int 0, .ref (am 37), .ref (am 38), .ref (am 39), .ref (am 40), .ref (am 41), .ref (am 42), .ref (am 43), .int 0, .ref (am 45), .ref (am 46), .ref (am 47), .int 0, .ref (am 49), .int 1, .ref (am 51), .int 0, .ref (am 53), .ref (am 54), .int 1, .int 0, .ref (am 57), .long 0, .ref (am 59), .ref (am 60), .long 0, .int 0, .int 0, .int 0, .int 0, .int 0, .int 0, .ref (am 68), .int 0, .int 0, .ref (am 71), .ref (am 72), .ref (am 73), .ref (am 74), .ref (am 75), .ref (am 76), .ref (am 77), .ref (am 78)])), (am 49, .inl (cs 49, 60, .inl g0))] H := hP
            have hD : va_D A [(h0, .inr (12, [.int 0, .int 0, .ref (am 2), .ref (am 3), .ref (am 4), .int 0, .ref (am 6), .ref (am 7), .ref (am 8), .int 0, .ref (am 10), .ref (am 11), .ref (am 12), .ref (am 13), .ref (am 14), .ref (am 15), .int 0, .ref (am 17), .ref (am 18), .ref (am 19), .ref (am 20), .int 0, .ref (am 22), .int 0, .ref (am 24), .ref (am 25), .ref (am 26), .ref (am 27), .ref (am 28), .ref (am 29), .int 0, .ref (am 31), .ref (am 32), .ref (am 33), .int 0, .ref (am 35), .int 0, .ref (am 37), .ref (am 38), .ref (am 39), .ref (am 40), .ref (am 41), .ref (am 42), .ref (am 43), .int 0, .ref (am 45), .ref (am 46), .ref (am 47), .int 0, .ref (am 49), .int 1, .ref (am 51), .int 0, .ref (am 53), .ref (am 54), .int 1, .int 0, .ref (am 57), .long 0, .ref (am 59), .ref (am 60), .long 0, .int 0, .int 0, .int 0, .int 0, .int 0, .int 0, .ref (am 68), .int 0, .int 0, .ref (am 71), .ref (am 72), .ref (am 73), .ref (am 74), .ref (am 75), .ref (am 76), .ref (am 77), .ref (am 78)])), (am 49, .inl (cs 49, 60, .inl g0))] := hD
            refine lv_aload_n hx hb dX12_row_83 rfl (lv_at hl 2 rfl) ?_
            refine va_get (D := (dC, dI)) (ci := 12) (v := .int 1) (C := RX12) (T := TX12) (N := 79) hx hb hts (by decide +kernel) hown hK hP 0 rfl rfl 50 (by decide) (hts (.fieldLink RX12 448 "RedTentModel" "rows" "I") (by decide +kernel)) (fun _ h9 => h9) rfl dX12_row_84 ?_
            refine lv_iconst (v := 1) hx hb dX12_row_87 (by decide) ?_
            refine lv_isub hx hb dX12_row_88 ?_
            refine lv_topi (fun y_5 ey_5 => ?_)
            obtain rfl : y_5 = 0 := ey_5.trans (by decide)
            have hpost : ((0 ≤ p0 ∧ p0 ≤ 999999999999999) ∧ (0 : Int32) = 0) ∨ ((¬ (0 ≤ p0 ∧ p0 ≤ 999999999999999)) ∧ (0 : Int32) = (-2)) := by
              try simp only [lg_cmp_ge, lg_cmp_le, lg_cmp_gt, lg_cmp_lt, lg_cmp_eq] at c_1
              try simp only [fa_lt, fa_le, fa_eq, fa_lt64, fa_le64, fa_eq64, Int32.reduceToInt, Int64.reduceToInt, zi_ite] at c_1
              try simp only [lg_cmp_ge, lg_cmp_le, lg_cmp_gt, lg_cmp_lt, lg_cmp_eq] at c_2
              try simp only [fa_lt, fa_le, fa_eq, fa_lt64, fa_le64, fa_eq64, Int32.reduceToInt, Int64.reduceToInt, zi_ite] at c_2
              try simp only [lg_cmp_ge, lg_cmp_le, lg_cmp_gt, lg_cmp_lt, lg_cmp_eq] at hm
              try simp only [fa_lt, fa_le, fa_eq, fa_lt64, fa_le64, fa_eq64, Int32.reduceToInt, Int64.reduceToInt, zi_ite] at hm
              try simp only [lg_cmp_ge, lg_cmp_le, lg_cmp_gt, lg_cmp_lt, lg_cmp_eq] at h0lp
              try simp only [fa_lt, fa_le, fa_eq, fa_lt64, fa_le64, fa_eq64, Int32.reduceToInt, Int64.reduceToInt, zi_ite] at h0lp
              try simp only [lg_cmp_ge, lg_cmp_le, lg_cmp_gt, lg_cmp_lt, lg_cmp_eq] at h1lp
              try simp only [fa_lt, fa_le, fa_eq, fa_lt64, fa_le64, fa_eq64, Int32.reduceToInt, Int64.reduceToInt, zi_ite] at h1lp
              try simp only [lg_cmp_ge, lg_cmp_le, lg_cmp_gt, lg_cmp_lt, lg_cmp_eq] at c_3
              try simp only [fa_lt, fa_le, fa_eq, fa_lt64, fa_le64, fa_eq64, Int32.reduceToInt, Int64.reduceToInt, zi_ite] at c_3
              first
              | exact Or.inl ⟨by (try simp only [fa_lt, fa_le, fa_eq, fa_lt64, fa_le64, fa_eq64, Int32.reduceToInt, Int64.reduceToInt, zi_ite]); omega, rfl⟩
              | exact Or.inr (⟨by (try simp only [fa_lt, fa_le, fa_eq, fa_lt64, fa_le64, fa_eq64, Int32.reduceToInt, Int64.reduceToInt, zi_ite]); omega, rfl⟩)
            refine W.widen (k := 0) (n := 0) (by decide +kernel) (by decide +kernel) ?_
            exact W.iret (v := 0) hx hb hr (fun t ht hW => ⟨⟨0, (), rfl, hpost, trivial⟩, hS.F ht⟩) hS.2.2 dX12_row_89
          · refine lv_aload_n hx hb dX12_row_40 rfl (lv_at hl 2 rfl) ?_
            refine va_get (D := (dC, dI)) (ci := 12) (v := .ref (am 49)) (C := RX12) (T := TX12) (N := 79) hx hb hts (by decide +kernel) hown hK hP 0 rfl rfl 49 (by decide) (hts (.fieldLink RX12 122 "RedTentModel" "ice" "[I") (by decide +kernel)) (fun _ h9 => h9) rfl dX12_row_41 ?_
            refine lv_bipush (v := 15) hx hb dX12_row_44 (by decide) ?_
            refine lv_aload_n hx hb dX12_row_46 rfl (lv_at hl 2 rfl) ?_
            refine va_get (D := (dC, dI)) (ci := 12) (v := .int 0) (C := RX12) (T := TX12) (N := 79) hx hb hts (by decide +kernel) hown hK hP 0 rfl rfl 50 (by decide) (hts (.fieldLink RX12 448 "RedTentModel" "rows" "I") (by decide +kernel)) (fun _ h9 => h9) rfl dX12_row_47 ?_
            refine lv_imul hx hb dX12_row_50 ?_
            refine lv_topi (fun y_6 ey_6 => ?_)
            obtain rfl : y_6 = 0 := ey_6.trans (by decide)
            refine lv_iload hx hb dX12_row_51 (lv_at hl 0 rfl) ?_
            refine lv_iadd hx hb dX12_row_53 ?_
            refine lv_topi (fun y_7 ey_7 => ?_)
            rw [ey_7.trans (Int32.zero_add xlp)]
            refine lv_lload_n hx hb dX12_row_54 rfl (lv_at hl 1 rfl) ?_
            refine lv_ldc2 (v := 10) hx hb hown (hts (.constantLong RX12 451 (10)) (by decide +kernel)) dX12_row_55 ?_
            refine lv_lrem hx hb dX12_row_58 (by decide) ?_
            refine lv_l2i (v := (v0 - v0 / 10 * 10).toInt32) hx hb dX12_row_59 rfl ?_
            refine va_iast hx hb hK hP hD hS 1 0 rfl rfl (vp_in_iff.mpr (by (try simp only [fa_lt, fa_le, fa_eq, fa_lt64, fa_le64, fa_eq64, Int32.reduceToInt, Int64.reduceToInt, zi_ite] at c_1 c_2 hm h0lp h1lp c_3 ⊢) <;> omega)) dX12_row_60 (fun H locs hP hD hS => ?_)
            have hP : va_P (dC, dI) vwCl [(h0, .inr (12, [.int 0, .int 0, .ref (am 2), .ref (am 3), .ref (am 4), .int 0, .ref (am 6), .ref (am 7), .ref (am 8), .int 0, .ref (am 10), .ref (am 11), .ref (am 12), .ref (am 13), .ref (am 14), .ref (am 15), .int 0, .ref (am 17), .ref (am 18), .ref (am 19), .ref (am 20), .int 0, .ref (am 22), .int 0, .ref (am 24), .ref (am 25), .ref (am 26), .ref (am 27), .ref (am 28), .ref (am 29), .int 0, .ref (am 31), .ref (am 32), .ref (am 33), .int 0, .ref (am 35), .int 0, .ref (am 37), .ref (am 38), .ref (am 39), .ref (am 40), .ref (am 41), .ref (am 42), .ref (am 43), .int 0, .ref (am 45), .ref (am 46), .ref (am 47), .int 0, .ref (am 49), .int 0, .ref (am 51), .int 0, .ref (am 53), .ref (am 54), .int 1, .int 0, .ref (am 57), .long 0, .ref (am 59), .ref (am 60), .long 0, .int 0, .int 0, .int 0, .int 0, .int 0, .int 0, .ref (am 68), .int 0, .int 0, .ref (am 71), .ref (am 72), .ref (am 73), .ref (am 74), .ref (am 75), .ref (am 76), .ref (am 77), .ref (am 78)])), (am 49, .inl (cs 49, 60, .inl (upd g0 xlp.toNatClampNeg ((v0 - v0 / 10 * 10).toInt32))))] H := hP
            have hD : va_D A [(h0, .inr (12, [.int 0, .int 0, .ref (am 2), .ref (am 3), .ref (am 4), .int 0, .ref (am 6), .ref (am 7), .ref (am 8), .int 0, .ref (am 10), .ref (am 11), .ref (am 12), .ref (am 13), .ref (am 14), .ref (am 15), .int 0, .ref (am 17), .ref (am 18), .ref (am 19), .ref (am 20), .int 0, .ref (am 22), .int 0, .ref (am 24), .ref (am 25), .ref (am 26), .ref (am 27), .ref (am 28), .ref (am 29), .int 0, .ref (am 31), .ref (am 32), .ref (am 33), .int 0, .ref (am 35), .int 0, .ref (am 37), .ref (am 38), .ref (am 39), .ref (am 40), .ref (am 41), .ref (am 42), .ref (am 43), .int 0, .ref (am 45), .ref (am 46), .ref (am 47), .int 0, .ref (am 49), .int 0, .ref (am 51), .int 0, .ref (am 53), .ref (am 54), .int 1, .int 0, .ref (am 57), .long 0, .ref (am 59), .ref (am 60), .long 0, .int 0, .int 0, .int 0, .int 0, .int 0, .int 0, .ref (am 68), .int 0, .int 0, .ref (am 71), .ref (am 72), .ref (am 73), .ref (am 74), .ref (am 75), .ref (am 76), .ref (am 77), .ref (am 78)])), (am 49, .inl (cs 49, 60, .inl (upd g0 xlp.toNatClampNeg ((v0 - v0 / 10 * 10).toInt32))))] := hD
            refine lv_lload_n hx hb dX12_row_61 rfl (lv_at hl 1 rfl) ?_
            refine lv_ldc2 (v := 10) hx hb hown (hts (.constantLong RX12 451 (10)) (by decide +kernel)) dX12_row_62 ?_
            refine lv_ldiv hx hb dX12_row_65 (by decide) ?_
            refine lv_topl (fun x_8 ex_8 => ?_)
            refine lv_lstore_n (lv' := [(3, .long x_8), (5, .int xlp), (0, .ref h0), (1, .long p0)]) hx hb dX12_row_66 rfl hl (by decide) rfl (fun ls hl => ?_)
            obtain ⟨x_9, ex_9⟩ : ∃ y : Int32, y = xlp + 1 := ⟨_, rfl⟩
            refine lv_iinc (v := x_9) (lv' := [(5, .int x_9), (3, .long x_8), (0, .ref h0), (1, .long p0)]) hx hb dX12_row_67 hl (k := 1) rfl (by rw [ex_9]; rfl) (by decide) rfl (fun ls hl => ?_)
            refine lv_goto (tgt := 33) hx hb dX12_row_70 (by decide) ?_
            try simp only [fa_lt, fa_le, fa_eq, fa_lt64, fa_le64, fa_eq64, Int32.reduceToInt, Int64.reduceToInt, zi_ite] at c_1
            try simp only [fa_lt, fa_le, fa_eq, fa_lt64, fa_le64, fa_eq64, Int32.reduceToInt, Int64.reduceToInt, zi_ite] at c_2
            try simp only [fa_lt, fa_le, fa_eq, fa_lt64, fa_le64, fa_eq64, Int32.reduceToInt, Int64.reduceToInt, zi_ite] at hm
            try simp only [fa_lt, fa_le, fa_eq, fa_lt64, fa_le64, fa_eq64, Int32.reduceToInt, Int64.reduceToInt, zi_ite] at h0lp
            try simp only [fa_lt, fa_le, fa_eq, fa_lt64, fa_le64, fa_eq64, Int32.reduceToInt, Int64.reduceToInt, zi_ite] at h1lp
            try simp only [fa_lt, fa_le, fa_eq, fa_lt64, fa_le64, fa_eq64, Int32.reduceToInt, Int64.reduceToInt, zi_ite] at c_3
            try simp only [fa_lt, fa_le, fa_eq, fa_lt64, fa_le64, fa_eq64, Int32.reduceToInt, Int64.reduceToInt, zi_ite] at ex_8
            have tx_9 : x_9.toInt = xlp.toInt + 1 := by rw [ex_9]; exact zi_inc (by omega)
            exact ih x_9 (upd g0 xlp.toNatClampNeg ((v0 - v0 / 10 * 10).toInt32)) x_8 (by omega) (by omega) (by omega) _ _ hP hD hS ls (lv_sub hl [0, 1, 2, 3] rfl)
      exact lp _ 0 fs p0 (Nat.lt_succ_self _) (by (try simp only [fa_lt, fa_le, fa_eq, fa_lt64, fa_le64, fa_eq64, Int32.reduceToInt, Int64.reduceToInt, zi_ite] at c_1 c_2 ⊢) <;> omega) (by (try simp only [fa_lt, fa_le, fa_eq, fa_lt64, fa_le64, fa_eq64, Int32.reduceToInt, Int64.reduceToInt, zi_ite] at c_1 c_2 ⊢) <;> omega) _ _ hP hD hS ls hl
    · refine lv_bipush (v := (-2)) hx hb dX12_row_14 (by decide) ?_
      have hpost : ((0 ≤ p0 ∧ p0 ≤ 999999999999999) ∧ ((-2) : Int32) = 0) ∨ ((¬ (0 ≤ p0 ∧ p0 ≤ 999999999999999)) ∧ ((-2) : Int32) = (-2)) := by
        try simp only [lg_cmp_ge, lg_cmp_le, lg_cmp_gt, lg_cmp_lt, lg_cmp_eq] at c_1
        try simp only [fa_lt, fa_le, fa_eq, fa_lt64, fa_le64, fa_eq64, Int32.reduceToInt, Int64.reduceToInt, zi_ite] at c_1
        try simp only [lg_cmp_ge, lg_cmp_le, lg_cmp_gt, lg_cmp_lt, lg_cmp_eq] at c_2
        try simp only [fa_lt, fa_le, fa_eq, fa_lt64, fa_le64, fa_eq64, Int32.reduceToInt, Int64.reduceToInt, zi_ite] at c_2
        first
        | exact Or.inl ⟨by (try simp only [fa_lt, fa_le, fa_eq, fa_lt64, fa_le64, fa_eq64, Int32.reduceToInt, Int64.reduceToInt, zi_ite]); omega, rfl⟩
        | exact Or.inr (⟨by (try simp only [fa_lt, fa_le, fa_eq, fa_lt64, fa_le64, fa_eq64, Int32.reduceToInt, Int64.reduceToInt, zi_ite]); omega, rfl⟩)
      refine W.widen (k := 0) (n := 0) (by decide +kernel) (by decide +kernel) ?_
      exact W.iret (v := (-2)) hx hb hr (fun t ht hW => ⟨⟨(-2), (), rfl, hpost, trivial⟩, hS.F ht⟩) hS.2.2 dX12_row_16
set_option maxHeartbeats 1000000 in
set_option maxRecDepth 100000 in
theorem rt_X1_addRow (l : Launch) (dC : Nat → ClassId) (dI : Nat → Nat → Nat) (sz : Nat) (h1 hr_ : Nat) (ak : Nat → Nat) (cA cB : ClassId) (fi : Nat → Option Nat) (g : Nat → Int32) (p0 : Int64) (hfi : fi 0 = some hr_) : Met l yX1_addRow wsX1_addRow ({ frames := 0, cells := 0, slots := 0, locals := 0 }) (va_Pc [.ref h1, .long p0] (fun U => U.heap.size = sz ∧ va_P (dC, dI) vwCl [(h1, .inr (1, [.ref (ak 0), .int 0, .int 0, .int 0])), (ak 0, .inl (cA, 4, .inr (.inr (.inr (.inr fi))))), (hr_, .inl (cB, 15, .inl g))] U.heap ∧ va_K (dC, dI) vwCl [(cA, .array .int), (cB, .int)] U ∧ va_D (fun _ => True) [(h1, .inr (1, [.ref (ak 0), .int 0, .int 0, .int 0])), (ak 0, .inl (cA, 4, .inr (.inr (.inr (.inr fi))))), (hr_, .inl (cB, 15, .inl g))])) (va_Qi (fun (r : Int32) (u : Unit) => match u with | () => r = 0) (fun (u : Unit) (t : State) => match u with | () => True) (va_A [(h1, .inr (1, [.ref (ak 0), .int 0, .int 0, .int 0])), (ak 0, .inl (cA, 4, .inr (.inr (.inr (.inr fi))))), (hr_, .inl (cB, 15, .inl g))] sz)) 0 0 (va_A [(h1, .inr (1, [.ref (ak 0), .int 0, .int 0, .int 0])), (ak 0, .inl (cA, 4, .inr (.inr (.inr (.inr fi))))), (hr_, .inl (cB, 15, .inl g))] sz) := by
  refine Met.ofW (cc := cX1_addRow) (maxL := 6) (ret := (some .int)) (by decide) rfl ?_
  intro p e s m args below meth c s₁ B hml hv
  obtain ⟨rfl, hsz, hP, hK, hD0⟩ := hv
  have hx := B.exec
  have hb := B.bytes
  have hr := B.returns
  have hts := atoms_spec (ws := wsX1_addRow) B.pre
  have hown : s.vm.findClass RX1 = some m.cls := findClass_of_methodNamed B.named
  have hlocks := B.notSynchronized
  subst hsz
  have hD := hD0.self (sz := s.heap.size)
  generalize hAe : va_A [(h1, .inr (1, [.ref (ak 0), .int 0, .int 0, .int 0])), (ak 0, .inl (cA, 4, .inr (.inr (.inr (.inr fi))))), (hr_, .inl (cB, 15, .inl g))] s.heap.size = A at hD  ⊢
  have hA : ∀ q : Nat, s.heap.size ≤ q → A q := fun q h => by rw [← hAe]; exact Or.inr h
  have hS : va_S A s.heap s.heap [] := va_S.rf
  have hl := lv_entry ([.ref h1, .long p0]) (n := 6) (Nat.le_of_ble_eq_true rfl)
  rw [lg_entry_eq]
  generalize (lg_sl ([.ref h1, .long p0]) ++ List.replicate (6 - (lg_sl ([.ref h1, .long p0])).length) Slot.unset).toArray = ls at hl ⊢
  have hl : lv_has ls 6 [(0, .ref h1), (1, .long p0)] := hl
  refine lv_lload_n hx hb dX1_addRow_0 rfl (lv_at hl 1 rfl) ?_
  refine lv_lstore_n (lv' := [(3, .long p0), (0, .ref h1), (1, .long p0)]) hx hb dX1_addRow_1 rfl hl (by decide) rfl (fun ls hl => ?_)
  refine lv_iconst (v := 0) hx hb dX1_addRow_2 (by decide) ?_
  refine lv_istore (lv' := [(5, .int 0), (3, .long p0), (0, .ref h1), (1, .long p0)]) hx hb dX1_addRow_3 hl (by decide) rfl (fun ls hl => ?_)
  have lp : ∀ (n : Nat) (xlp : Int32) (g0 : Nat → Int32) (v0 : Int64), (15 - xlp.toInt).toNat < n → 0 ≤ xlp.toInt → xlp.toInt ≤ 15 → ∀ (H : Heap) (locs : List Loc), va_P (dC, dI) vwCl [(h1, .inr (1, [.ref (ak 0), .int 0, .int 0, .int 0])), (ak 0, .inl (cA, 4, .inr (.inr (.inr (.inr fi))))), (hr_, .inl (cB, 15, .inl g0))] H → va_D A [(h1, .inr (1, [.ref (ak 0), .int 0, .int 0, .int 0])), (ak 0, .inl (cA, 4, .inr (.inr (.inr (.inr fi))))), (hr_, .inl (cB, 15, .inl g0))] → va_S A s.heap H locs → ∀ (ls : Array Slot), lv_has ls 6 [(5, .int xlp), (3, .long v0), (0, .ref h1), (1, .long p0)] → W p l e (headSpec wsX1_addRow ({ frames := 0, cells := 0, slots := 0, locals := 0 })).room s m ([.ref h1, .long p0] : List Value).toArray below meth c H locs 0 0 (MQ below (va_Qi (fun (r : Int32) (u : Unit) => match u with | () => r = 0) (fun (u : Unit) (t : State) => match u with | () => True) A) ([.ref h1, .long p0] : List Value).toArray s 0 0 A) (F0 m 5 ls []) := by
    intro n
    induction n with
    | zero => intro xlp g0 v0 hm; exact absurd hm (Nat.not_lt_zero _)
    | succ n ih =>
      intro xlp g0 v0 hm h0lp h1lp H locs hP hD hS ls hl
      refine lv_iload hx hb dX1_addRow_5 (lv_at hl 0 rfl) ?_
      refine lv_bipush (v := 15) hx hb dX1_addRow_7 (by decide) ?_
      refine lv_icmp_ge (tgt := 42) hx hb dX1_addRow_9 (by decide) (fun c_1 => ?_) (fun c_1 => ?_)
      · refine lv_aload_n hx hb dX1_addRow_42 rfl (lv_at hl 2 rfl) ?_
        refine lv_dup hx hb dX1_addRow_43 rfl ?_
        refine va_get (D := (dC, dI)) (ci := 1) (v := .int 0) (C := RX1) (T := TX1) (N := 4) hx hb hts (by decide +kernel) hown hK hP 0 rfl rfl 1 (by decide) (hts (.fieldLink RX1 16 "RedTent$Breaker" "rowCount" "I") (by decide +kernel)) (fun _ h9 => h9) rfl dX1_addRow_44 ?_
        refine lv_dup_x1 hx hb dX1_addRow_47 rfl rfl ?_
        refine lv_iconst (v := 1) hx hb dX1_addRow_48 (by decide) ?_
        refine lv_iadd hx hb dX1_addRow_49 ?_
        refine lv_topi (fun y_2 ey_2 => ?_)
        obtain rfl : y_2 = 1 := ey_2.trans (by decide)
        refine va_put (D := (dC, dI)) (ci := 1) (v := .int 1) (ty := .int) (C := RX1) (T := TX1) (N := 4) hx hb hts (by decide +kernel) tyX1 tyX1_ok nmX1 hown hK hP hD hS 0 rfl rfl 1 (by decide) (hts (.fieldLink RX1 16 "RedTent$Breaker" "rowCount" "I") (by decide +kernel)) (fun _ h9 => h9) rfl (by decide +kernel) rfl rfl (Nat.le_of_ble_eq_true rfl) dX1_addRow_50 (fun H locs hP hD hS => ?_)
        have hP : va_P (dC, dI) vwCl [(h1, .inr (1, [.ref (ak 0), .int 1, .int 0, .int 0])), (ak 0, .inl (cA, 4, .inr (.inr (.inr (.inr fi))))), (hr_, .inl (cB, 15, .inl g0))] H := hP
        have hD : va_D A [(h1, .inr (1, [.ref (ak 0), .int 1, .int 0, .int 0])), (ak 0, .inl (cA, 4, .inr (.inr (.inr (.inr fi))))), (hr_, .inl (cB, 15, .inl g0))] := hD
        refine W.widen (k := 0) (n := 0) (by decide +kernel) (by decide +kernel) ?_
        exact W.iret (v := 0) hx hb hr (fun t ht hW => ⟨⟨0, (), rfl, rfl, trivial⟩, hS.F ht⟩) hS.2.2 dX1_addRow_53
      · refine lv_aload_n hx hb dX1_addRow_12 rfl (lv_at hl 2 rfl) ?_
        refine va_get (D := (dC, dI)) (ci := 1) (v := .ref (ak 0)) (C := RX1) (T := TX1) (N := 4) hx hb hts (by decide +kernel) hown hK hP 0 rfl rfl 0 (by decide) (hts (.fieldLink RX1 11 "RedTent$Breaker" "ice" "[[I") (by decide +kernel)) (fun _ h9 => h9) rfl dX1_addRow_13 ?_
        refine lv_aload_n hx hb dX1_addRow_16 rfl (lv_at hl 2 rfl) ?_
        refine va_get (D := (dC, dI)) (ci := 1) (v := .int 0) (C := RX1) (T := TX1) (N := 4) hx hb hts (by decide +kernel) hown hK hP 0 rfl rfl 1 (by decide) (hts (.fieldLink RX1 16 "RedTent$Breaker" "rowCount" "I") (by decide +kernel)) (fun _ h9 => h9) rfl dX1_addRow_17 ?_
        refine va_aldA hx hb hK hP 1 0 rfl rfl (by unfold vp_in; decide) dX1_addRow_20 ?_
        rw [show fi (0 : Int32).toNatClampNeg = some hr_ from hfi]
        refine lv_iload hx hb dX1_addRow_21 (lv_at hl 0 rfl) ?_
        refine lv_lload_n hx hb dX1_addRow_23 rfl (lv_at hl 1 rfl) ?_
        refine lv_ldc2 (v := 10) hx hb hown (hts (.constantLong RX1 20 (10)) (by decide +kernel)) dX1_addRow_24 ?_
        refine lv_lrem hx hb dX1_addRow_27 (by decide) ?_
        refine lv_l2i (v := (v0 - v0 / 10 * 10).toInt32) hx hb dX1_addRow_28 rfl ?_
        refine va_iast hx hb hK hP hD hS 2 1 rfl rfl (vp_in_iff.mpr (by (try simp only [fa_lt, fa_le, fa_eq, fa_lt64, fa_le64, fa_eq64, Int32.reduceToInt, Int64.reduceToInt, zi_ite] at hm h0lp h1lp c_1 ⊢) <;> omega)) dX1_addRow_29 (fun H locs hP hD hS => ?_)
        have hP : va_P (dC, dI) vwCl [(h1, .inr (1, [.ref (ak 0), .int 0, .int 0, .int 0])), (ak 0, .inl (cA, 4, .inr (.inr (.inr (.inr fi))))), (hr_, .inl (cB, 15, .inl (upd g0 xlp.toNatClampNeg ((v0 - v0 / 10 * 10).toInt32))))] H := hP
        have hD : va_D A [(h1, .inr (1, [.ref (ak 0), .int 0, .int 0, .int 0])), (ak 0, .inl (cA, 4, .inr (.inr (.inr (.inr fi))))), (hr_, .inl (cB, 15, .inl (upd g0 xlp.toNatClampNeg ((v0 - v0 / 10 * 10).toInt32))))] := hD
        refine lv_lload_n hx hb dX1_addRow_30 rfl (lv_at hl 1 rfl) ?_
        refine lv_ldc2 (v := 10) hx hb hown (hts (.constantLong RX1 20 (10)) (by decide +kernel)) dX1_addRow_31 ?_
        refine lv_ldiv hx hb dX1_addRow_34 (by decide) ?_
        refine lv_topl (fun x_3 ex_3 => ?_)
        refine lv_lstore_n (lv' := [(3, .long x_3), (5, .int xlp), (0, .ref h1), (1, .long p0)]) hx hb dX1_addRow_35 rfl hl (by decide) rfl (fun ls hl => ?_)
        obtain ⟨x_4, ex_4⟩ : ∃ y : Int32, y = xlp + 1 := ⟨_, rfl⟩
        refine lv_iinc (v := x_4) (lv' := [(5, .int x_4), (3, .long x_3), (0, .ref h1), (1, .long p0)]) hx hb dX1_addRow_36 hl (k := 1) rfl (by rw [ex_4]; rfl) (by decide) rfl (fun ls hl => ?_)
        refine lv_goto (tgt := 5) hx hb dX1_addRow_39 (by decide) ?_
        try simp only [fa_lt, fa_le, fa_eq, fa_lt64, fa_le64, fa_eq64, Int32.reduceToInt, Int64.reduceToInt, zi_ite] at hm
        try simp only [fa_lt, fa_le, fa_eq, fa_lt64, fa_le64, fa_eq64, Int32.reduceToInt, Int64.reduceToInt, zi_ite] at h0lp
        try simp only [fa_lt, fa_le, fa_eq, fa_lt64, fa_le64, fa_eq64, Int32.reduceToInt, Int64.reduceToInt, zi_ite] at h1lp
        try simp only [fa_lt, fa_le, fa_eq, fa_lt64, fa_le64, fa_eq64, Int32.reduceToInt, Int64.reduceToInt, zi_ite] at c_1
        try simp only [fa_lt, fa_le, fa_eq, fa_lt64, fa_le64, fa_eq64, Int32.reduceToInt, Int64.reduceToInt, zi_ite] at ex_3
        have tx_4 : x_4.toInt = xlp.toInt + 1 := by rw [ex_4]; exact zi_inc (by omega)
        exact ih x_4 (upd g0 xlp.toNatClampNeg ((v0 - v0 / 10 * 10).toInt32)) x_3 (by omega) (by omega) (by omega) _ _ hP hD hS ls (lv_sub hl [0, 1, 2, 3] rfl)
  exact lp _ 0 g p0 (Nat.lt_succ_self _) (by (try simp only [fa_lt, fa_le, fa_eq, fa_lt64, fa_le64, fa_eq64, Int32.reduceToInt, Int64.reduceToInt, zi_ite]) <;> omega) (by (try simp only [fa_lt, fa_le, fa_eq, fa_lt64, fa_le64, fa_eq64, Int32.reduceToInt, Int64.reduceToInt, zi_ite]) <;> omega) _ _ hP hD hS ls hl
set_option maxHeartbeats 1000000 in
set_option maxRecDepth 100000 in
theorem rt_X11_row (l : Launch) (dC : Nat → ClassId) (dI : Nat → Nat → Nat) (sz : Nat) (h0 : Nat) (ad : Nat → Nat) (hr_ : Nat) (ak : Nat → Nat) (cA cB : ClassId) (fi : Nat → Option Nat) (g : Nat → Int32) (p0 : Int64) (hfi : fi 0 = some hr_) : Met l yX11_row wsX11_row ({ frames := 1, cells := 0, slots := 0, locals := 25 }) (va_Pc [.ref h0, .long p0] (fun U => U.heap.size = sz ∧ va_P (dC, dI) vwCl [(h0, .inr (11, [.ref (ad 0), .ref (ad 1), .ref (ad 2), .ref (ad 3), .ref (ad 4), .ref (ad 5), .ref (ad 6), .ref (ad 7), .ref (ad 8), .int 0, .int 0, .int 0, .int 0])), (ad 7, .inr (1, [.ref (ak 0), .int 0, .int 0, .int 0])), (ak 0, .inl (cA, 4, .inr (.inr (.inr (.inr fi))))), (hr_, .inl (cB, 15, .inl g))] U.heap ∧ va_K (dC, dI) vwCl [(cA, .array .int), (cB, .int)] U ∧ va_D (fun _ => True) [(h0, .inr (11, [.ref (ad 0), .ref (ad 1), .ref (ad 2), .ref (ad 3), .ref (ad 4), .ref (ad 5), .ref (ad 6), .ref (ad 7), .ref (ad 8), .int 0, .int 0, .int 0, .int 0])), (ad 7, .inr (1, [.ref (ak 0), .int 0, .int 0, .int 0])), (ak 0, .inl (cA, 4, .inr (.inr (.inr (.inr fi))))), (hr_, .inl (cB, 15, .inl g))])) (va_Qi (fun (r : Int32) (u : Unit) => match u with | () => ((0 ≤ p0 ∧ p0 ≤ 999999999999999) ∧ r = 0) ∨ ((¬ (0 ≤ p0 ∧ p0 ≤ 999999999999999)) ∧ r = (-2))) (fun (u : Unit) (t : State) => match u with | () => True) (va_A [(h0, .inr (11, [.ref (ad 0), .ref (ad 1), .ref (ad 2), .ref (ad 3), .ref (ad 4), .ref (ad 5), .ref (ad 6), .ref (ad 7), .ref (ad 8), .int 0, .int 0, .int 0, .int 0])), (ad 7, .inr (1, [.ref (ak 0), .int 0, .int 0, .int 0])), (ak 0, .inl (cA, 4, .inr (.inr (.inr (.inr fi))))), (hr_, .inl (cB, 15, .inl g))] sz)) 0 0 (va_A [(h0, .inr (11, [.ref (ad 0), .ref (ad 1), .ref (ad 2), .ref (ad 3), .ref (ad 4), .ref (ad 5), .ref (ad 6), .ref (ad 7), .ref (ad 8), .int 0, .int 0, .int 0, .int 0])), (ad 7, .inr (1, [.ref (ak 0), .int 0, .int 0, .int 0])), (ak 0, .inl (cA, 4, .inr (.inr (.inr (.inr fi))))), (hr_, .inl (cB, 15, .inl g))] sz) := by
  refine Met.ofW (cc := cX11_row) (maxL := 3) (ret := (some .int)) (by decide) rfl ?_
  intro p e s m args below meth c s₁ B hml hv
  obtain ⟨rfl, hsz, hP, hK, hD0⟩ := hv
  have hx := B.exec
  have hb := B.bytes
  have hr := B.returns
  have hts := atoms_spec (ws := wsX11_row) B.pre
  have hown : s.vm.findClass RX11 = some m.cls := findClass_of_methodNamed B.named
  have hlocks := B.notSynchronized
  subst hsz
  have hD := hD0.self (sz := s.heap.size)
  generalize hAe : va_A [(h0, .inr (11, [.ref (ad 0), .ref (ad 1), .ref (ad 2), .ref (ad 3), .ref (ad 4), .ref (ad 5), .ref (ad 6), .ref (ad 7), .ref (ad 8), .int 0, .int 0, .int 0, .int 0])), (ad 7, .inr (1, [.ref (ak 0), .int 0, .int 0, .int 0])), (ak 0, .inl (cA, 4, .inr (.inr (.inr (.inr fi))))), (hr_, .inl (cB, 15, .inl g))] s.heap.size = A at hD  ⊢
  have hA : ∀ q : Nat, s.heap.size ≤ q → A q := fun q h => by rw [← hAe]; exact Or.inr h
  have hS : va_S A s.heap s.heap [] := va_S.rf
  have hl := lv_entry ([.ref h0, .long p0]) (n := 3) (Nat.le_of_ble_eq_true rfl)
  rw [lg_entry_eq]
  generalize (lg_sl ([.ref h0, .long p0]) ++ List.replicate (3 - (lg_sl ([.ref h0, .long p0])).length) Slot.unset).toArray = ls at hl ⊢
  have hl : lv_has ls 3 [(0, .ref h0), (1, .long p0)] := hl
  refine lv_lload_n hx hb dX11_row_0 rfl (lv_at hl 1 rfl) ?_
  refine lv_lconst (v := 0) hx hb dX11_row_1 (by decide) ?_
  refine W.lcmp hx hb dX11_row_2 ?_
  refine lv_if_lt (tgt := 14) hx hb dX11_row_3 (by decide) (fun c_1 => ?_) (fun c_1 => ?_)
  · refine lv_bipush (v := (-2)) hx hb dX11_row_14 (by decide) ?_
    have hpost : ((0 ≤ p0 ∧ p0 ≤ 999999999999999) ∧ ((-2) : Int32) = 0) ∨ ((¬ (0 ≤ p0 ∧ p0 ≤ 999999999999999)) ∧ ((-2) : Int32) = (-2)) := by
      try simp only [lg_cmp_ge, lg_cmp_le, lg_cmp_gt, lg_cmp_lt, lg_cmp_eq] at c_1
      try simp only [fa_lt, fa_le, fa_eq, fa_lt64, fa_le64, fa_eq64, Int32.reduceToInt, Int64.reduceToInt, zi_ite] at c_1
      first
      | exact Or.inl ⟨by (try simp only [fa_lt, fa_le, fa_eq, fa_lt64, fa_le64, fa_eq64, Int32.reduceToInt, Int64.reduceToInt, zi_ite]); omega, rfl⟩
      | exact Or.inr (⟨by (try simp only [fa_lt, fa_le, fa_eq, fa_lt64, fa_le64, fa_eq64, Int32.reduceToInt, Int64.reduceToInt, zi_ite]); omega, rfl⟩)
    refine W.widen (k := 0) (n := 0) (by decide +kernel) (by decide +kernel) ?_
    exact W.iret (v := (-2)) hx hb hr (fun t ht hW => ⟨⟨(-2), (), rfl, hpost, trivial⟩, hS.F ht⟩) hS.2.2 dX11_row_16
  · refine lv_lload_n hx hb dX11_row_6 rfl (lv_at hl 1 rfl) ?_
    refine lv_ldc2 (v := 999999999999999) hx hb hown (hts (.constantLong RX11 328 (999999999999999)) (by decide +kernel)) dX11_row_7 ?_
    refine W.lcmp hx hb dX11_row_10 ?_
    refine lv_if_le (tgt := 17) hx hb dX11_row_11 (by decide) (fun c_2 => ?_) (fun c_2 => ?_)
    · refine lv_aload_n hx hb dX11_row_17 rfl (lv_at hl 0 rfl) ?_
      refine va_get (D := (dC, dI)) (ci := 11) (v := .ref (ad 7)) (C := RX11) (T := TX11) (N := 13) hx hb hts (by decide +kernel) hown hK hP 0 rfl rfl 7 (by decide) (hts (.fieldLink RX11 60 "RedTent" "breaker" "LRedTent$Breaker;") (by decide +kernel)) (fun _ h9 => h9) rfl dX11_row_18 ?_
      refine va_get (D := (dC, dI)) (ci := 1) (v := .int 0) (C := RX1) (T := TX1) (N := 4) hx hb hts (by decide +kernel) hown hK hP 1 rfl rfl 1 (by decide) (hts (.fieldLink RX11 330 "RedTent$Breaker" "rowCount" "I") (by decide +kernel)) (fun _ h9 => h9) rfl dX11_row_21 ?_
      refine lv_iconst (v := 4) hx hb dX11_row_24 (by decide) ?_
      refine lv_icmp_lt (tgt := 31) hx hb dX11_row_25 (by decide) (fun _ => ?_) (fun c9 => absurd (by decide) c9)
      refine lv_aload_n hx hb dX11_row_31 rfl (lv_at hl 0 rfl) ?_
      refine va_get (D := (dC, dI)) (ci := 11) (v := .ref (ad 7)) (C := RX11) (T := TX11) (N := 13) hx hb hts (by decide +kernel) hown hK hP 0 rfl rfl 7 (by decide) (hts (.fieldLink RX11 60 "RedTent" "breaker" "LRedTent$Breaker;") (by decide +kernel)) (fun _ h9 => h9) rfl dX11_row_32 ?_
      refine lv_lload_n hx hb dX11_row_35 rfl (lv_at hl 1 rfl) ?_
      have hPc := hP.sub (ws' := [(ad 7, .inr (1, [.ref (ak 0), .int 0, .int 0, .int 0])), (ak 0, .inl (cA, 4, .inr (.inr (.inr (.inr fi))))), (hr_, .inl (cB, 15, .inl g))]) [1, 2, 3] rfl
      have hKc := hK.sub (tys' := [(cA, .array .int), (cB, .int)]) [0, 1] rfl
      have hDc := hD.sub (ws' := [(ad 7, .inr (1, [.ref (ak 0), .int 0, .int 0, .int 0])), (ak 0, .inl (cA, 4, .inr (.inr (.inr (.inr fi))))), (hr_, .inl (cB, 15, .inl g))]) [1, 2, 3] (by decide) rfl
      have hFc := va_free (wc := [(ad 7, .inr (1, [.ref (ak 0), .int 0, .int 0, .int 0])), (ak 0, .inl (cA, 4, .inr (.inr (.inr (.inr fi))))), (hr_, .inl (cB, 15, .inl g))]) hD hS hA [1, 2, 3] rfl
      refine va_calli (va_runV (As := [.long p0]) (rest := []) ⟨hx, hb, hml, hown, hts⟩ (rt_X1_addRow l dC dI s.heap.size (ad 7) hr_ ak cA cB fi g p0 hfi) (cwV 1 hts gX11_row_X1_addRow rfl rfl rfl (by decide +kernel) ⟨Nat.le_of_ble_eq_true rfl, Nat.le_of_ble_eq_true rfl⟩) ⟨fun a U g mk q => by obtain ⟨q0, q1, qP, qK, qD⟩ := q; exact ⟨q0, q1, qP, va_K.moved (u := U) (U := U.calling g mk a) (Vm.Alike.refl U.vm) qK, qD⟩, va_recv hKc hPc (ci := 1) (q0 := 0) rfl rfl, fun U hU hW => ⟨rfl, by rw [hU], by rw [hU]; exact hPc, va_K.moved hW.alike hKc, hDc.weaken (fun _ _ _ _ => trivial)⟩⟩ rfl rfl hl.1 rfl (lv_room (Nat.le_of_ble_eq_true rfl)) dX11_row_36 ⟨by decide +kernel, by decide +kernel⟩) hS (fun q _ h => hFc q h) hFc (fun r_3 u t H1 locs ht hvm hr_3 hB hz1 hk1 hS => ?_)
      obtain ⟨⟩ := u
      have hP1 : va_P (dC, dI) vwCl [] H1 := fun k q h => by simp at h
      have hD1 : va_D (va_A [(ad 7, .inr (1, [.ref (ak 0), .int 0, .int 0, .int 0])), (ak 0, .inl (cA, 4, .inr (.inr (.inr (.inr fi))))), (hr_, .inl (cB, 15, .inl g))] s.heap.size) [] := ⟨fun i j p q h => by simp at h, fun k q h => by simp at h⟩
      obtain ⟨hP, hD⟩ := va_join (wr := [(h0, .inr (11, [.ref (ad 0), .ref (ad 1), .ref (ad 2), .ref (ad 3), .ref (ad 4), .ref (ad 5), .ref (ad 6), .ref (ad 7), .ref (ad 8), .int 0, .int 0, .int 0, .int 0]))]) (w1 := []) hP hD [1, 2, 3] [0] rfl rfl (by decide) (by decide) hk1 hFc hP1 hD1
      generalize H1 = H at hP hS ⊢
      have hP : va_P (dC, dI) vwCl [(h0, .inr (11, [.ref (ad 0), .ref (ad 1), .ref (ad 2), .ref (ad 3), .ref (ad 4), .ref (ad 5), .ref (ad 6), .ref (ad 7), .ref (ad 8), .int 0, .int 0, .int 0, .int 0]))] H := hP
      have hD : va_D A [(h0, .inr (11, [.ref (ad 0), .ref (ad 1), .ref (ad 2), .ref (ad 3), .ref (ad 4), .ref (ad 5), .ref (ad 6), .ref (ad 7), .ref (ad 8), .int 0, .int 0, .int 0, .int 0]))] := hD
      try dsimp only at hr_3
      obtain rfl := hr_3
      have hpost : ((0 ≤ p0 ∧ p0 ≤ 999999999999999) ∧ (0 : Int32) = 0) ∨ ((¬ (0 ≤ p0 ∧ p0 ≤ 999999999999999)) ∧ (0 : Int32) = (-2)) := by
        try simp only [lg_cmp_ge, lg_cmp_le, lg_cmp_gt, lg_cmp_lt, lg_cmp_eq] at c_1
        try simp only [fa_lt, fa_le, fa_eq, fa_lt64, fa_le64, fa_eq64, Int32.reduceToInt, Int64.reduceToInt, zi_ite] at c_1
        try simp only [lg_cmp_ge, lg_cmp_le, lg_cmp_gt, lg_cmp_lt, lg_cmp_eq] at c_2
        try simp only [fa_lt, fa_le, fa_eq, fa_lt64, fa_le64, fa_eq64, Int32.reduceToInt, Int64.reduceToInt, zi_ite] at c_2
        first
        | exact Or.inl ⟨by (try simp only [fa_lt, fa_le, fa_eq, fa_lt64, fa_le64, fa_eq64, Int32.reduceToInt, Int64.reduceToInt, zi_ite]); omega, rfl⟩
        | exact Or.inr (⟨by (try simp only [fa_lt, fa_le, fa_eq, fa_lt64, fa_le64, fa_eq64, Int32.reduceToInt, Int64.reduceToInt, zi_ite]); omega, rfl⟩)
      refine W.widen (k := 0) (n := 0) (by decide +kernel) (by decide +kernel) ?_
      exact W.iret (v := 0) hx hb hr (fun t ht hW => ⟨⟨0, (), rfl, hpost, trivial⟩, hS.F ht⟩) hS.2.2 dX11_row_39
    · refine lv_bipush (v := (-2)) hx hb dX11_row_14 (by decide) ?_
      have hpost : ((0 ≤ p0 ∧ p0 ≤ 999999999999999) ∧ ((-2) : Int32) = 0) ∨ ((¬ (0 ≤ p0 ∧ p0 ≤ 999999999999999)) ∧ ((-2) : Int32) = (-2)) := by
        try simp only [lg_cmp_ge, lg_cmp_le, lg_cmp_gt, lg_cmp_lt, lg_cmp_eq] at c_1
        try simp only [fa_lt, fa_le, fa_eq, fa_lt64, fa_le64, fa_eq64, Int32.reduceToInt, Int64.reduceToInt, zi_ite] at c_1
        try simp only [lg_cmp_ge, lg_cmp_le, lg_cmp_gt, lg_cmp_lt, lg_cmp_eq] at c_2
        try simp only [fa_lt, fa_le, fa_eq, fa_lt64, fa_le64, fa_eq64, Int32.reduceToInt, Int64.reduceToInt, zi_ite] at c_2
        first
        | exact Or.inl ⟨by (try simp only [fa_lt, fa_le, fa_eq, fa_lt64, fa_le64, fa_eq64, Int32.reduceToInt, Int64.reduceToInt, zi_ite]); omega, rfl⟩
        | exact Or.inr (⟨by (try simp only [fa_lt, fa_le, fa_eq, fa_lt64, fa_le64, fa_eq64, Int32.reduceToInt, Int64.reduceToInt, zi_ite]); omega, rfl⟩)
      refine W.widen (k := 0) (n := 0) (by decide +kernel) (by decide +kernel) ?_
      exact W.iret (v := (-2)) hx hb hr (fun t ht hW => ⟨⟨(-2), (), rfl, hpost, trivial⟩, hS.F ht⟩) hS.2.2 dX11_row_16

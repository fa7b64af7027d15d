theorem dX11_pass_0 : decode cX11_pass 0 = .ok (.iload_n 1, 1) := by decide +kernel
theorem dX11_pass_1 : decode cX11_pass 1 = .ok (.iconst 1, 1) := by decide +kernel
theorem dX11_pass_2 : decode cX11_pass 2 = .ok (.if_icmp .lt 9, 3) := by decide +kernel
theorem dX11_pass_5 : decode cX11_pass 5 = .ok (.iload_n 1, 1) := by decide +kernel
theorem dX11_pass_6 : decode cX11_pass 6 = .ok (.bipush 48, 2) := by decide +kernel
theorem dX11_pass_8 : decode cX11_pass 8 = .ok (.if_icmp .le 6, 3) := by decide +kernel
theorem dX11_pass_11 : decode cX11_pass 11 = .ok (.bipush (-2), 2) := by decide +kernel
theorem dX11_pass_13 : decode cX11_pass 13 = .ok (.ireturn, 1) := by decide +kernel
theorem dX11_pass_14 : decode cX11_pass 14 = .ok (.aload_n 0, 1) := by decide +kernel
theorem dX11_pass_15 : decode cX11_pass 15 = .ok (.getfield 71, 3) := by decide +kernel
theorem dX11_pass_18 : decode cX11_pass 18 = .ok (.iload_n 1, 1) := by decide +kernel
theorem dX11_pass_19 : decode cX11_pass 19 = .ok (.iadd, 1) := by decide +kernel
theorem dX11_pass_20 : decode cX11_pass 20 = .ok (.sipush 240, 3) := by decide +kernel
theorem dX11_pass_23 : decode cX11_pass 23 = .ok (.if_icmp .lt 6, 3) := by decide +kernel
theorem dX11_pass_26 : decode cX11_pass 26 = .ok (.bipush (-4), 2) := by decide +kernel
theorem dX11_pass_28 : decode cX11_pass 28 = .ok (.ireturn, 1) := by decide +kernel
theorem dX11_pass_29 : decode cX11_pass 29 = .ok (.iconst 0, 1) := by decide +kernel
theorem dX11_pass_30 : decode cX11_pass 30 = .ok (.istore_n 2, 1) := by decide +kernel
theorem dX11_pass_31 : decode cX11_pass 31 = .ok (.iload_n 2, 1) := by decide +kernel
theorem dX11_pass_32 : decode cX11_pass 32 = .ok (.aload_n 0, 1) := by decide +kernel
theorem dX11_pass_33 : decode cX11_pass 33 = .ok (.getfield 75, 3) := by decide +kernel
theorem dX11_pass_36 : decode cX11_pass 36 = .ok (.if_icmp .ge 24, 3) := by decide +kernel
theorem dX11_pass_39 : decode cX11_pass 39 = .ok (.aload_n 0, 1) := by decide +kernel
theorem dX11_pass_40 : decode cX11_pass 40 = .ok (.iload_n 2, 1) := by decide +kernel
theorem dX11_pass_41 : decode cX11_pass 41 = .ok (.invokevirtual 78, 3) := by decide +kernel
theorem dX11_pass_44 : decode cX11_pass 44 = .ok (.astore_n 3, 1) := by decide +kernel
theorem dX11_pass_45 : decode cX11_pass 45 = .ok (.aload_n 3, 1) := by decide +kernel
theorem dX11_pass_46 : decode cX11_pass 46 = .ok (.ifnull 8, 3) := by decide +kernel
theorem dX11_pass_49 : decode cX11_pass 49 = .ok (.aload_n 3, 1) := by decide +kernel
theorem dX11_pass_50 : decode cX11_pass 50 = .ok (.iload_n 1, 1) := by decide +kernel
theorem dX11_pass_51 : decode cX11_pass 51 = .ok (.invokevirtual 82, 3) := by decide +kernel
theorem dX11_pass_54 : decode cX11_pass 54 = .ok (.iinc 2 1, 3) := by decide +kernel
theorem dX11_pass_57 : decode cX11_pass 57 = .ok (.goto (-26), 3) := by decide +kernel
theorem dX11_pass_60 : decode cX11_pass 60 = .ok (.aload_n 0, 1) := by decide +kernel
theorem dX11_pass_61 : decode cX11_pass 61 = .ok (.dup, 1) := by decide +kernel
theorem dX11_pass_62 : decode cX11_pass 62 = .ok (.getfield 71, 3) := by decide +kernel
theorem dX11_pass_65 : decode cX11_pass 65 = .ok (.iload_n 1, 1) := by decide +kernel
theorem dX11_pass_66 : decode cX11_pass 66 = .ok (.iadd, 1) := by decide +kernel
theorem dX11_pass_67 : decode cX11_pass 67 = .ok (.putfield 71, 3) := by decide +kernel
theorem dX11_pass_70 : decode cX11_pass 70 = .ok (.aload_n 0, 1) := by decide +kernel
theorem dX11_pass_71 : decode cX11_pass 71 = .ok (.getfield 71, 3) := by decide +kernel
theorem dX11_pass_74 : decode cX11_pass 74 = .ok (.ireturn, 1) := by decide +kernel
set_option maxRecDepth 20000 in
theorem ggX11_wind_X11_isSpan : GoodIn wsX11_wind wsX11_isSpan := goodIn_r _ [7] (by decide +kernel) (by decide +kernel)
set_option maxRecDepth 20000 in
theorem gX11_wind_X11_isSpan : GoodIn wsX11_wind (va_wsS RX11 86 yX11_isSpan wsX11_isSpan) := goodIn_app (goodIn_of _ (by decide +kernel)) ggX11_wind_X11_isSpan
set_option maxRecDepth 20000 in
theorem ggX11_wind_X11_isWind : GoodIn wsX11_wind wsX11_isWind := goodIn_r _ [10] (by decide +kernel) (by decide +kernel)
set_option maxRecDepth 20000 in
theorem gX11_wind_X11_isWind : GoodIn wsX11_wind (va_wsS RX11 90 yX11_isWind wsX11_isWind) := goodIn_app (goodIn_of _ (by decide +kernel)) ggX11_wind_X11_isWind
set_option maxRecDepth 20000 in
theorem ggX11_wind_X10_tellWind : GoodIn wsX11_wind wsX10_tellWind := goodIn_r _ [15, 16, 17, 18, 19, 14, 20, 21, 22, 23, 24, 54, 55, 56, 57] (by decide +kernel) (by decide +kernel)
set_option maxRecDepth 20000 in
theorem gX11_wind_X10_tellWind : GoodIn wsX11_wind (wsV RX11 97 RX10 yX10_tellWind wsX10_tellWind) := goodIn_app (goodIn_of _ (by decide +kernel)) ggX11_wind_X10_tellWind
set_option maxRecDepth 20000 in
theorem ggX11_wind_X11_bodyAt : GoodIn wsX11_wind wsX11_bodyAt := goodIn_r _ [28, 3, 29, 41, 42, 43, 44, 45, 46, 47, 48, 49, 50, 51, 52, 53] (by decide +kernel) (by decide +kernel)
set_option maxRecDepth 20000 in
theorem gX11_wind_X11_bodyAt : GoodIn wsX11_wind (wsV RX11 78 RX11 yX11_bodyAt wsX11_bodyAt) := goodIn_app (goodIn_of _ (by decide +kernel)) ggX11_wind_X11_bodyAt
set_option maxRecDepth 20000 in
theorem ggX11_wind_X0_forgetBehind : GoodIn wsX11_wind wsX0_forgetBehind := goodIn_r _ [34, 35, 36, 37, 38, 23, 39, 40, 22, 24, 58, 59, 60, 61, 62, 63, 64, 65, 66, 67, 68, 69, 70, 71, 72] (by decide +kernel) (by decide +kernel)
set_option maxRecDepth 20000 in
theorem gX11_wind_X0_forgetBehind : GoodIn wsX11_wind (wsV RX11 101 RX0 yX0_forgetBehind wsX0_forgetBehind) := goodIn_app (goodIn_of _ (by decide +kernel)) ggX11_wind_X0_forgetBehind
theorem dX11_wind_0 : decode cX11_wind 0 = .ok (.iload_n 1, 1) := by decide +kernel
theorem dX11_wind_1 : decode cX11_wind 1 = .ok (.iload_n 2, 1) := by decide +kernel
theorem dX11_wind_2 : decode cX11_wind 2 = .ok (.invokestatic 86, 3) := by decide +kernel
theorem dX11_wind_5 : decode cX11_wind 5 = .ok (.ifCond .eq 10, 3) := by decide +kernel
theorem dX11_wind_8 : decode cX11_wind 8 = .ok (.iload_n 3, 1) := by decide +kernel
theorem dX11_wind_9 : decode cX11_wind 9 = .ok (.invokestatic 90, 3) := by decide +kernel
theorem dX11_wind_12 : decode cX11_wind 12 = .ok (.ifCond .ne 6, 3) := by decide +kernel
theorem dX11_wind_15 : decode cX11_wind 15 = .ok (.bipush (-2), 2) := by decide +kernel
theorem dX11_wind_17 : decode cX11_wind 17 = .ok (.ireturn, 1) := by decide +kernel
theorem dX11_wind_18 : decode cX11_wind 18 = .ok (.aload_n 0, 1) := by decide +kernel
theorem dX11_wind_19 : decode cX11_wind 19 = .ok (.getfield 10, 3) := by decide +kernel
theorem dX11_wind_22 : decode cX11_wind 22 = .ok (.getfield 94, 3) := by decide +kernel
theorem dX11_wind_25 : decode cX11_wind 25 = .ok (.bipush 30, 2) := by decide +kernel
theorem dX11_wind_27 : decode cX11_wind 27 = .ok (.if_icmp .lt 6, 3) := by decide +kernel
theorem dX11_wind_30 : decode cX11_wind 30 = .ok (.bipush (-4), 2) := by decide +kernel
theorem dX11_wind_32 : decode cX11_wind 32 = .ok (.ireturn, 1) := by decide +kernel
theorem dX11_wind_33 : decode cX11_wind 33 = .ok (.aload_n 0, 1) := by decide +kernel
theorem dX11_wind_34 : decode cX11_wind 34 = .ok (.getfield 10, 3) := by decide +kernel
theorem dX11_wind_37 : decode cX11_wind 37 = .ok (.iload_n 1, 1) := by decide +kernel
theorem dX11_wind_38 : decode cX11_wind 38 = .ok (.iload_n 2, 1) := by decide +kernel
theorem dX11_wind_39 : decode cX11_wind 39 = .ok (.iload_n 3, 1) := by decide +kernel
theorem dX11_wind_40 : decode cX11_wind 40 = .ok (.invokevirtual 97, 3) := by decide +kernel
theorem dX11_wind_43 : decode cX11_wind 43 = .ok (.iconst 0, 1) := by decide +kernel
theorem dX11_wind_44 : decode cX11_wind 44 = .ok (.istore 4, 2) := by decide +kernel
theorem dX11_wind_46 : decode cX11_wind 46 = .ok (.iload 4, 2) := by decide +kernel
theorem dX11_wind_48 : decode cX11_wind 48 = .ok (.aload_n 0, 1) := by decide +kernel
theorem dX11_wind_49 : decode cX11_wind 49 = .ok (.getfield 75, 3) := by decide +kernel
theorem dX11_wind_52 : decode cX11_wind 52 = .ok (.if_icmp .ge 28, 3) := by decide +kernel
theorem dX11_wind_55 : decode cX11_wind 55 = .ok (.aload_n 0, 1) := by decide +kernel
theorem dX11_wind_56 : decode cX11_wind 56 = .ok (.iload 4, 2) := by decide +kernel
theorem dX11_wind_58 : decode cX11_wind 58 = .ok (.invokevirtual 78, 3) := by decide +kernel
theorem dX11_wind_61 : decode cX11_wind 61 = .ok (.astore 5, 2) := by decide +kernel
theorem dX11_wind_63 : decode cX11_wind 63 = .ok (.aload 5, 2) := by decide +kernel
theorem dX11_wind_65 : decode cX11_wind 65 = .ok (.ifnull 9, 3) := by decide +kernel
theorem dX11_wind_68 : decode cX11_wind 68 = .ok (.aload 5, 2) := by decide +kernel
theorem dX11_wind_70 : decode cX11_wind 70 = .ok (.iload_n 1, 1) := by decide +kernel
theorem dX11_wind_71 : decode cX11_wind 71 = .ok (.invokevirtual 101, 3) := by decide +kernel
theorem dX11_wind_74 : decode cX11_wind 74 = .ok (.iinc 4 1, 3) := by decide +kernel
theorem dX11_wind_77 : decode cX11_wind 77 = .ok (.goto (-31), 3) := by decide +kernel
theorem dX11_wind_80 : decode cX11_wind 80 = .ok (.aload_n 0, 1) := by decide +kernel
theorem dX11_wind_81 : decode cX11_wind 81 = .ok (.getfield 10, 3) := by decide +kernel
theorem dX11_wind_84 : decode cX11_wind 84 = .ok (.getfield 94, 3) := by decide +kernel
theorem dX11_wind_87 : decode cX11_wind 87 = .ok (.ireturn, 1) := by decide +kernel
set_option maxRecDepth 20000 in
theorem ggX11_fog_X11_isSpan : GoodIn wsX11_fog wsX11_isSpan := goodIn_r _ [6] (by decide +kernel) (by decide +kernel)
set_option maxRecDepth 20000 in
theorem gX11_fog_X11_isSpan : GoodIn wsX11_fog (va_wsS RX11 86 yX11_isSpan wsX11_isSpan) := goodIn_app (goodIn_of _ (by decide +kernel)) ggX11_fog_X11_isSpan
set_option maxRecDepth 20000 in
theorem ggX11_fog_X10_tellFog : GoodIn wsX11_fog wsX10_tellFog := goodIn_r _ [11, 12, 13, 14, 15, 10, 16, 17, 18, 19, 20, 34, 35, 36, 37] (by decide +kernel) (by decide +kernel)
set_option maxRecDepth 20000 in
theorem gX11_fog_X10_tellFog : GoodIn wsX11_fog (wsV RX11 107 RX10 yX10_tellFog wsX10_tellFog) := goodIn_app (goodIn_of _ (by decide +kernel)) ggX11_fog_X10_tellFog
theorem dX11_fog_0 : decode cX11_fog 0 = .ok (.iload_n 1, 1) := by decide +kernel
theorem dX11_fog_1 : decode cX11_fog 1 = .ok (.iload_n 2, 1) := by decide +kernel
theorem dX11_fog_2 : decode cX11_fog 2 = .ok (.invokestatic 86, 3) := by decide +kernel
theorem dX11_fog_5 : decode cX11_fog 5 = .ok (.ifCond .eq 13, 3) := by decide +kernel
theorem dX11_fog_8 : decode cX11_fog 8 = .ok (.iload_n 3, 1) := by decide +kernel
theorem dX11_fog_9 : decode cX11_fog 9 = .ok (.ifCond .lt 9, 3) := by decide +kernel
theorem dX11_fog_12 : decode cX11_fog 12 = .ok (.iload_n 3, 1) := by decide +kernel
theorem dX11_fog_13 : decode cX11_fog 13 = .ok (.bipush 16, 2) := by decide +kernel
theorem dX11_fog_15 : decode cX11_fog 15 = .ok (.if_icmp .le 6, 3) := by decide +kernel
theorem dX11_fog_18 : decode cX11_fog 18 = .ok (.bipush (-2), 2) := by decide +kernel
theorem dX11_fog_20 : decode cX11_fog 20 = .ok (.ireturn, 1) := by decide +kernel
theorem dX11_fog_21 : decode cX11_fog 21 = .ok (.aload_n 0, 1) := by decide +kernel
theorem dX11_fog_22 : decode cX11_fog 22 = .ok (.getfield 10, 3) := by decide +kernel
theorem dX11_fog_25 : decode cX11_fog 25 = .ok (.getfield 104, 3) := by decide +kernel
theorem dX11_fog_28 : decode cX11_fog 28 = .ok (.bipush 30, 2) := by decide +kernel
theorem dX11_fog_30 : decode cX11_fog 30 = .ok (.if_icmp .lt 6, 3) := by decide +kernel
theorem dX11_fog_33 : decode cX11_fog 33 = .ok (.bipush (-4), 2) := by decide +kernel
theorem dX11_fog_35 : decode cX11_fog 35 = .ok (.ireturn, 1) := by decide +kernel
theorem dX11_fog_36 : decode cX11_fog 36 = .ok (.aload_n 0, 1) := by decide +kernel
theorem dX11_fog_37 : decode cX11_fog 37 = .ok (.getfield 10, 3) := by decide +kernel
theorem dX11_fog_40 : decode cX11_fog 40 = .ok (.iload_n 1, 1) := by decide +kernel
theorem dX11_fog_41 : decode cX11_fog 41 = .ok (.iload_n 2, 1) := by decide +kernel
theorem dX11_fog_42 : decode cX11_fog 42 = .ok (.iload_n 3, 1) := by decide +kernel
theorem dX11_fog_43 : decode cX11_fog 43 = .ok (.invokevirtual 107, 3) := by decide +kernel
theorem dX11_fog_46 : decode cX11_fog 46 = .ok (.aload_n 0, 1) := by decide +kernel
theorem dX11_fog_47 : decode cX11_fog 47 = .ok (.getfield 10, 3) := by decide +kernel
theorem dX11_fog_50 : decode cX11_fog 50 = .ok (.getfield 104, 3) := by decide +kernel
theorem dX11_fog_53 : decode cX11_fog 53 = .ok (.ireturn, 1) := by decide +kernel
set_option maxRecDepth 20000 in
theorem ggX11_body_X11_isCell : GoodIn wsX11_body wsX11_isCell := goodIn_r _ [10] (by decide +kernel) (by decide +kernel)
set_option maxRecDepth 20000 in
theorem gX11_body_X11_isCell : GoodIn wsX11_body (va_wsS RX11 110 yX11_isCell wsX11_isCell) := goodIn_app (goodIn_of _ (by decide +kernel)) ggX11_body_X11_isCell
set_option maxRecDepth 20000 in
theorem ggX11_body_X0_init : GoodIn wsX11_body wsX0_init := goodIn_r _ [13, 14, 15, 16, 17, 18, 19, 20, 21, 22, 23, 24, 25, 26, 27, 28, 29, 30, 31, 45, 46, 47, 48, 49, 50, 51, 52, 53, 54, 55, 56, 57, 58, 59] (by decide +kernel) (by decide +kernel)
set_option maxRecDepth 20000 in
theorem gX11_body_X0_init : GoodIn wsX11_body (wsX0_init) := ggX11_body_X0_init
theorem dX11_body_0 : decode cX11_body 0 = .ok (.iload_n 1, 1) := by decide +kernel
theorem dX11_body_1 : decode cX11_body 1 = .ok (.ifCond .lt 52, 3) := by decide +kernel
theorem dX11_body_4 : decode cX11_body 4 = .ok (.iload_n 1, 1) := by decide +kernel
theorem dX11_body_5 : decode cX11_body 5 = .ok (.bipush 6, 2) := by decide +kernel
theorem dX11_body_7 : decode cX11_body 7 = .ok (.if_icmp .ge 46, 3) := by decide +kernel
theorem dX11_body_10 : decode cX11_body 10 = .ok (.iload_n 2, 1) := by decide +kernel
theorem dX11_body_11 : decode cX11_body 11 = .ok (.invokestatic 110, 3) := by decide +kernel
theorem dX11_body_14 : decode cX11_body 14 = .ok (.ifCond .eq 39, 3) := by decide +kernel
theorem dX11_body_17 : decode cX11_body 17 = .ok (.iload_n 3, 1) := by decide +kernel
theorem dX11_body_18 : decode cX11_body 18 = .ok (.ifCond .lt 35, 3) := by decide +kernel
theorem dX11_body_21 : decode cX11_body 21 = .ok (.iload_n 3, 1) := by decide +kernel
theorem dX11_body_22 : decode cX11_body 22 = .ok (.bipush 20, 2) := by decide +kernel
theorem dX11_body_24 : decode cX11_body 24 = .ok (.if_icmp .gt 29, 3) := by decide +kernel
theorem dX11_body_27 : decode cX11_body 27 = .ok (.iload 4, 2) := by decide +kernel
theorem dX11_body_29 : decode cX11_body 29 = .ok (.ifCond .lt 24, 3) := by decide +kernel
theorem dX11_body_32 : decode cX11_body 32 = .ok (.iload 4, 2) := by decide +kernel
theorem dX11_body_34 : decode cX11_body 34 = .ok (.sipush 9999, 3) := by decide +kernel
theorem dX11_body_37 : decode cX11_body 37 = .ok (.if_icmp .gt 16, 3) := by decide +kernel
theorem dX11_body_40 : decode cX11_body 40 = .ok (.iload 5, 2) := by decide +kernel
theorem dX11_body_42 : decode cX11_body 42 = .ok (.ifCond .lt 11, 3) := by decide +kernel
theorem dX11_body_45 : decode cX11_body 45 = .ok (.iload 5, 2) := by decide +kernel
theorem dX11_body_47 : decode cX11_body 47 = .ok (.sipush 999, 3) := by decide +kernel
theorem dX11_body_50 : decode cX11_body 50 = .ok (.if_icmp .le 6, 3) := by decide +kernel
theorem dX11_body_53 : decode cX11_body 53 = .ok (.bipush (-2), 2) := by decide +kernel
theorem dX11_body_55 : decode cX11_body 55 = .ok (.ireturn, 1) := by decide +kernel
theorem dX11_body_56 : decode cX11_body 56 = .ok (.aload_n 0, 1) := by decide +kernel
theorem dX11_body_57 : decode cX11_body 57 = .ok (.getfield 75, 3) := by decide +kernel
theorem dX11_body_60 : decode cX11_body 60 = .ok (.bipush 12, 2) := by decide +kernel
theorem dX11_body_62 : decode cX11_body 62 = .ok (.if_icmp .lt 6, 3) := by decide +kernel
theorem dX11_body_65 : decode cX11_body 65 = .ok (.bipush (-4), 2) := by decide +kernel
theorem dX11_body_67 : decode cX11_body 67 = .ok (.ireturn, 1) := by decide +kernel
theorem dX11_body_68 : decode cX11_body 68 = .ok (.aload_n 0, 1) := by decide +kernel
theorem dX11_body_69 : decode cX11_body 69 = .ok (.getfield 18, 3) := by decide +kernel
theorem dX11_body_72 : decode cX11_body 72 = .ok (.aload_n 0, 1) := by decide +kernel
theorem dX11_body_73 : decode cX11_body 73 = .ok (.getfield 75, 3) := by decide +kernel
theorem dX11_body_76 : decode cX11_body 76 = .ok (.new 16, 3) := by decide +kernel
theorem dX11_body_79 : decode cX11_body 79 = .ok (.dup, 1) := by decide +kernel
theorem dX11_body_80 : decode cX11_body 80 = .ok (.iload_n 1, 1) := by decide +kernel
theorem dX11_body_81 : decode cX11_body 81 = .ok (.iload_n 2, 1) := by decide +kernel
theorem dX11_body_82 : decode cX11_body 82 = .ok (.aload_n 0, 1) := by decide +kernel
theorem dX11_body_83 : decode cX11_body 83 = .ok (.getfield 71, 3) := by decide +kernel
theorem dX11_body_86 : decode cX11_body 86 = .ok (.iload_n 3, 1) := by decide +kernel
theorem dX11_body_87 : decode cX11_body 87 = .ok (.iload 4, 2) := by decide +kernel
theorem dX11_body_89 : decode cX11_body 89 = .ok (.iload 5, 2) := by decide +kernel
theorem dX11_body_91 : decode cX11_body 91 = .ok (.invokespecial 113, 3) := by decide +kernel
theorem dX11_body_94 : decode cX11_body 94 = .ok (.aastore, 1) := by decide +kernel
theorem dX11_body_95 : decode cX11_body 95 = .ok (.aload_n 0, 1) := by decide +kernel
theorem dX11_body_96 : decode cX11_body 96 = .ok (.dup, 1) := by decide +kernel
theorem dX11_body_97 : decode cX11_body 97 = .ok (.getfield 75, 3) := by decide +kernel
theorem dX11_body_100 : decode cX11_body 100 = .ok (.dup_x1, 1) := by decide +kernel
theorem dX11_body_101 : decode cX11_body 101 = .ok (.iconst 1, 1) := by decide +kernel
theorem dX11_body_102 : decode cX11_body 102 = .ok (.iadd, 1) := by decide +kernel
theorem dX11_body_103 : decode cX11_body 103 = .ok (.putfield 75, 3) := by decide +kernel
theorem dX11_body_106 : decode cX11_body 106 = .ok (.ireturn, 1) := by decide +kernel
set_option maxRecDepth 20000 in
theorem ggX11_bodyTold_X11_bodyAt : GoodIn wsX11_bodyTold wsX11_bodyAt := goodIn_r _ [12, 13, 14, 47, 48, 49, 50, 51, 52, 53, 54, 55, 56, 57, 58, 59] (by decide +kernel) (by decide +kernel)
set_option maxRecDepth 20000 in
theorem gX11_bodyTold_X11_bodyAt : GoodIn wsX11_bodyTold (wsV RX11 78 RX11 yX11_bodyAt wsX11_bodyAt) := goodIn_app (goodIn_of _ (by decide +kernel)) ggX11_bodyTold_X11_bodyAt
set_option maxRecDepth 20000 in
theorem ggX11_bodyTold_X0_eats : GoodIn wsX11_bodyTold wsX0_eats := goodIn_r _ [19, 20, 21, 32, 33, 34, 35, 36, 37, 38, 39, 40, 41, 42, 43, 44, 45, 46] (by decide +kernel) (by decide +kernel)
set_option maxRecDepth 20000 in
theorem gX11_bodyTold_X0_eats : GoodIn wsX11_bodyTold (wsV RX11 134 RX0 yX0_eats wsX0_eats) := goodIn_app (goodIn_of _ (by decide +kernel)) ggX11_bodyTold_X0_eats
set_option maxRecDepth 20000 in
theorem ggX11_bodyTold_X0_burns : GoodIn wsX11_bodyTold wsX0_burns := goodIn_r _ [25, 21, 32, 33, 34, 35, 36, 37, 38, 39, 40, 41, 42, 43, 44, 45, 46] (by decide +kernel) (by decide +kernel)
set_option maxRecDepth 20000 in
theorem gX11_bodyTold_X0_burns : GoodIn wsX11_bodyTold (wsV RX11 138 RX0 yX0_burns wsX0_burns) := goodIn_app (goodIn_of _ (by decide +kernel)) ggX11_bodyTold_X0_burns
set_option maxRecDepth 20000 in
theorem ggX11_bodyTold_X0_foodLasts : GoodIn wsX11_bodyTold wsX0_foodLasts := goodIn_r _ [29, 30, 31, 16, 17, 18, 19, 20, 21, 32, 33, 34, 35, 36, 37, 38, 39, 40, 41, 42, 43, 44, 45, 46] (by decide +kernel) (by decide +kernel)
set_option maxRecDepth 20000 in
theorem gX11_bodyTold_X0_foodLasts : GoodIn wsX11_bodyTold (wsV RX11 141 RX0 yX0_foodLasts wsX0_foodLasts) := goodIn_app (goodIn_of _ (by decide +kernel)) ggX11_bodyTold_X0_foodLasts
theorem dX11_bodyTold_0 : decode cX11_bodyTold 0 = .ok (.aload_n 0, 1) := by decide +kernel
theorem dX11_bodyTold_1 : decode cX11_bodyTold 1 = .ok (.iload_n 1, 1) := by decide +kernel
theorem dX11_bodyTold_2 : decode cX11_bodyTold 2 = .ok (.invokevirtual 78, 3) := by decide +kernel
theorem dX11_bodyTold_5 : decode cX11_bodyTold 5 = .ok (.astore_n 3, 1) := by decide +kernel
theorem dX11_bodyTold_6 : decode cX11_bodyTold 6 = .ok (.aload_n 3, 1) := by decide +kernel
theorem dX11_bodyTold_7 : decode cX11_bodyTold 7 = .ok (.ifnonnull 6, 3) := by decide +kernel
theorem dX11_bodyTold_10 : decode cX11_bodyTold 10 = .ok (.bipush (-2), 2) := by decide +kernel
theorem dX11_bodyTold_12 : decode cX11_bodyTold 12 = .ok (.ireturn, 1) := by decide +kernel
theorem dX11_bodyTold_13 : decode cX11_bodyTold 13 = .ok (.iload_n 2, 1) := by decide +kernel
theorem dX11_bodyTold_14 : decode cX11_bodyTold 14 = .ok (.tableswitch 99 0 8 #[50, 55, 60, 65, 70, 75, 80, 85, 90], 50) := by decide +kernel
theorem dX11_bodyTold_64 : decode cX11_bodyTold 64 = .ok (.aload_n 3, 1) := by decide +kernel
theorem dX11_bodyTold_65 : decode cX11_bodyTold 65 = .ok (.getfield 116, 3) := by decide +kernel
theorem dX11_bodyTold_68 : decode cX11_bodyTold 68 = .ok (.ireturn, 1) := by decide +kernel
theorem dX11_bodyTold_69 : decode cX11_bodyTold 69 = .ok (.aload_n 3, 1) := by decide +kernel
theorem dX11_bodyTold_70 : decode cX11_bodyTold 70 = .ok (.getfield 119, 3) := by decide +kernel
theorem dX11_bodyTold_73 : decode cX11_bodyTold 73 = .ok (.ireturn, 1) := by decide +kernel
theorem dX11_bodyTold_74 : decode cX11_bodyTold 74 = .ok (.aload_n 3, 1) := by decide +kernel
theorem dX11_bodyTold_75 : decode cX11_bodyTold 75 = .ok (.getfield 122, 3) := by decide +kernel
theorem dX11_bodyTold_78 : decode cX11_bodyTold 78 = .ok (.ireturn, 1) := by decide +kernel
theorem dX11_bodyTold_79 : decode cX11_bodyTold 79 = .ok (.aload_n 3, 1) := by decide +kernel
theorem dX11_bodyTold_80 : decode cX11_bodyTold 80 = .ok (.getfield 125, 3) := by decide +kernel
theorem dX11_bodyTold_83 : decode cX11_bodyTold 83 = .ok (.ireturn, 1) := by decide +kernel
theorem dX11_bodyTold_84 : decode cX11_bodyTold 84 = .ok (.aload_n 3, 1) := by decide +kernel
theorem dX11_bodyTold_85 : decode cX11_bodyTold 85 = .ok (.getfield 128, 3) := by decide +kernel
theorem dX11_bodyTold_88 : decode cX11_bodyTold 88 = .ok (.ireturn, 1) := by decide +kernel
theorem dX11_bodyTold_89 : decode cX11_bodyTold 89 = .ok (.aload_n 3, 1) := by decide +kernel
theorem dX11_bodyTold_90 : decode cX11_bodyTold 90 = .ok (.getfield 131, 3) := by decide +kernel
theorem dX11_bodyTold_93 : decode cX11_bodyTold 93 = .ok (.ireturn, 1) := by decide +kernel
theorem dX11_bodyTold_94 : decode cX11_bodyTold 94 = .ok (.aload_n 3, 1) := by decide +kernel
theorem dX11_bodyTold_95 : decode cX11_bodyTold 95 = .ok (.invokevirtual 134, 3) := by decide +kernel
theorem dX11_bodyTold_98 : decode cX11_bodyTold 98 = .ok (.ireturn, 1) := by decide +kernel
theorem dX11_bodyTold_99 : decode cX11_bodyTold 99 = .ok (.aload_n 3, 1) := by decide +kernel
theorem dX11_bodyTold_100 : decode cX11_bodyTold 100 = .ok (.invokevirtual 138, 3) := by decide +kernel
theorem dX11_bodyTold_103 : decode cX11_bodyTold 103 = .ok (.ireturn, 1) := by decide +kernel
theorem dX11_bodyTold_104 : decode cX11_bodyTold 104 = .ok (.aload_n 3, 1) := by decide +kernel
theorem dX11_bodyTold_105 : decode cX11_bodyTold 105 = .ok (.aload_n 0, 1) := by decide +kernel
theorem dX11_bodyTold_106 : decode cX11_bodyTold 106 = .ok (.getfield 71, 3) := by decide +kernel
theorem dX11_bodyTold_109 : decode cX11_bodyTold 109 = .ok (.invokevirtual 141, 3) := by decide +kernel
theorem dX11_bodyTold_112 : decode cX11_bodyTold 112 = .ok (.ireturn, 1) := by decide +kernel
theorem dX11_bodyTold_113 : decode cX11_bodyTold 113 = .ok (.bipush (-2), 2) := by decide +kernel
theorem dX11_bodyTold_115 : decode cX11_bodyTold 115 = .ok (.ireturn, 1) := by decide +kernel
set_option maxRecDepth 20000 in
theorem ggX11_patch_X11_bodyAt : GoodIn wsX11_patch wsX11_bodyAt := goodIn_r _ [8, 9, 10, 72, 73, 74, 75, 76, 77, 78, 79, 80, 81, 82, 83, 84] (by decide +kernel) (by decide +kernel)
set_option maxRecDepth 20000 in
theorem gX11_patch_X11_bodyAt : GoodIn wsX11_patch (wsV RX11 78 RX11 yX11_bodyAt wsX11_bodyAt) := goodIn_app (goodIn_of _ (by decide +kernel)) ggX11_patch_X11_bodyAt
set_option maxRecDepth 20000 in
theorem ggX11_patch_X11_isPast : GoodIn wsX11_patch wsX11_isPast := goodIn_r _ [14, 15, 72, 73, 74, 75, 76, 77, 78, 79, 80, 81, 82, 83, 84] (by decide +kernel) (by decide +kernel)
set_option maxRecDepth 20000 in
theorem gX11_patch_X11_isPast : GoodIn wsX11_patch (wsV RX11 145 RX11 yX11_isPast wsX11_isPast) := goodIn_app (goodIn_of _ (by decide +kernel)) ggX11_patch_X11_isPast
set_option maxRecDepth 20000 in
theorem ggX11_patch_X0_placesKnown : GoodIn wsX11_patch wsX0_placesKnown := goodIn_r _ [20, 21, 22, 23, 24, 25, 26, 27, 19, 28, 29, 30, 31, 32, 33, 34, 35, 36, 37, 38, 39, 40, 41, 42, 43, 44, 45, 46, 7, 47, 48, 49, 50, 51, 52, 53, 54, 55, 56, 57, 58, 59, 60, 61, 62, 63, 64, 65, 66, 67, 68, 69, 70, 71, 85, 86, 87, 88] (by decide +kernel) (by decide +kernel)
set_option maxRecDepth 20000 in
theorem gX11_patch_X0_placesKnown : GoodIn wsX11_patch (wsV RX11 150 RX0 yX0_placesKnown wsX0_placesKnown) := goodIn_app (goodIn_of _ (by decide +kernel)) ggX11_patch_X0_placesKnown
theorem dX11_patch_0 : decode cX11_patch 0 = .ok (.aload_n 0, 1) := by decide +kernel
theorem dX11_patch_1 : decode cX11_patch 1 = .ok (.iload_n 1, 1) := by decide +kernel
theorem dX11_patch_2 : decode cX11_patch 2 = .ok (.invokevirtual 78, 3) := by decide +kernel
theorem dX11_patch_5 : decode cX11_patch 5 = .ok (.astore 4, 2) := by decide +kernel
theorem dX11_patch_7 : decode cX11_patch 7 = .ok (.aload 4, 2) := by decide +kernel
theorem dX11_patch_9 : decode cX11_patch 9 = .ok (.ifnull 27, 3) := by decide +kernel
theorem dX11_patch_12 : decode cX11_patch 12 = .ok (.iload_n 2, 1) := by decide +kernel
theorem dX11_patch_13 : decode cX11_patch 13 = .ok (.aload 4, 2) := by decide +kernel
theorem dX11_patch_15 : decode cX11_patch 15 = .ok (.getfield 122, 3) := by decide +kernel
theorem dX11_patch_18 : decode cX11_patch 18 = .ok (.if_icmp .lt 18, 3) := by decide +kernel
theorem dX11_patch_21 : decode cX11_patch 21 = .ok (.iload_n 2, 1) := by decide +kernel
theorem dX11_patch_22 : decode cX11_patch 22 = .ok (.sipush 240, 3) := by decide +kernel
theorem dX11_patch_25 : decode cX11_patch 25 = .ok (.if_icmp .ge 11, 3) := by decide +kernel
theorem dX11_patch_28 : decode cX11_patch 28 = .ok (.aload_n 0, 1) := by decide +kernel
theorem dX11_patch_29 : decode cX11_patch 29 = .ok (.iload_n 3, 1) := by decide +kernel
theorem dX11_patch_30 : decode cX11_patch 30 = .ok (.invokevirtual 145, 3) := by decide +kernel
theorem dX11_patch_33 : decode cX11_patch 33 = .ok (.ifCond .ne 7, 3) := by decide +kernel
theorem dX11_patch_36 : decode cX11_patch 36 = .ok (.ldc2_w 148, 3) := by decide +kernel
theorem dX11_patch_39 : decode cX11_patch 39 = .ok (.lreturn, 1) := by decide +kernel
theorem dX11_patch_40 : decode cX11_patch 40 = .ok (.aload 4, 2) := by decide +kernel
theorem dX11_patch_42 : decode cX11_patch 42 = .ok (.aload_n 0, 1) := by decide +kernel
theorem dX11_patch_43 : decode cX11_patch 43 = .ok (.getfield 10, 3) := by decide +kernel
theorem dX11_patch_46 : decode cX11_patch 46 = .ok (.iload_n 2, 1) := by decide +kernel
theorem dX11_patch_47 : decode cX11_patch 47 = .ok (.iload_n 3, 1) := by decide +kernel
theorem dX11_patch_48 : decode cX11_patch 48 = .ok (.invokevirtual 150, 3) := by decide +kernel
theorem dX11_patch_51 : decode cX11_patch 51 = .ok (.lreturn, 1) := by decide +kernel
set_option maxRecDepth 20000 in
theorem ggX11_fix_X11_bodyAt : GoodIn wsX11_fix wsX11_bodyAt := goodIn_r _ [8, 9, 10, 48, 49, 50, 51, 52, 53, 54, 55, 56, 57, 58, 59, 60] (by decide +kernel) (by decide +kernel)
set_option maxRecDepth 20000 in
theorem gX11_fix_X11_bodyAt : GoodIn wsX11_fix (wsV RX11 78 RX11 yX11_bodyAt wsX11_bodyAt) := goodIn_app (goodIn_of _ (by decide +kernel)) ggX11_fix_X11_bodyAt
set_option maxRecDepth 20000 in
theorem ggX11_fix_X0_narrowBy : GoodIn wsX11_fix wsX0_narrowBy := goodIn_r _ [15, 16, 17, 18, 19, 20, 21, 22, 14, 23, 24, 25, 26, 27, 28, 29, 30, 31, 32, 33, 34, 35, 36, 37, 38, 39, 40, 41, 42, 43, 44, 45, 46, 47] (by decide +kernel) (by decide +kernel)
set_option maxRecDepth 20000 in
theorem gX11_fix_X0_narrowBy : GoodIn wsX11_fix (wsV RX11 157 RX0 yX0_narrowBy wsX0_narrowBy) := goodIn_app (goodIn_of _ (by decide +kernel)) ggX11_fix_X0_narrowBy
theorem dX11_fix_0 : decode cX11_fix 0 = .ok (.aload_n 0, 1) := by decide +kernel
theorem dX11_fix_1 : decode cX11_fix 1 = .ok (.iload_n 1, 1) := by decide +kernel
theorem dX11_fix_2 : decode cX11_fix 2 = .ok (.invokevirtual 78, 3) := by decide +kernel
theorem dX11_fix_5 : decode cX11_fix 5 = .ok (.astore 5, 2) := by decide +kernel
theorem dX11_fix_7 : decode cX11_fix 7 = .ok (.aload 5, 2) := by decide +kernel
theorem dX11_fix_9 : decode cX11_fix 9 = .ok (.ifnull 20, 3) := by decide +kernel
theorem dX11_fix_12 : decode cX11_fix 12 = .ok (.iload_n 2, 1) := by decide +kernel
theorem dX11_fix_13 : decode cX11_fix 13 = .ok (.aload 5, 2) := by decide +kernel
theorem dX11_fix_15 : decode cX11_fix 15 = .ok (.getfield 122, 3) := by decide +kernel
theorem dX11_fix_18 : decode cX11_fix 18 = .ok (.if_icmp .lt 11, 3) := by decide +kernel
theorem dX11_fix_21 : decode cX11_fix 21 = .ok (.iload_n 2, 1) := by decide +kernel
theorem dX11_fix_22 : decode cX11_fix 22 = .ok (.aload_n 0, 1) := by decide +kernel
theorem dX11_fix_23 : decode cX11_fix 23 = .ok (.getfield 71, 3) := by decide +kernel
theorem dX11_fix_26 : decode cX11_fix 26 = .ok (.if_icmp .le 6, 3) := by decide +kernel
theorem dX11_fix_29 : decode cX11_fix 29 = .ok (.bipush (-2), 2) := by decide +kernel
theorem dX11_fix_31 : decode cX11_fix 31 = .ok (.ireturn, 1) := by decide +kernel
theorem dX11_fix_32 : decode cX11_fix 32 = .ok (.aload_n 0, 1) := by decide +kernel
theorem dX11_fix_33 : decode cX11_fix 33 = .ok (.getfield 154, 3) := by decide +kernel
theorem dX11_fix_36 : decode cX11_fix 36 = .ok (.bipush 40, 2) := by decide +kernel
theorem dX11_fix_38 : decode cX11_fix 38 = .ok (.if_icmp .lt 6, 3) := by decide +kernel
theorem dX11_fix_41 : decode cX11_fix 41 = .ok (.bipush (-4), 2) := by decide +kernel
theorem dX11_fix_43 : decode cX11_fix 43 = .ok (.ireturn, 1) := by decide +kernel
theorem dX11_fix_44 : decode cX11_fix 44 = .ok (.aload 5, 2) := by decide +kernel
theorem dX11_fix_46 : decode cX11_fix 46 = .ok (.iload_n 2, 1) := by decide +kernel
theorem dX11_fix_47 : decode cX11_fix 47 = .ok (.aload_n 0, 1) := by decide +kernel
theorem dX11_fix_48 : decode cX11_fix 48 = .ok (.getfield 71, 3) := by decide +kernel
theorem dX11_fix_51 : decode cX11_fix 51 = .ok (.lload_n 3, 1) := by decide +kernel
theorem dX11_fix_52 : decode cX11_fix 52 = .ok (.invokevirtual 157, 3) := by decide +kernel
theorem dX11_fix_55 : decode cX11_fix 55 = .ok (.aload_n 0, 1) := by decide +kernel
theorem dX11_fix_56 : decode cX11_fix 56 = .ok (.dup, 1) := by decide +kernel
theorem dX11_fix_57 : decode cX11_fix 57 = .ok (.getfield 154, 3) := by decide +kernel
theorem dX11_fix_60 : decode cX11_fix 60 = .ok (.iconst 1, 1) := by decide +kernel
theorem dX11_fix_61 : decode cX11_fix 61 = .ok (.iadd, 1) := by decide +kernel
theorem dX11_fix_62 : decode cX11_fix 62 = .ok (.dup_x1, 1) := by decide +kernel
theorem dX11_fix_63 : decode cX11_fix 63 = .ok (.putfield 154, 3) := by decide +kernel
theorem dX11_fix_66 : decode cX11_fix 66 = .ok (.ireturn, 1) := by decide +kernel
set_option maxRecDepth 20000 in
theorem ggX11_hearer_X11_isCell : GoodIn wsX11_hearer wsX11_isCell := goodIn_r _ [6] (by decide +kernel) (by decide +kernel)
set_option maxRecDepth 20000 in
theorem gX11_hearer_X11_isCell : GoodIn wsX11_hearer (va_wsS RX11 110 yX11_isCell wsX11_isCell) := goodIn_app (goodIn_of _ (by decide +kernel)) ggX11_hearer_X11_isCell
set_option maxRecDepth 20000 in
theorem ggX11_hearer_X4_addHearer : GoodIn wsX11_hearer wsX4_addHearer := goodIn_r _ [11, 12, 13, 27, 28, 29, 30, 31, 32, 33, 34, 35, 36, 37, 38, 39] (by decide +kernel) (by decide +kernel)
set_option maxRecDepth 20000 in
theorem gX11_hearer_X4_addHearer : GoodIn wsX11_hearer (wsV RX11 164 RX4 yX4_addHearer wsX4_addHearer) := goodIn_app (goodIn_of _ (by decide +kernel)) ggX11_hearer_X4_addHearer
theorem dX11_hearer_0 : decode cX11_hearer 0 = .ok (.iload_n 1, 1) := by decide +kernel
theorem dX11_hearer_1 : decode cX11_hearer 1 = .ok (.invokestatic 110, 3) := by decide +kernel
theorem dX11_hearer_4 : decode cX11_hearer 4 = .ok (.ifCond .ne 6, 3) := by decide +kernel
theorem dX11_hearer_7 : decode cX11_hearer 7 = .ok (.bipush (-2), 2) := by decide +kernel
theorem dX11_hearer_9 : decode cX11_hearer 9 = .ok (.ireturn, 1) := by decide +kernel
theorem dX11_hearer_10 : decode cX11_hearer 10 = .ok (.aload_n 0, 1) := by decide +kernel
theorem dX11_hearer_11 : decode cX11_hearer 11 = .ok (.getfield 25, 3) := by decide +kernel
theorem dX11_hearer_14 : decode cX11_hearer 14 = .ok (.getfield 161, 3) := by decide +kernel
theorem dX11_hearer_17 : decode cX11_hearer 17 = .ok (.bipush 6, 2) := by decide +kernel
theorem dX11_hearer_19 : decode cX11_hearer 19 = .ok (.if_icmp .lt 6, 3) := by decide +kernel
theorem dX11_hearer_22 : decode cX11_hearer 22 = .ok (.bipush (-4), 2) := by decide +kernel
theorem dX11_hearer_24 : decode cX11_hearer 24 = .ok (.ireturn, 1) := by decide +kernel
theorem dX11_hearer_25 : decode cX11_hearer 25 = .ok (.aload_n 0, 1) := by decide +kernel
theorem dX11_hearer_26 : decode cX11_hearer 26 = .ok (.getfield 25, 3) := by decide +kernel
theorem dX11_hearer_29 : decode cX11_hearer 29 = .ok (.iload_n 1, 1) := by decide +kernel
theorem dX11_hearer_30 : decode cX11_hearer 30 = .ok (.invokevirtual 164, 3) := by decide +kernel
theorem dX11_hearer_33 : decode cX11_hearer 33 = .ok (.ireturn, 1) := by decide +kernel
set_option maxRecDepth 20000 in
theorem ggX11_wave_X4_setWave : GoodIn wsX11_wave wsX4_setWave := goodIn_r _ [6, 7, 8, 22, 23, 24, 25, 26, 27, 28, 29, 30, 31, 32, 33, 34] (by decide +kernel) (by decide +kernel)
set_option maxRecDepth 20000 in
theorem gX11_wave_X4_setWave : GoodIn wsX11_wave (wsV RX11 167 RX4 yX4_setWave wsX4_setWave) := goodIn_app (goodIn_of _ (by decide +kernel)) ggX11_wave_X4_setWave
theorem dX11_wave_0 : decode cX11_wave 0 = .ok (.iload_n 1, 1) := by decide +kernel
theorem dX11_wave_1 : decode cX11_wave 1 = .ok (.ifCond .lt 40, 3) := by decide +kernel
theorem dX11_wave_4 : decode cX11_wave 4 = .ok (.iload_n 1, 1) := by decide +kernel
theorem dX11_wave_5 : decode cX11_wave 5 = .ok (.iconst 4, 1) := by decide +kernel
theorem dX11_wave_6 : decode cX11_wave 6 = .ok (.if_icmp .ge 35, 3) := by decide +kernel
theorem dX11_wave_9 : decode cX11_wave 9 = .ok (.iload_n 2, 1) := by decide +kernel
theorem dX11_wave_10 : decode cX11_wave 10 = .ok (.ifCond .lt 31, 3) := by decide +kernel
theorem dX11_wave_13 : decode cX11_wave 13 = .ok (.iload_n 2, 1) := by decide +kernel
theorem dX11_wave_14 : decode cX11_wave 14 = .ok (.iconst 1, 1) := by decide +kernel
theorem dX11_wave_15 : decode cX11_wave 15 = .ok (.if_icmp .gt 26, 3) := by decide +kernel
theorem dX11_wave_18 : decode cX11_wave 18 = .ok (.iload_n 3, 1) := by decide +kernel
theorem dX11_wave_19 : decode cX11_wave 19 = .ok (.ifCond .lt 22, 3) := by decide +kernel
theorem dX11_wave_22 : decode cX11_wave 22 = .ok (.iload_n 3, 1) := by decide +kernel
theorem dX11_wave_23 : decode cX11_wave 23 = .ok (.bipush 9, 2) := by decide +kernel
theorem dX11_wave_25 : decode cX11_wave 25 = .ok (.if_icmp .gt 16, 3) := by decide +kernel
theorem dX11_wave_28 : decode cX11_wave 28 = .ok (.iload 4, 2) := by decide +kernel
theorem dX11_wave_30 : decode cX11_wave 30 = .ok (.iload_n 3, 1) := by decide +kernel
theorem dX11_wave_31 : decode cX11_wave 31 = .ok (.if_icmp .lt 10, 3) := by decide +kernel
theorem dX11_wave_34 : decode cX11_wave 34 = .ok (.iload 4, 2) := by decide +kernel
theorem dX11_wave_36 : decode cX11_wave 36 = .ok (.bipush 9, 2) := by decide +kernel
theorem dX11_wave_38 : decode cX11_wave 38 = .ok (.if_icmp .le 6, 3) := by decide +kernel
theorem dX11_wave_41 : decode cX11_wave 41 = .ok (.bipush (-2), 2) := by decide +kernel
theorem dX11_wave_43 : decode cX11_wave 43 = .ok (.ireturn, 1) := by decide +kernel
theorem dX11_wave_44 : decode cX11_wave 44 = .ok (.aload_n 0, 1) := by decide +kernel
theorem dX11_wave_45 : decode cX11_wave 45 = .ok (.getfield 25, 3) := by decide +kernel
theorem dX11_wave_48 : decode cX11_wave 48 = .ok (.iconst 2, 1) := by decide +kernel
theorem dX11_wave_49 : decode cX11_wave 49 = .ok (.iload_n 1, 1) := by decide +kernel
theorem dX11_wave_50 : decode cX11_wave 50 = .ok (.imul, 1) := by decide +kernel
theorem dX11_wave_51 : decode cX11_wave 51 = .ok (.iload_n 2, 1) := by decide +kernel
theorem dX11_wave_52 : decode cX11_wave 52 = .ok (.iadd, 1) := by decide +kernel
theorem dX11_wave_53 : decode cX11_wave 53 = .ok (.iload_n 3, 1) := by decide +kernel
theorem dX11_wave_54 : decode cX11_wave 54 = .ok (.iload 4, 2) := by decide +kernel
theorem dX11_wave_56 : decode cX11_wave 56 = .ok (.invokevirtual 167, 3) := by decide +kernel
theorem dX11_wave_59 : decode cX11_wave 59 = .ok (.ireturn, 1) := by decide +kernel
set_option maxRecDepth 20000 in
theorem ggX11_call_X11_bodyAt : GoodIn wsX11_call wsX11_bodyAt := goodIn_r _ [8, 9, 10, 21, 22, 23, 24, 25, 26, 27, 28, 29, 30, 31, 32, 33] (by decide +kernel) (by decide +kernel)
set_option maxRecDepth 20000 in
theorem gX11_call_X11_bodyAt : GoodIn wsX11_call (wsV RX11 78 RX11 yX11_bodyAt wsX11_bodyAt) := goodIn_app (goodIn_of _ (by decide +kernel)) ggX11_call_X11_bodyAt
set_option maxRecDepth 20000 in
theorem ggX11_call_X4_addCall : GoodIn wsX11_call wsX4_addCall := goodIn_r _ [15, 16, 17, 18, 19, 20, 34, 35, 36, 37, 38, 39, 40, 41, 42, 43, 44, 45, 46] (by decide +kernel) (by decide +kernel)
set_option maxRecDepth 20000 in
theorem gX11_call_X4_addCall : GoodIn wsX11_call (wsV RX11 174 RX4 yX4_addCall wsX4_addCall) := goodIn_app (goodIn_of _ (by decide +kernel)) ggX11_call_X4_addCall
theorem dX11_call_0 : decode cX11_call 0 = .ok (.aload_n 0, 1) := by decide +kernel
theorem dX11_call_1 : decode cX11_call 1 = .ok (.iload_n 1, 1) := by decide +kernel
theorem dX11_call_2 : decode cX11_call 2 = .ok (.invokevirtual 78, 3) := by decide +kernel
theorem dX11_call_5 : decode cX11_call 5 = .ok (.ifnull 12, 3) := by decide +kernel
theorem dX11_call_8 : decode cX11_call 8 = .ok (.iload_n 2, 1) := by decide +kernel
theorem dX11_call_9 : decode cX11_call 9 = .ok (.ifCond .lt 8, 3) := by decide +kernel
theorem dX11_call_12 : decode cX11_call 12 = .ok (.iload_n 2, 1) := by decide +kernel
theorem dX11_call_13 : decode cX11_call 13 = .ok (.iconst 4, 1) := by decide +kernel
theorem dX11_call_14 : decode cX11_call 14 = .ok (.if_icmp .lt 6, 3) := by decide +kernel
theorem dX11_call_17 : decode cX11_call 17 = .ok (.bipush (-2), 2) := by decide +kernel
theorem dX11_call_19 : decode cX11_call 19 = .ok (.ireturn, 1) := by decide +kernel
theorem dX11_call_20 : decode cX11_call 20 = .ok (.aload_n 0, 1) := by decide +kernel
theorem dX11_call_21 : decode cX11_call 21 = .ok (.getfield 25, 3) := by decide +kernel
theorem dX11_call_24 : decode cX11_call 24 = .ok (.getfield 171, 3) := by decide +kernel
theorem dX11_call_27 : decode cX11_call 27 = .ok (.bipush 20, 2) := by decide +kernel
theorem dX11_call_29 : decode cX11_call 29 = .ok (.if_icmp .lt 6, 3) := by decide +kernel
theorem dX11_call_32 : decode cX11_call 32 = .ok (.bipush (-4), 2) := by decide +kernel
theorem dX11_call_34 : decode cX11_call 34 = .ok (.ireturn, 1) := by decide +kernel
theorem dX11_call_35 : decode cX11_call 35 = .ok (.aload_n 0, 1) := by decide +kernel
theorem dX11_call_36 : decode cX11_call 36 = .ok (.getfield 25, 3) := by decide +kernel
theorem dX11_call_39 : decode cX11_call 39 = .ok (.iload_n 1, 1) := by decide +kernel
theorem dX11_call_40 : decode cX11_call 40 = .ok (.iload_n 2, 1) := by decide +kernel
theorem dX11_call_41 : decode cX11_call 41 = .ok (.aload_n 0, 1) := by decide +kernel
theorem dX11_call_42 : decode cX11_call 42 = .ok (.getfield 71, 3) := by decide +kernel
theorem dX11_call_45 : decode cX11_call 45 = .ok (.lload_n 3, 1) := by decide +kernel
theorem dX11_call_46 : decode cX11_call 46 = .ok (.invokevirtual 174, 3) := by decide +kernel
theorem dX11_call_49 : decode cX11_call 49 = .ok (.ireturn, 1) := by decide +kernel
set_option maxRecDepth 20000 in
theorem ggX11_canHear_X4_hasCall : GoodIn wsX11_canHear wsX4_hasCall := goodIn_r _ [9, 10, 98, 99, 100, 101, 102, 103, 104, 105, 106, 107, 108, 109, 110] (by decide +kernel) (by decide +kernel)
set_option maxRecDepth 20000 in
theorem gX11_canHear_X4_hasCall : GoodIn wsX11_canHear (wsV RX11 178 RX4 yX4_hasCall wsX4_hasCall) := goodIn_app (goodIn_of _ (by decide +kernel)) ggX11_canHear_X4_hasCall
set_option maxRecDepth 20000 in
theorem ggX11_canHear_X11_isPast : GoodIn wsX11_canHear wsX11_isPast := goodIn_r _ [15, 16, 85, 86, 87, 88, 89, 90, 91, 92, 93, 94, 95, 96, 97] (by decide +kernel) (by decide +kernel)
set_option maxRecDepth 20000 in
theorem gX11_canHear_X11_isPast : GoodIn wsX11_canHear (wsV RX11 145 RX11 yX11_isPast wsX11_isPast) := goodIn_app (goodIn_of _ (by decide +kernel)) ggX11_canHear_X11_isPast
set_option maxRecDepth 20000 in
theorem ggX11_canHear_X11_bodyAt : GoodIn wsX11_canHear wsX11_bodyAt := goodIn_r _ [20, 21, 22, 85, 86, 87, 88, 89, 90, 91, 92, 93, 94, 95, 96, 97] (by decide +kernel) (by decide +kernel)
set_option maxRecDepth 20000 in
theorem gX11_canHear_X11_bodyAt : GoodIn wsX11_canHear (wsV RX11 78 RX11 yX11_bodyAt wsX11_bodyAt) := goodIn_app (goodIn_of _ (by decide +kernel)) ggX11_canHear_X11_bodyAt
set_option maxRecDepth 20000 in
theorem ggX11_canHear_X0_placesKnown : GoodIn wsX11_canHear wsX0_placesKnown := goodIn_r _ [27, 28, 29, 30, 31, 32, 33, 34, 26, 35, 36, 37, 38, 39, 40, 41, 42, 43, 44, 45, 46, 47, 48, 49, 50, 51, 52, 53, 14, 54, 55, 56, 57, 58, 59, 60, 61, 62, 63, 111, 112, 113, 114, 115, 116, 117, 118, 119, 120, 121, 122, 123, 124, 125, 126, 127, 128, 129] (by decide +kernel) (by decide +kernel)
set_option maxRecDepth 20000 in
theorem gX11_canHear_X0_placesKnown : GoodIn wsX11_canHear (wsV RX11 150 RX0 yX0_placesKnown wsX0_placesKnown) := goodIn_app (goodIn_of _ (by decide +kernel)) ggX11_canHear_X0_placesKnown
set_option maxRecDepth 20000 in
theorem ggX11_canHear_X4_hearersOf : GoodIn wsX11_canHear wsX4_hearersOf := goodIn_r _ [67, 68, 69, 70, 71, 72, 73, 74, 75, 8, 76, 77, 14, 78, 79, 80, 40, 81, 82, 39, 41, 83, 84, 98, 99, 100, 101, 102, 103, 104, 105, 106, 107, 108, 109, 110] (by decide +kernel) (by decide +kernel)
set_option maxRecDepth 20000 in
theorem gX11_canHear_X4_hearersOf : GoodIn wsX11_canHear (wsV RX11 188 RX4 yX4_hearersOf wsX4_hearersOf) := goodIn_app (goodIn_of _ (by decide +kernel)) ggX11_canHear_X4_hearersOf
theorem dX11_canHear_0 : decode cX11_canHear 0 = .ok (.aload_n 0, 1) := by decide +kernel
theorem dX11_canHear_1 : decode cX11_canHear 1 = .ok (.getfield 25, 3) := by decide +kernel
theorem dX11_canHear_4 : decode cX11_canHear 4 = .ok (.iload_n 1, 1) := by decide +kernel
theorem dX11_canHear_5 : decode cX11_canHear 5 = .ok (.invokevirtual 178, 3) := by decide +kernel
theorem dX11_canHear_8 : decode cX11_canHear 8 = .ok (.ifCond .eq 11, 3) := by decide +kernel
theorem dX11_canHear_11 : decode cX11_canHear 11 = .ok (.aload_n 0, 1) := by decide +kernel
theorem dX11_canHear_12 : decode cX11_canHear 12 = .ok (.iload_n 2, 1) := by decide +kernel
theorem dX11_canHear_13 : decode cX11_canHear 13 = .ok (.invokevirtual 145, 3) := by decide +kernel
theorem dX11_canHear_16 : decode cX11_canHear 16 = .ok (.ifCond .ne 6, 3) := by decide +kernel
theorem dX11_canHear_19 : decode cX11_canHear 19 = .ok (.bipush (-2), 2) := by decide +kernel
theorem dX11_canHear_21 : decode cX11_canHear 21 = .ok (.ireturn, 1) := by decide +kernel
theorem dX11_canHear_22 : decode cX11_canHear 22 = .ok (.aload_n 0, 1) := by decide +kernel
theorem dX11_canHear_23 : decode cX11_canHear 23 = .ok (.aload_n 0, 1) := by decide +kernel
theorem dX11_canHear_24 : decode cX11_canHear 24 = .ok (.getfield 25, 3) := by decide +kernel
theorem dX11_canHear_27 : decode cX11_canHear 27 = .ok (.getfield 181, 3) := by decide +kernel
theorem dX11_canHear_30 : decode cX11_canHear 30 = .ok (.iload_n 1, 1) := by decide +kernel
theorem dX11_canHear_31 : decode cX11_canHear 31 = .ok (.iaload, 1) := by decide +kernel
theorem dX11_canHear_32 : decode cX11_canHear 32 = .ok (.invokevirtual 78, 3) := by decide +kernel
theorem dX11_canHear_35 : decode cX11_canHear 35 = .ok (.astore_n 3, 1) := by decide +kernel
theorem dX11_canHear_36 : decode cX11_canHear 36 = .ok (.aload_n 3, 1) := by decide +kernel
theorem dX11_canHear_37 : decode cX11_canHear 37 = .ok (.ifnonnull 6, 3) := by decide +kernel
theorem dX11_canHear_40 : decode cX11_canHear 40 = .ok (.bipush (-2), 2) := by decide +kernel
theorem dX11_canHear_42 : decode cX11_canHear 42 = .ok (.ireturn, 1) := by decide +kernel
theorem dX11_canHear_43 : decode cX11_canHear 43 = .ok (.aload_n 0, 1) := by decide +kernel
theorem dX11_canHear_44 : decode cX11_canHear 44 = .ok (.getfield 25, 3) := by decide +kernel
theorem dX11_canHear_47 : decode cX11_canHear 47 = .ok (.iload_n 1, 1) := by decide +kernel
theorem dX11_canHear_48 : decode cX11_canHear 48 = .ok (.aload_n 3, 1) := by decide +kernel
theorem dX11_canHear_49 : decode cX11_canHear 49 = .ok (.aload_n 0, 1) := by decide +kernel
theorem dX11_canHear_50 : decode cX11_canHear 50 = .ok (.getfield 10, 3) := by decide +kernel
theorem dX11_canHear_53 : decode cX11_canHear 53 = .ok (.aload_n 0, 1) := by decide +kernel
theorem dX11_canHear_54 : decode cX11_canHear 54 = .ok (.getfield 25, 3) := by decide +kernel
theorem dX11_canHear_57 : decode cX11_canHear 57 = .ok (.getfield 185, 3) := by decide +kernel
theorem dX11_canHear_60 : decode cX11_canHear 60 = .ok (.iload_n 1, 1) := by decide +kernel
theorem dX11_canHear_61 : decode cX11_canHear 61 = .ok (.iaload, 1) := by decide +kernel
theorem dX11_canHear_62 : decode cX11_canHear 62 = .ok (.iload_n 2, 1) := by decide +kernel
theorem dX11_canHear_63 : decode cX11_canHear 63 = .ok (.invokevirtual 150, 3) := by decide +kernel
theorem dX11_canHear_66 : decode cX11_canHear 66 = .ok (.invokevirtual 188, 3) := by decide +kernel
theorem dX11_canHear_69 : decode cX11_canHear 69 = .ok (.ireturn, 1) := by decide +kernel
set_option maxRecDepth 20000 in
theorem ggX11_part_X4_hasCall : GoodIn wsX11_part wsX4_hasCall := goodIn_r _ [9, 10, 32, 33, 34, 35, 36, 37, 38, 39, 40, 41, 42, 43, 44] (by decide +kernel) (by decide +kernel)
set_option maxRecDepth 20000 in
theorem gX11_part_X4_hasCall : GoodIn wsX11_part (wsV RX11 178 RX4 yX4_hasCall wsX4_hasCall) := goodIn_app (goodIn_of _ (by decide +kernel)) ggX11_part_X4_hasCall
set_option maxRecDepth 20000 in
theorem ggX11_part_X4_addPart : GoodIn wsX11_part wsX4_addPart := goodIn_r _ [14, 15, 16, 17, 18, 32, 33, 34, 35, 36, 37, 38, 39, 40, 41, 42, 43, 44] (by decide +kernel) (by decide +kernel)
set_option maxRecDepth 20000 in
theorem gX11_part_X4_addPart : GoodIn wsX11_part (wsV RX11 196 RX4 yX4_addPart wsX4_addPart) := goodIn_app (goodIn_of _ (by decide +kernel)) ggX11_part_X4_addPart
theorem dX11_part_0 : decode cX11_part 0 = .ok (.iload_n 1, 1) := by decide +kernel
theorem dX11_part_1 : decode cX11_part 1 = .ok (.ifCond .lt 35, 3) := by decide +kernel
theorem dX11_part_4 : decode cX11_part 4 = .ok (.iload_n 1, 1) := by decide +kernel
theorem dX11_part_5 : decode cX11_part 5 = .ok (.aload_n 0, 1) := by decide +kernel
theorem dX11_part_6 : decode cX11_part 6 = .ok (.getfield 25, 3) := by decide +kernel
theorem dX11_part_9 : decode cX11_part 9 = .ok (.getfield 161, 3) := by decide +kernel
theorem dX11_part_12 : decode cX11_part 12 = .ok (.if_icmp .ge 24, 3) := by decide +kernel
theorem dX11_part_15 : decode cX11_part 15 = .ok (.aload_n 0, 1) := by decide +kernel
theorem dX11_part_16 : decode cX11_part 16 = .ok (.getfield 25, 3) := by decide +kernel
theorem dX11_part_19 : decode cX11_part 19 = .ok (.iload_n 2, 1) := by decide +kernel
theorem dX11_part_20 : decode cX11_part 20 = .ok (.invokevirtual 178, 3) := by decide +kernel
theorem dX11_part_23 : decode cX11_part 23 = .ok (.ifCond .eq 13, 3) := by decide +kernel
theorem dX11_part_26 : decode cX11_part 26 = .ok (.iload_n 3, 1) := by decide +kernel
theorem dX11_part_27 : decode cX11_part 27 = .ok (.ifCond .lt 9, 3) := by decide +kernel
theorem dX11_part_30 : decode cX11_part 30 = .ok (.iload_n 3, 1) := by decide +kernel
theorem dX11_part_31 : decode cX11_part 31 = .ok (.ldc 192, 2) := by decide +kernel
theorem dX11_part_33 : decode cX11_part 33 = .ok (.if_icmp .lt 6, 3) := by decide +kernel
theorem dX11_part_36 : decode cX11_part 36 = .ok (.bipush (-2), 2) := by decide +kernel
theorem dX11_part_38 : decode cX11_part 38 = .ok (.ireturn, 1) := by decide +kernel
theorem dX11_part_39 : decode cX11_part 39 = .ok (.aload_n 0, 1) := by decide +kernel
theorem dX11_part_40 : decode cX11_part 40 = .ok (.getfield 25, 3) := by decide +kernel
theorem dX11_part_43 : decode cX11_part 43 = .ok (.getfield 193, 3) := by decide +kernel
theorem dX11_part_46 : decode cX11_part 46 = .ok (.bipush 40, 2) := by decide +kernel
theorem dX11_part_48 : decode cX11_part 48 = .ok (.if_icmp .lt 6, 3) := by decide +kernel
theorem dX11_part_51 : decode cX11_part 51 = .ok (.bipush (-4), 2) := by decide +kernel
theorem dX11_part_53 : decode cX11_part 53 = .ok (.ireturn, 1) := by decide +kernel
theorem dX11_part_54 : decode cX11_part 54 = .ok (.aload_n 0, 1) := by decide +kernel
theorem dX11_part_55 : decode cX11_part 55 = .ok (.getfield 25, 3) := by decide +kernel
theorem dX11_part_58 : decode cX11_part 58 = .ok (.iload_n 2, 1) := by decide +kernel
theorem dX11_part_59 : decode cX11_part 59 = .ok (.iload_n 3, 1) := by decide +kernel
theorem dX11_part_60 : decode cX11_part 60 = .ok (.lload 4, 2) := by decide +kernel
theorem dX11_part_62 : decode cX11_part 62 = .ok (.invokevirtual 196, 3) := by decide +kernel
theorem dX11_part_65 : decode cX11_part 65 = .ok (.ireturn, 1) := by decide +kernel
set_option maxRecDepth 20000 in
theorem ggX11_word_X4_hasCall : GoodIn wsX11_word wsX4_hasCall := goodIn_r _ [6, 7, 33, 34, 35, 36, 37, 38, 39, 40, 41, 42, 43, 44, 45] (by decide +kernel) (by decide +kernel)
set_option maxRecDepth 20000 in
theorem gX11_word_X4_hasCall : GoodIn wsX11_word (wsV RX11 178 RX4 yX4_hasCall wsX4_hasCall) := goodIn_app (goodIn_of _ (by decide +kernel)) ggX11_word_X4_hasCall
set_option maxRecDepth 20000 in
theorem ggX11_word_X4_putTogether : GoodIn wsX11_word wsX4_putTogether := goodIn_r _ [11, 12, 13, 14, 15, 16, 17, 5, 18, 19, 33, 34, 35, 36, 37, 38, 39, 40, 41, 42, 43, 44, 45] (by decide +kernel) (by decide +kernel)
set_option maxRecDepth 20000 in
theorem gX11_word_X4_putTogether : GoodIn wsX11_word (wsV RX11 200 RX4 yX4_putTogether wsX4_putTogether) := goodIn_app (goodIn_of _ (by decide +kernel)) ggX11_word_X4_putTogether
theorem dX11_word_0 : decode cX11_word 0 = .ok (.aload_n 0, 1) := by decide +kernel
theorem dX11_word_1 : decode cX11_word 1 = .ok (.getfield 25, 3) := by decide +kernel
theorem dX11_word_4 : decode cX11_word 4 = .ok (.iload_n 1, 1) := by decide +kernel
theorem dX11_word_5 : decode cX11_word 5 = .ok (.invokevirtual 178, 3) := by decide +kernel
theorem dX11_word_8 : decode cX11_word 8 = .ok (.ifCond .eq 13, 3) := by decide +kernel
theorem dX11_word_11 : decode cX11_word 11 = .ok (.iload_n 2, 1) := by decide +kernel
theorem dX11_word_12 : decode cX11_word 12 = .ok (.ifCond .lt 9, 3) := by decide +kernel
theorem dX11_word_15 : decode cX11_word 15 = .ok (.iload_n 2, 1) := by decide +kernel
theorem dX11_word_16 : decode cX11_word 16 = .ok (.bipush 16, 2) := by decide +kernel
theorem dX11_word_18 : decode cX11_word 18 = .ok (.if_icmp .lt 6, 3) := by decide +kernel
theorem dX11_word_21 : decode cX11_word 21 = .ok (.bipush (-3), 2) := by decide +kernel
theorem dX11_word_23 : decode cX11_word 23 = .ok (.ireturn, 1) := by decide +kernel
theorem dX11_word_24 : decode cX11_word 24 = .ok (.aload_n 0, 1) := by decide +kernel
theorem dX11_word_25 : decode cX11_word 25 = .ok (.getfield 25, 3) := by decide +kernel
theorem dX11_word_28 : decode cX11_word 28 = .ok (.iload_n 1, 1) := by decide +kernel
theorem dX11_word_29 : decode cX11_word 29 = .ok (.iload_n 2, 1) := by decide +kernel
theorem dX11_word_30 : decode cX11_word 30 = .ok (.invokevirtual 200, 3) := by decide +kernel
theorem dX11_word_33 : decode cX11_word 33 = .ok (.ireturn, 1) := by decide +kernel
set_option maxRecDepth 20000 in
theorem ggX11_isTrue_X4_isAsSent : GoodIn wsX11_isTrue wsX4_isAsSent := goodIn_r _ [7, 8, 9, 10, 11, 12, 13, 6, 14, 15, 29, 30, 31, 32, 33, 34, 35, 36, 37, 38, 39, 40, 41] (by decide +kernel) (by decide +kernel)
set_option maxRecDepth 20000 in
theorem gX11_isTrue_X4_isAsSent : GoodIn wsX11_isTrue (wsV RX11 204 RX4 yX4_isAsSent wsX4_isAsSent) := goodIn_app (goodIn_of _ (by decide +kernel)) ggX11_isTrue_X4_isAsSent
theorem dX11_isTrue_0 : decode cX11_isTrue 0 = .ok (.iload_n 1, 1) := by decide +kernel
theorem dX11_isTrue_1 : decode cX11_isTrue 1 = .ok (.ifCond .lt 14, 3) := by decide +kernel
theorem dX11_isTrue_4 : decode cX11_isTrue 4 = .ok (.iload_n 1, 1) := by decide +kernel
theorem dX11_isTrue_5 : decode cX11_isTrue 5 = .ok (.aload_n 0, 1) := by decide +kernel
theorem dX11_isTrue_6 : decode cX11_isTrue 6 = .ok (.getfield 25, 3) := by decide +kernel
theorem dX11_isTrue_9 : decode cX11_isTrue 9 = .ok (.getfield 193, 3) := by decide +kernel
theorem dX11_isTrue_12 : decode cX11_isTrue 12 = .ok (.if_icmp .lt 6, 3) := by decide +kernel
theorem dX11_isTrue_15 : decode cX11_isTrue 15 = .ok (.bipush (-2), 2) := by decide +kernel
theorem dX11_isTrue_17 : decode cX11_isTrue 17 = .ok (.ireturn, 1) := by decide +kernel
theorem dX11_isTrue_18 : decode cX11_isTrue 18 = .ok (.aload_n 0, 1) := by decide +kernel
theorem dX11_isTrue_19 : decode cX11_isTrue 19 = .ok (.getfield 25, 3) := by decide +kernel
theorem dX11_isTrue_22 : decode cX11_isTrue 22 = .ok (.iload_n 1, 1) := by decide +kernel
theorem dX11_isTrue_23 : decode cX11_isTrue 23 = .ok (.invokevirtual 204, 3) := by decide +kernel
theorem dX11_isTrue_26 : decode cX11_isTrue 26 = .ok (.ifCond .eq 7, 3) := by decide +kernel
theorem dX11_isTrue_29 : decode cX11_isTrue 29 = .ok (.iconst 1, 1) := by decide +kernel
theorem dX11_isTrue_30 : decode cX11_isTrue 30 = .ok (.goto 4, 3) := by decide +kernel
theorem dX11_isTrue_33 : decode cX11_isTrue 33 = .ok (.iconst 0, 1) := by decide +kernel
theorem dX11_isTrue_34 : decode cX11_isTrue 34 = .ok (.ireturn, 1) := by decide +kernel
set_option maxRecDepth 20000 in
theorem ggX11_lane_X6_addLane : GoodIn wsX11_lane wsX6_addLane := goodIn_r _ [7, 8, 9, 23, 24, 25, 26, 27, 28, 29] (by decide +kernel) (by decide +kernel)
set_option maxRecDepth 20000 in
theorem gX11_lane_X6_addLane : GoodIn wsX11_lane (wsV RX11 210 RX6 yX6_addLane wsX6_addLane) := goodIn_app (goodIn_of _ (by decide +kernel)) ggX11_lane_X6_addLane
theorem dX11_lane_0 : decode cX11_lane 0 = .ok (.lload_n 1, 1) := by decide +kernel
theorem dX11_lane_1 : decode cX11_lane 1 = .ok (.lconst 0, 1) := by decide +kernel
theorem dX11_lane_2 : decode cX11_lane 2 = .ok (.lcmp, 1) := by decide +kernel
theorem dX11_lane_3 : decode cX11_lane 3 = .ok (.ifCond .ne 6, 3) := by decide +kernel
theorem dX11_lane_6 : decode cX11_lane 6 = .ok (.bipush (-2), 2) := by decide +kernel
theorem dX11_lane_8 : decode cX11_lane 8 = .ok (.ireturn, 1) := by decide +kernel
theorem dX11_lane_9 : decode cX11_lane 9 = .ok (.aload_n 0, 1) := by decide +kernel
theorem dX11_lane_10 : decode cX11_lane 10 = .ok (.getfield 32, 3) := by decide +kernel
theorem dX11_lane_13 : decode cX11_lane 13 = .ok (.getfield 207, 3) := by decide +kernel
theorem dX11_lane_16 : decode cX11_lane 16 = .ok (.bipush 16, 2) := by decide +kernel
theorem dX11_lane_18 : decode cX11_lane 18 = .ok (.if_icmp .lt 6, 3) := by decide +kernel
theorem dX11_lane_21 : decode cX11_lane 21 = .ok (.bipush (-4), 2) := by decide +kernel
theorem dX11_lane_23 : decode cX11_lane 23 = .ok (.ireturn, 1) := by decide +kernel
theorem dX11_lane_24 : decode cX11_lane 24 = .ok (.aload_n 0, 1) := by decide +kernel
theorem dX11_lane_25 : decode cX11_lane 25 = .ok (.getfield 32, 3) := by decide +kernel
theorem dX11_lane_28 : decode cX11_lane 28 = .ok (.lload_n 1, 1) := by decide +kernel
theorem dX11_lane_29 : decode cX11_lane 29 = .ok (.invokevirtual 210, 3) := by decide +kernel
theorem dX11_lane_32 : decode cX11_lane 32 = .ok (.ireturn, 1) := by decide +kernel
set_option maxRecDepth 20000 in
theorem ggX11_flown_X11_bodyAt : GoodIn wsX11_flown wsX11_bodyAt := goodIn_r _ [9, 10, 11, 29, 30, 31, 32, 33, 34, 35, 36, 37, 38, 39, 40, 41] (by decide +kernel) (by decide +kernel)
set_option maxRecDepth 20000 in
theorem gX11_flown_X11_bodyAt : GoodIn wsX11_flown (wsV RX11 78 RX11 yX11_bodyAt wsX11_bodyAt) := goodIn_app (goodIn_of _ (by decide +kernel)) ggX11_flown_X11_bodyAt
set_option maxRecDepth 20000 in
theorem ggX11_flown_X11_seekerAt : GoodIn wsX11_flown wsX11_seekerAt := goodIn_r _ [15, 5, 6, 7, 8, 9, 10, 11, 16, 17, 18, 19, 20, 21, 29, 30, 31, 32, 33, 34, 35, 36, 37, 38, 39, 40, 41, 49, 50, 51, 52, 53, 54, 55, 56, 57, 58, 59, 60, 61, 62, 63] (by decide +kernel) (by decide +kernel)
set_option maxRecDepth 20000 in
theorem gX11_flown_X11_seekerAt : GoodIn wsX11_flown (wsV RX11 214 RX11 yX11_seekerAt wsX11_seekerAt) := goodIn_app (goodIn_of _ (by decide +kernel)) ggX11_flown_X11_seekerAt
set_option maxRecDepth 20000 in
theorem ggX11_flown_X0_addFlown : GoodIn wsX11_flown wsX0_addFlown := goodIn_r _ [25, 26, 27, 28, 49, 50, 51, 52, 53, 54, 55, 56, 57, 58, 59, 60, 61, 62, 63] (by decide +kernel) (by decide +kernel)
set_option maxRecDepth 20000 in
theorem gX11_flown_X0_addFlown : GoodIn wsX11_flown (wsV RX11 220 RX0 yX0_addFlown wsX0_addFlown) := goodIn_app (goodIn_of _ (by decide +kernel)) ggX11_flown_X0_addFlown
theorem dX11_flown_0 : decode cX11_flown 0 = .ok (.aload_n 0, 1) := by decide +kernel
theorem dX11_flown_1 : decode cX11_flown 1 = .ok (.iload_n 2, 1) := by decide +kernel
theorem dX11_flown_2 : decode cX11_flown 2 = .ok (.invokevirtual 78, 3) := by decide +kernel
theorem dX11_flown_5 : decode cX11_flown 5 = .ok (.astore 4, 2) := by decide +kernel
theorem dX11_flown_7 : decode cX11_flown 7 = .ok (.aload_n 0, 1) := by decide +kernel
theorem dX11_flown_8 : decode cX11_flown 8 = .ok (.iload_n 1, 1) := by decide +kernel
theorem dX11_flown_9 : decode cX11_flown 9 = .ok (.invokevirtual 214, 3) := by decide +kernel
theorem dX11_flown_12 : decode cX11_flown 12 = .ok (.ifnull 23, 3) := by decide +kernel
theorem dX11_flown_15 : decode cX11_flown 15 = .ok (.aload 4, 2) := by decide +kernel
theorem dX11_flown_17 : decode cX11_flown 17 = .ok (.ifnull 18, 3) := by decide +kernel
theorem dX11_flown_20 : decode cX11_flown 20 = .ok (.iload_n 3, 1) := by decide +kernel
theorem dX11_flown_21 : decode cX11_flown 21 = .ok (.ifCond .lt 14, 3) := by decide +kernel
theorem dX11_flown_24 : decode cX11_flown 24 = .ok (.iload_n 3, 1) := by decide +kernel
theorem dX11_flown_25 : decode cX11_flown 25 = .ok (.aload_n 0, 1) := by decide +kernel
theorem dX11_flown_26 : decode cX11_flown 26 = .ok (.getfield 32, 3) := by decide +kernel
theorem dX11_flown_29 : decode cX11_flown 29 = .ok (.getfield 207, 3) := by decide +kernel
theorem dX11_flown_32 : decode cX11_flown 32 = .ok (.if_icmp .lt 6, 3) := by decide +kernel
theorem dX11_flown_35 : decode cX11_flown 35 = .ok (.bipush (-2), 2) := by decide +kernel
theorem dX11_flown_37 : decode cX11_flown 37 = .ok (.ireturn, 1) := by decide +kernel
theorem dX11_flown_38 : decode cX11_flown 38 = .ok (.aload 4, 2) := by decide +kernel
theorem dX11_flown_40 : decode cX11_flown 40 = .ok (.getfield 217, 3) := by decide +kernel
theorem dX11_flown_43 : decode cX11_flown 43 = .ok (.bipush 6, 2) := by decide +kernel
theorem dX11_flown_45 : decode cX11_flown 45 = .ok (.if_icmp .lt 6, 3) := by decide +kernel
theorem dX11_flown_48 : decode cX11_flown 48 = .ok (.bipush (-4), 2) := by decide +kernel
theorem dX11_flown_50 : decode cX11_flown 50 = .ok (.ireturn, 1) := by decide +kernel
theorem dX11_flown_51 : decode cX11_flown 51 = .ok (.aload 4, 2) := by decide +kernel
theorem dX11_flown_53 : decode cX11_flown 53 = .ok (.iload_n 3, 1) := by decide +kernel
theorem dX11_flown_54 : decode cX11_flown 54 = .ok (.aload_n 0, 1) := by decide +kernel
theorem dX11_flown_55 : decode cX11_flown 55 = .ok (.getfield 71, 3) := by decide +kernel
theorem dX11_flown_58 : decode cX11_flown 58 = .ok (.invokevirtual 220, 3) := by decide +kernel
theorem dX11_flown_61 : decode cX11_flown 61 = .ok (.ireturn, 1) := by decide +kernel
set_option maxRecDepth 20000 in
theorem ggX11_share_X11_bodyAt : GoodIn wsX11_share wsX11_bodyAt := goodIn_r _ [9, 10, 11, 81, 82, 83, 84, 85, 86, 87, 88, 89, 90, 91, 92, 93] (by decide +kernel) (by decide +kernel)
set_option maxRecDepth 20000 in
theorem gX11_share_X11_bodyAt : GoodIn wsX11_share (wsV RX11 78 RX11 yX11_bodyAt wsX11_bodyAt) := goodIn_app (goodIn_of _ (by decide +kernel)) ggX11_share_X11_bodyAt
set_option maxRecDepth 20000 in
theorem ggX11_share_X11_isCell : GoodIn wsX11_share wsX11_isCell := goodIn_r _ [14] (by decide +kernel) (by decide +kernel)
set_option maxRecDepth 20000 in
theorem gX11_share_X11_isCell : GoodIn wsX11_share (va_wsS RX11 110 yX11_isCell wsX11_isCell) := goodIn_app (goodIn_of _ (by decide +kernel)) ggX11_share_X11_isCell
set_option maxRecDepth 20000 in
theorem ggX11_share_X0_placesNow : GoodIn wsX11_share wsX0_placesNow := goodIn_r _ [19, 20, 21, 22, 23, 24, 25, 26, 27, 28, 29, 30, 31, 18, 32, 33, 34, 35, 36, 37, 38, 39, 40, 8, 41, 42, 43, 44, 45, 46, 47, 48, 49, 50, 94, 95, 96, 97, 98, 99, 100, 101, 102, 103, 104, 105, 106, 107, 108, 109, 110, 111, 112] (by decide +kernel) (by decide +kernel)
set_option maxRecDepth 20000 in
theorem gX11_share_X0_placesNow : GoodIn wsX11_share (wsV RX11 223 RX0 yX0_placesNow wsX0_placesNow) := goodIn_app (goodIn_of _ (by decide +kernel)) ggX11_share_X0_placesNow
set_option maxRecDepth 20000 in
theorem ggX11_share_X6_weigh : GoodIn wsX11_share wsX6_weigh := goodIn_r _ [55, 56, 57, 58, 8, 59, 60, 61, 62, 54, 63, 64, 65, 66, 67, 68, 69, 70, 71, 37, 72, 73, 113, 114, 115, 116, 117, 118, 119, 94, 95, 96, 97, 98, 99, 100, 101, 102, 103, 104, 105, 106, 107, 108, 109, 110, 111, 112] (by decide +kernel) (by decide +kernel)
set_option maxRecDepth 20000 in
theorem gX11_share_X6_weigh : GoodIn wsX11_share (wsV RX11 227 RX6 yX6_weigh wsX6_weigh) := goodIn_app (goodIn_of _ (by decide +kernel)) ggX11_share_X6_weigh
set_option maxRecDepth 20000 in
theorem ggX11_share_X6_shareOf : GoodIn wsX11_share wsX6_shareOf := goodIn_r _ [77, 57, 56, 78, 79, 54, 80, 113, 114, 115, 116, 117, 118, 119] (by decide +kernel) (by decide +kernel)
set_option maxRecDepth 20000 in
theorem gX11_share_X6_shareOf : GoodIn wsX11_share (wsV RX11 231 RX6 yX6_shareOf wsX6_shareOf) := goodIn_app (goodIn_of _ (by decide +kernel)) ggX11_share_X6_shareOf
theorem dX11_share_0 : decode cX11_share 0 = .ok (.aload_n 0, 1) := by decide +kernel
theorem dX11_share_1 : decode cX11_share 1 = .ok (.iload_n 1, 1) := by decide +kernel
theorem dX11_share_2 : decode cX11_share 2 = .ok (.invokevirtual 78, 3) := by decide +kernel
theorem dX11_share_5 : decode cX11_share 5 = .ok (.astore 4, 2) := by decide +kernel
theorem dX11_share_7 : decode cX11_share 7 = .ok (.aload 4, 2) := by decide +kernel
theorem dX11_share_9 : decode cX11_share 9 = .ok (.ifnull 19, 3) := by decide +kernel
theorem dX11_share_12 : decode cX11_share 12 = .ok (.iload_n 2, 1) := by decide +kernel
theorem dX11_share_13 : decode cX11_share 13 = .ok (.invokestatic 110, 3) := by decide +kernel
theorem dX11_share_16 : decode cX11_share 16 = .ok (.ifCond .eq 12, 3) := by decide +kernel
theorem dX11_share_19 : decode cX11_share 19 = .ok (.iload_n 3, 1) := by decide +kernel
theorem dX11_share_20 : decode cX11_share 20 = .ok (.ifCond .lt 8, 3) := by decide +kernel
theorem dX11_share_23 : decode cX11_share 23 = .ok (.iload_n 3, 1) := by decide +kernel
theorem dX11_share_24 : decode cX11_share 24 = .ok (.iconst 1, 1) := by decide +kernel
theorem dX11_share_25 : decode cX11_share 25 = .ok (.if_icmp .le 7, 3) := by decide +kernel
theorem dX11_share_28 : decode cX11_share 28 = .ok (.ldc2_w 148, 3) := by decide +kernel
theorem dX11_share_31 : decode cX11_share 31 = .ok (.lreturn, 1) := by decide +kernel
theorem dX11_share_32 : decode cX11_share 32 = .ok (.aload_n 0, 1) := by decide +kernel
theorem dX11_share_33 : decode cX11_share 33 = .ok (.getfield 32, 3) := by decide +kernel
theorem dX11_share_36 : decode cX11_share 36 = .ok (.aload 4, 2) := by decide +kernel
theorem dX11_share_38 : decode cX11_share 38 = .ok (.aload 4, 2) := by decide +kernel
theorem dX11_share_40 : decode cX11_share 40 = .ok (.aload_n 0, 1) := by decide +kernel
theorem dX11_share_41 : decode cX11_share 41 = .ok (.getfield 10, 3) := by decide +kernel
theorem dX11_share_44 : decode cX11_share 44 = .ok (.aload_n 0, 1) := by decide +kernel
theorem dX11_share_45 : decode cX11_share 45 = .ok (.getfield 71, 3) := by decide +kernel
theorem dX11_share_48 : decode cX11_share 48 = .ok (.invokevirtual 223, 3) := by decide +kernel
theorem dX11_share_51 : decode cX11_share 51 = .ok (.aload_n 0, 1) := by decide +kernel
theorem dX11_share_52 : decode cX11_share 52 = .ok (.getfield 10, 3) := by decide +kernel
theorem dX11_share_55 : decode cX11_share 55 = .ok (.invokevirtual 227, 3) := by decide +kernel
theorem dX11_share_58 : decode cX11_share 58 = .ok (.aload_n 0, 1) := by decide +kernel
theorem dX11_share_59 : decode cX11_share 59 = .ok (.getfield 32, 3) := by decide +kernel
theorem dX11_share_62 : decode cX11_share 62 = .ok (.iload_n 2, 1) := by decide +kernel
theorem dX11_share_63 : decode cX11_share 63 = .ok (.iload_n 3, 1) := by decide +kernel
theorem dX11_share_64 : decode cX11_share 64 = .ok (.invokevirtual 231, 3) := by decide +kernel
theorem dX11_share_67 : decode cX11_share 67 = .ok (.lreturn, 1) := by decide +kernel
set_option maxRecDepth 20000 in
theorem ggX11_parted_X11_bodyAt : GoodIn wsX11_parted wsX11_bodyAt := goodIn_r _ [10, 11, 12, 117, 118, 119, 120, 121, 122, 123, 124, 125, 126, 127, 128, 129] (by decide +kernel) (by decide +kernel)
set_option maxRecDepth 20000 in
theorem gX11_parted_X11_bodyAt : GoodIn wsX11_parted (wsV RX11 78 RX11 yX11_bodyAt wsX11_bodyAt) := goodIn_app (goodIn_of _ (by decide +kernel)) ggX11_parted_X11_bodyAt
set_option maxRecDepth 20000 in
theorem ggX11_parted_X11_areSeekers : GoodIn wsX11_parted wsX11_areSeekers := goodIn_r _ [16, 11, 17, 18, 19, 20, 21, 22, 23, 24, 25, 26, 9, 27, 6, 7, 8, 10, 12, 28, 29, 30, 31, 32, 33, 117, 118, 119, 120, 121, 122, 123, 124, 125, 126, 127, 128, 129, 137, 138, 139, 140, 141, 142, 143, 144, 145, 146, 147, 148, 149, 150, 151] (by decide +kernel) (by decide +kernel)
set_option maxRecDepth 20000 in
theorem gX11_parted_X11_areSeekers : GoodIn wsX11_parted (wsV RX11 235 RX11 yX11_areSeekers wsX11_areSeekers) := goodIn_app (goodIn_of _ (by decide +kernel)) ggX11_parted_X11_areSeekers
set_option maxRecDepth 20000 in
theorem ggX11_parted_J6_bitCount_0f7a4 : GoodIn wsX11_parted wsJ6_bitCount_0f7a4 := goodIn_r _ [20, 21, 22, 23] (by decide +kernel) (by decide +kernel)
set_option maxRecDepth 20000 in
theorem gX11_parted_J6_bitCount_0f7a4 : GoodIn wsX11_parted (va_wsS RX11 238 yJ6_bitCount_0f7a4 wsJ6_bitCount_0f7a4) := goodIn_app (goodIn_of _ (by decide +kernel)) ggX11_parted_J6_bitCount_0f7a4
set_option maxRecDepth 20000 in
theorem ggX11_parted_X0_placesNow : GoodIn wsX11_parted wsX0_placesNow := goodIn_r _ [37, 38, 39, 40, 41, 42, 43, 44, 45, 46, 47, 48, 49, 31, 50, 33, 51, 52, 53, 54, 55, 56, 57, 9, 58, 59, 60, 61, 62, 63, 64, 65, 66, 67, 137, 138, 139, 140, 141, 142, 143, 144, 145, 146, 147, 148, 149, 150, 151, 152, 153, 154, 155] (by decide +kernel) (by decide +kernel)
set_option maxRecDepth 20000 in
theorem gX11_parted_X0_placesNow : GoodIn wsX11_parted (wsV RX11 223 RX0 yX0_placesNow wsX0_placesNow) := goodIn_app (goodIn_of _ (by decide +kernel)) ggX11_parted_X0_placesNow
set_option maxRecDepth 20000 in
theorem ggX11_parted_X6_weigh : GoodIn wsX11_parted wsX6_weigh := goodIn_r _ [72, 73, 74, 75, 9, 76, 77, 78, 79, 71, 80, 81, 82, 83, 84, 85, 86, 87, 88, 54, 89, 90, 130, 131, 132, 133, 134, 135, 136, 137, 138, 139, 140, 141, 142, 143, 144, 145, 146, 147, 148, 149, 150, 151, 152, 153, 154, 155] (by decide +kernel) (by decide +kernel)
set_option maxRecDepth 20000 in
theorem gX11_parted_X6_weigh : GoodIn wsX11_parted (wsV RX11 227 RX6 yX6_weigh wsX6_weigh) := goodIn_app (goodIn_of _ (by decide +kernel)) ggX11_parted_X6_weigh
set_option maxRecDepth 20000 in
theorem ggX11_parted_X6_choose : GoodIn wsX11_parted wsX6_choose := goodIn_r _ [94, 95, 96, 97, 98, 99, 71, 100, 101, 102, 82, 103, 104, 105, 106, 74, 107, 108, 109, 110, 111, 75, 9, 76, 130, 131, 132, 133, 134, 135, 136] (by decide +kernel) (by decide +kernel)
set_option maxRecDepth 20000 in
theorem gX11_parted_X6_choose : GoodIn wsX11_parted (wsV RX11 243 RX6 yX6_choose wsX6_choose) := goodIn_app (goodIn_of _ (by decide +kernel)) ggX11_parted_X6_choose
set_option maxRecDepth 20000 in
theorem ggX11_parted_X6_thousandths : GoodIn wsX11_parted wsX6_thousandths := goodIn_r _ [115, 73, 116, 96, 130, 131, 132, 133, 134, 135, 136] (by decide +kernel) (by decide +kernel)
set_option maxRecDepth 20000 in
theorem gX11_parted_X6_thousandths : GoodIn wsX11_parted (wsV RX11 247 RX6 yX6_thousandths wsX6_thousandths) := goodIn_app (goodIn_of _ (by decide +kernel)) ggX11_parted_X6_thousandths
theorem dX11_parted_0 : decode cX11_parted 0 = .ok (.aload_n 0, 1) := by decide +kernel
theorem dX11_parted_1 : decode cX11_parted 1 = .ok (.iload_n 1, 1) := by decide +kernel
theorem dX11_parted_2 : decode cX11_parted 2 = .ok (.invokevirtual 78, 3) := by decide +kernel
theorem dX11_parted_5 : decode cX11_parted 5 = .ok (.astore 5, 2) := by decide +kernel
theorem dX11_parted_7 : decode cX11_parted 7 = .ok (.aload 5, 2) := by decide +kernel
theorem dX11_parted_9 : decode cX11_parted 9 = .ok (.ifnull 28, 3) := by decide +kernel
theorem dX11_parted_12 : decode cX11_parted 12 = .ok (.aload_n 0, 1) := by decide +kernel
theorem dX11_parted_13 : decode cX11_parted 13 = .ok (.iload_n 2, 1) := by decide +kernel
theorem dX11_parted_14 : decode cX11_parted 14 = .ok (.invokevirtual 235, 3) := by decide +kernel
theorem dX11_parted_17 : decode cX11_parted 17 = .ok (.ifCond .eq 20, 3) := by decide +kernel
theorem dX11_parted_20 : decode cX11_parted 20 = .ok (.iload_n 3, 1) := by decide +kernel
theorem dX11_parted_21 : decode cX11_parted 21 = .ok (.ifCond .lt 16, 3) := by decide +kernel
theorem dX11_parted_24 : decode cX11_parted 24 = .ok (.iload_n 3, 1) := by decide +kernel
theorem dX11_parted_25 : decode cX11_parted 25 = .ok (.iconst 1, 1) := by decide +kernel
theorem dX11_parted_26 : decode cX11_parted 26 = .ok (.aload_n 0, 1) := by decide +kernel
theorem dX11_parted_27 : decode cX11_parted 27 = .ok (.getfield 32, 3) := by decide +kernel
theorem dX11_parted_30 : decode cX11_parted 30 = .ok (.getfield 207, 3) := by decide +kernel
theorem dX11_parted_33 : decode cX11_parted 33 = .ok (.ishl, 1) := by decide +kernel
theorem dX11_parted_34 : decode cX11_parted 34 = .ok (.if_icmp .lt 6, 3) := by decide +kernel
theorem dX11_parted_37 : decode cX11_parted 37 = .ok (.bipush (-2), 2) := by decide +kernel
theorem dX11_parted_39 : decode cX11_parted 39 = .ok (.ireturn, 1) := by decide +kernel
theorem dX11_parted_40 : decode cX11_parted 40 = .ok (.iload_n 2, 1) := by decide +kernel
theorem dX11_parted_41 : decode cX11_parted 41 = .ok (.invokestatic 238, 3) := by decide +kernel
theorem dX11_parted_44 : decode cX11_parted 44 = .ok (.istore 6, 2) := by decide +kernel
theorem dX11_parted_46 : decode cX11_parted 46 = .ok (.iload_n 3, 1) := by decide +kernel
theorem dX11_parted_47 : decode cX11_parted 47 = .ok (.invokestatic 238, 3) := by decide +kernel
theorem dX11_parted_50 : decode cX11_parted 50 = .ok (.iload 6, 2) := by decide +kernel
theorem dX11_parted_52 : decode cX11_parted 52 = .ok (.if_icmp .ge 6, 3) := by decide +kernel
theorem dX11_parted_55 : decode cX11_parted 55 = .ok (.bipush (-3), 2) := by decide +kernel
theorem dX11_parted_57 : decode cX11_parted 57 = .ok (.ireturn, 1) := by decide +kernel
theorem dX11_parted_58 : decode cX11_parted 58 = .ok (.iload 4, 2) := by decide +kernel
theorem dX11_parted_60 : decode cX11_parted 60 = .ok (.iconst (-1), 1) := by decide +kernel
theorem dX11_parted_61 : decode cX11_parted 61 = .ok (.if_icmp .lt 10, 3) := by decide +kernel
theorem dX11_parted_64 : decode cX11_parted 64 = .ok (.iload 4, 2) := by decide +kernel
theorem dX11_parted_66 : decode cX11_parted 66 = .ok (.iload 6, 2) := by decide +kernel
theorem dX11_parted_68 : decode cX11_parted 68 = .ok (.if_icmp .lt 5, 3) := by decide +kernel
theorem dX11_parted_71 : decode cX11_parted 71 = .ok (.iconst (-1), 1) := by decide +kernel
theorem dX11_parted_72 : decode cX11_parted 72 = .ok (.ireturn, 1) := by decide +kernel
theorem dX11_parted_73 : decode cX11_parted 73 = .ok (.aload_n 0, 1) := by decide +kernel
theorem dX11_parted_74 : decode cX11_parted 74 = .ok (.getfield 32, 3) := by decide +kernel
theorem dX11_parted_77 : decode cX11_parted 77 = .ok (.aload 5, 2) := by decide +kernel
theorem dX11_parted_79 : decode cX11_parted 79 = .ok (.aload 5, 2) := by decide +kernel
theorem dX11_parted_81 : decode cX11_parted 81 = .ok (.aload_n 0, 1) := by decide +kernel
theorem dX11_parted_82 : decode cX11_parted 82 = .ok (.getfield 10, 3) := by decide +kernel
theorem dX11_parted_85 : decode cX11_parted 85 = .ok (.aload_n 0, 1) := by decide +kernel
theorem dX11_parted_86 : decode cX11_parted 86 = .ok (.getfield 71, 3) := by decide +kernel
theorem dX11_parted_89 : decode cX11_parted 89 = .ok (.invokevirtual 223, 3) := by decide +kernel
theorem dX11_parted_92 : decode cX11_parted 92 = .ok (.aload_n 0, 1) := by decide +kernel
theorem dX11_parted_93 : decode cX11_parted 93 = .ok (.getfield 10, 3) := by decide +kernel
theorem dX11_parted_96 : decode cX11_parted 96 = .ok (.invokevirtual 227, 3) := by decide +kernel
theorem dX11_parted_99 : decode cX11_parted 99 = .ok (.aload_n 0, 1) := by decide +kernel
theorem dX11_parted_100 : decode cX11_parted 100 = .ok (.getfield 32, 3) := by decide +kernel
theorem dX11_parted_103 : decode cX11_parted 103 = .ok (.iload_n 3, 1) := by decide +kernel
theorem dX11_parted_104 : decode cX11_parted 104 = .ok (.iload 6, 2) := by decide +kernel
theorem dX11_parted_106 : decode cX11_parted 106 = .ok (.invokevirtual 243, 3) := by decide +kernel
theorem dX11_parted_109 : decode cX11_parted 109 = .ok (.iload 4, 2) := by decide +kernel
theorem dX11_parted_111 : decode cX11_parted 111 = .ok (.iconst (-1), 1) := by decide +kernel
theorem dX11_parted_112 : decode cX11_parted 112 = .ok (.if_icmp .ne 13, 3) := by decide +kernel
theorem dX11_parted_115 : decode cX11_parted 115 = .ok (.aload_n 0, 1) := by decide +kernel
theorem dX11_parted_116 : decode cX11_parted 116 = .ok (.getfield 32, 3) := by decide +kernel
theorem dX11_parted_119 : decode cX11_parted 119 = .ok (.invokevirtual 247, 3) := by decide +kernel
theorem dX11_parted_122 : decode cX11_parted 122 = .ok (.goto 13, 3) := by decide +kernel
theorem dX11_parted_125 : decode cX11_parted 125 = .ok (.aload_n 0, 1) := by decide +kernel
theorem dX11_parted_126 : decode cX11_parted 126 = .ok (.getfield 32, 3) := by decide +kernel
theorem dX11_parted_129 : decode cX11_parted 129 = .ok (.getfield 250, 3) := by decide +kernel
theorem dX11_parted_132 : decode cX11_parted 132 = .ok (.iload 4, 2) := by decide +kernel
theorem dX11_parted_134 : decode cX11_parted 134 = .ok (.iaload, 1) := by decide +kernel
theorem dX11_parted_135 : decode cX11_parted 135 = .ok (.ireturn, 1) := by decide +kernel
theorem dX11_stays_0 : decode cX11_stays 0 = .ok (.iload_n 1, 1) := by decide +kernel
theorem dX11_stays_1 : decode cX11_stays 1 = .ok (.ifCond .lt 9, 3) := by decide +kernel
theorem dX11_stays_4 : decode cX11_stays 4 = .ok (.iload_n 1, 1) := by decide +kernel
theorem dX11_stays_5 : decode cX11_stays 5 = .ok (.bipush 9, 2) := by decide +kernel
theorem dX11_stays_7 : decode cX11_stays 7 = .ok (.if_icmp .le 6, 3) := by decide +kernel
theorem dX11_stays_10 : decode cX11_stays 10 = .ok (.bipush (-2), 2) := by decide +kernel
theorem dX11_stays_12 : decode cX11_stays 12 = .ok (.ireturn, 1) := by decide +kernel
theorem dX11_stays_13 : decode cX11_stays 13 = .ok (.aload_n 0, 1) := by decide +kernel
theorem dX11_stays_14 : decode cX11_stays 14 = .ok (.getfield 253, 3) := by decide +kernel
theorem dX11_stays_17 : decode cX11_stays 17 = .ok (.istore_n 2, 1) := by decide +kernel
theorem dX11_stays_18 : decode cX11_stays 18 = .ok (.aload_n 0, 1) := by decide +kernel
theorem dX11_stays_19 : decode cX11_stays 19 = .ok (.iload_n 1, 1) := by decide +kernel
theorem dX11_stays_20 : decode cX11_stays 20 = .ok (.putfield 253, 3) := by decide +kernel
theorem dX11_stays_23 : decode cX11_stays 23 = .ok (.iload_n 2, 1) := by decide +kernel
theorem dX11_stays_24 : decode cX11_stays 24 = .ok (.ireturn, 1) := by decide +kernel
set_option maxRecDepth 20000 in
theorem ggX11_comes_X11_seekerAt : GoodIn wsX11_comes wsX11_seekerAt := goodIn_r _ [5, 6, 7, 8, 4, 9, 10, 11, 12, 13, 14, 15, 16, 17, 52, 53, 54, 55, 56, 57, 58, 59, 60, 61, 62, 63, 64, 65, 66, 67, 68, 69, 70, 71, 72, 73, 74, 75, 76, 77, 78, 79] (by decide +kernel) (by decide +kernel)
set_option maxRecDepth 20000 in
theorem gX11_comes_X11_seekerAt : GoodIn wsX11_comes (wsV RX11 214 RX11 yX11_seekerAt wsX11_seekerAt) := goodIn_app (goodIn_of _ (by decide +kernel)) ggX11_comes_X11_seekerAt
set_option maxRecDepth 20000 in
theorem ggX11_comes_X11_isCell : GoodIn wsX11_comes wsX11_isCell := goodIn_r _ [20] (by decide +kernel) (by decide +kernel)
set_option maxRecDepth 20000 in
theorem gX11_comes_X11_isCell : GoodIn wsX11_comes (va_wsS RX11 110 yX11_isCell wsX11_isCell) := goodIn_app (goodIn_of _ (by decide +kernel)) ggX11_comes_X11_isCell
set_option maxRecDepth 20000 in
theorem ggX11_comes_X11_apart : GoodIn wsX11_comes wsX11_apart := goodIn_r _ [23, 24, 25, 26, 27, 28, 29, 30] (by decide +kernel) (by decide +kernel)
set_option maxRecDepth 20000 in
theorem gX11_comes_X11_apart : GoodIn wsX11_comes (va_wsS RX11 256 yX11_apart wsX11_apart) := goodIn_app (goodIn_of _ (by decide +kernel)) ggX11_comes_X11_apart
set_option maxRecDepth 20000 in
theorem ggX11_comes_X11_backFrom : GoodIn wsX11_comes wsX11_backFrom := goodIn_r _ [34, 35, 36, 37, 38, 39, 40, 15, 41, 17, 42, 43, 44, 45, 46, 47, 48, 49, 50, 51, 65, 66, 67, 68, 69, 70, 71, 72, 73, 74, 75, 76, 77, 78, 79, 52, 53, 54, 55, 56, 57, 58, 59, 60, 61, 62, 63, 64, 80, 81, 82, 83] (by decide +kernel) (by decide +kernel)
set_option maxRecDepth 20000 in
theorem gX11_comes_X11_backFrom : GoodIn wsX11_comes (wsV RX11 259 RX11 yX11_backFrom wsX11_backFrom) := goodIn_app (goodIn_of _ (by decide +kernel)) ggX11_comes_X11_backFrom
theorem dX11_comes_0 : decode cX11_comes 0 = .ok (.aload_n 0, 1) := by decide +kernel
theorem dX11_comes_1 : decode cX11_comes 1 = .ok (.iload_n 1, 1) := by decide +kernel
theorem dX11_comes_2 : decode cX11_comes 2 = .ok (.invokevirtual 214, 3) := by decide +kernel
theorem dX11_comes_5 : decode cX11_comes 5 = .ok (.astore 5, 2) := by decide +kernel
theorem dX11_comes_7 : decode cX11_comes 7 = .ok (.aload 5, 2) := by decide +kernel
theorem dX11_comes_9 : decode cX11_comes 9 = .ok (.ifnull 30, 3) := by decide +kernel
theorem dX11_comes_12 : decode cX11_comes 12 = .ok (.iload_n 2, 1) := by decide +kernel
theorem dX11_comes_13 : decode cX11_comes 13 = .ok (.invokestatic 110, 3) := by decide +kernel
theorem dX11_comes_16 : decode cX11_comes 16 = .ok (.ifCond .eq 23, 3) := by decide +kernel
theorem dX11_comes_19 : decode cX11_comes 19 = .ok (.iload_n 3, 1) := by decide +kernel
theorem dX11_comes_20 : decode cX11_comes 20 = .ok (.invokestatic 110, 3) := by decide +kernel
theorem dX11_comes_23 : decode cX11_comes 23 = .ok (.ifCond .eq 16, 3) := by decide +kernel
theorem dX11_comes_26 : decode cX11_comes 26 = .ok (.iload 4, 2) := by decide +kernel
theorem dX11_comes_28 : decode cX11_comes 28 = .ok (.ifCond .lt 11, 3) := by decide +kernel
theorem dX11_comes_31 : decode cX11_comes 31 = .ok (.iload 4, 2) := by decide +kernel
theorem dX11_comes_33 : decode cX11_comes 33 = .ok (.sipush 240, 3) := by decide +kernel
theorem dX11_comes_36 : decode cX11_comes 36 = .ok (.if_icmp .lt 6, 3) := by decide +kernel
theorem dX11_comes_39 : decode cX11_comes 39 = .ok (.bipush (-2), 2) := by decide +kernel
theorem dX11_comes_41 : decode cX11_comes 41 = .ok (.ireturn, 1) := by decide +kernel
theorem dX11_comes_42 : decode cX11_comes 42 = .ok (.aload_n 0, 1) := by decide +kernel
theorem dX11_comes_43 : decode cX11_comes 43 = .ok (.aload 5, 2) := by decide +kernel
theorem dX11_comes_45 : decode cX11_comes 45 = .ok (.iload_n 2, 1) := by decide +kernel
theorem dX11_comes_46 : decode cX11_comes 46 = .ok (.iload_n 3, 1) := by decide +kernel
theorem dX11_comes_47 : decode cX11_comes 47 = .ok (.invokestatic 256, 3) := by decide +kernel
theorem dX11_comes_50 : decode cX11_comes 50 = .ok (.iload 4, 2) := by decide +kernel
theorem dX11_comes_52 : decode cX11_comes 52 = .ok (.invokevirtual 259, 3) := by decide +kernel
theorem dX11_comes_55 : decode cX11_comes 55 = .ok (.ireturn, 1) := by decide +kernel
set_option maxRecDepth 20000 in
theorem ggX11_last_X11_seekerAt : GoodIn wsX11_last wsX11_seekerAt := goodIn_r _ [5, 6, 7, 8, 4, 9, 10, 11, 12, 13, 14, 15, 16, 17, 52, 53, 54, 55, 56, 57, 58, 59, 60, 61, 62, 63, 64, 65, 66, 67, 68, 69, 70, 71, 72, 73, 74, 75, 76, 77, 78, 79] (by decide +kernel) (by decide +kernel)
set_option maxRecDepth 20000 in
theorem gX11_last_X11_seekerAt : GoodIn wsX11_last (wsV RX11 214 RX11 yX11_seekerAt wsX11_seekerAt) := goodIn_app (goodIn_of _ (by decide +kernel)) ggX11_last_X11_seekerAt
set_option maxRecDepth 20000 in
theorem ggX11_last_X11_isCell : GoodIn wsX11_last wsX11_isCell := goodIn_r _ [20] (by decide +kernel) (by decide +kernel)
set_option maxRecDepth 20000 in
theorem gX11_last_X11_isCell : GoodIn wsX11_last (va_wsS RX11 110 yX11_isCell wsX11_isCell) := goodIn_app (goodIn_of _ (by decide +kernel)) ggX11_last_X11_isCell
set_option maxRecDepth 20000 in
theorem ggX11_last_X11_apart : GoodIn wsX11_last wsX11_apart := goodIn_r _ [23, 24, 25, 26, 27, 28, 29, 30] (by decide +kernel) (by decide +kernel)
set_option maxRecDepth 20000 in
theorem gX11_last_X11_apart : GoodIn wsX11_last (va_wsS RX11 256 yX11_apart wsX11_apart) := goodIn_app (goodIn_of _ (by decide +kernel)) ggX11_last_X11_apart
set_option maxRecDepth 20000 in
theorem ggX11_last_X11_backFrom : GoodIn wsX11_last wsX11_backFrom := goodIn_r _ [34, 35, 36, 37, 38, 39, 40, 15, 41, 17, 42, 43, 44, 45, 46, 47, 48, 49, 50, 51, 65, 66, 67, 68, 69, 70, 71, 72, 73, 74, 75, 76, 77, 78, 79, 52, 53, 54, 55, 56, 57, 58, 59, 60, 61, 62, 63, 64, 80, 81, 82, 83] (by decide +kernel) (by decide +kernel)
set_option maxRecDepth 20000 in
theorem gX11_last_X11_backFrom : GoodIn wsX11_last (wsV RX11 259 RX11 yX11_backFrom wsX11_backFrom) := goodIn_app (goodIn_of _ (by decide +kernel)) ggX11_last_X11_backFrom
theorem dX11_last_0 : decode cX11_last 0 = .ok (.aload_n 0, 1) := by decide +kernel
theorem dX11_last_1 : decode cX11_last 1 = .ok (.iload_n 1, 1) := by decide +kernel
theorem dX11_last_2 : decode cX11_last 2 = .ok (.invokevirtual 214, 3) := by decide +kernel
theorem dX11_last_5 : decode cX11_last 5 = .ok (.astore 4, 2) := by decide +kernel
theorem dX11_last_7 : decode cX11_last 7 = .ok (.aload 4, 2) := by decide +kernel
theorem dX11_last_9 : decode cX11_last 9 = .ok (.ifnull 17, 3) := by decide +kernel
theorem dX11_last_12 : decode cX11_last 12 = .ok (.iload_n 2, 1) := by decide +kernel
theorem dX11_last_13 : decode cX11_last 13 = .ok (.invokestatic 110, 3) := by decide +kernel
theorem dX11_last_16 : decode cX11_last 16 = .ok (.ifCond .eq 10, 3) := by decide +kernel
theorem dX11_last_19 : decode cX11_last 19 = .ok (.iload_n 3, 1) := by decide +kernel
theorem dX11_last_20 : decode cX11_last 20 = .ok (.invokestatic 110, 3) := by decide +kernel
theorem dX11_last_23 : decode cX11_last 23 = .ok (.ifCond .ne 6, 3) := by decide +kernel
theorem dX11_last_26 : decode cX11_last 26 = .ok (.bipush (-2), 2) := by decide +kernel
theorem dX11_last_28 : decode cX11_last 28 = .ok (.ireturn, 1) := by decide +kernel
theorem dX11_last_29 : decode cX11_last 29 = .ok (.iload_n 2, 1) := by decide +kernel
theorem dX11_last_30 : decode cX11_last 30 = .ok (.iload_n 3, 1) := by decide +kernel
theorem dX11_last_31 : decode cX11_last 31 = .ok (.invokestatic 256, 3) := by decide +kernel
theorem dX11_last_34 : decode cX11_last 34 = .ok (.istore 5, 2) := by decide +kernel
theorem dX11_last_36 : decode cX11_last 36 = .ok (.sipush 239, 3) := by decide +kernel
theorem dX11_last_39 : decode cX11_last 39 = .ok (.istore 6, 2) := by decide +kernel
theorem dX11_last_41 : decode cX11_last 41 = .ok (.iload 6, 2) := by decide +kernel
theorem dX11_last_43 : decode cX11_last 43 = .ok (.ifCond .lt 26, 3) := by decide +kernel
theorem dX11_last_46 : decode cX11_last 46 = .ok (.aload_n 0, 1) := by decide +kernel
theorem dX11_last_47 : decode cX11_last 47 = .ok (.aload 4, 2) := by decide +kernel
theorem dX11_last_49 : decode cX11_last 49 = .ok (.iload 5, 2) := by decide +kernel
theorem dX11_last_51 : decode cX11_last 51 = .ok (.iload 6, 2) := by decide +kernel
theorem dX11_last_53 : decode cX11_last 53 = .ok (.invokevirtual 259, 3) := by decide +kernel
theorem dX11_last_56 : decode cX11_last 56 = .ok (.iconst (-1), 1) := by decide +kernel
theorem dX11_last_57 : decode cX11_last 57 = .ok (.if_icmp .eq 6, 3) := by decide +kernel
theorem dX11_last_60 : decode cX11_last 60 = .ok (.iload 6, 2) := by decide +kernel
theorem dX11_last_62 : decode cX11_last 62 = .ok (.ireturn, 1) := by decide +kernel
theorem dX11_last_63 : decode cX11_last 63 = .ok (.iinc 6 (-1), 3) := by decide +kernel
theorem dX11_last_66 : decode cX11_last 66 = .ok (.goto (-25), 3) := by decide +kernel
theorem dX11_last_69 : decode cX11_last 69 = .ok (.iconst (-1), 1) := by decide +kernel
theorem dX11_last_70 : decode cX11_last 70 = .ok (.ireturn, 1) := by decide +kernel
set_option maxRecDepth 20000 in
theorem ggX11_man_X11_bodyAt : GoodIn wsX11_man wsX11_bodyAt := goodIn_r _ [7, 8, 9, 23, 24, 25, 26, 27, 28, 29, 30, 31, 32, 33, 34, 35] (by decide +kernel) (by decide +kernel)
set_option maxRecDepth 20000 in
theorem gX11_man_X11_bodyAt : GoodIn wsX11_man (wsV RX11 78 RX11 yX11_bodyAt wsX11_bodyAt) := goodIn_app (goodIn_of _ (by decide +kernel)) ggX11_man_X11_bodyAt
set_option maxRecDepth 20000 in
theorem ggX11_man_X11_isMark : GoodIn wsX11_man wsX11_isMark := goodIn_r _ [12] (by decide +kernel) (by decide +kernel)
set_option maxRecDepth 20000 in
theorem gX11_man_X11_isMark : GoodIn wsX11_man (va_wsS RX11 263 yX11_isMark wsX11_isMark) := goodIn_app (goodIn_of _ (by decide +kernel)) ggX11_man_X11_isMark
set_option maxRecDepth 20000 in
theorem ggX11_man_X2_addMan : GoodIn wsX11_man wsX2_addMan := goodIn_r _ [17, 18, 19, 20, 21, 22, 36, 37, 38, 39, 40, 41] (by decide +kernel) (by decide +kernel)
set_option maxRecDepth 20000 in
theorem gX11_man_X2_addMan : GoodIn wsX11_man (wsV RX11 267 RX2 yX2_addMan wsX2_addMan) := goodIn_app (goodIn_of _ (by decide +kernel)) ggX11_man_X2_addMan
theorem dX11_man_0 : decode cX11_man 0 = .ok (.aload_n 0, 1) := by decide +kernel
theorem dX11_man_1 : decode cX11_man 1 = .ok (.iload_n 1, 1) := by decide +kernel
theorem dX11_man_2 : decode cX11_man 2 = .ok (.invokevirtual 78, 3) := by decide +kernel
theorem dX11_man_5 : decode cX11_man 5 = .ok (.ifnull 25, 3) := by decide +kernel
theorem dX11_man_8 : decode cX11_man 8 = .ok (.iload_n 2, 1) := by decide +kernel
theorem dX11_man_9 : decode cX11_man 9 = .ok (.invokestatic 263, 3) := by decide +kernel
theorem dX11_man_12 : decode cX11_man 12 = .ok (.ifCond .eq 18, 3) := by decide +kernel
theorem dX11_man_15 : decode cX11_man 15 = .ok (.iload_n 3, 1) := by decide +kernel
theorem dX11_man_16 : decode cX11_man 16 = .ok (.invokestatic 263, 3) := by decide +kernel
theorem dX11_man_19 : decode cX11_man 19 = .ok (.ifCond .eq 11, 3) := by decide +kernel
theorem dX11_man_22 : decode cX11_man 22 = .ok (.iload 4, 2) := by decide +kernel
theorem dX11_man_24 : decode cX11_man 24 = .ok (.invokestatic 263, 3) := by decide +kernel
theorem dX11_man_27 : decode cX11_man 27 = .ok (.ifCond .ne 6, 3) := by decide +kernel
theorem dX11_man_30 : decode cX11_man 30 = .ok (.bipush (-2), 2) := by decide +kernel
theorem dX11_man_32 : decode cX11_man 32 = .ok (.ireturn, 1) := by decide +kernel
theorem dX11_man_33 : decode cX11_man 33 = .ok (.aload_n 0, 1) := by decide +kernel
theorem dX11_man_34 : decode cX11_man 34 = .ok (.getfield 39, 3) := by decide +kernel
theorem dX11_man_37 : decode cX11_man 37 = .ok (.getfield 266, 3) := by decide +kernel
theorem dX11_man_40 : decode cX11_man 40 = .ok (.bipush 16, 2) := by decide +kernel
theorem dX11_man_42 : decode cX11_man 42 = .ok (.if_icmp .lt 6, 3) := by decide +kernel
theorem dX11_man_45 : decode cX11_man 45 = .ok (.bipush (-4), 2) := by decide +kernel
theorem dX11_man_47 : decode cX11_man 47 = .ok (.ireturn, 1) := by decide +kernel
theorem dX11_man_48 : decode cX11_man 48 = .ok (.aload_n 0, 1) := by decide +kernel
theorem dX11_man_49 : decode cX11_man 49 = .ok (.getfield 39, 3) := by decide +kernel
theorem dX11_man_52 : decode cX11_man 52 = .ok (.iload_n 1, 1) := by decide +kernel
theorem dX11_man_53 : decode cX11_man 53 = .ok (.iload_n 2, 1) := by decide +kernel
theorem dX11_man_54 : decode cX11_man 54 = .ok (.iload_n 3, 1) := by decide +kernel
theorem dX11_man_55 : decode cX11_man 55 = .ok (.iload 4, 2) := by decide +kernel
theorem dX11_man_57 : decode cX11_man 57 = .ok (.invokevirtual 267, 3) := by decide +kernel
theorem dX11_man_60 : decode cX11_man 60 = .ok (.ireturn, 1) := by decide +kernel
set_option maxRecDepth 20000 in
theorem ggX11_feed_X3_addBytes : GoodIn wsX11_feed wsX3_addBytes := goodIn_r _ [7, 8, 9, 10, 24, 25, 26, 27, 28, 29, 30, 31] (by decide +kernel) (by decide +kernel)
set_option maxRecDepth 20000 in
theorem gX11_feed_X3_addBytes : GoodIn wsX11_feed (wsV RX11 274 RX3 yX3_addBytes wsX3_addBytes) := goodIn_app (goodIn_of _ (by decide +kernel)) ggX11_feed_X3_addBytes
theorem dX11_feed_0 : decode cX11_feed 0 = .ok (.iload_n 1, 1) := by decide +kernel
theorem dX11_feed_1 : decode cX11_feed 1 = .ok (.iconst 1, 1) := by decide +kernel
theorem dX11_feed_2 : decode cX11_feed 2 = .ok (.if_icmp .lt 9, 3) := by decide +kernel
theorem dX11_feed_5 : decode cX11_feed 5 = .ok (.iload_n 1, 1) := by decide +kernel
theorem dX11_feed_6 : decode cX11_feed 6 = .ok (.bipush 8, 2) := by decide +kernel
theorem dX11_feed_8 : decode cX11_feed 8 = .ok (.if_icmp .le 6, 3) := by decide +kernel
theorem dX11_feed_11 : decode cX11_feed 11 = .ok (.bipush (-2), 2) := by decide +kernel
theorem dX11_feed_13 : decode cX11_feed 13 = .ok (.ireturn, 1) := by decide +kernel
theorem dX11_feed_14 : decode cX11_feed 14 = .ok (.aload_n 0, 1) := by decide +kernel
theorem dX11_feed_15 : decode cX11_feed 15 = .ok (.getfield 46, 3) := by decide +kernel
theorem dX11_feed_18 : decode cX11_feed 18 = .ok (.getfield 271, 3) := by decide +kernel
theorem dX11_feed_21 : decode cX11_feed 21 = .ok (.iload_n 1, 1) := by decide +kernel
theorem dX11_feed_22 : decode cX11_feed 22 = .ok (.iadd, 1) := by decide +kernel
theorem dX11_feed_23 : decode cX11_feed 23 = .ok (.sipush 160, 3) := by decide +kernel
theorem dX11_feed_26 : decode cX11_feed 26 = .ok (.if_icmp .le 6, 3) := by decide +kernel
theorem dX11_feed_29 : decode cX11_feed 29 = .ok (.bipush (-4), 2) := by decide +kernel
theorem dX11_feed_31 : decode cX11_feed 31 = .ok (.ireturn, 1) := by decide +kernel
theorem dX11_feed_32 : decode cX11_feed 32 = .ok (.aload_n 0, 1) := by decide +kernel
theorem dX11_feed_33 : decode cX11_feed 33 = .ok (.getfield 46, 3) := by decide +kernel
theorem dX11_feed_36 : decode cX11_feed 36 = .ok (.iload_n 1, 1) := by decide +kernel
theorem dX11_feed_37 : decode cX11_feed 37 = .ok (.lload_n 2, 1) := by decide +kernel
theorem dX11_feed_38 : decode cX11_feed 38 = .ok (.invokevirtual 274, 3) := by decide +kernel
theorem dX11_feed_41 : decode cX11_feed 41 = .ok (.ireturn, 1) := by decide +kernel
set_option maxRecDepth 20000 in
theorem ggX11_text_X3_readTape : GoodIn wsX11_text wsX3_readTape := goodIn_r _ [6, 7, 8, 9, 10, 11, 12, 13, 14, 15, 16, 17, 18, 19, 20, 21, 22, 23, 24, 25, 26, 27, 28, 29, 30, 31, 32, 33, 34, 35, 36, 37, 38, 39, 40, 41, 42, 43, 44, 45, 46, 47, 48, 49, 50, 51, 52, 53, 54, 55, 56, 57, 58, 59, 60, 61, 62, 63, 64, 65, 66, 67, 68, 69, 70, 71, 72, 73, 74, 75, 76, 77, 78, 79, 80, 81, 82, 83, 84, 85, 86, 87, 88, 89, 90, 91, 92, 93, 94, 95, 96, 97, 98, 99, 100, 101, 102, 103, 104, 105, 106, 107, 108, 109, 110, 111, 112, 113, 114, 115, 116, 117, 118, 119, 120, 121, 122, 123, 124, 125, 126, 127, 128, 129, 130, 131, 132, 133, 134, 135, 136, 137, 138, 139, 140, 141, 142, 143, 144, 145, 146, 147, 148, 149, 150, 151, 152, 153, 154, 155, 156, 157, 158, 159, 160, 161, 162, 163, 164, 165, 166, 167, 168, 169, 170, 171, 172, 173, 174, 175, 189, 190, 191, 192, 193, 194, 195, 196, 197, 198, 199, 200, 201, 202, 203, 204, 205, 206, 207] (by decide +kernel) (by decide +kernel)
set_option maxRecDepth 20000 in
theorem gX11_text_X3_readTape : GoodIn wsX11_text (wsV RX11 277 RX3 yX3_readTape wsX3_readTape) := goodIn_app (goodIn_of _ (by decide +kernel)) ggX11_text_X3_readTape
theorem dX11_text_0 : decode cX11_text 0 = .ok (.aload_n 0, 1) := by decide +kernel
theorem dX11_text_1 : decode cX11_text 1 = .ok (.getfield 46, 3) := by decide +kernel
theorem dX11_text_4 : decode cX11_text 4 = .ok (.invokevirtual 277, 3) := by decide +kernel
theorem dX11_text_7 : decode cX11_text 7 = .ok (.ireturn, 1) := by decide +kernel
theorem dX11_force_0 : decode cX11_force 0 = .ok (.iload_n 1, 1) := by decide +kernel
theorem dX11_force_1 : decode cX11_force 1 = .ok (.ifCond .lt 14, 3) := by decide +kernel
theorem dX11_force_4 : decode cX11_force 4 = .ok (.iload_n 1, 1) := by decide +kernel
theorem dX11_force_5 : decode cX11_force 5 = .ok (.aload_n 0, 1) := by decide +kernel
theorem dX11_force_6 : decode cX11_force 6 = .ok (.getfield 46, 3) := by decide +kernel
theorem dX11_force_9 : decode cX11_force 9 = .ok (.getfield 280, 3) := by decide +kernel
theorem dX11_force_12 : decode cX11_force 12 = .ok (.if_icmp .lt 6, 3) := by decide +kernel
theorem dX11_force_15 : decode cX11_force 15 = .ok (.bipush (-2), 2) := by decide +kernel
theorem dX11_force_17 : decode cX11_force 17 = .ok (.ireturn, 1) := by decide +kernel
theorem dX11_force_18 : decode cX11_force 18 = .ok (.aload_n 0, 1) := by decide +kernel
theorem dX11_force_19 : decode cX11_force 19 = .ok (.getfield 46, 3) := by decide +kernel
theorem dX11_force_22 : decode cX11_force 22 = .ok (.getfield 283, 3) := by decide +kernel
theorem dX11_force_25 : decode cX11_force 25 = .ok (.istore_n 2, 1) := by decide +kernel
theorem dX11_force_26 : decode cX11_force 26 = .ok (.aload_n 0, 1) := by decide +kernel
theorem dX11_force_27 : decode cX11_force 27 = .ok (.getfield 46, 3) := by decide +kernel
theorem dX11_force_30 : decode cX11_force 30 = .ok (.iload_n 1, 1) := by decide +kernel
theorem dX11_force_31 : decode cX11_force 31 = .ok (.putfield 283, 3) := by decide +kernel
theorem dX11_force_34 : decode cX11_force 34 = .ok (.iload_n 2, 1) := by decide +kernel
theorem dX11_force_35 : decode cX11_force 35 = .ok (.ireturn, 1) := by decide +kernel
set_option maxRecDepth 20000 in
theorem ggX11_says_X11_takeOf : GoodIn wsX11_says wsX11_takeOf := goodIn_r _ [13, 1, 2, 14, 8, 7, 15, 16, 17, 6, 18, 19, 20, 12, 21, 22, 23, 24, 25, 26, 27, 28, 29, 30, 31, 32, 33, 34, 35, 36, 37, 38, 39, 40, 41, 42, 43, 44, 45, 46, 47, 48, 49, 50, 51, 52, 113, 114, 115, 116, 117, 118, 119, 120, 121, 122, 123, 124, 125, 126, 127, 128, 129, 130, 131, 132, 133, 134, 135, 136, 137, 138, 139, 140, 141, 142, 143, 144, 145, 146, 147, 148, 149, 150, 151, 152, 153, 154, 155, 156, 157] (by decide +kernel) (by decide +kernel)
set_option maxRecDepth 20000 in
theorem gX11_says_X11_takeOf : GoodIn wsX11_says (wsV RX11 286 RX11 yX11_takeOf wsX11_takeOf) := goodIn_app (goodIn_of _ (by decide +kernel)) ggX11_says_X11_takeOf
set_option maxRecDepth 20000 in
theorem ggX11_says_X11_seekerAt : GoodIn wsX11_says wsX11_seekerAt := goodIn_r _ [56, 18, 19, 20, 12, 21, 22, 23, 57, 58, 59, 60, 61, 62, 113, 114, 115, 116, 117, 118, 119, 120, 121, 122, 123, 124, 125, 132, 133, 134, 135, 136, 137, 138, 139, 140, 141, 142, 143, 144, 145, 146] (by decide +kernel) (by decide +kernel)
set_option maxRecDepth 20000 in
theorem gX11_says_X11_seekerAt : GoodIn wsX11_says (wsV RX11 214 RX11 yX11_seekerAt wsX11_seekerAt) := goodIn_app (goodIn_of _ (by decide +kernel)) ggX11_says_X11_seekerAt
set_option maxRecDepth 20000 in
theorem ggX11_says_X11_bodyAt : GoodIn wsX11_says wsX11_bodyAt := goodIn_r _ [21, 22, 23, 113, 114, 115, 116, 117, 118, 119, 120, 121, 122, 123, 124, 125] (by decide +kernel) (by decide +kernel)
set_option maxRecDepth 20000 in
theorem gX11_says_X11_bodyAt : GoodIn wsX11_says (wsV RX11 78 RX11 yX11_bodyAt wsX11_bodyAt) := goodIn_app (goodIn_of _ (by decide +kernel)) ggX11_says_X11_bodyAt
set_option maxRecDepth 20000 in
theorem ggX11_says_X0_placesNow : GoodIn wsX11_says wsX0_placesNow := goodIn_r _ [66, 67, 68, 69, 70, 71, 72, 73, 74, 75, 76, 77, 78, 60, 79, 62, 80, 81, 82, 83, 84, 85, 86, 12, 87, 88, 89, 90, 91, 92, 93, 94, 95, 96, 132, 133, 134, 135, 136, 137, 138, 139, 140, 141, 142, 143, 144, 145, 146, 158, 159, 160, 161] (by decide +kernel) (by decide +kernel)
set_option maxRecDepth 20000 in
theorem gX11_says_X0_placesNow : GoodIn wsX11_says (wsV RX11 223 RX0 yX0_placesNow wsX0_placesNow) := goodIn_app (goodIn_of _ (by decide +kernel)) ggX11_says_X0_placesNow
set_option maxRecDepth 20000 in
theorem ggX11_says_X11_nearest : GoodIn wsX11_says wsX11_nearest := goodIn_r _ [99, 100, 101, 74, 102, 103, 104, 12, 105, 106, 107, 108, 109, 110, 111, 112, 73, 75] (by decide +kernel) (by decide +kernel)
set_option maxRecDepth 20000 in
theorem gX11_says_X11_nearest : GoodIn wsX11_says (va_wsS RX11 289 yX11_nearest wsX11_nearest) := goodIn_app (goodIn_of _ (by decide +kernel)) ggX11_says_X11_nearest
set_option maxRecDepth 20000 in
theorem ggX11_says_X3_ask : GoodIn wsX11_says wsX3_ask := goodIn_r _ [28, 29, 30, 31, 32, 33, 34, 35, 36, 37, 38, 39, 40, 41, 42, 43, 44, 45, 46, 47, 48, 49, 50, 51, 52, 147, 148, 149, 150, 151, 152, 153, 154, 155, 156, 157] (by decide +kernel) (by decide +kernel)
set_option maxRecDepth 20000 in
theorem gX11_says_X3_ask : GoodIn wsX11_says (wsV RX11 292 RX3 yX3_ask wsX3_ask) := goodIn_app (goodIn_of _ (by decide +kernel)) ggX11_says_X3_ask
theorem dX11_says_0 : decode cX11_says 0 = .ok (.iload_n 1, 1) := by decide +kernel
theorem dX11_says_1 : decode cX11_says 1 = .ok (.ifCond .ne 25, 3) := by decide +kernel
theorem dX11_says_4 : decode cX11_says 4 = .ok (.iload_n 2, 1) := by decide +kernel
theorem dX11_says_5 : decode cX11_says 5 = .ok (.ifCond .lt 21, 3) := by decide +kernel
theorem dX11_says_8 : decode cX11_says 8 = .ok (.iload_n 2, 1) := by decide +kernel
theorem dX11_says_9 : decode cX11_says 9 = .ok (.aload_n 0, 1) := by decide +kernel
theorem dX11_says_10 : decode cX11_says 10 = .ok (.getfield 39, 3) := by decide +kernel
theorem dX11_says_13 : decode cX11_says 13 = .ok (.getfield 266, 3) := by decide +kernel
theorem dX11_says_16 : decode cX11_says 16 = .ok (.if_icmp .ge 10, 3) := by decide +kernel
theorem dX11_says_19 : decode cX11_says 19 = .ok (.aload_n 0, 1) := by decide +kernel
theorem dX11_says_20 : decode cX11_says 20 = .ok (.iload_n 2, 1) := by decide +kernel
theorem dX11_says_21 : decode cX11_says 21 = .ok (.invokevirtual 286, 3) := by decide +kernel
theorem dX11_says_24 : decode cX11_says 24 = .ok (.i2l, 1) := by decide +kernel
theorem dX11_says_25 : decode cX11_says 25 = .ok (.lreturn, 1) := by decide +kernel
theorem dX11_says_26 : decode cX11_says 26 = .ok (.aload_n 0, 1) := by decide +kernel
theorem dX11_says_27 : decode cX11_says 27 = .ok (.iload_n 2, 1) := by decide +kernel
theorem dX11_says_28 : decode cX11_says 28 = .ok (.invokevirtual 214, 3) := by decide +kernel
theorem dX11_says_31 : decode cX11_says 31 = .ok (.astore 4, 2) := by decide +kernel
theorem dX11_says_33 : decode cX11_says 33 = .ok (.aload_n 0, 1) := by decide +kernel
theorem dX11_says_34 : decode cX11_says 34 = .ok (.iload_n 3, 1) := by decide +kernel
theorem dX11_says_35 : decode cX11_says 35 = .ok (.invokevirtual 78, 3) := by decide +kernel
theorem dX11_says_38 : decode cX11_says 38 = .ok (.astore 5, 2) := by decide +kernel
theorem dX11_says_40 : decode cX11_says 40 = .ok (.iload_n 1, 1) := by decide +kernel
theorem dX11_says_41 : decode cX11_says 41 = .ok (.iconst 1, 1) := by decide +kernel
theorem dX11_says_42 : decode cX11_says 42 = .ok (.if_icmp .ne 13, 3) := by decide +kernel
theorem dX11_says_45 : decode cX11_says 45 = .ok (.aload 4, 2) := by decide +kernel
theorem dX11_says_47 : decode cX11_says 47 = .ok (.ifnull 8, 3) := by decide +kernel
theorem dX11_says_50 : decode cX11_says 50 = .ok (.aload 5, 2) := by decide +kernel
theorem dX11_says_52 : decode cX11_says 52 = .ok (.ifnonnull 7, 3) := by decide +kernel
theorem dX11_says_55 : decode cX11_says 55 = .ok (.ldc2_w 148, 3) := by decide +kernel
theorem dX11_says_58 : decode cX11_says 58 = .ok (.lreturn, 1) := by decide +kernel
theorem dX11_says_59 : decode cX11_says 59 = .ok (.aload 4, 2) := by decide +kernel
theorem dX11_says_61 : decode cX11_says 61 = .ok (.getfield 119, 3) := by decide +kernel
theorem dX11_says_64 : decode cX11_says 64 = .ok (.aload 5, 2) := by decide +kernel
theorem dX11_says_66 : decode cX11_says 66 = .ok (.aload_n 0, 1) := by decide +kernel
theorem dX11_says_67 : decode cX11_says 67 = .ok (.getfield 10, 3) := by decide +kernel
theorem dX11_says_70 : decode cX11_says 70 = .ok (.aload_n 0, 1) := by decide +kernel
theorem dX11_says_71 : decode cX11_says 71 = .ok (.getfield 71, 3) := by decide +kernel
theorem dX11_says_74 : decode cX11_says 74 = .ok (.invokevirtual 223, 3) := by decide +kernel
theorem dX11_says_77 : decode cX11_says 77 = .ok (.invokestatic 289, 3) := by decide +kernel
theorem dX11_says_80 : decode cX11_says 80 = .ok (.istore 6, 2) := by decide +kernel
theorem dX11_says_82 : decode cX11_says 82 = .ok (.aload_n 0, 1) := by decide +kernel
theorem dX11_says_83 : decode cX11_says 83 = .ok (.getfield 46, 3) := by decide +kernel
theorem dX11_says_86 : decode cX11_says 86 = .ok (.iconst 1, 1) := by decide +kernel
theorem dX11_says_87 : decode cX11_says 87 = .ok (.iconst 0, 1) := by decide +kernel
theorem dX11_says_88 : decode cX11_says 88 = .ok (.iconst 0, 1) := by decide +kernel
theorem dX11_says_89 : decode cX11_says 89 = .ok (.iconst 0, 1) := by decide +kernel
theorem dX11_says_90 : decode cX11_says 90 = .ok (.aload_n 0, 1) := by decide +kernel
theorem dX11_says_91 : decode cX11_says 91 = .ok (.getfield 71, 3) := by decide +kernel
theorem dX11_says_94 : decode cX11_says 94 = .ok (.aload 4, 2) := by decide +kernel
theorem dX11_says_96 : decode cX11_says 96 = .ok (.getfield 131, 3) := by decide +kernel
theorem dX11_says_99 : decode cX11_says 99 = .ok (.iload 6, 2) := by decide +kernel
theorem dX11_says_101 : decode cX11_says 101 = .ok (.invokevirtual 292, 3) := by decide +kernel
theorem dX11_says_104 : decode cX11_says 104 = .ok (.i2l, 1) := by decide +kernel
theorem dX11_says_105 : decode cX11_says 105 = .ok (.lreturn, 1) := by decide +kernel
set_option maxRecDepth 20000 in
theorem ggX11_first_X11_bodyAt : GoodIn wsX11_first wsX11_bodyAt := goodIn_r _ [8, 9, 10, 63, 64, 65, 66, 67, 68, 69, 70, 71, 72, 73, 74, 75] (by decide +kernel) (by decide +kernel)
set_option maxRecDepth 20000 in
theorem gX11_first_X11_bodyAt : GoodIn wsX11_first (wsV RX11 78 RX11 yX11_bodyAt wsX11_bodyAt) := goodIn_app (goodIn_of _ (by decide +kernel)) ggX11_first_X11_bodyAt
set_option maxRecDepth 20000 in
theorem ggX11_first_X11_takeOf : GoodIn wsX11_first wsX11_takeOf := goodIn_r _ [14, 1, 2, 15, 16, 17, 18, 19, 20, 21, 4, 5, 6, 7, 8, 9, 10, 22, 23, 24, 25, 26, 27, 28, 29, 30, 31, 32, 33, 34, 35, 36, 37, 38, 39, 40, 41, 42, 43, 44, 45, 46, 47, 48, 49, 50, 63, 64, 65, 66, 67, 68, 69, 70, 71, 72, 73, 74, 75, 76, 77, 78, 79, 80, 81, 82, 83, 84, 85, 86, 87, 88, 89, 90, 91, 92, 93, 94, 95, 96, 97, 98, 99, 100, 101, 102, 103, 104, 105, 106, 107] (by decide +kernel) (by decide +kernel)
set_option maxRecDepth 20000 in
theorem gX11_first_X11_takeOf : GoodIn wsX11_first (wsV RX11 286 RX11 yX11_takeOf wsX11_takeOf) := goodIn_app (goodIn_of _ (by decide +kernel)) ggX11_first_X11_takeOf
set_option maxRecDepth 20000 in
theorem ggX11_first_X2_inTurn : GoodIn wsX11_first wsX2_inTurn := goodIn_r _ [55, 56, 57, 58, 59, 60, 54, 61, 62, 76, 77, 78, 79, 80, 81] (by decide +kernel) (by decide +kernel)
set_option maxRecDepth 20000 in
theorem gX11_first_X2_inTurn : GoodIn wsX11_first (wsV RX11 299 RX2 yX2_inTurn wsX2_inTurn) := goodIn_app (goodIn_of _ (by decide +kernel)) ggX11_first_X2_inTurn
theorem dX11_first_0 : decode cX11_first 0 = .ok (.aload_n 0, 1) := by decide +kernel
theorem dX11_first_1 : decode cX11_first 1 = .ok (.iload_n 1, 1) := by decide +kernel
theorem dX11_first_2 : decode cX11_first 2 = .ok (.invokevirtual 78, 3) := by decide +kernel
theorem dX11_first_5 : decode cX11_first 5 = .ok (.ifnonnull 6, 3) := by decide +kernel
theorem dX11_first_8 : decode cX11_first 8 = .ok (.bipush (-2), 2) := by decide +kernel
theorem dX11_first_10 : decode cX11_first 10 = .ok (.ireturn, 1) := by decide +kernel
theorem dX11_first_11 : decode cX11_first 11 = .ok (.iconst 0, 1) := by decide +kernel
theorem dX11_first_12 : decode cX11_first 12 = .ok (.istore_n 3, 1) := by decide +kernel
theorem dX11_first_13 : decode cX11_first 13 = .ok (.iload_n 3, 1) := by decide +kernel
theorem dX11_first_14 : decode cX11_first 14 = .ok (.aload_n 0, 1) := by decide +kernel
theorem dX11_first_15 : decode cX11_first 15 = .ok (.getfield 39, 3) := by decide +kernel
theorem dX11_first_18 : decode cX11_first 18 = .ok (.getfield 266, 3) := by decide +kernel
theorem dX11_first_21 : decode cX11_first 21 = .ok (.if_icmp .ge 23, 3) := by decide +kernel
theorem dX11_first_24 : decode cX11_first 24 = .ok (.aload_n 0, 1) := by decide +kernel
theorem dX11_first_25 : decode cX11_first 25 = .ok (.getfield 39, 3) := by decide +kernel
theorem dX11_first_28 : decode cX11_first 28 = .ok (.getfield 296, 3) := by decide +kernel
theorem dX11_first_31 : decode cX11_first 31 = .ok (.iload_n 3, 1) := by decide +kernel
theorem dX11_first_32 : decode cX11_first 32 = .ok (.aload_n 0, 1) := by decide +kernel
theorem dX11_first_33 : decode cX11_first 33 = .ok (.iload_n 3, 1) := by decide +kernel
theorem dX11_first_34 : decode cX11_first 34 = .ok (.invokevirtual 286, 3) := by decide +kernel
theorem dX11_first_37 : decode cX11_first 37 = .ok (.iastore, 1) := by decide +kernel
theorem dX11_first_38 : decode cX11_first 38 = .ok (.iinc 3 1, 3) := by decide +kernel
theorem dX11_first_41 : decode cX11_first 41 = .ok (.goto (-28), 3) := by decide +kernel
theorem dX11_first_44 : decode cX11_first 44 = .ok (.aload_n 0, 1) := by decide +kernel
theorem dX11_first_45 : decode cX11_first 45 = .ok (.getfield 39, 3) := by decide +kernel
theorem dX11_first_48 : decode cX11_first 48 = .ok (.iload_n 1, 1) := by decide +kernel
theorem dX11_first_49 : decode cX11_first 49 = .ok (.iload_n 2, 1) := by decide +kernel
theorem dX11_first_50 : decode cX11_first 50 = .ok (.invokevirtual 299, 3) := by decide +kernel
theorem dX11_first_53 : decode cX11_first 53 = .ok (.ireturn, 1) := by decide +kernel
set_option maxRecDepth 20000 in
theorem ggX11_story_X11_bodyAt : GoodIn wsX11_story wsX11_bodyAt := goodIn_r _ [9, 10, 11, 39, 40, 41, 42, 43, 44, 45, 46, 47, 48, 49, 50, 51] (by decide +kernel) (by decide +kernel)
set_option maxRecDepth 20000 in
theorem gX11_story_X11_bodyAt : GoodIn wsX11_story (wsV RX11 78 RX11 yX11_bodyAt wsX11_bodyAt) := goodIn_app (goodIn_of _ (by decide +kernel)) ggX11_story_X11_bodyAt
set_option maxRecDepth 20000 in
theorem ggX11_story_X11_isCell : GoodIn wsX11_story wsX11_isCell := goodIn_r _ [14] (by decide +kernel) (by decide +kernel)
set_option maxRecDepth 20000 in
theorem gX11_story_X11_isCell : GoodIn wsX11_story (va_wsS RX11 110 yX11_isCell wsX11_isCell) := goodIn_app (goodIn_of _ (by decide +kernel)) ggX11_story_X11_isCell
set_option maxRecDepth 20000 in
theorem ggX11_story_X8_addStory : GoodIn wsX11_story wsX8_addStory := goodIn_r _ [19, 20, 21, 22, 23, 52, 53, 54, 55] (by decide +kernel) (by decide +kernel)
set_option maxRecDepth 20000 in
theorem gX11_story_X8_addStory : GoodIn wsX11_story (wsV RX11 305 RX8 yX8_addStory wsX8_addStory) := goodIn_app (goodIn_of _ (by decide +kernel)) ggX11_story_X8_addStory
theorem dX11_story_0 : decode cX11_story 0 = .ok (.aload_n 0, 1) := by decide +kernel
theorem dX11_story_1 : decode cX11_story 1 = .ok (.iload_n 1, 1) := by decide +kernel
theorem dX11_story_2 : decode cX11_story 2 = .ok (.invokevirtual 78, 3) := by decide +kernel
theorem dX11_story_5 : decode cX11_story 5 = .ok (.astore 4, 2) := by decide +kernel
theorem dX11_story_7 : decode cX11_story 7 = .ok (.aload 4, 2) := by decide +kernel
theorem dX11_story_9 : decode cX11_story 9 = .ok (.ifnull 27, 3) := by decide +kernel
theorem dX11_story_12 : decode cX11_story 12 = .ok (.iload_n 2, 1) := by decide +kernel
theorem dX11_story_13 : decode cX11_story 13 = .ok (.invokestatic 110, 3) := by decide +kernel
theorem dX11_story_16 : decode cX11_story 16 = .ok (.ifCond .eq 20, 3) := by decide +kernel
theorem dX11_story_19 : decode cX11_story 19 = .ok (.iload_n 3, 1) := by decide +kernel
theorem dX11_story_20 : decode cX11_story 20 = .ok (.aload 4, 2) := by decide +kernel
theorem dX11_story_22 : decode cX11_story 22 = .ok (.getfield 122, 3) := by decide +kernel
theorem dX11_story_25 : decode cX11_story 25 = .ok (.if_icmp .lt 11, 3) := by decide +kernel
theorem dX11_story_28 : decode cX11_story 28 = .ok (.iload_n 3, 1) := by decide +kernel
theorem dX11_story_29 : decode cX11_story 29 = .ok (.aload_n 0, 1) := by decide +kernel
theorem dX11_story_30 : decode cX11_story 30 = .ok (.getfield 71, 3) := by decide +kernel
theorem dX11_story_33 : decode cX11_story 33 = .ok (.if_icmp .le 6, 3) := by decide +kernel
theorem dX11_story_36 : decode cX11_story 36 = .ok (.bipush (-2), 2) := by decide +kernel
theorem dX11_story_38 : decode cX11_story 38 = .ok (.ireturn, 1) := by decide +kernel
theorem dX11_story_39 : decode cX11_story 39 = .ok (.aload_n 0, 1) := by decide +kernel
theorem dX11_story_40 : decode cX11_story 40 = .ok (.getfield 53, 3) := by decide +kernel
theorem dX11_story_43 : decode cX11_story 43 = .ok (.getfield 302, 3) := by decide +kernel
theorem dX11_story_46 : decode cX11_story 46 = .ok (.bipush 20, 2) := by decide +kernel
theorem dX11_story_48 : decode cX11_story 48 = .ok (.if_icmp .lt 6, 3) := by decide +kernel
theorem dX11_story_51 : decode cX11_story 51 = .ok (.bipush (-4), 2) := by decide +kernel
theorem dX11_story_53 : decode cX11_story 53 = .ok (.ireturn, 1) := by decide +kernel
theorem dX11_story_54 : decode cX11_story 54 = .ok (.aload_n 0, 1) := by decide +kernel
theorem dX11_story_55 : decode cX11_story 55 = .ok (.getfield 53, 3) := by decide +kernel
theorem dX11_story_58 : decode cX11_story 58 = .ok (.iload_n 1, 1) := by decide +kernel
theorem dX11_story_59 : decode cX11_story 59 = .ok (.iload_n 2, 1) := by decide +kernel
theorem dX11_story_60 : decode cX11_story 60 = .ok (.iload_n 3, 1) := by decide +kernel
theorem dX11_story_61 : decode cX11_story 61 = .ok (.invokevirtual 305, 3) := by decide +kernel
theorem dX11_story_64 : decode cX11_story 64 = .ok (.ireturn, 1) := by decide +kernel
set_option maxRecDepth 20000 in
theorem ggX11_unfit_X11_bodyAt : GoodIn wsX11_unfit wsX11_bodyAt := goodIn_r _ [11, 12, 13, 53, 54, 55, 56, 57, 58, 59, 60, 61, 62, 63, 64, 65] (by decide +kernel) (by decide +kernel)
set_option maxRecDepth 20000 in
theorem gX11_unfit_X11_bodyAt : GoodIn wsX11_unfit (wsV RX11 78 RX11 yX11_bodyAt wsX11_bodyAt) := goodIn_app (goodIn_of _ (by decide +kernel)) ggX11_unfit_X11_bodyAt
set_option maxRecDepth 20000 in
theorem ggX11_unfit_X0_placesNow : GoodIn wsX11_unfit wsX0_placesNow := goodIn_r _ [18, 19, 20, 21, 22, 23, 24, 25, 26, 27, 28, 29, 30, 17, 31, 32, 33, 34, 35, 36, 37, 38, 39, 10, 40, 41, 42, 43, 44, 45, 46, 47, 48, 49, 70, 71, 72, 73, 74, 75, 76, 77, 78, 79, 80, 81, 82, 83, 84, 85, 86, 87, 88] (by decide +kernel) (by decide +kernel)
set_option maxRecDepth 20000 in
theorem gX11_unfit_X0_placesNow : GoodIn wsX11_unfit (wsV RX11 223 RX0 yX0_placesNow wsX0_placesNow) := goodIn_app (goodIn_of _ (by decide +kernel)) ggX11_unfit_X0_placesNow
set_option maxRecDepth 20000 in
theorem ggX11_unfit_X11_has : GoodIn wsX11_unfit wsX11_has := goodIn_r _ [52] (by decide +kernel) (by decide +kernel)
set_option maxRecDepth 20000 in
theorem gX11_unfit_X11_has : GoodIn wsX11_unfit (va_wsS RX11 317 yX11_has wsX11_has) := goodIn_app (goodIn_of _ (by decide +kernel)) ggX11_unfit_X11_has
theorem dX11_unfit_0 : decode cX11_unfit 0 = .ok (.iconst 0, 1) := by decide +kernel
theorem dX11_unfit_1 : decode cX11_unfit 1 = .ok (.istore_n 1, 1) := by decide +kernel
theorem dX11_unfit_2 : decode cX11_unfit 2 = .ok (.iconst 0, 1) := by decide +kernel
theorem dX11_unfit_3 : decode cX11_unfit 3 = .ok (.istore_n 2, 1) := by decide +kernel
theorem dX11_unfit_4 : decode cX11_unfit 4 = .ok (.iload_n 2, 1) := by decide +kernel
theorem dX11_unfit_5 : decode cX11_unfit 5 = .ok (.aload_n 0, 1) := by decide +kernel
theorem dX11_unfit_6 : decode cX11_unfit 6 = .ok (.getfield 53, 3) := by decide +kernel
theorem dX11_unfit_9 : decode cX11_unfit 9 = .ok (.getfield 302, 3) := by decide +kernel
theorem dX11_unfit_12 : decode cX11_unfit 12 = .ok (.if_icmp .ge 65, 3) := by decide +kernel
theorem dX11_unfit_15 : decode cX11_unfit 15 = .ok (.aload_n 0, 1) := by decide +kernel
theorem dX11_unfit_16 : decode cX11_unfit 16 = .ok (.aload_n 0, 1) := by decide +kernel
theorem dX11_unfit_17 : decode cX11_unfit 17 = .ok (.getfield 53, 3) := by decide +kernel
theorem dX11_unfit_20 : decode cX11_unfit 20 = .ok (.getfield 308, 3) := by decide +kernel
theorem dX11_unfit_23 : decode cX11_unfit 23 = .ok (.iload_n 2, 1) := by decide +kernel
theorem dX11_unfit_24 : decode cX11_unfit 24 = .ok (.iaload, 1) := by decide +kernel
theorem dX11_unfit_25 : decode cX11_unfit 25 = .ok (.invokevirtual 78, 3) := by decide +kernel
theorem dX11_unfit_28 : decode cX11_unfit 28 = .ok (.astore_n 3, 1) := by decide +kernel
theorem dX11_unfit_29 : decode cX11_unfit 29 = .ok (.aload_n 3, 1) := by decide +kernel
theorem dX11_unfit_30 : decode cX11_unfit 30 = .ok (.ifnull 41, 3) := by decide +kernel
theorem dX11_unfit_33 : decode cX11_unfit 33 = .ok (.aload_n 3, 1) := by decide +kernel
theorem dX11_unfit_34 : decode cX11_unfit 34 = .ok (.aload_n 0, 1) := by decide +kernel
theorem dX11_unfit_35 : decode cX11_unfit 35 = .ok (.getfield 10, 3) := by decide +kernel
theorem dX11_unfit_38 : decode cX11_unfit 38 = .ok (.aload_n 0, 1) := by decide +kernel
theorem dX11_unfit_39 : decode cX11_unfit 39 = .ok (.getfield 53, 3) := by decide +kernel
theorem dX11_unfit_42 : decode cX11_unfit 42 = .ok (.getfield 311, 3) := by decide +kernel
theorem dX11_unfit_45 : decode cX11_unfit 45 = .ok (.iload_n 2, 1) := by decide +kernel
theorem dX11_unfit_46 : decode cX11_unfit 46 = .ok (.iaload, 1) := by decide +kernel
theorem dX11_unfit_47 : decode cX11_unfit 47 = .ok (.invokevirtual 223, 3) := by decide +kernel
theorem dX11_unfit_50 : decode cX11_unfit 50 = .ok (.aload_n 0, 1) := by decide +kernel
theorem dX11_unfit_51 : decode cX11_unfit 51 = .ok (.getfield 53, 3) := by decide +kernel
theorem dX11_unfit_54 : decode cX11_unfit 54 = .ok (.getfield 314, 3) := by decide +kernel
theorem dX11_unfit_57 : decode cX11_unfit 57 = .ok (.iload_n 2, 1) := by decide +kernel
theorem dX11_unfit_58 : decode cX11_unfit 58 = .ok (.iaload, 1) := by decide +kernel
theorem dX11_unfit_59 : decode cX11_unfit 59 = .ok (.invokestatic 317, 3) := by decide +kernel
theorem dX11_unfit_62 : decode cX11_unfit 62 = .ok (.ifCond .ne 9, 3) := by decide +kernel
theorem dX11_unfit_65 : decode cX11_unfit 65 = .ok (.iload_n 1, 1) := by decide +kernel
theorem dX11_unfit_66 : decode cX11_unfit 66 = .ok (.iconst 1, 1) := by decide +kernel
theorem dX11_unfit_67 : decode cX11_unfit 67 = .ok (.iload_n 2, 1) := by decide +kernel
theorem dX11_unfit_68 : decode cX11_unfit 68 = .ok (.ishl, 1) := by decide +kernel
theorem dX11_unfit_69 : decode cX11_unfit 69 = .ok (.ior, 1) := by decide +kernel
theorem dX11_unfit_70 : decode cX11_unfit 70 = .ok (.istore_n 1, 1) := by decide +kernel
theorem dX11_unfit_71 : decode cX11_unfit 71 = .ok (.iinc 2 1, 3) := by decide +kernel
theorem dX11_unfit_74 : decode cX11_unfit 74 = .ok (.goto (-70), 3) := by decide +kernel
theorem dX11_unfit_77 : decode cX11_unfit 77 = .ok (.iload_n 1, 1) := by decide +kernel
theorem dX11_unfit_78 : decode cX11_unfit 78 = .ok (.ireturn, 1) := by decide +kernel
set_option maxRecDepth 20000 in
theorem ggX11_clash_X8_hasStory : GoodIn wsX11_clash wsX8_hasStory := goodIn_r _ [10, 11, 52, 53, 54, 55] (by decide +kernel) (by decide +kernel)
set_option maxRecDepth 20000 in
theorem gX11_clash_X8_hasStory : GoodIn wsX11_clash (wsV RX11 321 RX8 yX8_hasStory wsX8_hasStory) := goodIn_app (goodIn_of _ (by decide +kernel)) ggX11_clash_X8_hasStory
set_option maxRecDepth 20000 in
theorem ggX11_clash_X11_bodyAt : GoodIn wsX11_clash wsX11_bodyAt := goodIn_r _ [16, 17, 18, 39, 40, 41, 42, 43, 44, 45, 46, 47, 48, 49, 50, 51] (by decide +kernel) (by decide +kernel)
set_option maxRecDepth 20000 in
theorem gX11_clash_X11_bodyAt : GoodIn wsX11_clash (wsV RX11 78 RX11 yX11_bodyAt wsX11_bodyAt) := goodIn_app (goodIn_of _ (by decide +kernel)) ggX11_clash_X11_bodyAt
set_option maxRecDepth 20000 in
theorem ggX11_clash_X0_driftIn : GoodIn wsX11_clash wsX0_driftIn := goodIn_r _ [23, 24, 25, 26, 27, 28, 29, 30, 31, 15, 32, 33, 34, 35, 56, 57, 58, 59, 60, 61, 62, 63, 64, 65, 66, 67, 68, 69, 70, 71, 72, 73, 74] (by decide +kernel) (by decide +kernel)
set_option maxRecDepth 20000 in
theorem gX11_clash_X0_driftIn : GoodIn wsX11_clash (wsV RX11 324 RX0 yX0_driftIn wsX0_driftIn) := goodIn_app (goodIn_of _ (by decide +kernel)) ggX11_clash_X0_driftIn
set_option maxRecDepth 20000 in
theorem ggX11_clash_X11_has : GoodIn wsX11_clash wsX11_has := goodIn_r _ [38] (by decide +kernel) (by decide +kernel)
set_option maxRecDepth 20000 in
theorem gX11_clash_X11_has : GoodIn wsX11_clash (va_wsS RX11 317 yX11_has wsX11_has) := goodIn_app (goodIn_of _ (by decide +kernel)) ggX11_clash_X11_has
theorem dX11_clash_0 : decode cX11_clash 0 = .ok (.aload_n 0, 1) := by decide +kernel
theorem dX11_clash_1 : decode cX11_clash 1 = .ok (.getfield 53, 3) := by decide +kernel
theorem dX11_clash_4 : decode cX11_clash 4 = .ok (.iload_n 1, 1) := by decide +kernel
theorem dX11_clash_5 : decode cX11_clash 5 = .ok (.invokevirtual 321, 3) := by decide +kernel
theorem dX11_clash_8 : decode cX11_clash 8 = .ok (.ifCond .eq 40, 3) := by decide +kernel
theorem dX11_clash_11 : decode cX11_clash 11 = .ok (.aload_n 0, 1) := by decide +kernel
theorem dX11_clash_12 : decode cX11_clash 12 = .ok (.getfield 53, 3) := by decide +kernel
theorem dX11_clash_15 : decode cX11_clash 15 = .ok (.iload_n 2, 1) := by decide +kernel
theorem dX11_clash_16 : decode cX11_clash 16 = .ok (.invokevirtual 321, 3) := by decide +kernel
theorem dX11_clash_19 : decode cX11_clash 19 = .ok (.ifCond .eq 29, 3) := by decide +kernel
theorem dX11_clash_22 : decode cX11_clash 22 = .ok (.iload_n 1, 1) := by decide +kernel
theorem dX11_clash_23 : decode cX11_clash 23 = .ok (.iload_n 2, 1) := by decide +kernel
theorem dX11_clash_24 : decode cX11_clash 24 = .ok (.if_icmp .eq 24, 3) := by decide +kernel
theorem dX11_clash_27 : decode cX11_clash 27 = .ok (.aload_n 0, 1) := by decide +kernel
theorem dX11_clash_28 : decode cX11_clash 28 = .ok (.getfield 53, 3) := by decide +kernel
theorem dX11_clash_31 : decode cX11_clash 31 = .ok (.getfield 308, 3) := by decide +kernel
theorem dX11_clash_34 : decode cX11_clash 34 = .ok (.iload_n 1, 1) := by decide +kernel
theorem dX11_clash_35 : decode cX11_clash 35 = .ok (.iaload, 1) := by decide +kernel
theorem dX11_clash_36 : decode cX11_clash 36 = .ok (.aload_n 0, 1) := by decide +kernel
theorem dX11_clash_37 : decode cX11_clash 37 = .ok (.getfield 53, 3) := by decide +kernel
theorem dX11_clash_40 : decode cX11_clash 40 = .ok (.getfield 308, 3) := by decide +kernel
theorem dX11_clash_43 : decode cX11_clash 43 = .ok (.iload_n 2, 1) := by decide +kernel
theorem dX11_clash_44 : decode cX11_clash 44 = .ok (.iaload, 1) := by decide +kernel
theorem dX11_clash_45 : decode cX11_clash 45 = .ok (.if_icmp .eq 6, 3) := by decide +kernel
theorem dX11_clash_48 : decode cX11_clash 48 = .ok (.bipush (-2), 2) := by decide +kernel
theorem dX11_clash_50 : decode cX11_clash 50 = .ok (.ireturn, 1) := by decide +kernel
theorem dX11_clash_51 : decode cX11_clash 51 = .ok (.aload_n 0, 1) := by decide +kernel
theorem dX11_clash_52 : decode cX11_clash 52 = .ok (.aload_n 0, 1) := by decide +kernel
theorem dX11_clash_53 : decode cX11_clash 53 = .ok (.getfield 53, 3) := by decide +kernel
theorem dX11_clash_56 : decode cX11_clash 56 = .ok (.getfield 308, 3) := by decide +kernel
theorem dX11_clash_59 : decode cX11_clash 59 = .ok (.iload_n 1, 1) := by decide +kernel
theorem dX11_clash_60 : decode cX11_clash 60 = .ok (.iaload, 1) := by decide +kernel
theorem dX11_clash_61 : decode cX11_clash 61 = .ok (.invokevirtual 78, 3) := by decide +kernel
theorem dX11_clash_64 : decode cX11_clash 64 = .ok (.astore_n 3, 1) := by decide +kernel
theorem dX11_clash_65 : decode cX11_clash 65 = .ok (.aload_n 3, 1) := by decide +kernel
theorem dX11_clash_66 : decode cX11_clash 66 = .ok (.ifnonnull 6, 3) := by decide +kernel
theorem dX11_clash_69 : decode cX11_clash 69 = .ok (.bipush (-2), 2) := by decide +kernel
theorem dX11_clash_71 : decode cX11_clash 71 = .ok (.ireturn, 1) := by decide +kernel
theorem dX11_clash_72 : decode cX11_clash 72 = .ok (.aload_n 0, 1) := by decide +kernel
theorem dX11_clash_73 : decode cX11_clash 73 = .ok (.getfield 53, 3) := by decide +kernel
theorem dX11_clash_76 : decode cX11_clash 76 = .ok (.getfield 311, 3) := by decide +kernel
theorem dX11_clash_79 : decode cX11_clash 79 = .ok (.iload_n 1, 1) := by decide +kernel
theorem dX11_clash_80 : decode cX11_clash 80 = .ok (.iaload, 1) := by decide +kernel
theorem dX11_clash_81 : decode cX11_clash 81 = .ok (.aload_n 0, 1) := by decide +kernel
theorem dX11_clash_82 : decode cX11_clash 82 = .ok (.getfield 53, 3) := by decide +kernel
theorem dX11_clash_85 : decode cX11_clash 85 = .ok (.getfield 311, 3) := by decide +kernel
theorem dX11_clash_88 : decode cX11_clash 88 = .ok (.iload_n 2, 1) := by decide +kernel
theorem dX11_clash_89 : decode cX11_clash 89 = .ok (.iaload, 1) := by decide +kernel
theorem dX11_clash_90 : decode cX11_clash 90 = .ok (.if_icmp .gt 7, 3) := by decide +kernel
theorem dX11_clash_93 : decode cX11_clash 93 = .ok (.iload_n 1, 1) := by decide +kernel
theorem dX11_clash_94 : decode cX11_clash 94 = .ok (.goto 4, 3) := by decide +kernel
theorem dX11_clash_97 : decode cX11_clash 97 = .ok (.iload_n 2, 1) := by decide +kernel
theorem dX11_clash_98 : decode cX11_clash 98 = .ok (.istore 4, 2) := by decide +kernel
theorem dX11_clash_100 : decode cX11_clash 100 = .ok (.iload 4, 2) := by decide +kernel
theorem dX11_clash_102 : decode cX11_clash 102 = .ok (.iload_n 1, 1) := by decide +kernel
theorem dX11_clash_103 : decode cX11_clash 103 = .ok (.if_icmp .ne 7, 3) := by decide +kernel
theorem dX11_clash_106 : decode cX11_clash 106 = .ok (.iload_n 2, 1) := by decide +kernel
theorem dX11_clash_107 : decode cX11_clash 107 = .ok (.goto 4, 3) := by decide +kernel
theorem dX11_clash_110 : decode cX11_clash 110 = .ok (.iload_n 1, 1) := by decide +kernel
theorem dX11_clash_111 : decode cX11_clash 111 = .ok (.istore 5, 2) := by decide +kernel
theorem dX11_clash_113 : decode cX11_clash 113 = .ok (.lconst 1, 1) := by decide +kernel
theorem dX11_clash_114 : decode cX11_clash 114 = .ok (.aload_n 0, 1) := by decide +kernel
theorem dX11_clash_115 : decode cX11_clash 115 = .ok (.getfield 53, 3) := by decide +kernel
theorem dX11_clash_118 : decode cX11_clash 118 = .ok (.getfield 314, 3) := by decide +kernel
theorem dX11_clash_121 : decode cX11_clash 121 = .ok (.iload 4, 2) := by decide +kernel
theorem dX11_clash_123 : decode cX11_clash 123 = .ok (.iaload, 1) := by decide +kernel
theorem dX11_clash_124 : decode cX11_clash 124 = .ok (.lshl, 1) := by decide +kernel
theorem dX11_clash_125 : decode cX11_clash 125 = .ok (.lstore 6, 2) := by decide +kernel
theorem dX11_clash_127 : decode cX11_clash 127 = .ok (.aload_n 0, 1) := by decide +kernel
theorem dX11_clash_128 : decode cX11_clash 128 = .ok (.getfield 53, 3) := by decide +kernel
theorem dX11_clash_131 : decode cX11_clash 131 = .ok (.getfield 311, 3) := by decide +kernel
theorem dX11_clash_134 : decode cX11_clash 134 = .ok (.iload 4, 2) := by decide +kernel
theorem dX11_clash_136 : decode cX11_clash 136 = .ok (.iaload, 1) := by decide +kernel
theorem dX11_clash_137 : decode cX11_clash 137 = .ok (.istore 8, 2) := by decide +kernel
theorem dX11_clash_139 : decode cX11_clash 139 = .ok (.iload 8, 2) := by decide +kernel
theorem dX11_clash_141 : decode cX11_clash 141 = .ok (.aload_n 0, 1) := by decide +kernel
theorem dX11_clash_142 : decode cX11_clash 142 = .ok (.getfield 53, 3) := by decide +kernel
theorem dX11_clash_145 : decode cX11_clash 145 = .ok (.getfield 311, 3) := by decide +kernel
theorem dX11_clash_148 : decode cX11_clash 148 = .ok (.iload 5, 2) := by decide +kernel
theorem dX11_clash_150 : decode cX11_clash 150 = .ok (.iaload, 1) := by decide +kernel
theorem dX11_clash_151 : decode cX11_clash 151 = .ok (.if_icmp .ge 23, 3) := by decide +kernel
theorem dX11_clash_154 : decode cX11_clash 154 = .ok (.aload_n 3, 1) := by decide +kernel
theorem dX11_clash_155 : decode cX11_clash 155 = .ok (.aload_n 0, 1) := by decide +kernel
theorem dX11_clash_156 : decode cX11_clash 156 = .ok (.getfield 10, 3) := by decide +kernel
theorem dX11_clash_159 : decode cX11_clash 159 = .ok (.iload 8, 2) := by decide +kernel
theorem dX11_clash_161 : decode cX11_clash 161 = .ok (.lload 6, 2) := by decide +kernel
theorem dX11_clash_163 : decode cX11_clash 163 = .ok (.invokevirtual 324, 3) := by decide +kernel
theorem dX11_clash_166 : decode cX11_clash 166 = .ok (.lstore 6, 2) := by decide +kernel
theorem dX11_clash_168 : decode cX11_clash 168 = .ok (.iinc 8 1, 3) := by decide +kernel
theorem dX11_clash_171 : decode cX11_clash 171 = .ok (.goto (-32), 3) := by decide +kernel
theorem dX11_clash_174 : decode cX11_clash 174 = .ok (.lload 6, 2) := by decide +kernel
theorem dX11_clash_176 : decode cX11_clash 176 = .ok (.aload_n 0, 1) := by decide +kernel
theorem dX11_clash_177 : decode cX11_clash 177 = .ok (.getfield 53, 3) := by decide +kernel
theorem dX11_clash_180 : decode cX11_clash 180 = .ok (.getfield 314, 3) := by decide +kernel
theorem dX11_clash_183 : decode cX11_clash 183 = .ok (.iload 5, 2) := by decide +kernel
theorem dX11_clash_185 : decode cX11_clash 185 = .ok (.iaload, 1) := by decide +kernel
theorem dX11_clash_186 : decode cX11_clash 186 = .ok (.invokestatic 317, 3) := by decide +kernel
theorem dX11_clash_189 : decode cX11_clash 189 = .ok (.ifCond .eq 7, 3) := by decide +kernel
theorem dX11_clash_192 : decode cX11_clash 192 = .ok (.iconst 0, 1) := by decide +kernel
theorem dX11_clash_193 : decode cX11_clash 193 = .ok (.goto 4, 3) := by decide +kernel
theorem dX11_clash_196 : decode cX11_clash 196 = .ok (.iconst 1, 1) := by decide +kernel
theorem dX11_clash_197 : decode cX11_clash 197 = .ok (.ireturn, 1) := by decide +kernel
set_option maxRecDepth 20000 in
theorem ggX11_row_X1_addRow : GoodIn wsX11_row wsX1_addRow := goodIn_r _ [8, 9, 10, 11, 25, 26, 27, 28] (by decide +kernel) (by decide +kernel)
set_option maxRecDepth 20000 in
theorem gX11_row_X1_addRow : GoodIn wsX11_row (wsV RX11 333 RX1 yX1_addRow wsX1_addRow) := goodIn_app (goodIn_of _ (by decide +kernel)) ggX11_row_X1_addRow
theorem dX11_row_0 : decode cX11_row 0 = .ok (.lload_n 1, 1) := by decide +kernel
theorem dX11_row_1 : decode cX11_row 1 = .ok (.lconst 0, 1) := by decide +kernel
theorem dX11_row_2 : decode cX11_row 2 = .ok (.lcmp, 1) := by decide +kernel
theorem dX11_row_3 : decode cX11_row 3 = .ok (.ifCond .lt 11, 3) := by decide +kernel
theorem dX11_row_6 : decode cX11_row 6 = .ok (.lload_n 1, 1) := by decide +kernel
theorem dX11_row_7 : decode cX11_row 7 = .ok (.ldc2_w 328, 3) := by decide +kernel
theorem dX11_row_10 : decode cX11_row 10 = .ok (.lcmp, 1) := by decide +kernel
theorem dX11_row_11 : decode cX11_row 11 = .ok (.ifCond .le 6, 3) := by decide +kernel
theorem dX11_row_14 : decode cX11_row 14 = .ok (.bipush (-2), 2) := by decide +kernel
theorem dX11_row_16 : decode cX11_row 16 = .ok (.ireturn, 1) := by decide +kernel
theorem dX11_row_17 : decode cX11_row 17 = .ok (.aload_n 0, 1) := by decide +kernel
theorem dX11_row_18 : decode cX11_row 18 = .ok (.getfield 60, 3) := by decide +kernel
theorem dX11_row_21 : decode cX11_row 21 = .ok (.getfield 330, 3) := by decide +kernel
theorem dX11_row_24 : decode cX11_row 24 = .ok (.iconst 4, 1) := by decide +kernel
theorem dX11_row_25 : decode cX11_row 25 = .ok (.if_icmp .lt 6, 3) := by decide +kernel
theorem dX11_row_28 : decode cX11_row 28 = .ok (.bipush (-4), 2) := by decide +kernel
theorem dX11_row_30 : decode cX11_row 30 = .ok (.ireturn, 1) := by decide +kernel
theorem dX11_row_31 : decode cX11_row 31 = .ok (.aload_n 0, 1) := by decide +kernel
theorem dX11_row_32 : decode cX11_row 32 = .ok (.getfield 60, 3) := by decide +kernel
theorem dX11_row_35 : decode cX11_row 35 = .ok (.lload_n 1, 1) := by decide +kernel
theorem dX11_row_36 : decode cX11_row 36 = .ok (.invokevirtual 333, 3) := by decide +kernel
theorem dX11_row_39 : decode cX11_row 39 = .ok (.ireturn, 1) := by decide +kernel
set_option maxRecDepth 20000 in
theorem ggX11_days_X1_plan : GoodIn wsX11_days wsX1_plan := goodIn_r _ [8, 9, 10, 11, 12, 13, 14, 7, 15, 16, 17, 18, 19, 20, 21, 22, 23, 24, 25, 26, 27, 28, 29, 44, 45, 46, 47] (by decide +kernel) (by decide +kernel)
set_option maxRecDepth 20000 in
theorem gX11_days_X1_plan : GoodIn wsX11_days (wsV RX11 336 RX1 yX1_plan wsX1_plan) := goodIn_app (goodIn_of _ (by decide +kernel)) ggX11_days_X1_plan
set_option maxRecDepth 20000 in
theorem ggX11_days_X1_wayOn : GoodIn wsX11_days wsX1_wayOn := goodIn_r _ [29, 11] (by decide +kernel) (by decide +kernel)
set_option maxRecDepth 20000 in
theorem gX11_days_X1_wayOn : GoodIn wsX11_days (wsV RX11 345 RX1 yX1_wayOn wsX1_wayOn) := goodIn_app (goodIn_of _ (by decide +kernel)) ggX11_days_X1_wayOn
theorem dX11_days_0 : decode cX11_days 0 = .ok (.iload_n 1, 1) := by decide +kernel
theorem dX11_days_1 : decode cX11_days 1 = .ok (.iconst 1, 1) := by decide +kernel
theorem dX11_days_2 : decode cX11_days 2 = .ok (.if_icmp .lt 18, 3) := by decide +kernel
theorem dX11_days_5 : decode cX11_days 5 = .ok (.iload_n 1, 1) := by decide +kernel
theorem dX11_days_6 : decode cX11_days 6 = .ok (.iconst 5, 1) := by decide +kernel
theorem dX11_days_7 : decode cX11_days 7 = .ok (.if_icmp .gt 13, 3) := by decide +kernel
theorem dX11_days_10 : decode cX11_days 10 = .ok (.iload_n 2, 1) := by decide +kernel
theorem dX11_days_11 : decode cX11_days 11 = .ok (.ifCond .lt 9, 3) := by decide +kernel
theorem dX11_days_14 : decode cX11_days 14 = .ok (.iload_n 2, 1) := by decide +kernel
theorem dX11_days_15 : decode cX11_days 15 = .ok (.bipush 99, 2) := by decide +kernel
theorem dX11_days_17 : decode cX11_days 17 = .ok (.if_icmp .le 6, 3) := by decide +kernel
theorem dX11_days_20 : decode cX11_days 20 = .ok (.bipush (-2), 2) := by decide +kernel
theorem dX11_days_22 : decode cX11_days 22 = .ok (.ireturn, 1) := by decide +kernel
theorem dX11_days_23 : decode cX11_days 23 = .ok (.iload_n 3, 1) := by decide +kernel
theorem dX11_days_24 : decode cX11_days 24 = .ok (.iconst (-1), 1) := by decide +kernel
theorem dX11_days_25 : decode cX11_days 25 = .ok (.if_icmp .lt 8, 3) := by decide +kernel
theorem dX11_days_28 : decode cX11_days 28 = .ok (.iload_n 3, 1) := by decide +kernel
theorem dX11_days_29 : decode cX11_days 29 = .ok (.iload_n 1, 1) := by decide +kernel
theorem dX11_days_30 : decode cX11_days 30 = .ok (.if_icmp .lt 5, 3) := by decide +kernel
theorem dX11_days_33 : decode cX11_days 33 = .ok (.iconst (-1), 1) := by decide +kernel
theorem dX11_days_34 : decode cX11_days 34 = .ok (.ireturn, 1) := by decide +kernel
theorem dX11_days_35 : decode cX11_days 35 = .ok (.aload_n 0, 1) := by decide +kernel
theorem dX11_days_36 : decode cX11_days 36 = .ok (.getfield 60, 3) := by decide +kernel
theorem dX11_days_39 : decode cX11_days 39 = .ok (.iload_n 1, 1) := by decide +kernel
theorem dX11_days_40 : decode cX11_days 40 = .ok (.iload_n 2, 1) := by decide +kernel
theorem dX11_days_41 : decode cX11_days 41 = .ok (.invokevirtual 336, 3) := by decide +kernel
theorem dX11_days_44 : decode cX11_days 44 = .ok (.iload_n 3, 1) := by decide +kernel
theorem dX11_days_45 : decode cX11_days 45 = .ok (.iconst (-1), 1) := by decide +kernel
theorem dX11_days_46 : decode cX11_days 46 = .ok (.if_icmp .ne 13, 3) := by decide +kernel
theorem dX11_days_49 : decode cX11_days 49 = .ok (.aload_n 0, 1) := by decide +kernel
theorem dX11_days_50 : decode cX11_days 50 = .ok (.getfield 60, 3) := by decide +kernel
theorem dX11_days_53 : decode cX11_days 53 = .ok (.getfield 339, 3) := by decide +kernel
theorem dX11_days_56 : decode cX11_days 56 = .ok (.goto 19, 3) := by decide +kernel
theorem dX11_days_59 : decode cX11_days 59 = .ok (.aload_n 0, 1) := by decide +kernel
theorem dX11_days_60 : decode cX11_days 60 = .ok (.getfield 60, 3) := by decide +kernel
theorem dX11_days_63 : decode cX11_days 63 = .ok (.iload_n 3, 1) := by decide +kernel
theorem dX11_days_64 : decode cX11_days 64 = .ok (.iload_n 1, 1) := by decide +kernel
theorem dX11_days_65 : decode cX11_days 65 = .ok (.aload_n 0, 1) := by decide +kernel
theorem dX11_days_66 : decode cX11_days 66 = .ok (.getfield 60, 3) := by decide +kernel
theorem dX11_days_69 : decode cX11_days 69 = .ok (.getfield 342, 3) := by decide +kernel
theorem dX11_days_72 : decode cX11_days 72 = .ok (.invokevirtual 345, 3) := by decide +kernel
theorem dX11_days_75 : decode cX11_days 75 = .ok (.ireturn, 1) := by decide +kernel
theorem dX11_count_0 : decode cX11_count 0 = .ok (.iload_n 1, 1) := by decide +kernel
theorem dX11_count_1 : decode cX11_count 1 = .ok (.tableswitch 183 0 14 #[75, 80, 85, 93, 98, 106, 114, 122, 130, 138, 146, 154, 162, 170, 178], 75) := by decide +kernel
theorem dX11_count_76 : decode cX11_count 76 = .ok (.aload_n 0, 1) := by decide +kernel
theorem dX11_count_77 : decode cX11_count 77 = .ok (.getfield 71, 3) := by decide +kernel
theorem dX11_count_80 : decode cX11_count 80 = .ok (.ireturn, 1) := by decide +kernel
theorem dX11_count_81 : decode cX11_count 81 = .ok (.aload_n 0, 1) := by decide +kernel
theorem dX11_count_82 : decode cX11_count 82 = .ok (.getfield 75, 3) := by decide +kernel
theorem dX11_count_85 : decode cX11_count 85 = .ok (.ireturn, 1) := by decide +kernel
theorem dX11_count_86 : decode cX11_count 86 = .ok (.aload_n 0, 1) := by decide +kernel
theorem dX11_count_87 : decode cX11_count 87 = .ok (.getfield 10, 3) := by decide +kernel
theorem dX11_count_90 : decode cX11_count 90 = .ok (.getfield 94, 3) := by decide +kernel
theorem dX11_count_93 : decode cX11_count 93 = .ok (.ireturn, 1) := by decide +kernel
theorem dX11_count_94 : decode cX11_count 94 = .ok (.aload_n 0, 1) := by decide +kernel
theorem dX11_count_95 : decode cX11_count 95 = .ok (.getfield 154, 3) := by decide +kernel
theorem dX11_count_98 : decode cX11_count 98 = .ok (.ireturn, 1) := by decide +kernel
theorem dX11_count_99 : decode cX11_count 99 = .ok (.aload_n 0, 1) := by decide +kernel
theorem dX11_count_100 : decode cX11_count 100 = .ok (.getfield 25, 3) := by decide +kernel
theorem dX11_count_103 : decode cX11_count 103 = .ok (.getfield 161, 3) := by decide +kernel
theorem dX11_count_106 : decode cX11_count 106 = .ok (.ireturn, 1) := by decide +kernel
theorem dX11_count_107 : decode cX11_count 107 = .ok (.aload_n 0, 1) := by decide +kernel
theorem dX11_count_108 : decode cX11_count 108 = .ok (.getfield 25, 3) := by decide +kernel
theorem dX11_count_111 : decode cX11_count 111 = .ok (.getfield 171, 3) := by decide +kernel
theorem dX11_count_114 : decode cX11_count 114 = .ok (.ireturn, 1) := by decide +kernel
theorem dX11_count_115 : decode cX11_count 115 = .ok (.aload_n 0, 1) := by decide +kernel
theorem dX11_count_116 : decode cX11_count 116 = .ok (.getfield 25, 3) := by decide +kernel
theorem dX11_count_119 : decode cX11_count 119 = .ok (.getfield 193, 3) := by decide +kernel
theorem dX11_count_122 : decode cX11_count 122 = .ok (.ireturn, 1) := by decide +kernel
theorem dX11_count_123 : decode cX11_count 123 = .ok (.aload_n 0, 1) := by decide +kernel
theorem dX11_count_124 : decode cX11_count 124 = .ok (.getfield 32, 3) := by decide +kernel
theorem dX11_count_127 : decode cX11_count 127 = .ok (.getfield 207, 3) := by decide +kernel
theorem dX11_count_130 : decode cX11_count 130 = .ok (.ireturn, 1) := by decide +kernel
theorem dX11_count_131 : decode cX11_count 131 = .ok (.aload_n 0, 1) := by decide +kernel
theorem dX11_count_132 : decode cX11_count 132 = .ok (.getfield 39, 3) := by decide +kernel
theorem dX11_count_135 : decode cX11_count 135 = .ok (.getfield 266, 3) := by decide +kernel
theorem dX11_count_138 : decode cX11_count 138 = .ok (.ireturn, 1) := by decide +kernel
theorem dX11_count_139 : decode cX11_count 139 = .ok (.aload_n 0, 1) := by decide +kernel
theorem dX11_count_140 : decode cX11_count 140 = .ok (.getfield 53, 3) := by decide +kernel
theorem dX11_count_143 : decode cX11_count 143 = .ok (.getfield 302, 3) := by decide +kernel
theorem dX11_count_146 : decode cX11_count 146 = .ok (.ireturn, 1) := by decide +kernel
theorem dX11_count_147 : decode cX11_count 147 = .ok (.aload_n 0, 1) := by decide +kernel
theorem dX11_count_148 : decode cX11_count 148 = .ok (.getfield 60, 3) := by decide +kernel
theorem dX11_count_151 : decode cX11_count 151 = .ok (.getfield 330, 3) := by decide +kernel
theorem dX11_count_154 : decode cX11_count 154 = .ok (.ireturn, 1) := by decide +kernel
theorem dX11_count_155 : decode cX11_count 155 = .ok (.aload_n 0, 1) := by decide +kernel
theorem dX11_count_156 : decode cX11_count 156 = .ok (.getfield 46, 3) := by decide +kernel
theorem dX11_count_159 : decode cX11_count 159 = .ok (.getfield 280, 3) := by decide +kernel
theorem dX11_count_162 : decode cX11_count 162 = .ok (.ireturn, 1) := by decide +kernel
theorem dX11_count_163 : decode cX11_count 163 = .ok (.aload_n 0, 1) := by decide +kernel
theorem dX11_count_164 : decode cX11_count 164 = .ok (.getfield 46, 3) := by decide +kernel
theorem dX11_count_167 : decode cX11_count 167 = .ok (.getfield 271, 3) := by decide +kernel
theorem dX11_count_170 : decode cX11_count 170 = .ok (.ireturn, 1) := by decide +kernel
theorem dX11_count_171 : decode cX11_count 171 = .ok (.aload_n 0, 1) := by decide +kernel
theorem dX11_count_172 : decode cX11_count 172 = .ok (.getfield 46, 3) := by decide +kernel
theorem dX11_count_175 : decode cX11_count 175 = .ok (.getfield 283, 3) := by decide +kernel
theorem dX11_count_178 : decode cX11_count 178 = .ok (.ireturn, 1) := by decide +kernel
theorem dX11_count_179 : decode cX11_count 179 = .ok (.aload_n 0, 1) := by decide +kernel
theorem dX11_count_180 : decode cX11_count 180 = .ok (.getfield 253, 3) := by decide +kernel
theorem dX11_count_183 : decode cX11_count 183 = .ok (.ireturn, 1) := by decide +kernel
theorem dX11_count_184 : decode cX11_count 184 = .ok (.bipush (-2), 2) := by decide +kernel
theorem dX11_count_186 : decode cX11_count 186 = .ok (.ireturn, 1) := by decide +kernel
set_option maxRecDepth 20000 in
theorem ggX11_sheet_X11_sheetAt : GoodIn wsX11_sheet wsX11_sheetAt := goodIn_r _ [5, 6, 15, 16, 17, 18, 19, 20, 21, 22, 23, 24, 25, 26, 27] (by decide +kernel) (by decide +kernel)
set_option maxRecDepth 20000 in
theorem gX11_sheet_X11_sheetAt : GoodIn wsX11_sheet (wsV RX11 348 RX11 yX11_sheetAt wsX11_sheetAt) := goodIn_app (goodIn_of _ (by decide +kernel)) ggX11_sheet_X11_sheetAt
set_option maxRecDepth 20000 in
theorem ggX11_sheet_X7_become : GoodIn wsX11_sheet wsX7_become := goodIn_r _ [11, 12, 13, 14, 28, 29, 30] (by decide +kernel) (by decide +kernel)
set_option maxRecDepth 20000 in
theorem gX11_sheet_X7_become : GoodIn wsX11_sheet (wsV RX11 352 RX7 yX7_become wsX7_become) := goodIn_app (goodIn_of _ (by decide +kernel)) ggX11_sheet_X7_become
theorem dX11_sheet_0 : decode cX11_sheet 0 = .ok (.aload_n 0, 1) := by decide +kernel
theorem dX11_sheet_1 : decode cX11_sheet 1 = .ok (.iload_n 1, 1) := by decide +kernel
theorem dX11_sheet_2 : decode cX11_sheet 2 = .ok (.invokevirtual 348, 3) := by decide +kernel
theorem dX11_sheet_5 : decode cX11_sheet 5 = .ok (.astore 4, 2) := by decide +kernel
theorem dX11_sheet_7 : decode cX11_sheet 7 = .ok (.aload 4, 2) := by decide +kernel
theorem dX11_sheet_9 : decode cX11_sheet 9 = .ok (.ifnull 13, 3) := by decide +kernel
theorem dX11_sheet_12 : decode cX11_sheet 12 = .ok (.iload_n 2, 1) := by decide +kernel
theorem dX11_sheet_13 : decode cX11_sheet 13 = .ok (.iconst (-1), 1) := by decide +kernel
theorem dX11_sheet_14 : decode cX11_sheet 14 = .ok (.if_icmp .lt 8, 3) := by decide +kernel
theorem dX11_sheet_17 : decode cX11_sheet 17 = .ok (.iload_n 2, 1) := by decide +kernel
theorem dX11_sheet_18 : decode cX11_sheet 18 = .ok (.iconst 3, 1) := by decide +kernel
theorem dX11_sheet_19 : decode cX11_sheet 19 = .ok (.if_icmp .lt 6, 3) := by decide +kernel
theorem dX11_sheet_22 : decode cX11_sheet 22 = .ok (.bipush (-2), 2) := by decide +kernel
theorem dX11_sheet_24 : decode cX11_sheet 24 = .ok (.ireturn, 1) := by decide +kernel
theorem dX11_sheet_25 : decode cX11_sheet 25 = .ok (.iload_n 2, 1) := by decide +kernel
theorem dX11_sheet_26 : decode cX11_sheet 26 = .ok (.iconst (-1), 1) := by decide +kernel
theorem dX11_sheet_27 : decode cX11_sheet 27 = .ok (.if_icmp .ne 12, 3) := by decide +kernel
theorem dX11_sheet_30 : decode cX11_sheet 30 = .ok (.aload 4, 2) := by decide +kernel
theorem dX11_sheet_32 : decode cX11_sheet 32 = .ok (.iload_n 2, 1) := by decide +kernel
theorem dX11_sheet_33 : decode cX11_sheet 33 = .ok (.iconst 0, 1) := by decide +kernel
theorem dX11_sheet_34 : decode cX11_sheet 34 = .ok (.invokevirtual 352, 3) := by decide +kernel
theorem dX11_sheet_37 : decode cX11_sheet 37 = .ok (.iconst 1, 1) := by decide +kernel
theorem dX11_sheet_38 : decode cX11_sheet 38 = .ok (.ireturn, 1) := by decide +kernel
theorem dX11_sheet_39 : decode cX11_sheet 39 = .ok (.iload_n 3, 1) := by decide +kernel
theorem dX11_sheet_40 : decode cX11_sheet 40 = .ok (.bipush 40, 2) := by decide +kernel
theorem dX11_sheet_42 : decode cX11_sheet 42 = .ok (.if_icmp .le 6, 3) := by decide +kernel
theorem dX11_sheet_45 : decode cX11_sheet 45 = .ok (.bipush (-2), 2) := by decide +kernel
theorem dX11_sheet_47 : decode cX11_sheet 47 = .ok (.ireturn, 1) := by decide +kernel
theorem dX11_sheet_48 : decode cX11_sheet 48 = .ok (.iload_n 3, 1) := by decide +kernel
theorem dX11_sheet_49 : decode cX11_sheet 49 = .ok (.ifCond .ge 6, 3) := by decide +kernel
theorem dX11_sheet_52 : decode cX11_sheet 52 = .ok (.bipush (-14), 2) := by decide +kernel
theorem dX11_sheet_54 : decode cX11_sheet 54 = .ok (.ireturn, 1) := by decide +kernel
theorem dX11_sheet_55 : decode cX11_sheet 55 = .ok (.aload 4, 2) := by decide +kernel
theorem dX11_sheet_57 : decode cX11_sheet 57 = .ok (.iload_n 2, 1) := by decide +kernel
theorem dX11_sheet_58 : decode cX11_sheet 58 = .ok (.iload_n 3, 1) := by decide +kernel
theorem dX11_sheet_59 : decode cX11_sheet 59 = .ok (.invokevirtual 352, 3) := by decide +kernel
theorem dX11_sheet_62 : decode cX11_sheet 62 = .ok (.iconst 1, 1) := by decide +kernel
theorem dX11_sheet_63 : decode cX11_sheet 63 = .ok (.ireturn, 1) := by decide +kernel
set_option maxRecDepth 20000 in
theorem ggX11_cell_X11_sheetAt : GoodIn wsX11_cell wsX11_sheetAt := goodIn_r _ [6, 7, 23, 24, 25, 26, 27, 28, 29, 30, 31, 32, 33, 34, 35] (by decide +kernel) (by decide +kernel)
set_option maxRecDepth 20000 in
theorem gX11_cell_X11_sheetAt : GoodIn wsX11_cell (wsV RX11 348 RX11 yX11_sheetAt wsX11_sheetAt) := goodIn_app (goodIn_of _ (by decide +kernel)) ggX11_cell_X11_sheetAt
set_option maxRecDepth 20000 in
theorem ggX11_cell_X7_hasItem : GoodIn wsX11_cell wsX7_hasItem := goodIn_r _ [12, 13, 20, 21, 22] (by decide +kernel) (by decide +kernel)
set_option maxRecDepth 20000 in
theorem gX11_cell_X7_hasItem : GoodIn wsX11_cell (wsV RX11 358 RX7 yX7_hasItem wsX7_hasItem) := goodIn_app (goodIn_of _ (by decide +kernel)) ggX11_cell_X7_hasItem
set_option maxRecDepth 20000 in
theorem ggX11_cell_X7_put : GoodIn wsX11_cell wsX7_put := goodIn_r _ [17, 18, 19, 20, 21, 22] (by decide +kernel) (by decide +kernel)
set_option maxRecDepth 20000 in
theorem gX11_cell_X7_put : GoodIn wsX11_cell (wsV RX11 361 RX7 yX7_put wsX7_put) := goodIn_app (goodIn_of _ (by decide +kernel)) ggX11_cell_X7_put
theorem dX11_cell_0 : decode cX11_cell 0 = .ok (.aload_n 0, 1) := by decide +kernel
theorem dX11_cell_1 : decode cX11_cell 1 = .ok (.iload_n 1, 1) := by decide +kernel
theorem dX11_cell_2 : decode cX11_cell 2 = .ok (.invokevirtual 348, 3) := by decide +kernel
theorem dX11_cell_5 : decode cX11_cell 5 = .ok (.astore 4, 2) := by decide +kernel
theorem dX11_cell_7 : decode cX11_cell 7 = .ok (.aload 4, 2) := by decide +kernel
theorem dX11_cell_9 : decode cX11_cell 9 = .ok (.ifnonnull 6, 3) := by decide +kernel
theorem dX11_cell_12 : decode cX11_cell 12 = .ok (.bipush (-2), 2) := by decide +kernel
theorem dX11_cell_14 : decode cX11_cell 14 = .ok (.ireturn, 1) := by decide +kernel
theorem dX11_cell_15 : decode cX11_cell 15 = .ok (.aload 4, 2) := by decide +kernel
theorem dX11_cell_17 : decode cX11_cell 17 = .ok (.getfield 355, 3) := by decide +kernel
theorem dX11_cell_20 : decode cX11_cell 20 = .ok (.iconst (-1), 1) := by decide +kernel
theorem dX11_cell_21 : decode cX11_cell 21 = .ok (.if_icmp .ne 6, 3) := by decide +kernel
theorem dX11_cell_24 : decode cX11_cell 24 = .ok (.bipush (-11), 2) := by decide +kernel
theorem dX11_cell_26 : decode cX11_cell 26 = .ok (.ireturn, 1) := by decide +kernel
theorem dX11_cell_27 : decode cX11_cell 27 = .ok (.aload 4, 2) := by decide +kernel
theorem dX11_cell_29 : decode cX11_cell 29 = .ok (.iload_n 2, 1) := by decide +kernel
theorem dX11_cell_30 : decode cX11_cell 30 = .ok (.invokevirtual 358, 3) := by decide +kernel
theorem dX11_cell_33 : decode cX11_cell 33 = .ok (.ifCond .ne 6, 3) := by decide +kernel
theorem dX11_cell_36 : decode cX11_cell 36 = .ok (.bipush (-12), 2) := by decide +kernel
theorem dX11_cell_38 : decode cX11_cell 38 = .ok (.ireturn, 1) := by decide +kernel
theorem dX11_cell_39 : decode cX11_cell 39 = .ok (.aload 4, 2) := by decide +kernel
theorem dX11_cell_41 : decode cX11_cell 41 = .ok (.iload_n 2, 1) := by decide +kernel
theorem dX11_cell_42 : decode cX11_cell 42 = .ok (.iload_n 3, 1) := by decide +kernel
theorem dX11_cell_43 : decode cX11_cell 43 = .ok (.invokevirtual 361, 3) := by decide +kernel
theorem dX11_cell_46 : decode cX11_cell 46 = .ok (.iconst 1, 1) := by decide +kernel
theorem dX11_cell_47 : decode cX11_cell 47 = .ok (.ireturn, 1) := by decide +kernel
set_option maxRecDepth 20000 in
theorem ggX11_copy_X11_sheetAt : GoodIn wsX11_copy wsX11_sheetAt := goodIn_r _ [11, 12, 22, 23, 24, 25, 26, 27, 28, 29, 30, 31, 32, 33, 34] (by decide +kernel) (by decide +kernel)
set_option maxRecDepth 20000 in
theorem gX11_copy_X11_sheetAt : GoodIn wsX11_copy (wsV RX11 348 RX11 yX11_sheetAt wsX11_sheetAt) := goodIn_app (goodIn_of _ (by decide +kernel)) ggX11_copy_X11_sheetAt
set_option maxRecDepth 20000 in
theorem ggX11_copy_X7_hasStretch : GoodIn wsX11_copy wsX7_hasStretch := goodIn_r _ [17, 18, 19, 20, 21] (by decide +kernel) (by decide +kernel)
set_option maxRecDepth 20000 in
theorem gX11_copy_X7_hasStretch : GoodIn wsX11_copy (wsV RX11 364 RX7 yX7_hasStretch wsX7_hasStretch) := goodIn_app (goodIn_of _ (by decide +kernel)) ggX11_copy_X7_hasStretch
theorem dX11_copy_0 : decode cX11_copy 0 = .ok (.aload_n 0, 1) := by decide +kernel
theorem dX11_copy_1 : decode cX11_copy 1 = .ok (.iload_n 1, 1) := by decide +kernel
theorem dX11_copy_2 : decode cX11_copy 2 = .ok (.invokevirtual 348, 3) := by decide +kernel
theorem dX11_copy_5 : decode cX11_copy 5 = .ok (.astore 6, 2) := by decide +kernel
theorem dX11_copy_7 : decode cX11_copy 7 = .ok (.aload_n 0, 1) := by decide +kernel
theorem dX11_copy_8 : decode cX11_copy 8 = .ok (.iload_n 3, 1) := by decide +kernel
theorem dX11_copy_9 : decode cX11_copy 9 = .ok (.invokevirtual 348, 3) := by decide +kernel
theorem dX11_copy_12 : decode cX11_copy 12 = .ok (.astore 7, 2) := by decide +kernel
theorem dX11_copy_14 : decode cX11_copy 14 = .ok (.aload 6, 2) := by decide +kernel
theorem dX11_copy_16 : decode cX11_copy 16 = .ok (.ifnull 8, 3) := by decide +kernel
theorem dX11_copy_19 : decode cX11_copy 19 = .ok (.aload 7, 2) := by decide +kernel
theorem dX11_copy_21 : decode cX11_copy 21 = .ok (.ifnonnull 6, 3) := by decide +kernel
theorem dX11_copy_24 : decode cX11_copy 24 = .ok (.bipush (-2), 2) := by decide +kernel
theorem dX11_copy_26 : decode cX11_copy 26 = .ok (.ireturn, 1) := by decide +kernel
theorem dX11_copy_27 : decode cX11_copy 27 = .ok (.aload 6, 2) := by decide +kernel
theorem dX11_copy_29 : decode cX11_copy 29 = .ok (.getfield 355, 3) := by decide +kernel
theorem dX11_copy_32 : decode cX11_copy 32 = .ok (.iconst (-1), 1) := by decide +kernel
theorem dX11_copy_33 : decode cX11_copy 33 = .ok (.if_icmp .eq 12, 3) := by decide +kernel
theorem dX11_copy_36 : decode cX11_copy 36 = .ok (.aload 7, 2) := by decide +kernel
theorem dX11_copy_38 : decode cX11_copy 38 = .ok (.getfield 355, 3) := by decide +kernel
theorem dX11_copy_41 : decode cX11_copy 41 = .ok (.iconst (-1), 1) := by decide +kernel
theorem dX11_copy_42 : decode cX11_copy 42 = .ok (.if_icmp .ne 6, 3) := by decide +kernel
theorem dX11_copy_45 : decode cX11_copy 45 = .ok (.bipush (-11), 2) := by decide +kernel
theorem dX11_copy_47 : decode cX11_copy 47 = .ok (.ireturn, 1) := by decide +kernel
theorem dX11_copy_48 : decode cX11_copy 48 = .ok (.aload 6, 2) := by decide +kernel

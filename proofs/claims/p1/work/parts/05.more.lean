theorem dX11_pass_0 : decode cX11_pass 0 = .ok (.iload_n 1, 1) := by decide +kernel
theorem dX11_pass_1 : decode cX11_pass 1 = .ok (.iconst 1, 1) := by decide +kernel
theorem dX11_pass_2 : decode cX11_pass 2 = .ok (.if_icmp .lt 9, 3) := by decide +kernel
theorem dX11_pass_11 : decode cX11_pass 11 = .ok (.bipush (-2), 2) := by decide +kernel
theorem dX11_pass_13 : decode cX11_pass 13 = .ok (.ireturn, 1) := by decide +kernel
theorem dX11_pass_5 : decode cX11_pass 5 = .ok (.iload_n 1, 1) := by decide +kernel
theorem dX11_pass_6 : decode cX11_pass 6 = .ok (.bipush 48, 2) := by decide +kernel
theorem dX11_pass_8 : decode cX11_pass 8 = .ok (.if_icmp .le 6, 3) := by decide +kernel
theorem dX11_pass_14 : decode cX11_pass 14 = .ok (.aload_n 0, 1) := by decide +kernel
theorem dX11_pass_15 : decode cX11_pass 15 = .ok (.getfield 71, 3) := by decide +kernel
theorem dX11_pass_18 : decode cX11_pass 18 = .ok (.iload_n 1, 1) := by decide +kernel
theorem dX11_pass_19 : decode cX11_pass 19 = .ok (.iadd, 1) := by decide +kernel
theorem dX11_pass_20 : decode cX11_pass 20 = .ok (.sipush 240, 3) := by decide +kernel
theorem dX11_pass_23 : decode cX11_pass 23 = .ok (.if_icmp .lt 6, 3) := by decide +kernel
theorem dX11_pass_29 : decode cX11_pass 29 = .ok (.iconst 0, 1) := by decide +kernel
theorem dX11_pass_30 : decode cX11_pass 30 = .ok (.istore_n 2, 1) := by decide +kernel
theorem dX11_pass_31 : decode cX11_pass 31 = .ok (.iload_n 2, 1) := by decide +kernel
theorem dX11_pass_32 : decode cX11_pass 32 = .ok (.aload_n 0, 1) := by decide +kernel
theorem dX11_pass_33 : decode cX11_pass 33 = .ok (.getfield 75, 3) := by decide +kernel
theorem dX11_pass_36 : decode cX11_pass 36 = .ok (.if_icmp .ge 24, 3) := by decide +kernel
theorem dX11_pass_60 : decode cX11_pass 60 = .ok (.aload_n 0, 1) := by decide +kernel
theorem dX11_pass_61 : decode cX11_pass 61 = .ok (.dup, 1) := by decide +kernel
theorem dX11_pass_62 : decode cX11_pass 62 = .ok (.getfield 71, 3) := by decide +kernel
theorem dX11_pass_65 : decode cX11_pass 65 = .ok (.iload_n 1, 1) := by decide +kernel
theorem dX11_pass_66 : decode cX11_pass 66 = .ok (.iadd, 1) := by decide +kernel
theorem dX11_pass_67 : decode cX11_pass 67 = .ok (.putfield 71, 3) := by decide +kernel
theorem dX11_pass_70 : decode cX11_pass 70 = .ok (.aload_n 0, 1) := by decide +kernel
theorem dX11_pass_71 : decode cX11_pass 71 = .ok (.getfield 71, 3) := by decide +kernel
theorem dX11_pass_74 : decode cX11_pass 74 = .ok (.ireturn, 1) := by decide +kernel
theorem dX11_stays_0 : decode cX11_stays 0 = .ok (.iload_n 1, 1) := by decide +kernel
theorem dX11_stays_1 : decode cX11_stays 1 = .ok (.ifCond .lt 9, 3) := by decide +kernel
theorem dX11_stays_10 : decode cX11_stays 10 = .ok (.bipush (-2), 2) := by decide +kernel
theorem dX11_stays_12 : decode cX11_stays 12 = .ok (.ireturn, 1) := by decide +kernel
theorem dX11_stays_4 : decode cX11_stays 4 = .ok (.iload_n 1, 1) := by decide +kernel
theorem dX11_stays_5 : decode cX11_stays 5 = .ok (.bipush 9, 2) := by decide +kernel
theorem dX11_stays_7 : decode cX11_stays 7 = .ok (.if_icmp .le 6, 3) := by decide +kernel
theorem dX11_stays_13 : decode cX11_stays 13 = .ok (.aload_n 0, 1) := by decide +kernel
theorem dX11_stays_14 : decode cX11_stays 14 = .ok (.getfield 253, 3) := by decide +kernel
theorem dX11_stays_17 : decode cX11_stays 17 = .ok (.istore_n 2, 1) := by decide +kernel
theorem dX11_stays_18 : decode cX11_stays 18 = .ok (.aload_n 0, 1) := by decide +kernel
theorem dX11_stays_19 : decode cX11_stays 19 = .ok (.iload_n 1, 1) := by decide +kernel
theorem dX11_stays_20 : decode cX11_stays 20 = .ok (.putfield 253, 3) := by decide +kernel
theorem dX11_stays_23 : decode cX11_stays 23 = .ok (.iload_n 2, 1) := by decide +kernel
theorem dX11_stays_24 : decode cX11_stays 24 = .ok (.ireturn, 1) := by decide +kernel
theorem dX10_setHours_0 : decode cX10_setHours 0 = .ok (.iload_n 1, 1) := by decide +kernel
theorem dX10_setHours_1 : decode cX10_setHours 1 = .ok (.iconst 0, 1) := by decide +kernel
theorem dX10_setHours_2 : decode cX10_setHours 2 = .ok (.invokestatic 29, 3) := by decide +kernel
theorem dX10_setHours_5 : decode cX10_setHours 5 = .ok (.istore 4, 2) := by decide +kernel
theorem dX10_setHours_7 : decode cX10_setHours 7 = .ok (.iload 4, 2) := by decide +kernel
theorem dX10_setHours_9 : decode cX10_setHours 9 = .ok (.iload_n 2, 1) := by decide +kernel
theorem dX10_setHours_10 : decode cX10_setHours 10 = .ok (.if_icmp .ge 21, 3) := by decide +kernel
theorem dX10_setHours_31 : decode cX10_setHours 31 = .ok (.return_, 1) := by decide +kernel
theorem dX10_setHours_13 : decode cX10_setHours 13 = .ok (.iload 4, 2) := by decide +kernel
theorem dX10_setHours_15 : decode cX10_setHours 15 = .ok (.aload_n 0, 1) := by decide +kernel
theorem dX10_setHours_16 : decode cX10_setHours 16 = .ok (.arraylength, 1) := by decide +kernel
theorem dX10_setHours_17 : decode cX10_setHours 17 = .ok (.if_icmp .ge 14, 3) := by decide +kernel
theorem dX10_setHours_20 : decode cX10_setHours 20 = .ok (.aload_n 0, 1) := by decide +kernel
theorem dX10_setHours_21 : decode cX10_setHours 21 = .ok (.iload 4, 2) := by decide +kernel
theorem dX10_setHours_23 : decode cX10_setHours 23 = .ok (.iload_n 3, 1) := by decide +kernel
theorem dX10_setHours_24 : decode cX10_setHours 24 = .ok (.iastore, 1) := by decide +kernel
theorem dX10_setHours_25 : decode cX10_setHours 25 = .ok (.iinc 4 1, 3) := by decide +kernel
theorem dX10_setHours_28 : decode cX10_setHours 28 = .ok (.goto (-21), 3) := by decide +kernel
theorem dX11_isWind_0 : decode cX11_isWind 0 = .ok (.iload_n 0, 1) := by decide +kernel
theorem dX11_isWind_1 : decode cX11_isWind 1 = .ok (.ifCond .lt 10, 3) := by decide +kernel
theorem dX11_isWind_11 : decode cX11_isWind 11 = .ok (.iconst 0, 1) := by decide +kernel
theorem dX11_isWind_12 : decode cX11_isWind 12 = .ok (.ireturn, 1) := by decide +kernel
theorem dX11_isWind_4 : decode cX11_isWind 4 = .ok (.iload_n 0, 1) := by decide +kernel
theorem dX11_isWind_5 : decode cX11_isWind 5 = .ok (.sipush 4444, 3) := by decide +kernel
theorem dX11_isWind_8 : decode cX11_isWind 8 = .ok (.if_icmp .le 5, 3) := by decide +kernel
theorem dX11_isWind_13 : decode cX11_isWind 13 = .ok (.iload_n 0, 1) := by decide +kernel
theorem dX11_isWind_14 : decode cX11_isWind 14 = .ok (.sipush 1000, 3) := by decide +kernel
theorem dX11_isWind_17 : decode cX11_isWind 17 = .ok (.idiv, 1) := by decide +kernel
theorem dX11_isWind_18 : decode cX11_isWind 18 = .ok (.istore_n 1, 1) := by decide +kernel
theorem dX11_isWind_19 : decode cX11_isWind 19 = .ok (.iload_n 0, 1) := by decide +kernel
theorem dX11_isWind_20 : decode cX11_isWind 20 = .ok (.bipush 100, 2) := by decide +kernel
theorem dX11_isWind_22 : decode cX11_isWind 22 = .ok (.idiv, 1) := by decide +kernel
theorem dX11_isWind_23 : decode cX11_isWind 23 = .ok (.bipush 10, 2) := by decide +kernel
theorem dX11_isWind_25 : decode cX11_isWind 25 = .ok (.irem, 1) := by decide +kernel
theorem dX11_isWind_26 : decode cX11_isWind 26 = .ok (.istore_n 2, 1) := by decide +kernel
theorem dX11_isWind_27 : decode cX11_isWind 27 = .ok (.iload_n 0, 1) := by decide +kernel
theorem dX11_isWind_28 : decode cX11_isWind 28 = .ok (.bipush 10, 2) := by decide +kernel
theorem dX11_isWind_30 : decode cX11_isWind 30 = .ok (.idiv, 1) := by decide +kernel
theorem dX11_isWind_31 : decode cX11_isWind 31 = .ok (.bipush 10, 2) := by decide +kernel
theorem dX11_isWind_33 : decode cX11_isWind 33 = .ok (.irem, 1) := by decide +kernel
theorem dX11_isWind_34 : decode cX11_isWind 34 = .ok (.istore_n 3, 1) := by decide +kernel
theorem dX11_isWind_35 : decode cX11_isWind 35 = .ok (.iload_n 0, 1) := by decide +kernel
theorem dX11_isWind_36 : decode cX11_isWind 36 = .ok (.bipush 10, 2) := by decide +kernel
theorem dX11_isWind_38 : decode cX11_isWind 38 = .ok (.irem, 1) := by decide +kernel
theorem dX11_isWind_39 : decode cX11_isWind 39 = .ok (.istore 4, 2) := by decide +kernel
theorem dX11_isWind_41 : decode cX11_isWind 41 = .ok (.iload_n 2, 1) := by decide +kernel
theorem dX11_isWind_42 : decode cX11_isWind 42 = .ok (.iconst 4, 1) := by decide +kernel
theorem dX11_isWind_43 : decode cX11_isWind 43 = .ok (.if_icmp .gt 29, 3) := by decide +kernel
theorem dX11_isWind_72 : decode cX11_isWind 72 = .ok (.iconst 0, 1) := by decide +kernel
theorem dX11_isWind_73 : decode cX11_isWind 73 = .ok (.ireturn, 1) := by decide +kernel
theorem dX11_isWind_46 : decode cX11_isWind 46 = .ok (.iload_n 3, 1) := by decide +kernel
theorem dX11_isWind_47 : decode cX11_isWind 47 = .ok (.iconst 4, 1) := by decide +kernel
theorem dX11_isWind_48 : decode cX11_isWind 48 = .ok (.if_icmp .gt 24, 3) := by decide +kernel
theorem dX11_isWind_51 : decode cX11_isWind 51 = .ok (.iload 4, 2) := by decide +kernel
theorem dX11_isWind_53 : decode cX11_isWind 53 = .ok (.iconst 4, 1) := by decide +kernel
theorem dX11_isWind_54 : decode cX11_isWind 54 = .ok (.if_icmp .gt 18, 3) := by decide +kernel
theorem dX11_isWind_57 : decode cX11_isWind 57 = .ok (.iload_n 1, 1) := by decide +kernel
theorem dX11_isWind_58 : decode cX11_isWind 58 = .ok (.iload_n 2, 1) := by decide +kernel
theorem dX11_isWind_59 : decode cX11_isWind 59 = .ok (.if_icmp .gt 13, 3) := by decide +kernel
theorem dX11_isWind_62 : decode cX11_isWind 62 = .ok (.iload_n 3, 1) := by decide +kernel
theorem dX11_isWind_63 : decode cX11_isWind 63 = .ok (.iload 4, 2) := by decide +kernel
theorem dX11_isWind_65 : decode cX11_isWind 65 = .ok (.if_icmp .gt 7, 3) := by decide +kernel
theorem dX11_isWind_68 : decode cX11_isWind 68 = .ok (.iconst 1, 1) := by decide +kernel
theorem dX11_isWind_69 : decode cX11_isWind 69 = .ok (.goto 4, 3) := by decide +kernel
theorem dX10_tellWind_0 : decode cX10_tellWind 0 = .ok (.aload_n 0, 1) := by decide +kernel
theorem dX10_tellWind_1 : decode cX10_tellWind 1 = .ok (.getfield 9, 3) := by decide +kernel
theorem dX10_tellWind_4 : decode cX10_tellWind 4 = .ok (.iload_n 1, 1) := by decide +kernel
theorem dX10_tellWind_5 : decode cX10_tellWind 5 = .ok (.iload_n 2, 1) := by decide +kernel
theorem dX10_tellWind_6 : decode cX10_tellWind 6 = .ok (.iload_n 3, 1) := by decide +kernel
set_option maxRecDepth 20000 in
theorem ggX10_tellWind_X10_setHours : GoodIn wsX10_tellWind wsX10_setHours := goodIn_r _ [6, 7, 8, 9, 10] (by decide +kernel) (by decide +kernel)
set_option maxRecDepth 20000 in
theorem gX10_tellWind_X10_setHours : GoodIn wsX10_tellWind (va_wsS RX10 18 yX10_setHours wsX10_setHours) := goodIn_app (goodIn_of _ (by decide +kernel)) ggX10_tellWind_X10_setHours
theorem dX10_tellWind_7 : decode cX10_tellWind 7 = .ok (.invokestatic 18, 3) := by decide +kernel
theorem dX10_tellWind_10 : decode cX10_tellWind 10 = .ok (.aload_n 0, 1) := by decide +kernel
theorem dX10_tellWind_11 : decode cX10_tellWind 11 = .ok (.dup, 1) := by decide +kernel
theorem dX10_tellWind_12 : decode cX10_tellWind 12 = .ok (.getfield 22, 3) := by decide +kernel
theorem dX10_tellWind_15 : decode cX10_tellWind 15 = .ok (.iconst 1, 1) := by decide +kernel
theorem dX10_tellWind_16 : decode cX10_tellWind 16 = .ok (.iadd, 1) := by decide +kernel
theorem dX10_tellWind_17 : decode cX10_tellWind 17 = .ok (.putfield 22, 3) := by decide +kernel
theorem dX10_tellWind_20 : decode cX10_tellWind 20 = .ok (.return_, 1) := by decide +kernel
theorem dX10_tellFog_0 : decode cX10_tellFog 0 = .ok (.aload_n 0, 1) := by decide +kernel
theorem dX10_tellFog_1 : decode cX10_tellFog 1 = .ok (.getfield 15, 3) := by decide +kernel
theorem dX10_tellFog_4 : decode cX10_tellFog 4 = .ok (.iload_n 1, 1) := by decide +kernel
theorem dX10_tellFog_5 : decode cX10_tellFog 5 = .ok (.iload_n 2, 1) := by decide +kernel
theorem dX10_tellFog_6 : decode cX10_tellFog 6 = .ok (.iload_n 3, 1) := by decide +kernel
set_option maxRecDepth 20000 in
theorem ggX10_tellFog_X10_setHours : GoodIn wsX10_tellFog wsX10_setHours := goodIn_r _ [6, 7, 8, 9, 10] (by decide +kernel) (by decide +kernel)
set_option maxRecDepth 20000 in
theorem gX10_tellFog_X10_setHours : GoodIn wsX10_tellFog (va_wsS RX10 18 yX10_setHours wsX10_setHours) := goodIn_app (goodIn_of _ (by decide +kernel)) ggX10_tellFog_X10_setHours
theorem dX10_tellFog_7 : decode cX10_tellFog 7 = .ok (.invokestatic 18, 3) := by decide +kernel
theorem dX10_tellFog_10 : decode cX10_tellFog 10 = .ok (.aload_n 0, 1) := by decide +kernel
theorem dX10_tellFog_11 : decode cX10_tellFog 11 = .ok (.dup, 1) := by decide +kernel
theorem dX10_tellFog_12 : decode cX10_tellFog 12 = .ok (.getfield 26, 3) := by decide +kernel
theorem dX10_tellFog_15 : decode cX10_tellFog 15 = .ok (.iconst 1, 1) := by decide +kernel
theorem dX10_tellFog_16 : decode cX10_tellFog 16 = .ok (.iadd, 1) := by decide +kernel
theorem dX10_tellFog_17 : decode cX10_tellFog 17 = .ok (.putfield 26, 3) := by decide +kernel
theorem dX10_tellFog_20 : decode cX10_tellFog 20 = .ok (.return_, 1) := by decide +kernel
theorem dX11_wind_0 : decode cX11_wind 0 = .ok (.iload_n 1, 1) := by decide +kernel
theorem dX11_wind_1 : decode cX11_wind 1 = .ok (.iload_n 2, 1) := by decide +kernel
set_option maxRecDepth 20000 in
theorem ggX11_wind_X11_isSpan : GoodIn wsX11_wind wsX11_isSpan := goodIn_r _ [7] (by decide +kernel) (by decide +kernel)
set_option maxRecDepth 20000 in
theorem gX11_wind_X11_isSpan : GoodIn wsX11_wind (va_wsS RX11 86 yX11_isSpan wsX11_isSpan) := goodIn_app (goodIn_of _ (by decide +kernel)) ggX11_wind_X11_isSpan
theorem dX11_wind_2 : decode cX11_wind 2 = .ok (.invokestatic 86, 3) := by decide +kernel
theorem dX11_wind_5 : decode cX11_wind 5 = .ok (.ifCond .eq 10, 3) := by decide +kernel
theorem dX11_wind_8 : decode cX11_wind 8 = .ok (.iload_n 3, 1) := by decide +kernel
set_option maxRecDepth 20000 in
theorem ggX11_wind_X11_isWind : GoodIn wsX11_wind wsX11_isWind := goodIn_r _ [10] (by decide +kernel) (by decide +kernel)
set_option maxRecDepth 20000 in
theorem gX11_wind_X11_isWind : GoodIn wsX11_wind (va_wsS RX11 90 yX11_isWind wsX11_isWind) := goodIn_app (goodIn_of _ (by decide +kernel)) ggX11_wind_X11_isWind
theorem dX11_wind_9 : decode cX11_wind 9 = .ok (.invokestatic 90, 3) := by decide +kernel
theorem dX11_wind_12 : decode cX11_wind 12 = .ok (.ifCond .ne 6, 3) := by decide +kernel
theorem dX11_wind_18 : decode cX11_wind 18 = .ok (.aload_n 0, 1) := by decide +kernel
theorem dX11_wind_19 : decode cX11_wind 19 = .ok (.getfield 10, 3) := by decide +kernel
theorem dX11_wind_22 : decode cX11_wind 22 = .ok (.getfield 94, 3) := by decide +kernel
theorem dX11_wind_25 : decode cX11_wind 25 = .ok (.bipush 30, 2) := by decide +kernel
theorem dX11_wind_27 : decode cX11_wind 27 = .ok (.if_icmp .lt 6, 3) := by decide +kernel
theorem dX11_wind_33 : decode cX11_wind 33 = .ok (.aload_n 0, 1) := by decide +kernel
theorem dX11_wind_34 : decode cX11_wind 34 = .ok (.getfield 10, 3) := by decide +kernel
theorem dX11_wind_37 : decode cX11_wind 37 = .ok (.iload_n 1, 1) := by decide +kernel
theorem dX11_wind_38 : decode cX11_wind 38 = .ok (.iload_n 2, 1) := by decide +kernel
theorem dX11_wind_39 : decode cX11_wind 39 = .ok (.iload_n 3, 1) := by decide +kernel
set_option maxRecDepth 20000 in
theorem ggX11_wind_X10_tellWind : GoodIn wsX11_wind wsX10_tellWind := goodIn_r _ [15, 16, 17, 18, 19, 14, 20, 21, 22, 23, 24, 54, 55, 56, 57] (by decide +kernel) (by decide +kernel)
set_option maxRecDepth 20000 in
theorem gX11_wind_X10_tellWind : GoodIn wsX11_wind (wsV RX11 97 RX10 yX10_tellWind wsX10_tellWind) := goodIn_app (goodIn_of _ (by decide +kernel)) ggX11_wind_X10_tellWind
theorem dX11_wind_40 : decode cX11_wind 40 = .ok (.invokevirtual 97, 3) := by decide +kernel
theorem dX11_wind_43 : decode cX11_wind 43 = .ok (.iconst 0, 1) := by decide +kernel
theorem dX11_wind_44 : decode cX11_wind 44 = .ok (.istore 4, 2) := by decide +kernel
theorem dX11_wind_46 : decode cX11_wind 46 = .ok (.iload 4, 2) := by decide +kernel
theorem dX11_wind_48 : decode cX11_wind 48 = .ok (.aload_n 0, 1) := by decide +kernel
theorem dX11_wind_49 : decode cX11_wind 49 = .ok (.getfield 75, 3) := by decide +kernel
theorem dX11_wind_52 : decode cX11_wind 52 = .ok (.if_icmp .ge 28, 3) := by decide +kernel
theorem dX11_wind_80 : decode cX11_wind 80 = .ok (.aload_n 0, 1) := by decide +kernel
theorem dX11_wind_81 : decode cX11_wind 81 = .ok (.getfield 10, 3) := by decide +kernel
theorem dX11_wind_84 : decode cX11_wind 84 = .ok (.getfield 94, 3) := by decide +kernel
theorem dX11_wind_87 : decode cX11_wind 87 = .ok (.ireturn, 1) := by decide +kernel
theorem dX11_wind_15 : decode cX11_wind 15 = .ok (.bipush (-2), 2) := by decide +kernel
theorem dX11_wind_17 : decode cX11_wind 17 = .ok (.ireturn, 1) := by decide +kernel
theorem dX11_fog_0 : decode cX11_fog 0 = .ok (.iload_n 1, 1) := by decide +kernel
theorem dX11_fog_1 : decode cX11_fog 1 = .ok (.iload_n 2, 1) := by decide +kernel
set_option maxRecDepth 20000 in
theorem ggX11_fog_X11_isSpan : GoodIn wsX11_fog wsX11_isSpan := goodIn_r _ [6] (by decide +kernel) (by decide +kernel)
set_option maxRecDepth 20000 in
theorem gX11_fog_X11_isSpan : GoodIn wsX11_fog (va_wsS RX11 86 yX11_isSpan wsX11_isSpan) := goodIn_app (goodIn_of _ (by decide +kernel)) ggX11_fog_X11_isSpan
theorem dX11_fog_2 : decode cX11_fog 2 = .ok (.invokestatic 86, 3) := by decide +kernel
theorem dX11_fog_5 : decode cX11_fog 5 = .ok (.ifCond .eq 13, 3) := by decide +kernel
theorem dX11_fog_8 : decode cX11_fog 8 = .ok (.iload_n 3, 1) := by decide +kernel
theorem dX11_fog_9 : decode cX11_fog 9 = .ok (.ifCond .lt 9, 3) := by decide +kernel
theorem dX11_fog_18 : decode cX11_fog 18 = .ok (.bipush (-2), 2) := by decide +kernel
theorem dX11_fog_20 : decode cX11_fog 20 = .ok (.ireturn, 1) := by decide +kernel
theorem dX11_fog_12 : decode cX11_fog 12 = .ok (.iload_n 3, 1) := by decide +kernel
theorem dX11_fog_13 : decode cX11_fog 13 = .ok (.bipush 16, 2) := by decide +kernel
theorem dX11_fog_15 : decode cX11_fog 15 = .ok (.if_icmp .le 6, 3) := by decide +kernel
theorem dX11_fog_21 : decode cX11_fog 21 = .ok (.aload_n 0, 1) := by decide +kernel
theorem dX11_fog_22 : decode cX11_fog 22 = .ok (.getfield 10, 3) := by decide +kernel
theorem dX11_fog_25 : decode cX11_fog 25 = .ok (.getfield 104, 3) := by decide +kernel
theorem dX11_fog_28 : decode cX11_fog 28 = .ok (.bipush 30, 2) := by decide +kernel
theorem dX11_fog_30 : decode cX11_fog 30 = .ok (.if_icmp .lt 6, 3) := by decide +kernel
theorem dX11_fog_36 : decode cX11_fog 36 = .ok (.aload_n 0, 1) := by decide +kernel
theorem dX11_fog_37 : decode cX11_fog 37 = .ok (.getfield 10, 3) := by decide +kernel
theorem dX11_fog_40 : decode cX11_fog 40 = .ok (.iload_n 1, 1) := by decide +kernel
theorem dX11_fog_41 : decode cX11_fog 41 = .ok (.iload_n 2, 1) := by decide +kernel
theorem dX11_fog_42 : decode cX11_fog 42 = .ok (.iload_n 3, 1) := by decide +kernel
set_option maxRecDepth 20000 in
theorem ggX11_fog_X10_tellFog : GoodIn wsX11_fog wsX10_tellFog := goodIn_r _ [11, 12, 13, 14, 15, 10, 16, 17, 18, 19, 20, 34, 35, 36, 37] (by decide +kernel) (by decide +kernel)
set_option maxRecDepth 20000 in
theorem gX11_fog_X10_tellFog : GoodIn wsX11_fog (wsV RX11 107 RX10 yX10_tellFog wsX10_tellFog) := goodIn_app (goodIn_of _ (by decide +kernel)) ggX11_fog_X10_tellFog
theorem dX11_fog_43 : decode cX11_fog 43 = .ok (.invokevirtual 107, 3) := by decide +kernel
theorem dX11_fog_46 : decode cX11_fog 46 = .ok (.aload_n 0, 1) := by decide +kernel
theorem dX11_fog_47 : decode cX11_fog 47 = .ok (.getfield 10, 3) := by decide +kernel
theorem dX11_fog_50 : decode cX11_fog 50 = .ok (.getfield 104, 3) := by decide +kernel
theorem dX11_fog_53 : decode cX11_fog 53 = .ok (.ireturn, 1) := by decide +kernel
theorem dX4_addHearer_0 : decode cX4_addHearer 0 = .ok (.aload_n 0, 1) := by decide +kernel
theorem dX4_addHearer_1 : decode cX4_addHearer 1 = .ok (.getfield 9, 3) := by decide +kernel
theorem dX4_addHearer_4 : decode cX4_addHearer 4 = .ok (.aload_n 0, 1) := by decide +kernel
theorem dX4_addHearer_5 : decode cX4_addHearer 5 = .ok (.getfield 43, 3) := by decide +kernel
theorem dX4_addHearer_8 : decode cX4_addHearer 8 = .ok (.iload_n 1, 1) := by decide +kernel
theorem dX4_addHearer_9 : decode cX4_addHearer 9 = .ok (.iastore, 1) := by decide +kernel
theorem dX4_addHearer_10 : decode cX4_addHearer 10 = .ok (.aload_n 0, 1) := by decide +kernel
theorem dX4_addHearer_11 : decode cX4_addHearer 11 = .ok (.dup, 1) := by decide +kernel
theorem dX4_addHearer_12 : decode cX4_addHearer 12 = .ok (.getfield 43, 3) := by decide +kernel
theorem dX4_addHearer_15 : decode cX4_addHearer 15 = .ok (.dup_x1, 1) := by decide +kernel
theorem dX4_addHearer_16 : decode cX4_addHearer 16 = .ok (.iconst 1, 1) := by decide +kernel
theorem dX4_addHearer_17 : decode cX4_addHearer 17 = .ok (.iadd, 1) := by decide +kernel
theorem dX4_addHearer_18 : decode cX4_addHearer 18 = .ok (.putfield 43, 3) := by decide +kernel
theorem dX4_addHearer_21 : decode cX4_addHearer 21 = .ok (.ireturn, 1) := by decide +kernel
theorem dX11_hearer_0 : decode cX11_hearer 0 = .ok (.iload_n 1, 1) := by decide +kernel
set_option maxRecDepth 20000 in
theorem ggX11_hearer_X11_isCell : GoodIn wsX11_hearer wsX11_isCell := goodIn_r _ [6] (by decide +kernel) (by decide +kernel)
set_option maxRecDepth 20000 in
theorem gX11_hearer_X11_isCell : GoodIn wsX11_hearer (va_wsS RX11 110 yX11_isCell wsX11_isCell) := goodIn_app (goodIn_of _ (by decide +kernel)) ggX11_hearer_X11_isCell
theorem dX11_hearer_1 : decode cX11_hearer 1 = .ok (.invokestatic 110, 3) := by decide +kernel
theorem dX11_hearer_4 : decode cX11_hearer 4 = .ok (.ifCond .ne 6, 3) := by decide +kernel
theorem dX11_hearer_10 : decode cX11_hearer 10 = .ok (.aload_n 0, 1) := by decide +kernel
theorem dX11_hearer_11 : decode cX11_hearer 11 = .ok (.getfield 25, 3) := by decide +kernel
theorem dX11_hearer_14 : decode cX11_hearer 14 = .ok (.getfield 161, 3) := by decide +kernel
theorem dX11_hearer_17 : decode cX11_hearer 17 = .ok (.bipush 6, 2) := by decide +kernel
theorem dX11_hearer_19 : decode cX11_hearer 19 = .ok (.if_icmp .lt 6, 3) := by decide +kernel
theorem dX11_hearer_25 : decode cX11_hearer 25 = .ok (.aload_n 0, 1) := by decide +kernel
theorem dX11_hearer_26 : decode cX11_hearer 26 = .ok (.getfield 25, 3) := by decide +kernel
theorem dX11_hearer_29 : decode cX11_hearer 29 = .ok (.iload_n 1, 1) := by decide +kernel
set_option maxRecDepth 20000 in
theorem ggX11_hearer_X4_addHearer : GoodIn wsX11_hearer wsX4_addHearer := goodIn_r _ [11, 12, 13, 27, 28, 29, 30, 31, 32, 33, 34, 35, 36, 37, 38, 39] (by decide +kernel) (by decide +kernel)
set_option maxRecDepth 20000 in
theorem gX11_hearer_X4_addHearer : GoodIn wsX11_hearer (wsV RX11 164 RX4 yX4_addHearer wsX4_addHearer) := goodIn_app (goodIn_of _ (by decide +kernel)) ggX11_hearer_X4_addHearer
theorem dX11_hearer_30 : decode cX11_hearer 30 = .ok (.invokevirtual 164, 3) := by decide +kernel
theorem dX11_hearer_33 : decode cX11_hearer 33 = .ok (.ireturn, 1) := by decide +kernel
theorem dX11_hearer_7 : decode cX11_hearer 7 = .ok (.bipush (-2), 2) := by decide +kernel
theorem dX11_hearer_9 : decode cX11_hearer 9 = .ok (.ireturn, 1) := by decide +kernel
theorem dX4_setWave_0 : decode cX4_setWave 0 = .ok (.bipush 10, 2) := by decide +kernel
theorem dX4_setWave_2 : decode cX4_setWave 2 = .ok (.aload_n 0, 1) := by decide +kernel
theorem dX4_setWave_3 : decode cX4_setWave 3 = .ok (.getfield 15, 3) := by decide +kernel
theorem dX4_setWave_6 : decode cX4_setWave 6 = .ok (.iload_n 1, 1) := by decide +kernel
theorem dX4_setWave_7 : decode cX4_setWave 7 = .ok (.iaload, 1) := by decide +kernel
theorem dX4_setWave_8 : decode cX4_setWave 8 = .ok (.imul, 1) := by decide +kernel
theorem dX4_setWave_9 : decode cX4_setWave 9 = .ok (.aload_n 0, 1) := by decide +kernel
theorem dX4_setWave_10 : decode cX4_setWave 10 = .ok (.getfield 18, 3) := by decide +kernel
theorem dX4_setWave_13 : decode cX4_setWave 13 = .ok (.iload_n 1, 1) := by decide +kernel
theorem dX4_setWave_14 : decode cX4_setWave 14 = .ok (.iaload, 1) := by decide +kernel
theorem dX4_setWave_15 : decode cX4_setWave 15 = .ok (.iadd, 1) := by decide +kernel
theorem dX4_setWave_16 : decode cX4_setWave 16 = .ok (.istore 4, 2) := by decide +kernel
theorem dX4_setWave_18 : decode cX4_setWave 18 = .ok (.aload_n 0, 1) := by decide +kernel
theorem dX4_setWave_19 : decode cX4_setWave 19 = .ok (.getfield 15, 3) := by decide +kernel
theorem dX4_setWave_22 : decode cX4_setWave 22 = .ok (.iload_n 1, 1) := by decide +kernel
theorem dX4_setWave_23 : decode cX4_setWave 23 = .ok (.iload_n 2, 1) := by decide +kernel
theorem dX4_setWave_24 : decode cX4_setWave 24 = .ok (.iastore, 1) := by decide +kernel
theorem dX4_setWave_25 : decode cX4_setWave 25 = .ok (.aload_n 0, 1) := by decide +kernel
theorem dX4_setWave_26 : decode cX4_setWave 26 = .ok (.getfield 18, 3) := by decide +kernel
theorem dX4_setWave_29 : decode cX4_setWave 29 = .ok (.iload_n 1, 1) := by decide +kernel
theorem dX4_setWave_30 : decode cX4_setWave 30 = .ok (.iload_n 3, 1) := by decide +kernel
theorem dX4_setWave_31 : decode cX4_setWave 31 = .ok (.iastore, 1) := by decide +kernel
theorem dX4_setWave_32 : decode cX4_setWave 32 = .ok (.iload 4, 2) := by decide +kernel
theorem dX4_setWave_34 : decode cX4_setWave 34 = .ok (.ireturn, 1) := by decide +kernel
theorem dX11_wave_0 : decode cX11_wave 0 = .ok (.iload_n 1, 1) := by decide +kernel
theorem dX11_wave_1 : decode cX11_wave 1 = .ok (.ifCond .lt 40, 3) := by decide +kernel
theorem dX11_wave_41 : decode cX11_wave 41 = .ok (.bipush (-2), 2) := by decide +kernel
theorem dX11_wave_43 : decode cX11_wave 43 = .ok (.ireturn, 1) := by decide +kernel
theorem dX11_wave_4 : decode cX11_wave 4 = .ok (.iload_n 1, 1) := by decide +kernel
theorem dX11_wave_5 : decode cX11_wave 5 = .ok (.iconst 4, 1) := by decide +kernel
theorem dX11_wave_6 : decode cX11_wave 6 = .ok (.if_icmp .ge 35, 3) := by decide +kernel
theorem dX11_wave_9 : decode cX11_wave 9 = .ok (.iload_n 2, 1) := by decide +kernel
theorem dX11_wave_10 : decode cX11_wave 10 = .ok (.ifCond .lt 31, 3) := by decide +kernel
theorem dX11_wave_13 : decode cX11_wave 13 = .ok (.iload_n 2, 1) := by decide +kernel
theorem dX11_wave_14 : decode cX11_wave 14 = .ok (.iconst 1, 1) := by decide +kernel
theorem dX11_wave_15 : decode cX11_wave 15 = .ok (.if_icmp .gt 26, 3) := by decide +kernel
theorem dX11_wave_18 : decode cX11_wave 18 = .ok (.iload_n 3, 1) := by decide +kernel
theorem dX11_wave_19 : decode cX11_wave 19 = .ok (.ifCond .lt 22, 3) := by decide +kernel
theorem dX11_wave_22 : decode cX11_wave 22 = .ok (.iload_n 3, 1) := by decide +kernel
theorem dX11_wave_23 : decode cX11_wave 23 = .ok (.bipush 9, 2) := by decide +kernel
theorem dX11_wave_25 : decode cX11_wave 25 = .ok (.if_icmp .gt 16, 3) := by decide +kernel
theorem dX11_wave_28 : decode cX11_wave 28 = .ok (.iload 4, 2) := by decide +kernel
theorem dX11_wave_30 : decode cX11_wave 30 = .ok (.iload_n 3, 1) := by decide +kernel
theorem dX11_wave_31 : decode cX11_wave 31 = .ok (.if_icmp .lt 10, 3) := by decide +kernel
theorem dX11_wave_34 : decode cX11_wave 34 = .ok (.iload 4, 2) := by decide +kernel
theorem dX11_wave_36 : decode cX11_wave 36 = .ok (.bipush 9, 2) := by decide +kernel
theorem dX11_wave_38 : decode cX11_wave 38 = .ok (.if_icmp .le 6, 3) := by decide +kernel
theorem dX11_wave_44 : decode cX11_wave 44 = .ok (.aload_n 0, 1) := by decide +kernel
theorem dX11_wave_45 : decode cX11_wave 45 = .ok (.getfield 25, 3) := by decide +kernel
theorem dX11_wave_48 : decode cX11_wave 48 = .ok (.iconst 2, 1) := by decide +kernel
theorem dX11_wave_49 : decode cX11_wave 49 = .ok (.iload_n 1, 1) := by decide +kernel
theorem dX11_wave_50 : decode cX11_wave 50 = .ok (.imul, 1) := by decide +kernel
theorem dX11_wave_51 : decode cX11_wave 51 = .ok (.iload_n 2, 1) := by decide +kernel
theorem dX11_wave_52 : decode cX11_wave 52 = .ok (.iadd, 1) := by decide +kernel
theorem dX11_wave_53 : decode cX11_wave 53 = .ok (.iload_n 3, 1) := by decide +kernel
theorem dX11_wave_54 : decode cX11_wave 54 = .ok (.iload 4, 2) := by decide +kernel
set_option maxRecDepth 20000 in
theorem ggX11_wave_X4_setWave : GoodIn wsX11_wave wsX4_setWave := goodIn_r _ [6, 7, 8, 22, 23, 24, 25, 26, 27, 28, 29, 30, 31, 32, 33, 34] (by decide +kernel) (by decide +kernel)
set_option maxRecDepth 20000 in
theorem gX11_wave_X4_setWave : GoodIn wsX11_wave (wsV RX11 167 RX4 yX4_setWave wsX4_setWave) := goodIn_app (goodIn_of _ (by decide +kernel)) ggX11_wave_X4_setWave
theorem dX11_wave_56 : decode cX11_wave 56 = .ok (.invokevirtual 167, 3) := by decide +kernel
theorem dX11_wave_59 : decode cX11_wave 59 = .ok (.ireturn, 1) := by decide +kernel
theorem dX6_addLane_0 : decode cX6_addLane 0 = .ok (.aload_n 0, 1) := by decide +kernel
theorem dX6_addLane_1 : decode cX6_addLane 1 = .ok (.getfield 9, 3) := by decide +kernel
theorem dX6_addLane_4 : decode cX6_addLane 4 = .ok (.aload_n 0, 1) := by decide +kernel
theorem dX6_addLane_5 : decode cX6_addLane 5 = .ok (.getfield 25, 3) := by decide +kernel
theorem dX6_addLane_8 : decode cX6_addLane 8 = .ok (.lload_n 1, 1) := by decide +kernel
theorem dX6_addLane_9 : decode cX6_addLane 9 = .ok (.lastore, 1) := by decide +kernel
theorem dX6_addLane_10 : decode cX6_addLane 10 = .ok (.aload_n 0, 1) := by decide +kernel
theorem dX6_addLane_11 : decode cX6_addLane 11 = .ok (.dup, 1) := by decide +kernel
theorem dX6_addLane_12 : decode cX6_addLane 12 = .ok (.getfield 25, 3) := by decide +kernel
theorem dX6_addLane_15 : decode cX6_addLane 15 = .ok (.dup_x1, 1) := by decide +kernel
theorem dX6_addLane_16 : decode cX6_addLane 16 = .ok (.iconst 1, 1) := by decide +kernel
theorem dX6_addLane_17 : decode cX6_addLane 17 = .ok (.iadd, 1) := by decide +kernel
theorem dX6_addLane_18 : decode cX6_addLane 18 = .ok (.putfield 25, 3) := by decide +kernel
theorem dX6_addLane_21 : decode cX6_addLane 21 = .ok (.ireturn, 1) := by decide +kernel
theorem dX11_lane_0 : decode cX11_lane 0 = .ok (.lload_n 1, 1) := by decide +kernel
theorem dX11_lane_1 : decode cX11_lane 1 = .ok (.lconst 0, 1) := by decide +kernel
theorem dX11_lane_2 : decode cX11_lane 2 = .ok (.lcmp, 1) := by decide +kernel
theorem dX11_lane_3 : decode cX11_lane 3 = .ok (.ifCond .ne 6, 3) := by decide +kernel
theorem dX11_lane_9 : decode cX11_lane 9 = .ok (.aload_n 0, 1) := by decide +kernel
theorem dX11_lane_10 : decode cX11_lane 10 = .ok (.getfield 32, 3) := by decide +kernel
theorem dX11_lane_13 : decode cX11_lane 13 = .ok (.getfield 207, 3) := by decide +kernel
theorem dX11_lane_16 : decode cX11_lane 16 = .ok (.bipush 16, 2) := by decide +kernel
theorem dX11_lane_18 : decode cX11_lane 18 = .ok (.if_icmp .lt 6, 3) := by decide +kernel
theorem dX11_lane_24 : decode cX11_lane 24 = .ok (.aload_n 0, 1) := by decide +kernel
theorem dX11_lane_25 : decode cX11_lane 25 = .ok (.getfield 32, 3) := by decide +kernel
theorem dX11_lane_28 : decode cX11_lane 28 = .ok (.lload_n 1, 1) := by decide +kernel
set_option maxRecDepth 20000 in
theorem ggX11_lane_X6_addLane : GoodIn wsX11_lane wsX6_addLane := goodIn_r _ [7, 8, 9, 23, 24, 25, 26, 27, 28, 29] (by decide +kernel) (by decide +kernel)
set_option maxRecDepth 20000 in
theorem gX11_lane_X6_addLane : GoodIn wsX11_lane (wsV RX11 210 RX6 yX6_addLane wsX6_addLane) := goodIn_app (goodIn_of _ (by decide +kernel)) ggX11_lane_X6_addLane
theorem dX11_lane_29 : decode cX11_lane 29 = .ok (.invokevirtual 210, 3) := by decide +kernel
theorem dX11_lane_32 : decode cX11_lane 32 = .ok (.ireturn, 1) := by decide +kernel
theorem dX11_lane_6 : decode cX11_lane 6 = .ok (.bipush (-2), 2) := by decide +kernel
theorem dX11_lane_8 : decode cX11_lane 8 = .ok (.ireturn, 1) := by decide +kernel
theorem dX11_force_0 : decode cX11_force 0 = .ok (.iload_n 1, 1) := by decide +kernel
theorem dX11_force_1 : decode cX11_force 1 = .ok (.ifCond .lt 14, 3) := by decide +kernel
theorem dX11_force_15 : decode cX11_force 15 = .ok (.bipush (-2), 2) := by decide +kernel
theorem dX11_force_17 : decode cX11_force 17 = .ok (.ireturn, 1) := by decide +kernel
theorem dX11_force_4 : decode cX11_force 4 = .ok (.iload_n 1, 1) := by decide +kernel
theorem dX11_force_5 : decode cX11_force 5 = .ok (.aload_n 0, 1) := by decide +kernel
theorem dX11_force_6 : decode cX11_force 6 = .ok (.getfield 46, 3) := by decide +kernel
theorem dX11_force_9 : decode cX11_force 9 = .ok (.getfield 280, 3) := by decide +kernel
theorem dX11_force_12 : decode cX11_force 12 = .ok (.if_icmp .lt 6, 3) := by decide +kernel
theorem dX11_force_18 : decode cX11_force 18 = .ok (.aload_n 0, 1) := by decide +kernel
theorem dX11_force_19 : decode cX11_force 19 = .ok (.getfield 46, 3) := by decide +kernel
theorem dX11_force_22 : decode cX11_force 22 = .ok (.getfield 283, 3) := by decide +kernel
theorem dX11_force_25 : decode cX11_force 25 = .ok (.istore_n 2, 1) := by decide +kernel
theorem dX11_force_26 : decode cX11_force 26 = .ok (.aload_n 0, 1) := by decide +kernel
theorem dX11_force_27 : decode cX11_force 27 = .ok (.getfield 46, 3) := by decide +kernel
theorem dX11_force_30 : decode cX11_force 30 = .ok (.iload_n 1, 1) := by decide +kernel
theorem dX11_force_31 : decode cX11_force 31 = .ok (.putfield 283, 3) := by decide +kernel
theorem dX11_force_34 : decode cX11_force 34 = .ok (.iload_n 2, 1) := by decide +kernel
theorem dX11_force_35 : decode cX11_force 35 = .ok (.ireturn, 1) := by decide +kernel
theorem dX11_count_0 : decode cX11_count 0 = .ok (.iload_n 1, 1) := by decide +kernel
theorem dX11_count_1 : decode cX11_count 1 = .ok (.tableswitch 183 0 14 #[75, 80, 85, 93, 98, 106, 114, 122, 130, 138, 146, 154, 162, 170, 178], 75) := by decide +kernel
theorem dX11_count_184 : decode cX11_count 184 = .ok (.bipush (-2), 2) := by decide +kernel
theorem dX11_count_186 : decode cX11_count 186 = .ok (.ireturn, 1) := by decide +kernel
theorem dX11_count_76 : decode cX11_count 76 = .ok (.aload_n 0, 1) := by decide +kernel
theorem dX11_count_77 : decode cX11_count 77 = .ok (.getfield 71, 3) := by decide +kernel
theorem dX11_count_80 : decode cX11_count 80 = .ok (.ireturn, 1) := by decide +kernel
theorem dX11_count_81 : decode cX11_count 81 = .ok (.aload_n 0, 1) := by decide +kernel
theorem dX11_count_82 : decode cX11_count 82 = .ok (.getfield 75, 3) := by decide +kernel
theorem dX11_count_85 : decode cX11_count 85 = .ok (.ireturn, 1) := by decide +kernel
theorem dX11_count_86 : decode cX11_count 86 = .ok (.aload_n 0, 1) := by decide +kernel
theorem dX11_count_87 : decode cX11_count 87 = .ok (.getfield 10, 3) := by decide +kernel
theorem dX11_count_90 : decode cX11_count 90 = .ok (.getfield 94, 3) := by decide +kernel
theorem dX11_count_93 : decode cX11_count 93 = .ok (.ireturn, 1) := by decide +kernel
theorem dX11_count_94 : decode cX11_count 94 = .ok (.aload_n 0, 1) := by decide +kernel
theorem dX11_count_95 : decode cX11_count 95 = .ok (.getfield 154, 3) := by decide +kernel
theorem dX11_count_98 : decode cX11_count 98 = .ok (.ireturn, 1) := by decide +kernel
theorem dX11_count_99 : decode cX11_count 99 = .ok (.aload_n 0, 1) := by decide +kernel
theorem dX11_count_100 : decode cX11_count 100 = .ok (.getfield 25, 3) := by decide +kernel
theorem dX11_count_103 : decode cX11_count 103 = .ok (.getfield 161, 3) := by decide +kernel
theorem dX11_count_106 : decode cX11_count 106 = .ok (.ireturn, 1) := by decide +kernel
theorem dX11_count_107 : decode cX11_count 107 = .ok (.aload_n 0, 1) := by decide +kernel
theorem dX11_count_108 : decode cX11_count 108 = .ok (.getfield 25, 3) := by decide +kernel
theorem dX11_count_111 : decode cX11_count 111 = .ok (.getfield 171, 3) := by decide +kernel
theorem dX11_count_114 : decode cX11_count 114 = .ok (.ireturn, 1) := by decide +kernel
theorem dX11_count_115 : decode cX11_count 115 = .ok (.aload_n 0, 1) := by decide +kernel
theorem dX11_count_116 : decode cX11_count 116 = .ok (.getfield 25, 3) := by decide +kernel
theorem dX11_count_119 : decode cX11_count 119 = .ok (.getfield 193, 3) := by decide +kernel
theorem dX11_count_122 : decode cX11_count 122 = .ok (.ireturn, 1) := by decide +kernel
theorem dX11_count_123 : decode cX11_count 123 = .ok (.aload_n 0, 1) := by decide +kernel
theorem dX11_count_124 : decode cX11_count 124 = .ok (.getfield 32, 3) := by decide +kernel
theorem dX11_count_127 : decode cX11_count 127 = .ok (.getfield 207, 3) := by decide +kernel
theorem dX11_count_130 : decode cX11_count 130 = .ok (.ireturn, 1) := by decide +kernel
theorem dX11_count_131 : decode cX11_count 131 = .ok (.aload_n 0, 1) := by decide +kernel
theorem dX11_count_132 : decode cX11_count 132 = .ok (.getfield 39, 3) := by decide +kernel
theorem dX11_count_135 : decode cX11_count 135 = .ok (.getfield 266, 3) := by decide +kernel
theorem dX11_count_138 : decode cX11_count 138 = .ok (.ireturn, 1) := by decide +kernel
theorem dX11_count_139 : decode cX11_count 139 = .ok (.aload_n 0, 1) := by decide +kernel
theorem dX11_count_140 : decode cX11_count 140 = .ok (.getfield 53, 3) := by decide +kernel
theorem dX11_count_143 : decode cX11_count 143 = .ok (.getfield 302, 3) := by decide +kernel
theorem dX11_count_146 : decode cX11_count 146 = .ok (.ireturn, 1) := by decide +kernel
theorem dX11_count_147 : decode cX11_count 147 = .ok (.aload_n 0, 1) := by decide +kernel
theorem dX11_count_148 : decode cX11_count 148 = .ok (.getfield 60, 3) := by decide +kernel
theorem dX11_count_151 : decode cX11_count 151 = .ok (.getfield 330, 3) := by decide +kernel
theorem dX11_count_154 : decode cX11_count 154 = .ok (.ireturn, 1) := by decide +kernel
theorem dX11_count_155 : decode cX11_count 155 = .ok (.aload_n 0, 1) := by decide +kernel
theorem dX11_count_156 : decode cX11_count 156 = .ok (.getfield 46, 3) := by decide +kernel
theorem dX11_count_159 : decode cX11_count 159 = .ok (.getfield 280, 3) := by decide +kernel
theorem dX11_count_162 : decode cX11_count 162 = .ok (.ireturn, 1) := by decide +kernel
theorem dX11_count_163 : decode cX11_count 163 = .ok (.aload_n 0, 1) := by decide +kernel
theorem dX11_count_164 : decode cX11_count 164 = .ok (.getfield 46, 3) := by decide +kernel
theorem dX11_count_167 : decode cX11_count 167 = .ok (.getfield 271, 3) := by decide +kernel
theorem dX11_count_170 : decode cX11_count 170 = .ok (.ireturn, 1) := by decide +kernel
theorem dX11_count_171 : decode cX11_count 171 = .ok (.aload_n 0, 1) := by decide +kernel
theorem dX11_count_172 : decode cX11_count 172 = .ok (.getfield 46, 3) := by decide +kernel
theorem dX11_count_175 : decode cX11_count 175 = .ok (.getfield 283, 3) := by decide +kernel
theorem dX11_count_178 : decode cX11_count 178 = .ok (.ireturn, 1) := by decide +kernel
theorem dX11_count_179 : decode cX11_count 179 = .ok (.aload_n 0, 1) := by decide +kernel
theorem dX11_count_180 : decode cX11_count 180 = .ok (.getfield 253, 3) := by decide +kernel
theorem dX11_count_183 : decode cX11_count 183 = .ok (.ireturn, 1) := by decide +kernel
set_option maxHeartbeats 1000000 in
set_option maxRecDepth 100000 in
theorem rt_X11_pass (l : Launch) (dC : Nat → ClassId) (dI : Nat → Nat → Nat) (sz : Nat) (h0 : Nat) (ad : Nat → Nat) (p0 : Int32) : Met l yX11_pass wsX11_pass ({ frames := 0, cells := 0, slots := 0, locals := 0 }) (va_Pc [.ref h0, .int p0] (fun U => U.heap.size = sz ∧ va_P (dC, dI) vwCl [(h0, .inr (11, [.ref (ad 0), .ref (ad 1), .ref (ad 2), .ref (ad 3), .ref (ad 4), .ref (ad 5), .ref (ad 6), .ref (ad 7), .ref (ad 8), .int 0, .int 0, .int 0, .int 0]))] U.heap ∧ va_K (dC, dI) vwCl [] U ∧ va_D (fun _ => True) [(h0, .inr (11, [.ref (ad 0), .ref (ad 1), .ref (ad 2), .ref (ad 3), .ref (ad 4), .ref (ad 5), .ref (ad 6), .ref (ad 7), .ref (ad 8), .int 0, .int 0, .int 0, .int 0]))])) (va_Qi (fun (r : Int32) (u : Unit) => match u with | () => ((p0 < 1 ∨ 48 < p0) ∧ r = (-2)) ∨ ((¬ (p0 < 1 ∨ 48 < p0)) ∧ r = p0)) (fun (u : Unit) (t : State) => match u with | () => True) (va_A [(h0, .inr (11, [.ref (ad 0), .ref (ad 1), .ref (ad 2), .ref (ad 3), .ref (ad 4), .ref (ad 5), .ref (ad 6), .ref (ad 7), .ref (ad 8), .int 0, .int 0, .int 0, .int 0]))] sz)) 0 0 (va_A [(h0, .inr (11, [.ref (ad 0), .ref (ad 1), .ref (ad 2), .ref (ad 3), .ref (ad 4), .ref (ad 5), .ref (ad 6), .ref (ad 7), .ref (ad 8), .int 0, .int 0, .int 0, .int 0]))] sz) := by
  refine Met.ofW (cc := cX11_pass) (maxL := 4) (ret := (some .int)) (by decide) rfl ?_
  intro p e s m args below meth c s₁ B hml hv
  obtain ⟨rfl, hsz, hP, hK, hD0⟩ := hv
  have hx := B.exec
  have hb := B.bytes
  have hr := B.returns
  have hts := atoms_spec (ws := wsX11_pass) B.pre
  have hown : s.vm.findClass RX11 = some m.cls := findClass_of_methodNamed B.named
  have hlocks := B.notSynchronized
  subst hsz
  have hD := hD0.self (sz := s.heap.size)
  generalize hAe : va_A [(h0, .inr (11, [.ref (ad 0), .ref (ad 1), .ref (ad 2), .ref (ad 3), .ref (ad 4), .ref (ad 5), .ref (ad 6), .ref (ad 7), .ref (ad 8), .int 0, .int 0, .int 0, .int 0]))] s.heap.size = A at hD  ⊢
  have hA : ∀ q : Nat, s.heap.size ≤ q → A q := fun q h => by rw [← hAe]; exact Or.inr h
  have hS : va_S A s.heap s.heap [] := va_S.rf
  have hl := lv_entry ([.ref h0, .int p0]) (n := 4) (Nat.le_of_ble_eq_true rfl)
  rw [lg_entry_eq]
  generalize (lg_sl ([.ref h0, .int p0]) ++ List.replicate (4 - (lg_sl ([.ref h0, .int p0])).length) Slot.unset).toArray = ls at hl ⊢
  have hl : lv_has ls 4 [(0, .ref h0), (1, .int p0)] := hl
  refine lv_iload_n hx hb dX11_pass_0 rfl (lv_at hl 1 rfl) ?_
  refine lv_iconst (v := 1) hx hb dX11_pass_1 (by decide) ?_
  refine lv_icmp_lt (tgt := 11) hx hb dX11_pass_2 (by decide) (fun c_1 => ?_) (fun c_1 => ?_)
  · refine lv_bipush (v := (-2)) hx hb dX11_pass_11 (by decide) ?_
    have hpost : ((p0 < 1 ∨ 48 < p0) ∧ ((-2) : Int32) = (-2)) ∨ ((¬ (p0 < 1 ∨ 48 < p0)) ∧ ((-2) : Int32) = p0) := by
      try simp only [fa_lt, fa_le, fa_eq, fa_lt64, fa_le64, fa_eq64, Int32.reduceToInt, Int64.reduceToInt, zi_ite] at c_1
      first
      | exact Or.inl ⟨by (try simp only [fa_lt, fa_le, fa_eq, fa_lt64, fa_le64, fa_eq64, Int32.reduceToInt, Int64.reduceToInt, zi_ite]); omega, rfl⟩
      | exact Or.inr (⟨by (try simp only [fa_lt, fa_le, fa_eq, fa_lt64, fa_le64, fa_eq64, Int32.reduceToInt, Int64.reduceToInt, zi_ite]); omega, rfl⟩)
    refine W.widen (k := 0) (n := 0) (by decide +kernel) (by decide +kernel) ?_
    exact W.iret (v := (-2)) hx hb hr (fun t ht hW => ⟨⟨(-2), (), rfl, hpost, trivial⟩, hS.F ht⟩) hS.2.2 dX11_pass_13
  · refine lv_iload_n hx hb dX11_pass_5 rfl (lv_at hl 1 rfl) ?_
    refine lv_bipush (v := 48) hx hb dX11_pass_6 (by decide) ?_
    refine lv_icmp_le (tgt := 14) hx hb dX11_pass_8 (by decide) (fun c_2 => ?_) (fun c_2 => ?_)
    · refine lv_aload_n hx hb dX11_pass_14 rfl (lv_at hl 0 rfl) ?_
      refine va_get (D := (dC, dI)) (ci := 11) (v := .int 0) (C := RX11) (T := TX11) (N := 13) hx hb hts (by decide +kernel) hown hK hP 0 rfl rfl 9 (by decide) (hts (.fieldLink RX11 71 "RedTent" "now" "I") (by decide +kernel)) (fun _ h9 => h9) rfl dX11_pass_15 ?_
      refine lv_iload_n hx hb dX11_pass_18 rfl (lv_at hl 1 rfl) ?_
      refine lv_iadd hx hb dX11_pass_19 ?_
      refine lv_topi (fun y_3 ey_3 => ?_)
      rw [ey_3.trans (Int32.zero_add p0)]
      refine lv_sipush (v := 240) hx hb dX11_pass_20 (by decide) ?_
      refine lv_icmp_lt (tgt := 29) hx hb dX11_pass_23 (by decide) (fun _ => ?_) (fun c9 => absurd (by (try simp only [fa_lt, fa_le, fa_eq, fa_lt64, fa_le64, fa_eq64, Int32.reduceToInt, Int64.reduceToInt, zi_ite] at c_1 c_2 ⊢) <;> omega) c9)
      refine lv_iconst (v := 0) hx hb dX11_pass_29 (by decide) ?_
      refine lv_istore_n (lv' := [(2, .int 0), (0, .ref h0), (1, .int p0)]) hx hb dX11_pass_30 rfl hl (by decide) rfl (fun ls hl => ?_)
      refine lv_iload_n hx hb dX11_pass_31 rfl (lv_at hl 0 rfl) ?_
      refine lv_aload_n hx hb dX11_pass_32 rfl (lv_at hl 1 rfl) ?_
      refine va_get (D := (dC, dI)) (ci := 11) (v := .int 0) (C := RX11) (T := TX11) (N := 13) hx hb hts (by decide +kernel) hown hK hP 0 rfl rfl 10 (by decide) (hts (.fieldLink RX11 75 "RedTent" "bodyCount" "I") (by decide +kernel)) (fun _ h9 => h9) rfl dX11_pass_33 ?_
      refine lv_icmp_ge (tgt := 60) hx hb dX11_pass_36 (by decide) (fun _ => ?_) (fun c9 => absurd (by decide) c9)
      refine lv_aload_n hx hb dX11_pass_60 rfl (lv_at hl 1 rfl) ?_
      refine lv_dup hx hb dX11_pass_61 rfl ?_
      refine va_get (D := (dC, dI)) (ci := 11) (v := .int 0) (C := RX11) (T := TX11) (N := 13) hx hb hts (by decide +kernel) hown hK hP 0 rfl rfl 9 (by decide) (hts (.fieldLink RX11 71 "RedTent" "now" "I") (by decide +kernel)) (fun _ h9 => h9) rfl dX11_pass_62 ?_
      refine lv_iload_n hx hb dX11_pass_65 rfl (lv_at hl 2 rfl) ?_
      refine lv_iadd hx hb dX11_pass_66 ?_
      refine lv_topi (fun y_4 ey_4 => ?_)
      rw [ey_4.trans (Int32.zero_add p0)]
      refine va_put (D := (dC, dI)) (ci := 11) (v := .int p0) (ty := .int) (C := RX11) (T := TX11) (N := 13) hx hb hts (by decide +kernel) tyX11 tyX11_ok nmX11 hown hK hP hD hS 0 rfl rfl 9 (by decide) (hts (.fieldLink RX11 71 "RedTent" "now" "I") (by decide +kernel)) (fun _ h9 => h9) rfl (by decide +kernel) rfl rfl (Nat.le_of_ble_eq_true rfl) dX11_pass_67 (fun H locs hP hD hS => ?_)
      have hP : va_P (dC, dI) vwCl [(h0, .inr (11, [.ref (ad 0), .ref (ad 1), .ref (ad 2), .ref (ad 3), .ref (ad 4), .ref (ad 5), .ref (ad 6), .ref (ad 7), .ref (ad 8), .int p0, .int 0, .int 0, .int 0]))] H := hP
      have hD : va_D A [(h0, .inr (11, [.ref (ad 0), .ref (ad 1), .ref (ad 2), .ref (ad 3), .ref (ad 4), .ref (ad 5), .ref (ad 6), .ref (ad 7), .ref (ad 8), .int p0, .int 0, .int 0, .int 0]))] := hD
      refine lv_aload_n hx hb dX11_pass_70 rfl (lv_at hl 1 rfl) ?_
      refine va_get (D := (dC, dI)) (ci := 11) (v := .int p0) (C := RX11) (T := TX11) (N := 13) hx hb hts (by decide +kernel) hown hK hP 0 rfl rfl 9 (by decide) (hts (.fieldLink RX11 71 "RedTent" "now" "I") (by decide +kernel)) (fun _ h9 => h9) rfl dX11_pass_71 ?_
      have hpost : ((p0 < 1 ∨ 48 < p0) ∧ (p0 : Int32) = (-2)) ∨ ((¬ (p0 < 1 ∨ 48 < p0)) ∧ (p0 : Int32) = p0) := by
        try simp only [fa_lt, fa_le, fa_eq, fa_lt64, fa_le64, fa_eq64, Int32.reduceToInt, Int64.reduceToInt, zi_ite] at c_1
        try simp only [fa_lt, fa_le, fa_eq, fa_lt64, fa_le64, fa_eq64, Int32.reduceToInt, Int64.reduceToInt, zi_ite] at c_2
        first
        | exact Or.inl ⟨by (try simp only [fa_lt, fa_le, fa_eq, fa_lt64, fa_le64, fa_eq64, Int32.reduceToInt, Int64.reduceToInt, zi_ite]); omega, rfl⟩
        | exact Or.inr (⟨by (try simp only [fa_lt, fa_le, fa_eq, fa_lt64, fa_le64, fa_eq64, Int32.reduceToInt, Int64.reduceToInt, zi_ite]); omega, rfl⟩)
      refine W.widen (k := 0) (n := 0) (by decide +kernel) (by decide +kernel) ?_
      exact W.iret (v := p0) hx hb hr (fun t ht hW => ⟨⟨p0, (), rfl, hpost, trivial⟩, hS.F ht⟩) hS.2.2 dX11_pass_74
    · refine lv_bipush (v := (-2)) hx hb dX11_pass_11 (by decide) ?_
      have hpost : ((p0 < 1 ∨ 48 < p0) ∧ ((-2) : Int32) = (-2)) ∨ ((¬ (p0 < 1 ∨ 48 < p0)) ∧ ((-2) : Int32) = p0) := by
        try simp only [fa_lt, fa_le, fa_eq, fa_lt64, fa_le64, fa_eq64, Int32.reduceToInt, Int64.reduceToInt, zi_ite] at c_1
        try simp only [fa_lt, fa_le, fa_eq, fa_lt64, fa_le64, fa_eq64, Int32.reduceToInt, Int64.reduceToInt, zi_ite] at c_2
        first
        | exact Or.inl ⟨by (try simp only [fa_lt, fa_le, fa_eq, fa_lt64, fa_le64, fa_eq64, Int32.reduceToInt, Int64.reduceToInt, zi_ite]); omega, rfl⟩
        | exact Or.inr (⟨by (try simp only [fa_lt, fa_le, fa_eq, fa_lt64, fa_le64, fa_eq64, Int32.reduceToInt, Int64.reduceToInt, zi_ite]); omega, rfl⟩)
      refine W.widen (k := 0) (n := 0) (by decide +kernel) (by decide +kernel) ?_
      exact W.iret (v := (-2)) hx hb hr (fun t ht hW => ⟨⟨(-2), (), rfl, hpost, trivial⟩, hS.F ht⟩) hS.2.2 dX11_pass_13
set_option maxHeartbeats 1000000 in
set_option maxRecDepth 100000 in
theorem rt_X11_stays (l : Launch) (dC : Nat → ClassId) (dI : Nat → Nat → Nat) (sz : Nat) (h0 : Nat) (ad : Nat → Nat) (p0 : Int32) : Met l yX11_stays wsX11_stays ({ frames := 0, cells := 0, slots := 0, locals := 0 }) (va_Pc [.ref h0, .int p0] (fun U => U.heap.size = sz ∧ va_P (dC, dI) vwCl [(h0, .inr (11, [.ref (ad 0), .ref (ad 1), .ref (ad 2), .ref (ad 3), .ref (ad 4), .ref (ad 5), .ref (ad 6), .ref (ad 7), .ref (ad 8), .int 0, .int 0, .int 0, .int 0]))] U.heap ∧ va_K (dC, dI) vwCl [] U ∧ va_D (fun _ => True) [(h0, .inr (11, [.ref (ad 0), .ref (ad 1), .ref (ad 2), .ref (ad 3), .ref (ad 4), .ref (ad 5), .ref (ad 6), .ref (ad 7), .ref (ad 8), .int 0, .int 0, .int 0, .int 0]))])) (va_Qi (fun (r : Int32) (u : Unit) => match u with | () => ((0 ≤ p0 ∧ p0 ≤ 9) ∧ r = 0) ∨ ((¬ (0 ≤ p0 ∧ p0 ≤ 9)) ∧ r = (-2))) (fun (u : Unit) (t : State) => match u with | () => True) (va_A [(h0, .inr (11, [.ref (ad 0), .ref (ad 1), .ref (ad 2), .ref (ad 3), .ref (ad 4), .ref (ad 5), .ref (ad 6), .ref (ad 7), .ref (ad 8), .int 0, .int 0, .int 0, .int 0]))] sz)) 0 0 (va_A [(h0, .inr (11, [.ref (ad 0), .ref (ad 1), .ref (ad 2), .ref (ad 3), .ref (ad 4), .ref (ad 5), .ref (ad 6), .ref (ad 7), .ref (ad 8), .int 0, .int 0, .int 0, .int 0]))] sz) := by
  refine Met.ofW (cc := cX11_stays) (maxL := 3) (ret := (some .int)) (by decide) rfl ?_
  intro p e s m args below meth c s₁ B hml hv
  obtain ⟨rfl, hsz, hP, hK, hD0⟩ := hv
  have hx := B.exec
  have hb := B.bytes
  have hr := B.returns
  have hts := atoms_spec (ws := wsX11_stays) B.pre
  have hown : s.vm.findClass RX11 = some m.cls := findClass_of_methodNamed B.named
  have hlocks := B.notSynchronized
  subst hsz
  have hD := hD0.self (sz := s.heap.size)
  generalize hAe : va_A [(h0, .inr (11, [.ref (ad 0), .ref (ad 1), .ref (ad 2), .ref (ad 3), .ref (ad 4), .ref (ad 5), .ref (ad 6), .ref (ad 7), .ref (ad 8), .int 0, .int 0, .int 0, .int 0]))] s.heap.size = A at hD  ⊢
  have hA : ∀ q : Nat, s.heap.size ≤ q → A q := fun q h => by rw [← hAe]; exact Or.inr h
  have hS : va_S A s.heap s.heap [] := va_S.rf
  have hl := lv_entry ([.ref h0, .int p0]) (n := 3) (Nat.le_of_ble_eq_true rfl)
  rw [lg_entry_eq]
  generalize (lg_sl ([.ref h0, .int p0]) ++ List.replicate (3 - (lg_sl ([.ref h0, .int p0])).length) Slot.unset).toArray = ls at hl ⊢
  have hl : lv_has ls 3 [(0, .ref h0), (1, .int p0)] := hl
  refine lv_iload_n hx hb dX11_stays_0 rfl (lv_at hl 1 rfl) ?_
  refine lv_if_lt (tgt := 10) hx hb dX11_stays_1 (by decide) (fun c_1 => ?_) (fun c_1 => ?_)
  · refine lv_bipush (v := (-2)) hx hb dX11_stays_10 (by decide) ?_
    have hpost : ((0 ≤ p0 ∧ p0 ≤ 9) ∧ ((-2) : Int32) = 0) ∨ ((¬ (0 ≤ p0 ∧ p0 ≤ 9)) ∧ ((-2) : Int32) = (-2)) := by
      try simp only [fa_lt, fa_le, fa_eq, fa_lt64, fa_le64, fa_eq64, Int32.reduceToInt, Int64.reduceToInt, zi_ite] at c_1
      first
      | exact Or.inl ⟨by (try simp only [fa_lt, fa_le, fa_eq, fa_lt64, fa_le64, fa_eq64, Int32.reduceToInt, Int64.reduceToInt, zi_ite]); omega, rfl⟩
      | exact Or.inr (⟨by (try simp only [fa_lt, fa_le, fa_eq, fa_lt64, fa_le64, fa_eq64, Int32.reduceToInt, Int64.reduceToInt, zi_ite]); omega, rfl⟩)
    refine W.widen (k := 0) (n := 0) (by decide +kernel) (by decide +kernel) ?_
    exact W.iret (v := (-2)) hx hb hr (fun t ht hW => ⟨⟨(-2), (), rfl, hpost, trivial⟩, hS.F ht⟩) hS.2.2 dX11_stays_12
  · refine lv_iload_n hx hb dX11_stays_4 rfl (lv_at hl 1 rfl) ?_
    refine lv_bipush (v := 9) hx hb dX11_stays_5 (by decide) ?_
    refine lv_icmp_le (tgt := 13) hx hb dX11_stays_7 (by decide) (fun c_2 => ?_) (fun c_2 => ?_)
    · refine lv_aload_n hx hb dX11_stays_13 rfl (lv_at hl 0 rfl) ?_
      refine va_get (D := (dC, dI)) (ci := 11) (v := .int 0) (C := RX11) (T := TX11) (N := 13) hx hb hts (by decide +kernel) hown hK hP 0 rfl rfl 12 (by decide) (hts (.fieldLink RX11 253 "RedTent" "stayHours" "I") (by decide +kernel)) (fun _ h9 => h9) rfl dX11_stays_14 ?_
      refine lv_istore_n (lv' := [(2, .int 0), (0, .ref h0), (1, .int p0)]) hx hb dX11_stays_17 rfl hl (by decide) rfl (fun ls hl => ?_)
      refine lv_aload_n hx hb dX11_stays_18 rfl (lv_at hl 1 rfl) ?_
      refine lv_iload_n hx hb dX11_stays_19 rfl (lv_at hl 2 rfl) ?_
      refine va_put (D := (dC, dI)) (ci := 11) (v := .int p0) (ty := .int) (C := RX11) (T := TX11) (N := 13) hx hb hts (by decide +kernel) tyX11 tyX11_ok nmX11 hown hK hP hD hS 0 rfl rfl 12 (by decide) (hts (.fieldLink RX11 253 "RedTent" "stayHours" "I") (by decide +kernel)) (fun _ h9 => h9) rfl (by decide +kernel) rfl rfl (Nat.le_of_ble_eq_true rfl) dX11_stays_20 (fun H locs hP hD hS => ?_)
      have hP : va_P (dC, dI) vwCl [(h0, .inr (11, [.ref (ad 0), .ref (ad 1), .ref (ad 2), .ref (ad 3), .ref (ad 4), .ref (ad 5), .ref (ad 6), .ref (ad 7), .ref (ad 8), .int 0, .int 0, .int 0, .int p0]))] H := hP
      have hD : va_D A [(h0, .inr (11, [.ref (ad 0), .ref (ad 1), .ref (ad 2), .ref (ad 3), .ref (ad 4), .ref (ad 5), .ref (ad 6), .ref (ad 7), .ref (ad 8), .int 0, .int 0, .int 0, .int p0]))] := hD
      refine lv_iload_n hx hb dX11_stays_23 rfl (lv_at hl 0 rfl) ?_
      have hpost : ((0 ≤ p0 ∧ p0 ≤ 9) ∧ (0 : Int32) = 0) ∨ ((¬ (0 ≤ p0 ∧ p0 ≤ 9)) ∧ (0 : Int32) = (-2)) := by
        try simp only [fa_lt, fa_le, fa_eq, fa_lt64, fa_le64, fa_eq64, Int32.reduceToInt, Int64.reduceToInt, zi_ite] at c_1
        try simp only [fa_lt, fa_le, fa_eq, fa_lt64, fa_le64, fa_eq64, Int32.reduceToInt, Int64.reduceToInt, zi_ite] at c_2
        first
        | exact Or.inl ⟨by (try simp only [fa_lt, fa_le, fa_eq, fa_lt64, fa_le64, fa_eq64, Int32.reduceToInt, Int64.reduceToInt, zi_ite]); omega, rfl⟩
        | exact Or.inr (⟨by (try simp only [fa_lt, fa_le, fa_eq, fa_lt64, fa_le64, fa_eq64, Int32.reduceToInt, Int64.reduceToInt, zi_ite]); omega, rfl⟩)
      refine W.widen (k := 0) (n := 0) (by decide +kernel) (by decide +kernel) ?_
      exact W.iret (v := 0) hx hb hr (fun t ht hW => ⟨⟨0, (), rfl, hpost, trivial⟩, hS.F ht⟩) hS.2.2 dX11_stays_24
    · refine lv_bipush (v := (-2)) hx hb dX11_stays_10 (by decide) ?_
      have hpost : ((0 ≤ p0 ∧ p0 ≤ 9) ∧ ((-2) : Int32) = 0) ∨ ((¬ (0 ≤ p0 ∧ p0 ≤ 9)) ∧ ((-2) : Int32) = (-2)) := by
        try simp only [fa_lt, fa_le, fa_eq, fa_lt64, fa_le64, fa_eq64, Int32.reduceToInt, Int64.reduceToInt, zi_ite] at c_1
        try simp only [fa_lt, fa_le, fa_eq, fa_lt64, fa_le64, fa_eq64, Int32.reduceToInt, Int64.reduceToInt, zi_ite] at c_2
        first
        | exact Or.inl ⟨by (try simp only [fa_lt, fa_le, fa_eq, fa_lt64, fa_le64, fa_eq64, Int32.reduceToInt, Int64.reduceToInt, zi_ite]); omega, rfl⟩
        | exact Or.inr (⟨by (try simp only [fa_lt, fa_le, fa_eq, fa_lt64, fa_le64, fa_eq64, Int32.reduceToInt, Int64.reduceToInt, zi_ite]); omega, rfl⟩)
      refine W.widen (k := 0) (n := 0) (by decide +kernel) (by decide +kernel) ?_
      exact W.iret (v := (-2)) hx hb hr (fun t ht hW => ⟨⟨(-2), (), rfl, hpost, trivial⟩, hS.F ht⟩) hS.2.2 dX11_stays_12
set_option maxHeartbeats 1000000 in
set_option maxRecDepth 100000 in
theorem rt_X10_setHours (l : Launch) (dC : Nat → ClassId) (dI : Nat → Nat → Nat) (sz : Nat) (h1 : Nat) (cA : ClassId) (f : Nat → Int32) (p0 p1 p2 : Int32) (hp0 : 0 ≤ p0.toInt ∧ p0.toInt ≤ 240) (hp1 : p1.toInt ≤ 240) : Met l yX10_setHours wsX10_setHours ({ frames := 1, cells := 0, slots := 0, locals := 13 }) (va_Pc [.ref h1, .int p0, .int p1, .int p2] (fun U => U.heap.size = sz ∧ va_P (dC, dI) vwCl [(h1, .inl (cA, 240, .inl f))] U.heap ∧ va_K (dC, dI) vwCl [(cA, .int)] U ∧ va_D (fun _ => True) [(h1, .inl (cA, 240, .inl f))])) (va_Qv (fun u : (Nat → Int32) => match u with | f2 => True) (fun (u : (Nat → Int32)) (t : State) => match u with | f2 => va_P (dC, dI) vwCl [(h1, .inl (cA, 240, .inl f2))] t.heap ∧ va_D (va_A [(h1, .inl (cA, 240, .inl f))] sz) [(h1, .inl (cA, 240, .inl f2))]) (va_A [(h1, .inl (cA, 240, .inl f))] sz)) 0 0 (va_A [(h1, .inl (cA, 240, .inl f))] sz) := by
  refine Met.ofW (cc := cX10_setHours) (maxL := 5) (ret := none) (by decide) rfl ?_
  intro p e s m args below meth c s₁ B hml hv
  obtain ⟨rfl, hsz, hP, hK, hD0⟩ := hv
  have hx := B.exec
  have hb := B.bytes
  have hr := B.returns
  have hts := atoms_spec (ws := wsX10_setHours) B.pre
  have hown : s.vm.findClass RX10 = some m.cls := findClass_of_methodNamed B.named
  have hlocks := B.notSynchronized
  subst hsz
  have hD := hD0.self (sz := s.heap.size)
  generalize hAe : va_A [(h1, .inl (cA, 240, .inl f))] s.heap.size = A at hD  ⊢
  have hA : ∀ q : Nat, s.heap.size ≤ q → A q := fun q h => by rw [← hAe]; exact Or.inr h
  have hS : va_S A s.heap s.heap [] := va_S.rf
  have hl := lv_entry ([.ref h1, .int p0, .int p1, .int p2]) (n := 5) (Nat.le_of_ble_eq_true rfl)
  rw [lg_entry_eq]
  generalize (lg_sl ([.ref h1, .int p0, .int p1, .int p2]) ++ List.replicate (5 - (lg_sl ([.ref h1, .int p0, .int p1, .int p2])).length) Slot.unset).toArray = ls at hl ⊢
  have hl : lv_has ls 5 [(0, .ref h1), (1, .int p0), (2, .int p1), (3, .int p2)] := hl
  refine lv_iload_n hx hb dX10_setHours_0 rfl (lv_at hl 1 rfl) ?_
  refine lv_iconst (v := 0) hx hb dX10_setHours_1 (by decide) ?_
  refine va_mmax hx hb (by rw [hml]; exact hl.1.symm) hown (hts (.methodLink RX10 29 Lib.Math.max.name) (by decide +kernel)) (hts (.static Lib.Math.max.name) (by decide +kernel)) (hts (.initialized "java/lang/Math") (by decide +kernel)) (hts (.code Lib.Math.max.name Lib.Math.max.code 2 (some .int)) (by decide +kernel)) (Nat.le_of_ble_eq_true rfl) (Nat.le_of_ble_eq_true rfl) (Nat.le_of_ble_eq_true rfl) (Nat.le_of_ble_eq_true rfl) dX10_setHours_2 ?_
  refine lv_topi (fun x_1 ex_1 => ?_)
  refine lv_istore (lv' := [(4, .int x_1), (0, .ref h1), (1, .int p0), (2, .int p1), (3, .int p2)]) hx hb dX10_setHours_5 hl (by decide) rfl (fun ls hl => ?_)
  have lp : ∀ (n : Nat) (xlp : Int32) (g0 : Nat → Int32), (240 - xlp.toInt).toNat < n → 0 ≤ xlp.toInt → xlp.toInt ≤ 240 → ∀ (H : Heap) (locs : List Loc), va_P (dC, dI) vwCl [(h1, .inl (cA, 240, .inl g0))] H → va_D A [(h1, .inl (cA, 240, .inl g0))] → va_S A s.heap H locs → ∀ (ls : Array Slot), lv_has ls 5 [(4, .int xlp), (0, .ref h1), (1, .int p0), (2, .int p1), (3, .int p2)] → W p l e (headSpec wsX10_setHours ({ frames := 1, cells := 0, slots := 0, locals := 13 })).room s m ([.ref h1, .int p0, .int p1, .int p2] : List Value).toArray below meth c H locs 0 0 (MQ below (va_Qv (fun u : (Nat → Int32) => match u with | f2 => True) (fun (u : (Nat → Int32)) (t : State) => match u with | f2 => va_P (dC, dI) vwCl [(h1, .inl (cA, 240, .inl f2))] t.heap ∧ va_D A [(h1, .inl (cA, 240, .inl f2))]) A) ([.ref h1, .int p0, .int p1, .int p2] : List Value).toArray s 0 0 A) (F0 m 7 ls []) := by
    intro n
    induction n with
    | zero => intro xlp g0 hm; exact absurd hm (Nat.not_lt_zero _)
    | succ n ih =>
      intro xlp g0 hm h0lp h1lp H locs hP hD hS ls hl
      refine lv_iload hx hb dX10_setHours_7 (lv_at hl 0 rfl) ?_
      refine lv_iload_n hx hb dX10_setHours_9 rfl (lv_at hl 3 rfl) ?_
      refine lv_icmp_ge (tgt := 31) hx hb dX10_setHours_10 (by decide) (fun c_2 => ?_) (fun c_2 => ?_)
      · have hP9 := hP.sub (ws' := [(h1, .inl (cA, 240, .inl g0))]) [0] rfl
        have hD9 := hD.sub (ws' := [(h1, .inl (cA, 240, .inl g0))]) [0] (by decide) rfl
        refine W.widen (k := 0) (n := 0) (by decide +kernel) (by decide +kernel) ?_
        exact W.vret hx hb hr (fun t ht hW => ⟨⟨g0, rfl, trivial, by rw [ht]; exact hP9, hD9⟩, hS.F ht⟩) hS.2.2 dX10_setHours_31
      · refine lv_iload hx hb dX10_setHours_13 (lv_at hl 0 rfl) ?_
        refine lv_aload_n hx hb dX10_setHours_15 rfl (lv_at hl 1 rfl) ?_
        refine va_alen (v := 240) hx hb hK hP 0 0 rfl rfl rfl dX10_setHours_16 ?_
        refine lv_icmp_ge (tgt := 31) hx hb dX10_setHours_17 (by decide) (fun c_3 => ?_) (fun c_3 => ?_)
        · have hP9 := hP.sub (ws' := [(h1, .inl (cA, 240, .inl g0))]) [0] rfl
          have hD9 := hD.sub (ws' := [(h1, .inl (cA, 240, .inl g0))]) [0] (by decide) rfl
          refine W.widen (k := 0) (n := 0) (by decide +kernel) (by decide +kernel) ?_
          exact W.vret hx hb hr (fun t ht hW => ⟨⟨g0, rfl, trivial, by rw [ht]; exact hP9, hD9⟩, hS.F ht⟩) hS.2.2 dX10_setHours_31
        · refine lv_aload_n hx hb dX10_setHours_20 rfl (lv_at hl 1 rfl) ?_
          refine lv_iload hx hb dX10_setHours_21 (lv_at hl 0 rfl) ?_
          refine lv_iload_n hx hb dX10_setHours_23 rfl (lv_at hl 4 rfl) ?_
          refine va_iast hx hb hK hP hD hS 0 0 rfl rfl (vp_in_iff.mpr (by (try simp only [fa_lt, fa_le, fa_eq, fa_lt64, fa_le64, fa_eq64, Int32.reduceToInt, Int64.reduceToInt, zi_ite] at ex_1 hm h0lp h1lp c_2 c_3 ⊢) <;> omega)) dX10_setHours_24 (fun H locs hP hD hS => ?_)
          have hP : va_P (dC, dI) vwCl [(h1, .inl (cA, 240, .inl (upd g0 xlp.toNatClampNeg p2)))] H := hP
          have hD : va_D A [(h1, .inl (cA, 240, .inl (upd g0 xlp.toNatClampNeg p2)))] := hD
          obtain ⟨x_4, ex_4⟩ : ∃ y : Int32, y = xlp + 1 := ⟨_, rfl⟩
          refine lv_iinc (v := x_4) (lv' := [(4, .int x_4), (0, .ref h1), (1, .int p0), (2, .int p1), (3, .int p2)]) hx hb dX10_setHours_25 hl (k := 0) rfl (by rw [ex_4]; rfl) (by decide) rfl (fun ls hl => ?_)
          refine lv_goto (tgt := 7) hx hb dX10_setHours_28 (by decide) ?_
          try simp only [fa_lt, fa_le, fa_eq, fa_lt64, fa_le64, fa_eq64, Int32.reduceToInt, Int64.reduceToInt, zi_ite] at ex_1
          try simp only [fa_lt, fa_le, fa_eq, fa_lt64, fa_le64, fa_eq64, Int32.reduceToInt, Int64.reduceToInt, zi_ite] at hm
          try simp only [fa_lt, fa_le, fa_eq, fa_lt64, fa_le64, fa_eq64, Int32.reduceToInt, Int64.reduceToInt, zi_ite] at h0lp
          try simp only [fa_lt, fa_le, fa_eq, fa_lt64, fa_le64, fa_eq64, Int32.reduceToInt, Int64.reduceToInt, zi_ite] at h1lp
          try simp only [fa_lt, fa_le, fa_eq, fa_lt64, fa_le64, fa_eq64, Int32.reduceToInt, Int64.reduceToInt, zi_ite] at c_2
          try simp only [fa_lt, fa_le, fa_eq, fa_lt64, fa_le64, fa_eq64, Int32.reduceToInt, Int64.reduceToInt, zi_ite] at c_3
          have tx_4 : x_4.toInt = xlp.toInt + 1 := by rw [ex_4]; exact zi_inc (by omega)
          exact ih x_4 (upd g0 xlp.toNatClampNeg p2) (by omega) (by omega) (by omega) _ _ hP hD hS ls (lv_sub hl [0, 1, 2, 3, 4] rfl)
  exact lp _ x_1 f (Nat.lt_succ_self _) (by (try simp only [fa_lt, fa_le, fa_eq, fa_lt64, fa_le64, fa_eq64, Int32.reduceToInt, Int64.reduceToInt, zi_ite] at ex_1 ⊢) <;> omega) (by (try simp only [fa_lt, fa_le, fa_eq, fa_lt64, fa_le64, fa_eq64, Int32.reduceToInt, Int64.reduceToInt, zi_ite] at ex_1 ⊢) <;> omega) _ _ hP hD hS ls hl
set_option maxHeartbeats 1000000 in
set_option maxRecDepth 100000 in
theorem rt_X11_isWind (l : Launch) (p0 : Int32) : Met l yX11_isWind wsX11_isWind ({ frames := 0, cells := 0, slots := 0, locals := 0 }) (va_Pc [.int p0] (fun _ => True)) (vp_Si (fun r : Int32 => ((0 ≤ p0 ∧ p0 ≤ 4444 ∧ p0 / 100 - p0 / 100 / 10 * 10 ≤ 4 ∧ p0 / 10 - p0 / 10 / 10 * 10 ≤ 4 ∧ p0 - p0 / 10 * 10 ≤ 4 ∧ p0 / 1000 ≤ p0 / 100 - p0 / 100 / 10 * 10 ∧ p0 / 10 - p0 / 10 / 10 * 10 ≤ p0 - p0 / 10 * 10) ∧ r = 1) ∨ ((¬ (0 ≤ p0 ∧ p0 ≤ 4444 ∧ p0 / 100 - p0 / 100 / 10 * 10 ≤ 4 ∧ p0 / 10 - p0 / 10 / 10 * 10 ≤ 4 ∧ p0 - p0 / 10 * 10 ≤ 4 ∧ p0 / 1000 ≤ p0 / 100 - p0 / 100 / 10 * 10 ∧ p0 / 10 - p0 / 10 / 10 * 10 ≤ p0 - p0 / 10 * 10)) ∧ r = 0))) 0 0 (fun _ => False) := by
  refine Met.ofW (cc := cX11_isWind) (maxL := 5) (ret := (some .boolean)) (by decide) rfl ?_
  intro p e s m args below meth c s₁ B hml hv
  obtain ⟨rfl, _⟩ := hv
  have hx := B.exec
  have hb := B.bytes
  have hr := B.returns
  have hts := atoms_spec (ws := wsX11_isWind) B.pre
  have hown : s.vm.findClass RX11 = some m.cls := findClass_of_methodNamed B.named
  have hlocks := B.notSynchronized
  have hl := lv_entry ([.int p0]) (n := 5) (Nat.le_of_ble_eq_true rfl)
  rw [lg_entry_eq]
  generalize (lg_sl ([.int p0]) ++ List.replicate (5 - (lg_sl ([.int p0])).length) Slot.unset).toArray = ls at hl ⊢
  have hl : lv_has ls 5 [(0, .int p0)] := hl
  refine lv_iload_n hx hb dX11_isWind_0 rfl (lv_at hl 0 rfl) ?_
  refine lv_if_lt (tgt := 11) hx hb dX11_isWind_1 (by decide) (fun c_1 => ?_) (fun c_1 => ?_)
  · refine lv_iconst (v := 0) hx hb dX11_isWind_11 (by decide) ?_
    have hpost : ((0 ≤ p0 ∧ p0 ≤ 4444 ∧ p0 / 100 - p0 / 100 / 10 * 10 ≤ 4 ∧ p0 / 10 - p0 / 10 / 10 * 10 ≤ 4 ∧ p0 - p0 / 10 * 10 ≤ 4 ∧ p0 / 1000 ≤ p0 / 100 - p0 / 100 / 10 * 10 ∧ p0 / 10 - p0 / 10 / 10 * 10 ≤ p0 - p0 / 10 * 10) ∧ (0 : Int32) = 1) ∨ ((¬ (0 ≤ p0 ∧ p0 ≤ 4444 ∧ p0 / 100 - p0 / 100 / 10 * 10 ≤ 4 ∧ p0 / 10 - p0 / 10 / 10 * 10 ≤ 4 ∧ p0 - p0 / 10 * 10 ≤ 4 ∧ p0 / 1000 ≤ p0 / 100 - p0 / 100 / 10 * 10 ∧ p0 / 10 - p0 / 10 / 10 * 10 ≤ p0 - p0 / 10 * 10)) ∧ (0 : Int32) = 0) := by
      try simp only [fa_lt, fa_le, fa_eq, fa_lt64, fa_le64, fa_eq64, Int32.reduceToInt, Int64.reduceToInt, zi_ite] at c_1
      first
      | exact Or.inl ⟨by (try simp only [fa_lt, fa_le, fa_eq, fa_lt64, fa_le64, fa_eq64, Int32.reduceToInt, Int64.reduceToInt, zi_ite]); omega, rfl⟩
      | exact Or.inr (⟨by (try simp only [fa_lt, fa_le, fa_eq, fa_lt64, fa_le64, fa_eq64, Int32.reduceToInt, Int64.reduceToInt, zi_ite]); omega, rfl⟩)
    exact W.zret (v := 0) hx hb hr rfl (fun t ht hW => ⟨0, rfl, hpost, ht⟩) (fun _ h => absurd h List.not_mem_nil) dX11_isWind_12
  · refine lv_iload_n hx hb dX11_isWind_4 rfl (lv_at hl 0 rfl) ?_
    refine lv_sipush (v := 4444) hx hb dX11_isWind_5 (by decide) ?_
    refine lv_icmp_le (tgt := 13) hx hb dX11_isWind_8 (by decide) (fun c_2 => ?_) (fun c_2 => ?_)
    · refine lv_iload_n hx hb dX11_isWind_13 rfl (lv_at hl 0 rfl) ?_
      refine lv_sipush (v := 1000) hx hb dX11_isWind_14 (by decide) ?_
      refine lv_idiv hx hb dX11_isWind_17 (by decide) ?_
      refine lv_topi (fun x_3 ex_3 => ?_)
      refine lv_istore_n (lv' := [(1, .int x_3), (0, .int p0)]) hx hb dX11_isWind_18 rfl hl (by decide) rfl (fun ls hl => ?_)
      refine lv_iload_n hx hb dX11_isWind_19 rfl (lv_at hl 1 rfl) ?_
      refine lv_bipush (v := 100) hx hb dX11_isWind_20 (by decide) ?_
      refine lv_idiv hx hb dX11_isWind_22 (by decide) ?_
      refine lv_bipush (v := 10) hx hb dX11_isWind_23 (by decide) ?_
      refine lv_irem hx hb dX11_isWind_25 (by decide) ?_
      refine lv_topi (fun x_4 ex_4 => ?_)
      refine lv_istore_n (lv' := [(2, .int x_4), (1, .int x_3), (0, .int p0)]) hx hb dX11_isWind_26 rfl hl (by decide) rfl (fun ls hl => ?_)
      refine lv_iload_n hx hb dX11_isWind_27 rfl (lv_at hl 2 rfl) ?_
      refine lv_bipush (v := 10) hx hb dX11_isWind_28 (by decide) ?_
      refine lv_idiv hx hb dX11_isWind_30 (by decide) ?_
      refine lv_bipush (v := 10) hx hb dX11_isWind_31 (by decide) ?_
      refine lv_irem hx hb dX11_isWind_33 (by decide) ?_
      refine lv_topi (fun x_5 ex_5 => ?_)
      refine lv_istore_n (lv' := [(3, .int x_5), (2, .int x_4), (1, .int x_3), (0, .int p0)]) hx hb dX11_isWind_34 rfl hl (by decide) rfl (fun ls hl => ?_)
      refine lv_iload_n hx hb dX11_isWind_35 rfl (lv_at hl 3 rfl) ?_
      refine lv_bipush (v := 10) hx hb dX11_isWind_36 (by decide) ?_
      refine lv_irem hx hb dX11_isWind_38 (by decide) ?_
      refine lv_topi (fun x_6 ex_6 => ?_)
      refine lv_istore (lv' := [(4, .int x_6), (3, .int x_5), (2, .int x_4), (1, .int x_3), (0, .int p0)]) hx hb dX11_isWind_39 hl (by decide) rfl (fun ls hl => ?_)
      refine lv_iload_n hx hb dX11_isWind_41 rfl (lv_at hl 2 rfl) ?_
      refine lv_iconst (v := 4) hx hb dX11_isWind_42 (by decide) ?_
      refine lv_icmp_gt (tgt := 72) hx hb dX11_isWind_43 (by decide) (fun c_7 => ?_) (fun c_7 => ?_)
      · refine lv_iconst (v := 0) hx hb dX11_isWind_72 (by decide) ?_
        have hpost : ((0 ≤ p0 ∧ p0 ≤ 4444 ∧ p0 / 100 - p0 / 100 / 10 * 10 ≤ 4 ∧ p0 / 10 - p0 / 10 / 10 * 10 ≤ 4 ∧ p0 - p0 / 10 * 10 ≤ 4 ∧ p0 / 1000 ≤ p0 / 100 - p0 / 100 / 10 * 10 ∧ p0 / 10 - p0 / 10 / 10 * 10 ≤ p0 - p0 / 10 * 10) ∧ (0 : Int32) = 1) ∨ ((¬ (0 ≤ p0 ∧ p0 ≤ 4444 ∧ p0 / 100 - p0 / 100 / 10 * 10 ≤ 4 ∧ p0 / 10 - p0 / 10 / 10 * 10 ≤ 4 ∧ p0 - p0 / 10 * 10 ≤ 4 ∧ p0 / 1000 ≤ p0 / 100 - p0 / 100 / 10 * 10 ∧ p0 / 10 - p0 / 10 / 10 * 10 ≤ p0 - p0 / 10 * 10)) ∧ (0 : Int32) = 0) := by
          try simp only [fa_lt, fa_le, fa_eq, fa_lt64, fa_le64, fa_eq64, Int32.reduceToInt, Int64.reduceToInt, zi_ite] at c_1
          try simp only [fa_lt, fa_le, fa_eq, fa_lt64, fa_le64, fa_eq64, Int32.reduceToInt, Int64.reduceToInt, zi_ite] at c_2
          try simp only [fa_lt, fa_le, fa_eq, fa_lt64, fa_le64, fa_eq64, Int32.reduceToInt, Int64.reduceToInt, zi_ite] at ex_3
          try simp only [fa_lt, fa_le, fa_eq, fa_lt64, fa_le64, fa_eq64, Int32.reduceToInt, Int64.reduceToInt, zi_ite] at ex_4
          try simp only [fa_lt, fa_le, fa_eq, fa_lt64, fa_le64, fa_eq64, Int32.reduceToInt, Int64.reduceToInt, zi_ite] at ex_5
          try simp only [fa_lt, fa_le, fa_eq, fa_lt64, fa_le64, fa_eq64, Int32.reduceToInt, Int64.reduceToInt, zi_ite] at ex_6
          try simp only [fa_lt, fa_le, fa_eq, fa_lt64, fa_le64, fa_eq64, Int32.reduceToInt, Int64.reduceToInt, zi_ite] at c_7
          first
          | exact Or.inl ⟨by (try simp only [fa_lt, fa_le, fa_eq, fa_lt64, fa_le64, fa_eq64, Int32.reduceToInt, Int64.reduceToInt, zi_ite]); omega, rfl⟩
          | exact Or.inr (⟨by (try simp only [fa_lt, fa_le, fa_eq, fa_lt64, fa_le64, fa_eq64, Int32.reduceToInt, Int64.reduceToInt, zi_ite]); omega, rfl⟩)
        exact W.zret (v := 0) hx hb hr rfl (fun t ht hW => ⟨0, rfl, hpost, ht⟩) (fun _ h => absurd h List.not_mem_nil) dX11_isWind_73
      · refine lv_iload_n hx hb dX11_isWind_46 rfl (lv_at hl 1 rfl) ?_
        refine lv_iconst (v := 4) hx hb dX11_isWind_47 (by decide) ?_
        refine lv_icmp_gt (tgt := 72) hx hb dX11_isWind_48 (by decide) (fun c_8 => ?_) (fun c_8 => ?_)
        · refine lv_iconst (v := 0) hx hb dX11_isWind_72 (by decide) ?_
          have hpost : ((0 ≤ p0 ∧ p0 ≤ 4444 ∧ p0 / 100 - p0 / 100 / 10 * 10 ≤ 4 ∧ p0 / 10 - p0 / 10 / 10 * 10 ≤ 4 ∧ p0 - p0 / 10 * 10 ≤ 4 ∧ p0 / 1000 ≤ p0 / 100 - p0 / 100 / 10 * 10 ∧ p0 / 10 - p0 / 10 / 10 * 10 ≤ p0 - p0 / 10 * 10) ∧ (0 : Int32) = 1) ∨ ((¬ (0 ≤ p0 ∧ p0 ≤ 4444 ∧ p0 / 100 - p0 / 100 / 10 * 10 ≤ 4 ∧ p0 / 10 - p0 / 10 / 10 * 10 ≤ 4 ∧ p0 - p0 / 10 * 10 ≤ 4 ∧ p0 / 1000 ≤ p0 / 100 - p0 / 100 / 10 * 10 ∧ p0 / 10 - p0 / 10 / 10 * 10 ≤ p0 - p0 / 10 * 10)) ∧ (0 : Int32) = 0) := by
            try simp only [fa_lt, fa_le, fa_eq, fa_lt64, fa_le64, fa_eq64, Int32.reduceToInt, Int64.reduceToInt, zi_ite] at c_1
            try simp only [fa_lt, fa_le, fa_eq, fa_lt64, fa_le64, fa_eq64, Int32.reduceToInt, Int64.reduceToInt, zi_ite] at c_2
            try simp only [fa_lt, fa_le, fa_eq, fa_lt64, fa_le64, fa_eq64, Int32.reduceToInt, Int64.reduceToInt, zi_ite] at ex_3
            try simp only [fa_lt, fa_le, fa_eq, fa_lt64, fa_le64, fa_eq64, Int32.reduceToInt, Int64.reduceToInt, zi_ite] at ex_4
            try simp only [fa_lt, fa_le, fa_eq, fa_lt64, fa_le64, fa_eq64, Int32.reduceToInt, Int64.reduceToInt, zi_ite] at ex_5
            try simp only [fa_lt, fa_le, fa_eq, fa_lt64, fa_le64, fa_eq64, Int32.reduceToInt, Int64.reduceToInt, zi_ite] at ex_6
            try simp only [fa_lt, fa_le, fa_eq, fa_lt64, fa_le64, fa_eq64, Int32.reduceToInt, Int64.reduceToInt, zi_ite] at c_7
            try simp only [fa_lt, fa_le, fa_eq, fa_lt64, fa_le64, fa_eq64, Int32.reduceToInt, Int64.reduceToInt, zi_ite] at c_8
            first
            | exact Or.inl ⟨by (try simp only [fa_lt, fa_le, fa_eq, fa_lt64, fa_le64, fa_eq64, Int32.reduceToInt, Int64.reduceToInt, zi_ite]); omega, rfl⟩
            | exact Or.inr (⟨by (try simp only [fa_lt, fa_le, fa_eq, fa_lt64, fa_le64, fa_eq64, Int32.reduceToInt, Int64.reduceToInt, zi_ite]); omega, rfl⟩)
          exact W.zret (v := 0) hx hb hr rfl (fun t ht hW => ⟨0, rfl, hpost, ht⟩) (fun _ h => absurd h List.not_mem_nil) dX11_isWind_73
        · refine lv_iload hx hb dX11_isWind_51 (lv_at hl 0 rfl) ?_
          refine lv_iconst (v := 4) hx hb dX11_isWind_53 (by decide) ?_
          refine lv_icmp_gt (tgt := 72) hx hb dX11_isWind_54 (by decide) (fun c_9 => ?_) (fun c_9 => ?_)
          · refine lv_iconst (v := 0) hx hb dX11_isWind_72 (by decide) ?_
            have hpost : ((0 ≤ p0 ∧ p0 ≤ 4444 ∧ p0 / 100 - p0 / 100 / 10 * 10 ≤ 4 ∧ p0 / 10 - p0 / 10 / 10 * 10 ≤ 4 ∧ p0 - p0 / 10 * 10 ≤ 4 ∧ p0 / 1000 ≤ p0 / 100 - p0 / 100 / 10 * 10 ∧ p0 / 10 - p0 / 10 / 10 * 10 ≤ p0 - p0 / 10 * 10) ∧ (0 : Int32) = 1) ∨ ((¬ (0 ≤ p0 ∧ p0 ≤ 4444 ∧ p0 / 100 - p0 / 100 / 10 * 10 ≤ 4 ∧ p0 / 10 - p0 / 10 / 10 * 10 ≤ 4 ∧ p0 - p0 / 10 * 10 ≤ 4 ∧ p0 / 1000 ≤ p0 / 100 - p0 / 100 / 10 * 10 ∧ p0 / 10 - p0 / 10 / 10 * 10 ≤ p0 - p0 / 10 * 10)) ∧ (0 : Int32) = 0) := by
              try simp only [fa_lt, fa_le, fa_eq, fa_lt64, fa_le64, fa_eq64, Int32.reduceToInt, Int64.reduceToInt, zi_ite] at c_1
              try simp only [fa_lt, fa_le, fa_eq, fa_lt64, fa_le64, fa_eq64, Int32.reduceToInt, Int64.reduceToInt, zi_ite] at c_2
              try simp only [fa_lt, fa_le, fa_eq, fa_lt64, fa_le64, fa_eq64, Int32.reduceToInt, Int64.reduceToInt, zi_ite] at ex_3
              try simp only [fa_lt, fa_le, fa_eq, fa_lt64, fa_le64, fa_eq64, Int32.reduceToInt, Int64.reduceToInt, zi_ite] at ex_4
              try simp only [fa_lt, fa_le, fa_eq, fa_lt64, fa_le64, fa_eq64, Int32.reduceToInt, Int64.reduceToInt, zi_ite] at ex_5
              try simp only [fa_lt, fa_le, fa_eq, fa_lt64, fa_le64, fa_eq64, Int32.reduceToInt, Int64.reduceToInt, zi_ite] at ex_6
              try simp only [fa_lt, fa_le, fa_eq, fa_lt64, fa_le64, fa_eq64, Int32.reduceToInt, Int64.reduceToInt, zi_ite] at c_7
              try simp only [fa_lt, fa_le, fa_eq, fa_lt64, fa_le64, fa_eq64, Int32.reduceToInt, Int64.reduceToInt, zi_ite] at c_8
              try simp only [fa_lt, fa_le, fa_eq, fa_lt64, fa_le64, fa_eq64, Int32.reduceToInt, Int64.reduceToInt, zi_ite] at c_9
              first
              | exact Or.inl ⟨by (try simp only [fa_lt, fa_le, fa_eq, fa_lt64, fa_le64, fa_eq64, Int32.reduceToInt, Int64.reduceToInt, zi_ite]); omega, rfl⟩
              | exact Or.inr (⟨by (try simp only [fa_lt, fa_le, fa_eq, fa_lt64, fa_le64, fa_eq64, Int32.reduceToInt, Int64.reduceToInt, zi_ite]); omega, rfl⟩)
            exact W.zret (v := 0) hx hb hr rfl (fun t ht hW => ⟨0, rfl, hpost, ht⟩) (fun _ h => absurd h List.not_mem_nil) dX11_isWind_73
          · refine lv_iload_n hx hb dX11_isWind_57 rfl (lv_at hl 3 rfl) ?_
            refine lv_iload_n hx hb dX11_isWind_58 rfl (lv_at hl 2 rfl) ?_
            refine lv_icmp_gt (tgt := 72) hx hb dX11_isWind_59 (by decide) (fun c_10 => ?_) (fun c_10 => ?_)
            · refine lv_iconst (v := 0) hx hb dX11_isWind_72 (by decide) ?_
              have hpost : ((0 ≤ p0 ∧ p0 ≤ 4444 ∧ p0 / 100 - p0 / 100 / 10 * 10 ≤ 4 ∧ p0 / 10 - p0 / 10 / 10 * 10 ≤ 4 ∧ p0 - p0 / 10 * 10 ≤ 4 ∧ p0 / 1000 ≤ p0 / 100 - p0 / 100 / 10 * 10 ∧ p0 / 10 - p0 / 10 / 10 * 10 ≤ p0 - p0 / 10 * 10) ∧ (0 : Int32) = 1) ∨ ((¬ (0 ≤ p0 ∧ p0 ≤ 4444 ∧ p0 / 100 - p0 / 100 / 10 * 10 ≤ 4 ∧ p0 / 10 - p0 / 10 / 10 * 10 ≤ 4 ∧ p0 - p0 / 10 * 10 ≤ 4 ∧ p0 / 1000 ≤ p0 / 100 - p0 / 100 / 10 * 10 ∧ p0 / 10 - p0 / 10 / 10 * 10 ≤ p0 - p0 / 10 * 10)) ∧ (0 : Int32) = 0) := by
                try simp only [fa_lt, fa_le, fa_eq, fa_lt64, fa_le64, fa_eq64, Int32.reduceToInt, Int64.reduceToInt, zi_ite] at c_1
                try simp only [fa_lt, fa_le, fa_eq, fa_lt64, fa_le64, fa_eq64, Int32.reduceToInt, Int64.reduceToInt, zi_ite] at c_2
                try simp only [fa_lt, fa_le, fa_eq, fa_lt64, fa_le64, fa_eq64, Int32.reduceToInt, Int64.reduceToInt, zi_ite] at ex_3
                try simp only [fa_lt, fa_le, fa_eq, fa_lt64, fa_le64, fa_eq64, Int32.reduceToInt, Int64.reduceToInt, zi_ite] at ex_4
                try simp only [fa_lt, fa_le, fa_eq, fa_lt64, fa_le64, fa_eq64, Int32.reduceToInt, Int64.reduceToInt, zi_ite] at ex_5
                try simp only [fa_lt, fa_le, fa_eq, fa_lt64, fa_le64, fa_eq64, Int32.reduceToInt, Int64.reduceToInt, zi_ite] at ex_6
                try simp only [fa_lt, fa_le, fa_eq, fa_lt64, fa_le64, fa_eq64, Int32.reduceToInt, Int64.reduceToInt, zi_ite] at c_7
                try simp only [fa_lt, fa_le, fa_eq, fa_lt64, fa_le64, fa_eq64, Int32.reduceToInt, Int64.reduceToInt, zi_ite] at c_8
                try simp only [fa_lt, fa_le, fa_eq, fa_lt64, fa_le64, fa_eq64, Int32.reduceToInt, Int64.reduceToInt, zi_ite] at c_9
                try simp only [fa_lt, fa_le, fa_eq, fa_lt64, fa_le64, fa_eq64, Int32.reduceToInt, Int64.reduceToInt, zi_ite] at c_10
                first
                | exact Or.inl ⟨by (try simp only [fa_lt, fa_le, fa_eq, fa_lt64, fa_le64, fa_eq64, Int32.reduceToInt, Int64.reduceToInt, zi_ite]); omega, rfl⟩
                | exact Or.inr (⟨by (try simp only [fa_lt, fa_le, fa_eq, fa_lt64, fa_le64, fa_eq64, Int32.reduceToInt, Int64.reduceToInt, zi_ite]); omega, rfl⟩)
              exact W.zret (v := 0) hx hb hr rfl (fun t ht hW => ⟨0, rfl, hpost, ht⟩) (fun _ h => absurd h List.not_mem_nil) dX11_isWind_73
            · refine lv_iload_n hx hb dX11_isWind_62 rfl (lv_at hl 1 rfl) ?_
              refine lv_iload hx hb dX11_isWind_63 (lv_at hl 0 rfl) ?_
              refine lv_icmp_gt (tgt := 72) hx hb dX11_isWind_65 (by decide) (fun c_11 => ?_) (fun c_11 => ?_)
              · refine lv_iconst (v := 0) hx hb dX11_isWind_72 (by decide) ?_
                have hpost : ((0 ≤ p0 ∧ p0 ≤ 4444 ∧ p0 / 100 - p0 / 100 / 10 * 10 ≤ 4 ∧ p0 / 10 - p0 / 10 / 10 * 10 ≤ 4 ∧ p0 - p0 / 10 * 10 ≤ 4 ∧ p0 / 1000 ≤ p0 / 100 - p0 / 100 / 10 * 10 ∧ p0 / 10 - p0 / 10 / 10 * 10 ≤ p0 - p0 / 10 * 10) ∧ (0 : Int32) = 1) ∨ ((¬ (0 ≤ p0 ∧ p0 ≤ 4444 ∧ p0 / 100 - p0 / 100 / 10 * 10 ≤ 4 ∧ p0 / 10 - p0 / 10 / 10 * 10 ≤ 4 ∧ p0 - p0 / 10 * 10 ≤ 4 ∧ p0 / 1000 ≤ p0 / 100 - p0 / 100 / 10 * 10 ∧ p0 / 10 - p0 / 10 / 10 * 10 ≤ p0 - p0 / 10 * 10)) ∧ (0 : Int32) = 0) := by
                  try simp only [fa_lt, fa_le, fa_eq, fa_lt64, fa_le64, fa_eq64, Int32.reduceToInt, Int64.reduceToInt, zi_ite] at c_1
                  try simp only [fa_lt, fa_le, fa_eq, fa_lt64, fa_le64, fa_eq64, Int32.reduceToInt, Int64.reduceToInt, zi_ite] at c_2
                  try simp only [fa_lt, fa_le, fa_eq, fa_lt64, fa_le64, fa_eq64, Int32.reduceToInt, Int64.reduceToInt, zi_ite] at ex_3
                  try simp only [fa_lt, fa_le, fa_eq, fa_lt64, fa_le64, fa_eq64, Int32.reduceToInt, Int64.reduceToInt, zi_ite] at ex_4
                  try simp only [fa_lt, fa_le, fa_eq, fa_lt64, fa_le64, fa_eq64, Int32.reduceToInt, Int64.reduceToInt, zi_ite] at ex_5
                  try simp only [fa_lt, fa_le, fa_eq, fa_lt64, fa_le64, fa_eq64, Int32.reduceToInt, Int64.reduceToInt, zi_ite] at ex_6
                  try simp only [fa_lt, fa_le, fa_eq, fa_lt64, fa_le64, fa_eq64, Int32.reduceToInt, Int64.reduceToInt, zi_ite] at c_7
                  try simp only [fa_lt, fa_le, fa_eq, fa_lt64, fa_le64, fa_eq64, Int32.reduceToInt, Int64.reduceToInt, zi_ite] at c_8
                  try simp only [fa_lt, fa_le, fa_eq, fa_lt64, fa_le64, fa_eq64, Int32.reduceToInt, Int64.reduceToInt, zi_ite] at c_9
                  try simp only [fa_lt, fa_le, fa_eq, fa_lt64, fa_le64, fa_eq64, Int32.reduceToInt, Int64.reduceToInt, zi_ite] at c_10
                  try simp only [fa_lt, fa_le, fa_eq, fa_lt64, fa_le64, fa_eq64, Int32.reduceToInt, Int64.reduceToInt, zi_ite] at c_11
                  first
                  | exact Or.inl ⟨by (try simp only [fa_lt, fa_le, fa_eq, fa_lt64, fa_le64, fa_eq64, Int32.reduceToInt, Int64.reduceToInt, zi_ite]); omega, rfl⟩
                  | exact Or.inr (⟨by (try simp only [fa_lt, fa_le, fa_eq, fa_lt64, fa_le64, fa_eq64, Int32.reduceToInt, Int64.reduceToInt, zi_ite]); omega, rfl⟩)
                exact W.zret (v := 0) hx hb hr rfl (fun t ht hW => ⟨0, rfl, hpost, ht⟩) (fun _ h => absurd h List.not_mem_nil) dX11_isWind_73
              · refine lv_iconst (v := 1) hx hb dX11_isWind_68 (by decide) ?_
                refine lv_goto (tgt := 73) hx hb dX11_isWind_69 (by decide) ?_
                have hpost : ((0 ≤ p0 ∧ p0 ≤ 4444 ∧ p0 / 100 - p0 / 100 / 10 * 10 ≤ 4 ∧ p0 / 10 - p0 / 10 / 10 * 10 ≤ 4 ∧ p0 - p0 / 10 * 10 ≤ 4 ∧ p0 / 1000 ≤ p0 / 100 - p0 / 100 / 10 * 10 ∧ p0 / 10 - p0 / 10 / 10 * 10 ≤ p0 - p0 / 10 * 10) ∧ (1 : Int32) = 1) ∨ ((¬ (0 ≤ p0 ∧ p0 ≤ 4444 ∧ p0 / 100 - p0 / 100 / 10 * 10 ≤ 4 ∧ p0 / 10 - p0 / 10 / 10 * 10 ≤ 4 ∧ p0 - p0 / 10 * 10 ≤ 4 ∧ p0 / 1000 ≤ p0 / 100 - p0 / 100 / 10 * 10 ∧ p0 / 10 - p0 / 10 / 10 * 10 ≤ p0 - p0 / 10 * 10)) ∧ (1 : Int32) = 0) := by
                  try simp only [fa_lt, fa_le, fa_eq, fa_lt64, fa_le64, fa_eq64, Int32.reduceToInt, Int64.reduceToInt, zi_ite] at c_1
                  try simp only [fa_lt, fa_le, fa_eq, fa_lt64, fa_le64, fa_eq64, Int32.reduceToInt, Int64.reduceToInt, zi_ite] at c_2
                  try simp only [fa_lt, fa_le, fa_eq, fa_lt64, fa_le64, fa_eq64, Int32.reduceToInt, Int64.reduceToInt, zi_ite] at ex_3
                  try simp only [fa_lt, fa_le, fa_eq, fa_lt64, fa_le64, fa_eq64, Int32.reduceToInt, Int64.reduceToInt, zi_ite] at ex_4
                  try simp only [fa_lt, fa_le, fa_eq, fa_lt64, fa_le64, fa_eq64, Int32.reduceToInt, Int64.reduceToInt, zi_ite] at ex_5
                  try simp only [fa_lt, fa_le, fa_eq, fa_lt64, fa_le64, fa_eq64, Int32.reduceToInt, Int64.reduceToInt, zi_ite] at ex_6
                  try simp only [fa_lt, fa_le, fa_eq, fa_lt64, fa_le64, fa_eq64, Int32.reduceToInt, Int64.reduceToInt, zi_ite] at c_7
                  try simp only [fa_lt, fa_le, fa_eq, fa_lt64, fa_le64, fa_eq64, Int32.reduceToInt, Int64.reduceToInt, zi_ite] at c_8
                  try simp only [fa_lt, fa_le, fa_eq, fa_lt64, fa_le64, fa_eq64, Int32.reduceToInt, Int64.reduceToInt, zi_ite] at c_9
                  try simp only [fa_lt, fa_le, fa_eq, fa_lt64, fa_le64, fa_eq64, Int32.reduceToInt, Int64.reduceToInt, zi_ite] at c_10
                  try simp only [fa_lt, fa_le, fa_eq, fa_lt64, fa_le64, fa_eq64, Int32.reduceToInt, Int64.reduceToInt, zi_ite] at c_11
                  first
                  | exact Or.inl ⟨by (try simp only [fa_lt, fa_le, fa_eq, fa_lt64, fa_le64, fa_eq64, Int32.reduceToInt, Int64.reduceToInt, zi_ite]); omega, rfl⟩
                  | exact Or.inr (⟨by (try simp only [fa_lt, fa_le, fa_eq, fa_lt64, fa_le64, fa_eq64, Int32.reduceToInt, Int64.reduceToInt, zi_ite]); omega, rfl⟩)
                exact W.zret (v := 1) hx hb hr rfl (fun t ht hW => ⟨1, rfl, hpost, ht⟩) (fun _ h => absurd h List.not_mem_nil) dX11_isWind_73
    · refine lv_iconst (v := 0) hx hb dX11_isWind_11 (by decide) ?_
      have hpost : ((0 ≤ p0 ∧ p0 ≤ 4444 ∧ p0 / 100 - p0 / 100 / 10 * 10 ≤ 4 ∧ p0 / 10 - p0 / 10 / 10 * 10 ≤ 4 ∧ p0 - p0 / 10 * 10 ≤ 4 ∧ p0 / 1000 ≤ p0 / 100 - p0 / 100 / 10 * 10 ∧ p0 / 10 - p0 / 10 / 10 * 10 ≤ p0 - p0 / 10 * 10) ∧ (0 : Int32) = 1) ∨ ((¬ (0 ≤ p0 ∧ p0 ≤ 4444 ∧ p0 / 100 - p0 / 100 / 10 * 10 ≤ 4 ∧ p0 / 10 - p0 / 10 / 10 * 10 ≤ 4 ∧ p0 - p0 / 10 * 10 ≤ 4 ∧ p0 / 1000 ≤ p0 / 100 - p0 / 100 / 10 * 10 ∧ p0 / 10 - p0 / 10 / 10 * 10 ≤ p0 - p0 / 10 * 10)) ∧ (0 : Int32) = 0) := by
        try simp only [fa_lt, fa_le, fa_eq, fa_lt64, fa_le64, fa_eq64, Int32.reduceToInt, Int64.reduceToInt, zi_ite] at c_1
        try simp only [fa_lt, fa_le, fa_eq, fa_lt64, fa_le64, fa_eq64, Int32.reduceToInt, Int64.reduceToInt, zi_ite] at c_2
        first
        | exact Or.inl ⟨by (try simp only [fa_lt, fa_le, fa_eq, fa_lt64, fa_le64, fa_eq64, Int32.reduceToInt, Int64.reduceToInt, zi_ite]); omega, rfl⟩
        | exact Or.inr (⟨by (try simp only [fa_lt, fa_le, fa_eq, fa_lt64, fa_le64, fa_eq64, Int32.reduceToInt, Int64.reduceToInt, zi_ite]); omega, rfl⟩)
      exact W.zret (v := 0) hx hb hr rfl (fun t ht hW => ⟨0, rfl, hpost, ht⟩) (fun _ h => absurd h List.not_mem_nil) dX11_isWind_12
set_option maxHeartbeats 1000000 in
set_option maxRecDepth 100000 in
theorem rt_X10_tellWind (l : Launch) (dC : Nat → ClassId) (dI : Nat → Nat → Nat) (sz : Nat) (h1 : Nat) (aw : Nat → Nat) (cA : ClassId) (f : Nat → Int32) (p0 p1 p2 : Int32) (hp0 : 0 ≤ p0.toInt ∧ p0.toInt ≤ 240) (hp1 : p1.toInt ≤ 240) : Met l yX10_tellWind wsX10_tellWind ({ frames := 2, cells := 0, slots := 0, locals := 37 }) (va_Pc [.ref h1, .int p0, .int p1, .int p2] (fun U => U.heap.size = sz ∧ va_P (dC, dI) vwCl [(h1, .inr (10, [.ref (aw 0), .ref (aw 1), .int 0, .int 0])), (aw 0, .inl (cA, 240, .inl f))] U.heap ∧ va_K (dC, dI) vwCl [(cA, .int)] U ∧ va_D (fun _ => True) [(h1, .inr (10, [.ref (aw 0), .ref (aw 1), .int 0, .int 0])), (aw 0, .inl (cA, 240, .inl f))])) (va_Qv (fun u : (Nat → Int32) => match u with | f2 => True) (fun (u : (Nat → Int32)) (t : State) => match u with | f2 => va_P (dC, dI) vwCl [(h1, .inr (10, [.ref (aw 0), .ref (aw 1), .int 1, .int 0])), (aw 0, .inl (cA, 240, .inl f2))] t.heap ∧ va_D (va_A [(h1, .inr (10, [.ref (aw 0), .ref (aw 1), .int 0, .int 0])), (aw 0, .inl (cA, 240, .inl f))] sz) [(h1, .inr (10, [.ref (aw 0), .ref (aw 1), .int 1, .int 0])), (aw 0, .inl (cA, 240, .inl f2))]) (va_A [(h1, .inr (10, [.ref (aw 0), .ref (aw 1), .int 0, .int 0])), (aw 0, .inl (cA, 240, .inl f))] sz)) 0 0 (va_A [(h1, .inr (10, [.ref (aw 0), .ref (aw 1), .int 0, .int 0])), (aw 0, .inl (cA, 240, .inl f))] sz) := by
  refine Met.ofW (cc := cX10_tellWind) (maxL := 4) (ret := none) (by decide) rfl ?_
  intro p e s m args below meth c s₁ B hml hv
  obtain ⟨rfl, hsz, hP, hK, hD0⟩ := hv
  have hx := B.exec
  have hb := B.bytes
  have hr := B.returns
  have hts := atoms_spec (ws := wsX10_tellWind) B.pre
  have hown : s.vm.findClass RX10 = some m.cls := findClass_of_methodNamed B.named
  have hlocks := B.notSynchronized
  subst hsz
  have hD := hD0.self (sz := s.heap.size)
  generalize hAe : va_A [(h1, .inr (10, [.ref (aw 0), .ref (aw 1), .int 0, .int 0])), (aw 0, .inl (cA, 240, .inl f))] s.heap.size = A at hD  ⊢
  have hA : ∀ q : Nat, s.heap.size ≤ q → A q := fun q h => by rw [← hAe]; exact Or.inr h
  have hS : va_S A s.heap s.heap [] := va_S.rf
  have hl := lv_entry ([.ref h1, .int p0, .int p1, .int p2]) (n := 4) (Nat.le_of_ble_eq_true rfl)
  rw [lg_entry_eq]
  generalize (lg_sl ([.ref h1, .int p0, .int p1, .int p2]) ++ List.replicate (4 - (lg_sl ([.ref h1, .int p0, .int p1, .int p2])).length) Slot.unset).toArray = ls at hl ⊢
  have hl : lv_has ls 4 [(0, .ref h1), (1, .int p0), (2, .int p1), (3, .int p2)] := hl
  refine lv_aload_n hx hb dX10_tellWind_0 rfl (lv_at hl 0 rfl) ?_
  refine va_get (D := (dC, dI)) (ci := 10) (v := .ref (aw 0)) (C := RX10) (T := TX10) (N := 4) hx hb hts (by decide +kernel) hown hK hP 0 rfl rfl 0 (by decide) (hts (.fieldLink RX10 9 "RedTent$Weather" "windBy" "[I") (by decide +kernel)) (fun _ h9 => h9) rfl dX10_tellWind_1 ?_
  refine lv_iload_n hx hb dX10_tellWind_4 rfl (lv_at hl 1 rfl) ?_
  refine lv_iload_n hx hb dX10_tellWind_5 rfl (lv_at hl 2 rfl) ?_
  refine lv_iload_n hx hb dX10_tellWind_6 rfl (lv_at hl 3 rfl) ?_
  have hPc := hP.sub (ws' := [(aw 0, .inl (cA, 240, .inl f))]) [1] rfl
  have hKc := hK.sub (tys' := [(cA, .int)]) [0] rfl
  have hDc := hD.sub (ws' := [(aw 0, .inl (cA, 240, .inl f))]) [1] (by decide) rfl
  have hFc := va_free (wc := [(aw 0, .inl (cA, 240, .inl f))]) hD hS hA [1] rfl
  refine va_callv (va_runS (As := [.ref (aw 0), .int p0, .int p1, .int p2]) (rest := []) ⟨hx, hb, hml, hown, hts⟩ (rt_X10_setHours l dC dI s.heap.size (aw 0) cA f p0 p1 p2 (by first | assumption | decide | omega) (by first | assumption | decide | omega)) (va_cwS 4 hts gX10_tellWind_X10_setHours rfl rfl rfl (by decide +kernel) ⟨Nat.le_of_ble_eq_true rfl, Nat.le_of_ble_eq_true rfl⟩) ⟨fun a U g mk q => by obtain ⟨q0, q1, qP, qK, qD⟩ := q; exact ⟨q0, q1, qP, va_K.moved (u := U) (U := U.calling g mk a) (Vm.Alike.refl U.vm) qK, qD⟩, fun U hU hW => ⟨rfl, by rw [hU], by rw [hU]; exact hPc, va_K.moved hW.alike hKc, hDc.weaken (fun _ _ _ _ => trivial)⟩⟩ rfl rfl hl.1 rfl (lv_room (Nat.le_of_ble_eq_true rfl)) dX10_tellWind_7 ⟨by decide +kernel, by decide +kernel⟩) hS (fun q _ h => hFc q h) hFc (fun u t H1 locs ht hvm hr_1 hB hz1 hk1 hS => ?_)
  obtain ⟨f2_2, rfl⟩ : ∃ z, z = u := ⟨_, rfl⟩
  obtain ⟨hP1, hD1⟩ := hB
  rw [ht] at hP1
  obtain ⟨hP, hD⟩ := va_join (wr := [(h1, .inr (10, [.ref (aw 0), .ref (aw 1), .int 0, .int 0]))]) (w1 := [(aw 0, .inl (cA, 240, .inl f2_2))]) hP hD [1] [0] rfl rfl (by decide) (by decide) hk1 hFc hP1 hD1
  generalize H1 = H at hP hS ⊢
  have hP : va_P (dC, dI) vwCl [(h1, .inr (10, [.ref (aw 0), .ref (aw 1), .int 0, .int 0])), (aw 0, .inl (cA, 240, .inl f2_2))] H := hP
  have hD : va_D A [(h1, .inr (10, [.ref (aw 0), .ref (aw 1), .int 0, .int 0])), (aw 0, .inl (cA, 240, .inl f2_2))] := hD
  refine lv_aload_n hx hb dX10_tellWind_10 rfl (lv_at hl 0 rfl) ?_
  refine lv_dup hx hb dX10_tellWind_11 rfl ?_
  refine va_get (D := (dC, dI)) (ci := 10) (v := .int 0) (C := RX10) (T := TX10) (N := 4) hx hb hts (by decide +kernel) hown hK hP 0 rfl rfl 2 (by decide) (hts (.fieldLink RX10 22 "RedTent$Weather" "windCount" "I") (by decide +kernel)) (fun _ h9 => h9) rfl dX10_tellWind_12 ?_
  refine lv_iconst (v := 1) hx hb dX10_tellWind_15 (by decide) ?_
  refine lv_iadd hx hb dX10_tellWind_16 ?_
  refine lv_topi (fun y_3 ey_3 => ?_)
  obtain rfl : y_3 = 1 := ey_3.trans (by decide)
  refine va_put (D := (dC, dI)) (ci := 10) (v := .int 1) (ty := .int) (C := RX10) (T := TX10) (N := 4) hx hb hts (by decide +kernel) tyX10 tyX10_ok nmX10 hown hK hP hD hS 0 rfl rfl 2 (by decide) (hts (.fieldLink RX10 22 "RedTent$Weather" "windCount" "I") (by decide +kernel)) (fun _ h9 => h9) rfl (by decide +kernel) rfl rfl (Nat.le_of_ble_eq_true rfl) dX10_tellWind_17 (fun H locs hP hD hS => ?_)
  have hP : va_P (dC, dI) vwCl [(h1, .inr (10, [.ref (aw 0), .ref (aw 1), .int 1, .int 0])), (aw 0, .inl (cA, 240, .inl f2_2))] H := hP
  have hD : va_D A [(h1, .inr (10, [.ref (aw 0), .ref (aw 1), .int 1, .int 0])), (aw 0, .inl (cA, 240, .inl f2_2))] := hD
  have hP9 := hP.sub (ws' := [(h1, .inr (10, [.ref (aw 0), .ref (aw 1), .int 1, .int 0])), (aw 0, .inl (cA, 240, .inl f2_2))]) [0, 1] rfl
  have hD9 := hD.sub (ws' := [(h1, .inr (10, [.ref (aw 0), .ref (aw 1), .int 1, .int 0])), (aw 0, .inl (cA, 240, .inl f2_2))]) [0, 1] (by decide) rfl
  refine W.widen (k := 0) (n := 0) (by decide +kernel) (by decide +kernel) ?_
  exact W.vret hx hb hr (fun t ht hW => ⟨⟨f2_2, rfl, trivial, by rw [ht]; exact hP9, hD9⟩, hS.F ht⟩) hS.2.2 dX10_tellWind_20
set_option maxHeartbeats 1000000 in
set_option maxRecDepth 100000 in
theorem rt_X10_tellFog (l : Launch) (dC : Nat → ClassId) (dI : Nat → Nat → Nat) (sz : Nat) (h1 : Nat) (aw : Nat → Nat) (cA : ClassId) (f : Nat → Int32) (p0 p1 p2 : Int32) (hp0 : 0 ≤ p0.toInt ∧ p0.toInt ≤ 240) (hp1 : p1.toInt ≤ 240) : Met l yX10_tellFog wsX10_tellFog ({ frames := 2, cells := 0, slots := 0, locals := 37 }) (va_Pc [.ref h1, .int p0, .int p1, .int p2] (fun U => U.heap.size = sz ∧ va_P (dC, dI) vwCl [(h1, .inr (10, [.ref (aw 0), .ref (aw 1), .int 0, .int 0])), (aw 1, .inl (cA, 240, .inl f))] U.heap ∧ va_K (dC, dI) vwCl [(cA, .int)] U ∧ va_D (fun _ => True) [(h1, .inr (10, [.ref (aw 0), .ref (aw 1), .int 0, .int 0])), (aw 1, .inl (cA, 240, .inl f))])) (va_Qv (fun u : (Nat → Int32) => match u with | f2 => True) (fun (u : (Nat → Int32)) (t : State) => match u with | f2 => va_P (dC, dI) vwCl [(h1, .inr (10, [.ref (aw 0), .ref (aw 1), .int 0, .int 1])), (aw 1, .inl (cA, 240, .inl f2))] t.heap ∧ va_D (va_A [(h1, .inr (10, [.ref (aw 0), .ref (aw 1), .int 0, .int 0])), (aw 1, .inl (cA, 240, .inl f))] sz) [(h1, .inr (10, [.ref (aw 0), .ref (aw 1), .int 0, .int 1])), (aw 1, .inl (cA, 240, .inl f2))]) (va_A [(h1, .inr (10, [.ref (aw 0), .ref (aw 1), .int 0, .int 0])), (aw 1, .inl (cA, 240, .inl f))] sz)) 0 0 (va_A [(h1, .inr (10, [.ref (aw 0), .ref (aw 1), .int 0, .int 0])), (aw 1, .inl (cA, 240, .inl f))] sz) := by
  refine Met.ofW (cc := cX10_tellFog) (maxL := 4) (ret := none) (by decide) rfl ?_
  intro p e s m args below meth c s₁ B hml hv
  obtain ⟨rfl, hsz, hP, hK, hD0⟩ := hv
  have hx := B.exec
  have hb := B.bytes
  have hr := B.returns
  have hts := atoms_spec (ws := wsX10_tellFog) B.pre
  have hown : s.vm.findClass RX10 = some m.cls := findClass_of_methodNamed B.named
  have hlocks := B.notSynchronized
  subst hsz
  have hD := hD0.self (sz := s.heap.size)
  generalize hAe : va_A [(h1, .inr (10, [.ref (aw 0), .ref (aw 1), .int 0, .int 0])), (aw 1, .inl (cA, 240, .inl f))] s.heap.size = A at hD  ⊢
  have hA : ∀ q : Nat, s.heap.size ≤ q → A q := fun q h => by rw [← hAe]; exact Or.inr h
  have hS : va_S A s.heap s.heap [] := va_S.rf
  have hl := lv_entry ([.ref h1, .int p0, .int p1, .int p2]) (n := 4) (Nat.le_of_ble_eq_true rfl)
  rw [lg_entry_eq]
  generalize (lg_sl ([.ref h1, .int p0, .int p1, .int p2]) ++ List.replicate (4 - (lg_sl ([.ref h1, .int p0, .int p1, .int p2])).length) Slot.unset).toArray = ls at hl ⊢
  have hl : lv_has ls 4 [(0, .ref h1), (1, .int p0), (2, .int p1), (3, .int p2)] := hl
  refine lv_aload_n hx hb dX10_tellFog_0 rfl (lv_at hl 0 rfl) ?_
  refine va_get (D := (dC, dI)) (ci := 10) (v := .ref (aw 1)) (C := RX10) (T := TX10) (N := 4) hx hb hts (by decide +kernel) hown hK hP 0 rfl rfl 1 (by decide) (hts (.fieldLink RX10 15 "RedTent$Weather" "fogIn" "[I") (by decide +kernel)) (fun _ h9 => h9) rfl dX10_tellFog_1 ?_
  refine lv_iload_n hx hb dX10_tellFog_4 rfl (lv_at hl 1 rfl) ?_
  refine lv_iload_n hx hb dX10_tellFog_5 rfl (lv_at hl 2 rfl) ?_
  refine lv_iload_n hx hb dX10_tellFog_6 rfl (lv_at hl 3 rfl) ?_
  have hPc := hP.sub (ws' := [(aw 1, .inl (cA, 240, .inl f))]) [1] rfl
  have hKc := hK.sub (tys' := [(cA, .int)]) [0] rfl
  have hDc := hD.sub (ws' := [(aw 1, .inl (cA, 240, .inl f))]) [1] (by decide) rfl
  have hFc := va_free (wc := [(aw 1, .inl (cA, 240, .inl f))]) hD hS hA [1] rfl
  refine va_callv (va_runS (As := [.ref (aw 1), .int p0, .int p1, .int p2]) (rest := []) ⟨hx, hb, hml, hown, hts⟩ (rt_X10_setHours l dC dI s.heap.size (aw 1) cA f p0 p1 p2 (by first | assumption | decide | omega) (by first | assumption | decide | omega)) (va_cwS 4 hts gX10_tellFog_X10_setHours rfl rfl rfl (by decide +kernel) ⟨Nat.le_of_ble_eq_true rfl, Nat.le_of_ble_eq_true rfl⟩) ⟨fun a U g mk q => by obtain ⟨q0, q1, qP, qK, qD⟩ := q; exact ⟨q0, q1, qP, va_K.moved (u := U) (U := U.calling g mk a) (Vm.Alike.refl U.vm) qK, qD⟩, fun U hU hW => ⟨rfl, by rw [hU], by rw [hU]; exact hPc, va_K.moved hW.alike hKc, hDc.weaken (fun _ _ _ _ => trivial)⟩⟩ rfl rfl hl.1 rfl (lv_room (Nat.le_of_ble_eq_true rfl)) dX10_tellFog_7 ⟨by decide +kernel, by decide +kernel⟩) hS (fun q _ h => hFc q h) hFc (fun u t H1 locs ht hvm hr_1 hB hz1 hk1 hS => ?_)
  obtain ⟨f2_2, rfl⟩ : ∃ z, z = u := ⟨_, rfl⟩
  obtain ⟨hP1, hD1⟩ := hB
  rw [ht] at hP1
  obtain ⟨hP, hD⟩ := va_join (wr := [(h1, .inr (10, [.ref (aw 0), .ref (aw 1), .int 0, .int 0]))]) (w1 := [(aw 1, .inl (cA, 240, .inl f2_2))]) hP hD [1] [0] rfl rfl (by decide) (by decide) hk1 hFc hP1 hD1
  generalize H1 = H at hP hS ⊢
  have hP : va_P (dC, dI) vwCl [(h1, .inr (10, [.ref (aw 0), .ref (aw 1), .int 0, .int 0])), (aw 1, .inl (cA, 240, .inl f2_2))] H := hP
  have hD : va_D A [(h1, .inr (10, [.ref (aw 0), .ref (aw 1), .int 0, .int 0])), (aw 1, .inl (cA, 240, .inl f2_2))] := hD
  refine lv_aload_n hx hb dX10_tellFog_10 rfl (lv_at hl 0 rfl) ?_
  refine lv_dup hx hb dX10_tellFog_11 rfl ?_
  refine va_get (D := (dC, dI)) (ci := 10) (v := .int 0) (C := RX10) (T := TX10) (N := 4) hx hb hts (by decide +kernel) hown hK hP 0 rfl rfl 3 (by decide) (hts (.fieldLink RX10 26 "RedTent$Weather" "fogCount" "I") (by decide +kernel)) (fun _ h9 => h9) rfl dX10_tellFog_12 ?_
  refine lv_iconst (v := 1) hx hb dX10_tellFog_15 (by decide) ?_
  refine lv_iadd hx hb dX10_tellFog_16 ?_
  refine lv_topi (fun y_3 ey_3 => ?_)
  obtain rfl : y_3 = 1 := ey_3.trans (by decide)
  refine va_put (D := (dC, dI)) (ci := 10) (v := .int 1) (ty := .int) (C := RX10) (T := TX10) (N := 4) hx hb hts (by decide +kernel) tyX10 tyX10_ok nmX10 hown hK hP hD hS 0 rfl rfl 3 (by decide) (hts (.fieldLink RX10 26 "RedTent$Weather" "fogCount" "I") (by decide +kernel)) (fun _ h9 => h9) rfl (by decide +kernel) rfl rfl (Nat.le_of_ble_eq_true rfl) dX10_tellFog_17 (fun H locs hP hD hS => ?_)
  have hP : va_P (dC, dI) vwCl [(h1, .inr (10, [.ref (aw 0), .ref (aw 1), .int 0, .int 1])), (aw 1, .inl (cA, 240, .inl f2_2))] H := hP
  have hD : va_D A [(h1, .inr (10, [.ref (aw 0), .ref (aw 1), .int 0, .int 1])), (aw 1, .inl (cA, 240, .inl f2_2))] := hD
  have hP9 := hP.sub (ws' := [(h1, .inr (10, [.ref (aw 0), .ref (aw 1), .int 0, .int 1])), (aw 1, .inl (cA, 240, .inl f2_2))]) [0, 1] rfl
  have hD9 := hD.sub (ws' := [(h1, .inr (10, [.ref (aw 0), .ref (aw 1), .int 0, .int 1])), (aw 1, .inl (cA, 240, .inl f2_2))]) [0, 1] (by decide) rfl
  refine W.widen (k := 0) (n := 0) (by decide +kernel) (by decide +kernel) ?_
  exact W.vret hx hb hr (fun t ht hW => ⟨⟨f2_2, rfl, trivial, by rw [ht]; exact hP9, hD9⟩, hS.F ht⟩) hS.2.2 dX10_tellFog_20
set_option maxHeartbeats 1000000 in
set_option maxRecDepth 100000 in
theorem rt_X11_wind (l : Launch) (dC : Nat → ClassId) (dI : Nat → Nat → Nat) (sz : Nat) (h0 : Nat) (ad : Nat → Nat) (aw : Nat → Nat) (cA : ClassId) (f : Nat → Int32) (p0 p1 p2 : Int32) : Met l yX11_wind wsX11_wind ({ frames := 3, cells := 0, slots := 0, locals := 60 }) (va_Pc [.ref h0, .int p0, .int p1, .int p2] (fun U => U.heap.size = sz ∧ va_P (dC, dI) vwCl [(h0, .inr (11, [.ref (ad 0), .ref (ad 1), .ref (ad 2), .ref (ad 3), .ref (ad 4), .ref (ad 5), .ref (ad 6), .ref (ad 7), .ref (ad 8), .int 0, .int 0, .int 0, .int 0])), (ad 0, .inr (10, [.ref (aw 0), .ref (aw 1), .int 0, .int 0])), (aw 0, .inl (cA, 240, .inl f))] U.heap ∧ va_K (dC, dI) vwCl [(cA, .int)] U ∧ va_D (fun _ => True) [(h0, .inr (11, [.ref (ad 0), .ref (ad 1), .ref (ad 2), .ref (ad 3), .ref (ad 4), .ref (ad 5), .ref (ad 6), .ref (ad 7), .ref (ad 8), .int 0, .int 0, .int 0, .int 0])), (ad 0, .inr (10, [.ref (aw 0), .ref (aw 1), .int 0, .int 0])), (aw 0, .inl (cA, 240, .inl f))])) (va_Qi (fun (r : Int32) (u : Unit) => match u with | () => ((0 ≤ p0 ∧ p0 < p1 ∧ p1 ≤ 240 ∧ 0 ≤ p2 ∧ p2 ≤ 4444 ∧ p2 / 100 - p2 / 100 / 10 * 10 ≤ 4 ∧ p2 / 10 - p2 / 10 / 10 * 10 ≤ 4 ∧ p2 - p2 / 10 * 10 ≤ 4 ∧ p2 / 1000 ≤ p2 / 100 - p2 / 100 / 10 * 10 ∧ p2 / 10 - p2 / 10 / 10 * 10 ≤ p2 - p2 / 10 * 10) ∧ r = 1) ∨ ((¬ (0 ≤ p0 ∧ p0 < p1 ∧ p1 ≤ 240 ∧ 0 ≤ p2 ∧ p2 ≤ 4444 ∧ p2 / 100 - p2 / 100 / 10 * 10 ≤ 4 ∧ p2 / 10 - p2 / 10 / 10 * 10 ≤ 4 ∧ p2 - p2 / 10 * 10 ≤ 4 ∧ p2 / 1000 ≤ p2 / 100 - p2 / 100 / 10 * 10 ∧ p2 / 10 - p2 / 10 / 10 * 10 ≤ p2 - p2 / 10 * 10)) ∧ r = (-2))) (fun (u : Unit) (t : State) => match u with | () => True) (va_A [(h0, .inr (11, [.ref (ad 0), .ref (ad 1), .ref (ad 2), .ref (ad 3), .ref (ad 4), .ref (ad 5), .ref (ad 6), .ref (ad 7), .ref (ad 8), .int 0, .int 0, .int 0, .int 0])), (ad 0, .inr (10, [.ref (aw 0), .ref (aw 1), .int 0, .int 0])), (aw 0, .inl (cA, 240, .inl f))] sz)) 0 0 (va_A [(h0, .inr (11, [.ref (ad 0), .ref (ad 1), .ref (ad 2), .ref (ad 3), .ref (ad 4), .ref (ad 5), .ref (ad 6), .ref (ad 7), .ref (ad 8), .int 0, .int 0, .int 0, .int 0])), (ad 0, .inr (10, [.ref (aw 0), .ref (aw 1), .int 0, .int 0])), (aw 0, .inl (cA, 240, .inl f))] sz) := by
  refine Met.ofW (cc := cX11_wind) (maxL := 6) (ret := (some .int)) (by decide) rfl ?_
  intro p e s m args below meth c s₁ B hml hv
  obtain ⟨rfl, hsz, hP, hK, hD0⟩ := hv
  have hx := B.exec
  have hb := B.bytes
  have hr := B.returns
  have hts := atoms_spec (ws := wsX11_wind) B.pre
  have hown : s.vm.findClass RX11 = some m.cls := findClass_of_methodNamed B.named
  have hlocks := B.notSynchronized
  subst hsz
  have hD := hD0.self (sz := s.heap.size)
  generalize hAe : va_A [(h0, .inr (11, [.ref (ad 0), .ref (ad 1), .ref (ad 2), .ref (ad 3), .ref (ad 4), .ref (ad 5), .ref (ad 6), .ref (ad 7), .ref (ad 8), .int 0, .int 0, .int 0, .int 0])), (ad 0, .inr (10, [.ref (aw 0), .ref (aw 1), .int 0, .int 0])), (aw 0, .inl (cA, 240, .inl f))] s.heap.size = A at hD  ⊢
  have hA : ∀ q : Nat, s.heap.size ≤ q → A q := fun q h => by rw [← hAe]; exact Or.inr h
  have hS : va_S A s.heap s.heap [] := va_S.rf
  have hl := lv_entry ([.ref h0, .int p0, .int p1, .int p2]) (n := 6) (Nat.le_of_ble_eq_true rfl)
  rw [lg_entry_eq]
  generalize (lg_sl ([.ref h0, .int p0, .int p1, .int p2]) ++ List.replicate (6 - (lg_sl ([.ref h0, .int p0, .int p1, .int p2])).length) Slot.unset).toArray = ls at hl ⊢
  have hl : lv_has ls 6 [(0, .ref h0), (1, .int p0), (2, .int p1), (3, .int p2)] := hl
  refine lv_iload_n hx hb dX11_wind_0 rfl (lv_at hl 1 rfl) ?_
  refine lv_iload_n hx hb dX11_wind_1 rfl (lv_at hl 2 rfl) ?_
  refine vp_callSi (va_Run.run (va_runS (As := [.int p0, .int p1]) (rest := []) ⟨hx, hb, hml, hown, hts⟩ (rt_X11_isSpan l p0 p1) (va_cwS 2 hts gX11_wind_X11_isSpan rfl rfl rfl (by decide +kernel) ⟨Nat.le_of_ble_eq_true rfl, Nat.le_of_ble_eq_true rfl⟩) ⟨fun a U g mk q => q, fun U hU hW => ⟨rfl, trivial⟩⟩ rfl rfl hl.1 rfl (lv_room (Nat.le_of_ble_eq_true rfl)) dX11_wind_2 ⟨by decide +kernel, by decide +kernel⟩)) (fun r_1 hr_1 => ?_)
  rcases hr_1 with ⟨b_2, rfl⟩ | ⟨b_2, rfl⟩
  · refine lv_if_eq (tgt := 15) hx hb dX11_wind_5 (by decide) (fun c9 => absurd c9 (by decide)) (fun _ => ?_)
    refine lv_iload_n hx hb dX11_wind_8 rfl (lv_at hl 3 rfl) ?_
    refine vp_callSi (va_Run.run (va_runS (As := [.int p2]) (rest := []) ⟨hx, hb, hml, hown, hts⟩ (rt_X11_isWind l p2) (va_cwS 1 hts gX11_wind_X11_isWind rfl rfl rfl (by decide +kernel) ⟨Nat.le_of_ble_eq_true rfl, Nat.le_of_ble_eq_true rfl⟩) ⟨fun a U g mk q => q, fun U hU hW => ⟨rfl, trivial⟩⟩ rfl rfl hl.1 rfl (lv_room (Nat.le_of_ble_eq_true rfl)) dX11_wind_9 ⟨by decide +kernel, by decide +kernel⟩)) (fun r_3 hr_3 => ?_)
    rcases hr_3 with ⟨b_4, rfl⟩ | ⟨b_4, rfl⟩
    · refine lv_if_ne (tgt := 18) hx hb dX11_wind_12 (by decide) (fun _ => ?_) (fun c9 => absurd c9 (by decide))
      refine lv_aload_n hx hb dX11_wind_18 rfl (lv_at hl 0 rfl) ?_
      refine va_get (D := (dC, dI)) (ci := 11) (v := .ref (ad 0)) (C := RX11) (T := TX11) (N := 13) hx hb hts (by decide +kernel) hown hK hP 0 rfl rfl 0 (by decide) (hts (.fieldLink RX11 10 "RedTent" "weather" "LRedTent$Weather;") (by decide +kernel)) (fun _ h9 => h9) rfl dX11_wind_19 ?_
      refine va_get (D := (dC, dI)) (ci := 10) (v := .int 0) (C := RX10) (T := TX10) (N := 4) hx hb hts (by decide +kernel) hown hK hP 1 rfl rfl 2 (by decide) (hts (.fieldLink RX11 94 "RedTent$Weather" "windCount" "I") (by decide +kernel)) (fun _ h9 => h9) rfl dX11_wind_22 ?_
      refine lv_bipush (v := 30) hx hb dX11_wind_25 (by decide) ?_
      refine lv_icmp_lt (tgt := 33) hx hb dX11_wind_27 (by decide) (fun _ => ?_) (fun c9 => absurd (by decide) c9)
      refine lv_aload_n hx hb dX11_wind_33 rfl (lv_at hl 0 rfl) ?_
      refine va_get (D := (dC, dI)) (ci := 11) (v := .ref (ad 0)) (C := RX11) (T := TX11) (N := 13) hx hb hts (by decide +kernel) hown hK hP 0 rfl rfl 0 (by decide) (hts (.fieldLink RX11 10 "RedTent" "weather" "LRedTent$Weather;") (by decide +kernel)) (fun _ h9 => h9) rfl dX11_wind_34 ?_
      refine lv_iload_n hx hb dX11_wind_37 rfl (lv_at hl 1 rfl) ?_
      refine lv_iload_n hx hb dX11_wind_38 rfl (lv_at hl 2 rfl) ?_
      refine lv_iload_n hx hb dX11_wind_39 rfl (lv_at hl 3 rfl) ?_
      have hPc := hP.sub (ws' := [(ad 0, .inr (10, [.ref (aw 0), .ref (aw 1), .int 0, .int 0])), (aw 0, .inl (cA, 240, .inl f))]) [1, 2] rfl
      have hKc := hK.sub (tys' := [(cA, .int)]) [0] rfl
      have hDc := hD.sub (ws' := [(ad 0, .inr (10, [.ref (aw 0), .ref (aw 1), .int 0, .int 0])), (aw 0, .inl (cA, 240, .inl f))]) [1, 2] (by decide) rfl
      have hFc := va_free (wc := [(ad 0, .inr (10, [.ref (aw 0), .ref (aw 1), .int 0, .int 0])), (aw 0, .inl (cA, 240, .inl f))]) hD hS hA [1, 2] rfl
      refine va_callv (va_runV (As := [.int p0, .int p1, .int p2]) (rest := []) ⟨hx, hb, hml, hown, hts⟩ (rt_X10_tellWind l dC dI s.heap.size (ad 0) aw cA f p0 p1 p2 (by (try simp only [fa_lt, fa_le, fa_eq, fa_lt64, fa_le64, fa_eq64, Int32.reduceToInt, Int64.reduceToInt, zi_ite] at b_2 b_4 ⊢) <;> omega) (by (try simp only [fa_lt, fa_le, fa_eq, fa_lt64, fa_le64, fa_eq64, Int32.reduceToInt, Int64.reduceToInt, zi_ite] at b_2 b_4 ⊢) <;> omega)) (cwV 3 hts gX11_wind_X10_tellWind rfl rfl rfl (by decide +kernel) ⟨Nat.le_of_ble_eq_true rfl, Nat.le_of_ble_eq_true rfl⟩) ⟨fun a U g mk q => by obtain ⟨q0, q1, qP, qK, qD⟩ := q; exact ⟨q0, q1, qP, va_K.moved (u := U) (U := U.calling g mk a) (Vm.Alike.refl U.vm) qK, qD⟩, va_recv hKc hPc (ci := 10) (q0 := 0) rfl rfl, fun U hU hW => ⟨rfl, by rw [hU], by rw [hU]; exact hPc, va_K.moved hW.alike hKc, hDc.weaken (fun _ _ _ _ => trivial)⟩⟩ rfl rfl hl.1 rfl (lv_room (Nat.le_of_ble_eq_true rfl)) dX11_wind_40 ⟨by decide +kernel, by decide +kernel⟩) hS (fun q _ h => hFc q h) hFc (fun u t H1 locs ht hvm hr_5 hB hz1 hk1 hS => ?_)
      obtain ⟨f2_6, rfl⟩ : ∃ z, z = u := ⟨_, rfl⟩
      obtain ⟨hP1, hD1⟩ := hB
      rw [ht] at hP1
      obtain ⟨hP, hD⟩ := va_join (wr := [(h0, .inr (11, [.ref (ad 0), .ref (ad 1), .ref (ad 2), .ref (ad 3), .ref (ad 4), .ref (ad 5), .ref (ad 6), .ref (ad 7), .ref (ad 8), .int 0, .int 0, .int 0, .int 0]))]) (w1 := [(ad 0, .inr (10, [.ref (aw 0), .ref (aw 1), .int 1, .int 0])), (aw 0, .inl (cA, 240, .inl f2_6))]) hP hD [1, 2] [0] rfl rfl (by decide) (by decide) hk1 hFc hP1 hD1
      generalize H1 = H at hP hS ⊢
      have hP : va_P (dC, dI) vwCl [(h0, .inr (11, [.ref (ad 0), .ref (ad 1), .ref (ad 2), .ref (ad 3), .ref (ad 4), .ref (ad 5), .ref (ad 6), .ref (ad 7), .ref (ad 8), .int 0, .int 0, .int 0, .int 0])), (ad 0, .inr (10, [.ref (aw 0), .ref (aw 1), .int 1, .int 0])), (aw 0, .inl (cA, 240, .inl f2_6))] H := hP
      have hD : va_D A [(h0, .inr (11, [.ref (ad 0), .ref (ad 1), .ref (ad 2), .ref (ad 3), .ref (ad 4), .ref (ad 5), .ref (ad 6), .ref (ad 7), .ref (ad 8), .int 0, .int 0, .int 0, .int 0])), (ad 0, .inr (10, [.ref (aw 0), .ref (aw 1), .int 1, .int 0])), (aw 0, .inl (cA, 240, .inl f2_6))] := hD
      refine lv_iconst (v := 0) hx hb dX11_wind_43 (by decide) ?_
      refine lv_istore (lv' := [(4, .int 0), (0, .ref h0), (1, .int p0), (2, .int p1), (3, .int p2)]) hx hb dX11_wind_44 hl (by decide) rfl (fun ls hl => ?_)
      refine lv_iload hx hb dX11_wind_46 (lv_at hl 0 rfl) ?_
      refine lv_aload_n hx hb dX11_wind_48 rfl (lv_at hl 1 rfl) ?_
      refine va_get (D := (dC, dI)) (ci := 11) (v := .int 0) (C := RX11) (T := TX11) (N := 13) hx hb hts (by decide +kernel) hown hK hP 0 rfl rfl 10 (by decide) (hts (.fieldLink RX11 75 "RedTent" "bodyCount" "I") (by decide +kernel)) (fun _ h9 => h9) rfl dX11_wind_49 ?_
      refine lv_icmp_ge (tgt := 80) hx hb dX11_wind_52 (by decide) (fun _ => ?_) (fun c9 => absurd (by decide) c9)
      refine lv_aload_n hx hb dX11_wind_80 rfl (lv_at hl 1 rfl) ?_
      refine va_get (D := (dC, dI)) (ci := 11) (v := .ref (ad 0)) (C := RX11) (T := TX11) (N := 13) hx hb hts (by decide +kernel) hown hK hP 0 rfl rfl 0 (by decide) (hts (.fieldLink RX11 10 "RedTent" "weather" "LRedTent$Weather;") (by decide +kernel)) (fun _ h9 => h9) rfl dX11_wind_81 ?_
      refine va_get (D := (dC, dI)) (ci := 10) (v := .int 1) (C := RX10) (T := TX10) (N := 4) hx hb hts (by decide +kernel) hown hK hP 1 rfl rfl 2 (by decide) (hts (.fieldLink RX11 94 "RedTent$Weather" "windCount" "I") (by decide +kernel)) (fun _ h9 => h9) rfl dX11_wind_84 ?_
      have hpost : ((0 ≤ p0 ∧ p0 < p1 ∧ p1 ≤ 240 ∧ 0 ≤ p2 ∧ p2 ≤ 4444 ∧ p2 / 100 - p2 / 100 / 10 * 10 ≤ 4 ∧ p2 / 10 - p2 / 10 / 10 * 10 ≤ 4 ∧ p2 - p2 / 10 * 10 ≤ 4 ∧ p2 / 1000 ≤ p2 / 100 - p2 / 100 / 10 * 10 ∧ p2 / 10 - p2 / 10 / 10 * 10 ≤ p2 - p2 / 10 * 10) ∧ (1 : Int32) = 1) ∨ ((¬ (0 ≤ p0 ∧ p0 < p1 ∧ p1 ≤ 240 ∧ 0 ≤ p2 ∧ p2 ≤ 4444 ∧ p2 / 100 - p2 / 100 / 10 * 10 ≤ 4 ∧ p2 / 10 - p2 / 10 / 10 * 10 ≤ 4 ∧ p2 - p2 / 10 * 10 ≤ 4 ∧ p2 / 1000 ≤ p2 / 100 - p2 / 100 / 10 * 10 ∧ p2 / 10 - p2 / 10 / 10 * 10 ≤ p2 - p2 / 10 * 10)) ∧ (1 : Int32) = (-2)) := by
        try simp only [fa_lt, fa_le, fa_eq, fa_lt64, fa_le64, fa_eq64, Int32.reduceToInt, Int64.reduceToInt, zi_ite] at b_2
        try simp only [fa_lt, fa_le, fa_eq, fa_lt64, fa_le64, fa_eq64, Int32.reduceToInt, Int64.reduceToInt, zi_ite] at b_4
        first
        | exact Or.inl ⟨by (try simp only [fa_lt, fa_le, fa_eq, fa_lt64, fa_le64, fa_eq64, Int32.reduceToInt, Int64.reduceToInt, zi_ite]); omega, rfl⟩
        | exact Or.inr (⟨by (try simp only [fa_lt, fa_le, fa_eq, fa_lt64, fa_le64, fa_eq64, Int32.reduceToInt, Int64.reduceToInt, zi_ite]); omega, rfl⟩)
      refine W.widen (k := 0) (n := 0) (by decide +kernel) (by decide +kernel) ?_
      exact W.iret (v := 1) hx hb hr (fun t ht hW => ⟨⟨1, (), rfl, hpost, trivial⟩, hS.F ht⟩) hS.2.2 dX11_wind_87
    · refine lv_if_ne (tgt := 18) hx hb dX11_wind_12 (by decide) (fun c9 => absurd (by decide) c9) (fun _ => ?_)
      refine lv_bipush (v := (-2)) hx hb dX11_wind_15 (by decide) ?_
      have hpost : ((0 ≤ p0 ∧ p0 < p1 ∧ p1 ≤ 240 ∧ 0 ≤ p2 ∧ p2 ≤ 4444 ∧ p2 / 100 - p2 / 100 / 10 * 10 ≤ 4 ∧ p2 / 10 - p2 / 10 / 10 * 10 ≤ 4 ∧ p2 - p2 / 10 * 10 ≤ 4 ∧ p2 / 1000 ≤ p2 / 100 - p2 / 100 / 10 * 10 ∧ p2 / 10 - p2 / 10 / 10 * 10 ≤ p2 - p2 / 10 * 10) ∧ ((-2) : Int32) = 1) ∨ ((¬ (0 ≤ p0 ∧ p0 < p1 ∧ p1 ≤ 240 ∧ 0 ≤ p2 ∧ p2 ≤ 4444 ∧ p2 / 100 - p2 / 100 / 10 * 10 ≤ 4 ∧ p2 / 10 - p2 / 10 / 10 * 10 ≤ 4 ∧ p2 - p2 / 10 * 10 ≤ 4 ∧ p2 / 1000 ≤ p2 / 100 - p2 / 100 / 10 * 10 ∧ p2 / 10 - p2 / 10 / 10 * 10 ≤ p2 - p2 / 10 * 10)) ∧ ((-2) : Int32) = (-2)) := by
        try simp only [fa_lt, fa_le, fa_eq, fa_lt64, fa_le64, fa_eq64, Int32.reduceToInt, Int64.reduceToInt, zi_ite] at b_2
        try simp only [fa_lt, fa_le, fa_eq, fa_lt64, fa_le64, fa_eq64, Int32.reduceToInt, Int64.reduceToInt, zi_ite] at b_4
        first
        | exact Or.inl ⟨by (try simp only [fa_lt, fa_le, fa_eq, fa_lt64, fa_le64, fa_eq64, Int32.reduceToInt, Int64.reduceToInt, zi_ite]); omega, rfl⟩
        | exact Or.inr (⟨by (try simp only [fa_lt, fa_le, fa_eq, fa_lt64, fa_le64, fa_eq64, Int32.reduceToInt, Int64.reduceToInt, zi_ite]); omega, rfl⟩)
      refine W.widen (k := 0) (n := 0) (by decide +kernel) (by decide +kernel) ?_
      exact W.iret (v := (-2)) hx hb hr (fun t ht hW => ⟨⟨(-2), (), rfl, hpost, trivial⟩, hS.F ht⟩) hS.2.2 dX11_wind_17
  · refine lv_if_eq (tgt := 15) hx hb dX11_wind_5 (by decide) (fun _ => ?_) (fun c9 => absurd (by decide) c9)
    refine lv_bipush (v := (-2)) hx hb dX11_wind_15 (by decide) ?_
    have hpost : ((0 ≤ p0 ∧ p0 < p1 ∧ p1 ≤ 240 ∧ 0 ≤ p2 ∧ p2 ≤ 4444 ∧ p2 / 100 - p2 / 100 / 10 * 10 ≤ 4 ∧ p2 / 10 - p2 / 10 / 10 * 10 ≤ 4 ∧ p2 - p2 / 10 * 10 ≤ 4 ∧ p2 / 1000 ≤ p2 / 100 - p2 / 100 / 10 * 10 ∧ p2 / 10 - p2 / 10 / 10 * 10 ≤ p2 - p2 / 10 * 10) ∧ ((-2) : Int32) = 1) ∨ ((¬ (0 ≤ p0 ∧ p0 < p1 ∧ p1 ≤ 240 ∧ 0 ≤ p2 ∧ p2 ≤ 4444 ∧ p2 / 100 - p2 / 100 / 10 * 10 ≤ 4 ∧ p2 / 10 - p2 / 10 / 10 * 10 ≤ 4 ∧ p2 - p2 / 10 * 10 ≤ 4 ∧ p2 / 1000 ≤ p2 / 100 - p2 / 100 / 10 * 10 ∧ p2 / 10 - p2 / 10 / 10 * 10 ≤ p2 - p2 / 10 * 10)) ∧ ((-2) : Int32) = (-2)) := by
      try simp only [fa_lt, fa_le, fa_eq, fa_lt64, fa_le64, fa_eq64, Int32.reduceToInt, Int64.reduceToInt, zi_ite] at b_2
      first
      | exact Or.inl ⟨by (try simp only [fa_lt, fa_le, fa_eq, fa_lt64, fa_le64, fa_eq64, Int32.reduceToInt, Int64.reduceToInt, zi_ite]); omega, rfl⟩
      | exact Or.inr (⟨by (try simp only [fa_lt, fa_le, fa_eq, fa_lt64, fa_le64, fa_eq64, Int32.reduceToInt, Int64.reduceToInt, zi_ite]); omega, rfl⟩)
    refine W.widen (k := 0) (n := 0) (by decide +kernel) (by decide +kernel) ?_
    exact W.iret (v := (-2)) hx hb hr (fun t ht hW => ⟨⟨(-2), (), rfl, hpost, trivial⟩, hS.F ht⟩) hS.2.2 dX11_wind_17
set_option maxHeartbeats 1000000 in
set_option maxRecDepth 100000 in
theorem rt_X11_fog (l : Launch) (dC : Nat → ClassId) (dI : Nat → Nat → Nat) (sz : Nat) (h0 : Nat) (ad : Nat → Nat) (aw : Nat → Nat) (cA : ClassId) (f : Nat → Int32) (p0 p1 p2 : Int32) : Met l yX11_fog wsX11_fog ({ frames := 3, cells := 0, slots := 0, locals := 60 }) (va_Pc [.ref h0, .int p0, .int p1, .int p2] (fun U => U.heap.size = sz ∧ va_P (dC, dI) vwCl [(h0, .inr (11, [.ref (ad 0), .ref (ad 1), .ref (ad 2), .ref (ad 3), .ref (ad 4), .ref (ad 5), .ref (ad 6), .ref (ad 7), .ref (ad 8), .int 0, .int 0, .int 0, .int 0])), (ad 0, .inr (10, [.ref (aw 0), .ref (aw 1), .int 0, .int 0])), (aw 1, .inl (cA, 240, .inl f))] U.heap ∧ va_K (dC, dI) vwCl [(cA, .int)] U ∧ va_D (fun _ => True) [(h0, .inr (11, [.ref (ad 0), .ref (ad 1), .ref (ad 2), .ref (ad 3), .ref (ad 4), .ref (ad 5), .ref (ad 6), .ref (ad 7), .ref (ad 8), .int 0, .int 0, .int 0, .int 0])), (ad 0, .inr (10, [.ref (aw 0), .ref (aw 1), .int 0, .int 0])), (aw 1, .inl (cA, 240, .inl f))])) (va_Qi (fun (r : Int32) (u : Unit) => match u with | () => ((0 ≤ p0 ∧ p0 < p1 ∧ p1 ≤ 240 ∧ 0 ≤ p2 ∧ p2 ≤ 16) ∧ r = 1) ∨ ((¬ (0 ≤ p0 ∧ p0 < p1 ∧ p1 ≤ 240 ∧ 0 ≤ p2 ∧ p2 ≤ 16)) ∧ r = (-2))) (fun (u : Unit) (t : State) => match u with | () => True) (va_A [(h0, .inr (11, [.ref (ad 0), .ref (ad 1), .ref (ad 2), .ref (ad 3), .ref (ad 4), .ref (ad 5), .ref (ad 6), .ref (ad 7), .ref (ad 8), .int 0, .int 0, .int 0, .int 0])), (ad 0, .inr (10, [.ref (aw 0), .ref (aw 1), .int 0, .int 0])), (aw 1, .inl (cA, 240, .inl f))] sz)) 0 0 (va_A [(h0, .inr (11, [.ref (ad 0), .ref (ad 1), .ref (ad 2), .ref (ad 3), .ref (ad 4), .ref (ad 5), .ref (ad 6), .ref (ad 7), .ref (ad 8), .int 0, .int 0, .int 0, .int 0])), (ad 0, .inr (10, [.ref (aw 0), .ref (aw 1), .int 0, .int 0])), (aw 1, .inl (cA, 240, .inl f))] sz) := by
  refine Met.ofW (cc := cX11_fog) (maxL := 4) (ret := (some .int)) (by decide) rfl ?_
  intro p e s m args below meth c s₁ B hml hv
  obtain ⟨rfl, hsz, hP, hK, hD0⟩ := hv
  have hx := B.exec
  have hb := B.bytes
  have hr := B.returns
  have hts := atoms_spec (ws := wsX11_fog) B.pre
  have hown : s.vm.findClass RX11 = some m.cls := findClass_of_methodNamed B.named
  have hlocks := B.notSynchronized
  subst hsz
  have hD := hD0.self (sz := s.heap.size)
  generalize hAe : va_A [(h0, .inr (11, [.ref (ad 0), .ref (ad 1), .ref (ad 2), .ref (ad 3), .ref (ad 4), .ref (ad 5), .ref (ad 6), .ref (ad 7), .ref (ad 8), .int 0, .int 0, .int 0, .int 0])), (ad 0, .inr (10, [.ref (aw 0), .ref (aw 1), .int 0, .int 0])), (aw 1, .inl (cA, 240, .inl f))] s.heap.size = A at hD  ⊢
  have hA : ∀ q : Nat, s.heap.size ≤ q → A q := fun q h => by rw [← hAe]; exact Or.inr h
  have hS : va_S A s.heap s.heap [] := va_S.rf
  have hl := lv_entry ([.ref h0, .int p0, .int p1, .int p2]) (n := 4) (Nat.le_of_ble_eq_true rfl)
  rw [lg_entry_eq]
  generalize (lg_sl ([.ref h0, .int p0, .int p1, .int p2]) ++ List.replicate (4 - (lg_sl ([.ref h0, .int p0, .int p1, .int p2])).length) Slot.unset).toArray = ls at hl ⊢
  have hl : lv_has ls 4 [(0, .ref h0), (1, .int p0), (2, .int p1), (3, .int p2)] := hl
  refine lv_iload_n hx hb dX11_fog_0 rfl (lv_at hl 1 rfl) ?_
  refine lv_iload_n hx hb dX11_fog_1 rfl (lv_at hl 2 rfl) ?_
  refine vp_callSi (va_Run.run (va_runS (As := [.int p0, .int p1]) (rest := []) ⟨hx, hb, hml, hown, hts⟩ (rt_X11_isSpan l p0 p1) (va_cwS 2 hts gX11_fog_X11_isSpan rfl rfl rfl (by decide +kernel) ⟨Nat.le_of_ble_eq_true rfl, Nat.le_of_ble_eq_true rfl⟩) ⟨fun a U g mk q => q, fun U hU hW => ⟨rfl, trivial⟩⟩ rfl rfl hl.1 rfl (lv_room (Nat.le_of_ble_eq_true rfl)) dX11_fog_2 ⟨by decide +kernel, by decide +kernel⟩)) (fun r_1 hr_1 => ?_)
  rcases hr_1 with ⟨b_2, rfl⟩ | ⟨b_2, rfl⟩
  · refine lv_if_eq (tgt := 18) hx hb dX11_fog_5 (by decide) (fun c9 => absurd c9 (by decide)) (fun _ => ?_)
    refine lv_iload_n hx hb dX11_fog_8 rfl (lv_at hl 3 rfl) ?_
    refine lv_if_lt (tgt := 18) hx hb dX11_fog_9 (by decide) (fun c_3 => ?_) (fun c_3 => ?_)
    · refine lv_bipush (v := (-2)) hx hb dX11_fog_18 (by decide) ?_
      have hpost : ((0 ≤ p0 ∧ p0 < p1 ∧ p1 ≤ 240 ∧ 0 ≤ p2 ∧ p2 ≤ 16) ∧ ((-2) : Int32) = 1) ∨ ((¬ (0 ≤ p0 ∧ p0 < p1 ∧ p1 ≤ 240 ∧ 0 ≤ p2 ∧ p2 ≤ 16)) ∧ ((-2) : Int32) = (-2)) := by
        try simp only [fa_lt, fa_le, fa_eq, fa_lt64, fa_le64, fa_eq64, Int32.reduceToInt, Int64.reduceToInt, zi_ite] at b_2
        try simp only [fa_lt, fa_le, fa_eq, fa_lt64, fa_le64, fa_eq64, Int32.reduceToInt, Int64.reduceToInt, zi_ite] at c_3
        first
        | exact Or.inl ⟨by (try simp only [fa_lt, fa_le, fa_eq, fa_lt64, fa_le64, fa_eq64, Int32.reduceToInt, Int64.reduceToInt, zi_ite]); omega, rfl⟩
        | exact Or.inr (⟨by (try simp only [fa_lt, fa_le, fa_eq, fa_lt64, fa_le64, fa_eq64, Int32.reduceToInt, Int64.reduceToInt, zi_ite]); omega, rfl⟩)
      refine W.widen (k := 0) (n := 0) (by decide +kernel) (by decide +kernel) ?_
      exact W.iret (v := (-2)) hx hb hr (fun t ht hW => ⟨⟨(-2), (), rfl, hpost, trivial⟩, hS.F ht⟩) hS.2.2 dX11_fog_20
    · refine lv_iload_n hx hb dX11_fog_12 rfl (lv_at hl 3 rfl) ?_
      refine lv_bipush (v := 16) hx hb dX11_fog_13 (by decide) ?_
      refine lv_icmp_le (tgt := 21) hx hb dX11_fog_15 (by decide) (fun c_4 => ?_) (fun c_4 => ?_)
      · refine lv_aload_n hx hb dX11_fog_21 rfl (lv_at hl 0 rfl) ?_
        refine va_get (D := (dC, dI)) (ci := 11) (v := .ref (ad 0)) (C := RX11) (T := TX11) (N := 13) hx hb hts (by decide +kernel) hown hK hP 0 rfl rfl 0 (by decide) (hts (.fieldLink RX11 10 "RedTent" "weather" "LRedTent$Weather;") (by decide +kernel)) (fun _ h9 => h9) rfl dX11_fog_22 ?_
        refine va_get (D := (dC, dI)) (ci := 10) (v := .int 0) (C := RX10) (T := TX10) (N := 4) hx hb hts (by decide +kernel) hown hK hP 1 rfl rfl 3 (by decide) (hts (.fieldLink RX11 104 "RedTent$Weather" "fogCount" "I") (by decide +kernel)) (fun _ h9 => h9) rfl dX11_fog_25 ?_
        refine lv_bipush (v := 30) hx hb dX11_fog_28 (by decide) ?_
        refine lv_icmp_lt (tgt := 36) hx hb dX11_fog_30 (by decide) (fun _ => ?_) (fun c9 => absurd (by decide) c9)
        refine lv_aload_n hx hb dX11_fog_36 rfl (lv_at hl 0 rfl) ?_
        refine va_get (D := (dC, dI)) (ci := 11) (v := .ref (ad 0)) (C := RX11) (T := TX11) (N := 13) hx hb hts (by decide +kernel) hown hK hP 0 rfl rfl 0 (by decide) (hts (.fieldLink RX11 10 "RedTent" "weather" "LRedTent$Weather;") (by decide +kernel)) (fun _ h9 => h9) rfl dX11_fog_37 ?_
        refine lv_iload_n hx hb dX11_fog_40 rfl (lv_at hl 1 rfl) ?_
        refine lv_iload_n hx hb dX11_fog_41 rfl (lv_at hl 2 rfl) ?_
        refine lv_iload_n hx hb dX11_fog_42 rfl (lv_at hl 3 rfl) ?_
        have hPc := hP.sub (ws' := [(ad 0, .inr (10, [.ref (aw 0), .ref (aw 1), .int 0, .int 0])), (aw 1, .inl (cA, 240, .inl f))]) [1, 2] rfl
        have hKc := hK.sub (tys' := [(cA, .int)]) [0] rfl
        have hDc := hD.sub (ws' := [(ad 0, .inr (10, [.ref (aw 0), .ref (aw 1), .int 0, .int 0])), (aw 1, .inl (cA, 240, .inl f))]) [1, 2] (by decide) rfl
        have hFc := va_free (wc := [(ad 0, .inr (10, [.ref (aw 0), .ref (aw 1), .int 0, .int 0])), (aw 1, .inl (cA, 240, .inl f))]) hD hS hA [1, 2] rfl
        refine va_callv (va_runV (As := [.int p0, .int p1, .int p2]) (rest := []) ⟨hx, hb, hml, hown, hts⟩ (rt_X10_tellFog l dC dI s.heap.size (ad 0) aw cA f p0 p1 p2 (by (try simp only [fa_lt, fa_le, fa_eq, fa_lt64, fa_le64, fa_eq64, Int32.reduceToInt, Int64.reduceToInt, zi_ite] at b_2 c_3 c_4 ⊢) <;> omega) (by (try simp only [fa_lt, fa_le, fa_eq, fa_lt64, fa_le64, fa_eq64, Int32.reduceToInt, Int64.reduceToInt, zi_ite] at b_2 c_3 c_4 ⊢) <;> omega)) (cwV 3 hts gX11_fog_X10_tellFog rfl rfl rfl (by decide +kernel) ⟨Nat.le_of_ble_eq_true rfl, Nat.le_of_ble_eq_true rfl⟩) ⟨fun a U g mk q => by obtain ⟨q0, q1, qP, qK, qD⟩ := q; exact ⟨q0, q1, qP, va_K.moved (u := U) (U := U.calling g mk a) (Vm.Alike.refl U.vm) qK, qD⟩, va_recv hKc hPc (ci := 10) (q0 := 0) rfl rfl, fun U hU hW => ⟨rfl, by rw [hU], by rw [hU]; exact hPc, va_K.moved hW.alike hKc, hDc.weaken (fun _ _ _ _ => trivial)⟩⟩ rfl rfl hl.1 rfl (lv_room (Nat.le_of_ble_eq_true rfl)) dX11_fog_43 ⟨by decide +kernel, by decide +kernel⟩) hS (fun q _ h => hFc q h) hFc (fun u t H1 locs ht hvm hr_5 hB hz1 hk1 hS => ?_)
        obtain ⟨f2_6, rfl⟩ : ∃ z, z = u := ⟨_, rfl⟩
        obtain ⟨hP1, hD1⟩ := hB
        rw [ht] at hP1
        obtain ⟨hP, hD⟩ := va_join (wr := [(h0, .inr (11, [.ref (ad 0), .ref (ad 1), .ref (ad 2), .ref (ad 3), .ref (ad 4), .ref (ad 5), .ref (ad 6), .ref (ad 7), .ref (ad 8), .int 0, .int 0, .int 0, .int 0]))]) (w1 := [(ad 0, .inr (10, [.ref (aw 0), .ref (aw 1), .int 0, .int 1])), (aw 1, .inl (cA, 240, .inl f2_6))]) hP hD [1, 2] [0] rfl rfl (by decide) (by decide) hk1 hFc hP1 hD1
        generalize H1 = H at hP hS ⊢
        have hP : va_P (dC, dI) vwCl [(h0, .inr (11, [.ref (ad 0), .ref (ad 1), .ref (ad 2), .ref (ad 3), .ref (ad 4), .ref (ad 5), .ref (ad 6), .ref (ad 7), .ref (ad 8), .int 0, .int 0, .int 0, .int 0])), (ad 0, .inr (10, [.ref (aw 0), .ref (aw 1), .int 0, .int 1])), (aw 1, .inl (cA, 240, .inl f2_6))] H := hP
        have hD : va_D A [(h0, .inr (11, [.ref (ad 0), .ref (ad 1), .ref (ad 2), .ref (ad 3), .ref (ad 4), .ref (ad 5), .ref (ad 6), .ref (ad 7), .ref (ad 8), .int 0, .int 0, .int 0, .int 0])), (ad 0, .inr (10, [.ref (aw 0), .ref (aw 1), .int 0, .int 1])), (aw 1, .inl (cA, 240, .inl f2_6))] := hD
        refine lv_aload_n hx hb dX11_fog_46 rfl (lv_at hl 0 rfl) ?_
        refine va_get (D := (dC, dI)) (ci := 11) (v := .ref (ad 0)) (C := RX11) (T := TX11) (N := 13) hx hb hts (by decide +kernel) hown hK hP 0 rfl rfl 0 (by decide) (hts (.fieldLink RX11 10 "RedTent" "weather" "LRedTent$Weather;") (by decide +kernel)) (fun _ h9 => h9) rfl dX11_fog_47 ?_
        refine va_get (D := (dC, dI)) (ci := 10) (v := .int 1) (C := RX10) (T := TX10) (N := 4) hx hb hts (by decide +kernel) hown hK hP 1 rfl rfl 3 (by decide) (hts (.fieldLink RX11 104 "RedTent$Weather" "fogCount" "I") (by decide +kernel)) (fun _ h9 => h9) rfl dX11_fog_50 ?_
        have hpost : ((0 ≤ p0 ∧ p0 < p1 ∧ p1 ≤ 240 ∧ 0 ≤ p2 ∧ p2 ≤ 16) ∧ (1 : Int32) = 1) ∨ ((¬ (0 ≤ p0 ∧ p0 < p1 ∧ p1 ≤ 240 ∧ 0 ≤ p2 ∧ p2 ≤ 16)) ∧ (1 : Int32) = (-2)) := by
          try simp only [fa_lt, fa_le, fa_eq, fa_lt64, fa_le64, fa_eq64, Int32.reduceToInt, Int64.reduceToInt, zi_ite] at b_2
          try simp only [fa_lt, fa_le, fa_eq, fa_lt64, fa_le64, fa_eq64, Int32.reduceToInt, Int64.reduceToInt, zi_ite] at c_3
          try simp only [fa_lt, fa_le, fa_eq, fa_lt64, fa_le64, fa_eq64, Int32.reduceToInt, Int64.reduceToInt, zi_ite] at c_4
          first
          | exact Or.inl ⟨by (try simp only [fa_lt, fa_le, fa_eq, fa_lt64, fa_le64, fa_eq64, Int32.reduceToInt, Int64.reduceToInt, zi_ite]); omega, rfl⟩
          | exact Or.inr (⟨by (try simp only [fa_lt, fa_le, fa_eq, fa_lt64, fa_le64, fa_eq64, Int32.reduceToInt, Int64.reduceToInt, zi_ite]); omega, rfl⟩)
        refine W.widen (k := 0) (n := 0) (by decide +kernel) (by decide +kernel) ?_
        exact W.iret (v := 1) hx hb hr (fun t ht hW => ⟨⟨1, (), rfl, hpost, trivial⟩, hS.F ht⟩) hS.2.2 dX11_fog_53
      · refine lv_bipush (v := (-2)) hx hb dX11_fog_18 (by decide) ?_
        have hpost : ((0 ≤ p0 ∧ p0 < p1 ∧ p1 ≤ 240 ∧ 0 ≤ p2 ∧ p2 ≤ 16) ∧ ((-2) : Int32) = 1) ∨ ((¬ (0 ≤ p0 ∧ p0 < p1 ∧ p1 ≤ 240 ∧ 0 ≤ p2 ∧ p2 ≤ 16)) ∧ ((-2) : Int32) = (-2)) := by
          try simp only [fa_lt, fa_le, fa_eq, fa_lt64, fa_le64, fa_eq64, Int32.reduceToInt, Int64.reduceToInt, zi_ite] at b_2
          try simp only [fa_lt, fa_le, fa_eq, fa_lt64, fa_le64, fa_eq64, Int32.reduceToInt, Int64.reduceToInt, zi_ite] at c_3
          try simp only [fa_lt, fa_le, fa_eq, fa_lt64, fa_le64, fa_eq64, Int32.reduceToInt, Int64.reduceToInt, zi_ite] at c_4
          first
          | exact Or.inl ⟨by (try simp only [fa_lt, fa_le, fa_eq, fa_lt64, fa_le64, fa_eq64, Int32.reduceToInt, Int64.reduceToInt, zi_ite]); omega, rfl⟩
          | exact Or.inr (⟨by (try simp only [fa_lt, fa_le, fa_eq, fa_lt64, fa_le64, fa_eq64, Int32.reduceToInt, Int64.reduceToInt, zi_ite]); omega, rfl⟩)
        refine W.widen (k := 0) (n := 0) (by decide +kernel) (by decide +kernel) ?_
        exact W.iret (v := (-2)) hx hb hr (fun t ht hW => ⟨⟨(-2), (), rfl, hpost, trivial⟩, hS.F ht⟩) hS.2.2 dX11_fog_20
  · refine lv_if_eq (tgt := 18) hx hb dX11_fog_5 (by decide) (fun _ => ?_) (fun c9 => absurd (by decide) c9)
    refine lv_bipush (v := (-2)) hx hb dX11_fog_18 (by decide) ?_
    have hpost : ((0 ≤ p0 ∧ p0 < p1 ∧ p1 ≤ 240 ∧ 0 ≤ p2 ∧ p2 ≤ 16) ∧ ((-2) : Int32) = 1) ∨ ((¬ (0 ≤ p0 ∧ p0 < p1 ∧ p1 ≤ 240 ∧ 0 ≤ p2 ∧ p2 ≤ 16)) ∧ ((-2) : Int32) = (-2)) := by
      try simp only [fa_lt, fa_le, fa_eq, fa_lt64, fa_le64, fa_eq64, Int32.reduceToInt, Int64.reduceToInt, zi_ite] at b_2
      first
      | exact Or.inl ⟨by (try simp only [fa_lt, fa_le, fa_eq, fa_lt64, fa_le64, fa_eq64, Int32.reduceToInt, Int64.reduceToInt, zi_ite]); omega, rfl⟩
      | exact Or.inr (⟨by (try simp only [fa_lt, fa_le, fa_eq, fa_lt64, fa_le64, fa_eq64, Int32.reduceToInt, Int64.reduceToInt, zi_ite]); omega, rfl⟩)
    refine W.widen (k := 0) (n := 0) (by decide +kernel) (by decide +kernel) ?_
    exact W.iret (v := (-2)) hx hb hr (fun t ht hW => ⟨⟨(-2), (), rfl, hpost, trivial⟩, hS.F ht⟩) hS.2.2 dX11_fog_20
set_option maxHeartbeats 1000000 in
set_option maxRecDepth 100000 in
theorem rt_X4_addHearer (l : Launch) (dC : Nat → ClassId) (dI : Nat → Nat → Nat) (sz : Nat) (h1 : Nat) (ar : Nat → Nat) (cA : ClassId) (f : Nat → Int32) (p0 : Int32) : Met l yX4_addHearer wsX4_addHearer ({ frames := 0, cells := 0, slots := 0, locals := 0 }) (va_Pc [.ref h1, .int p0] (fun U => U.heap.size = sz ∧ va_P (dC, dI) vwCl [(h1, .inr (4, [.ref (ar 0), .int 0, .ref (ar 2), .ref (ar 3), .ref (ar 4), .ref (ar 5), .ref (ar 6), .ref (ar 7), .int 0, .ref (ar 9), .ref (ar 10), .ref (ar 11), .int 0])), (ar 0, .inl (cA, 6, .inl f))] U.heap ∧ va_K (dC, dI) vwCl [(cA, .int)] U ∧ va_D (fun _ => True) [(h1, .inr (4, [.ref (ar 0), .int 0, .ref (ar 2), .ref (ar 3), .ref (ar 4), .ref (ar 5), .ref (ar 6), .ref (ar 7), .int 0, .ref (ar 9), .ref (ar 10), .ref (ar 11), .int 0])), (ar 0, .inl (cA, 6, .inl f))])) (va_Qi (fun (r : Int32) (u : Unit) => match u with | () => r = 0) (fun (u : Unit) (t : State) => match u with | () => True) (va_A [(h1, .inr (4, [.ref (ar 0), .int 0, .ref (ar 2), .ref (ar 3), .ref (ar 4), .ref (ar 5), .ref (ar 6), .ref (ar 7), .int 0, .ref (ar 9), .ref (ar 10), .ref (ar 11), .int 0])), (ar 0, .inl (cA, 6, .inl f))] sz)) 0 0 (va_A [(h1, .inr (4, [.ref (ar 0), .int 0, .ref (ar 2), .ref (ar 3), .ref (ar 4), .ref (ar 5), .ref (ar 6), .ref (ar 7), .int 0, .ref (ar 9), .ref (ar 10), .ref (ar 11), .int 0])), (ar 0, .inl (cA, 6, .inl f))] sz) := by
  refine Met.ofW (cc := cX4_addHearer) (maxL := 2) (ret := (some .int)) (by decide) rfl ?_
  intro p e s m args below meth c s₁ B hml hv
  obtain ⟨rfl, hsz, hP, hK, hD0⟩ := hv
  have hx := B.exec
  have hb := B.bytes
  have hr := B.returns
  have hts := atoms_spec (ws := wsX4_addHearer) B.pre
  have hown : s.vm.findClass RX4 = some m.cls := findClass_of_methodNamed B.named
  have hlocks := B.notSynchronized
  subst hsz
  have hD := hD0.self (sz := s.heap.size)
  generalize hAe : va_A [(h1, .inr (4, [.ref (ar 0), .int 0, .ref (ar 2), .ref (ar 3), .ref (ar 4), .ref (ar 5), .ref (ar 6), .ref (ar 7), .int 0, .ref (ar 9), .ref (ar 10), .ref (ar 11), .int 0])), (ar 0, .inl (cA, 6, .inl f))] s.heap.size = A at hD  ⊢
  have hA : ∀ q : Nat, s.heap.size ≤ q → A q := fun q h => by rw [← hAe]; exact Or.inr h
  have hS : va_S A s.heap s.heap [] := va_S.rf
  have hl := lv_entry ([.ref h1, .int p0]) (n := 2) (Nat.le_of_ble_eq_true rfl)
  rw [lg_entry_eq]
  generalize (lg_sl ([.ref h1, .int p0]) ++ List.replicate (2 - (lg_sl ([.ref h1, .int p0])).length) Slot.unset).toArray = ls at hl ⊢
  have hl : lv_has ls 2 [(0, .ref h1), (1, .int p0)] := hl
  refine lv_aload_n hx hb dX4_addHearer_0 rfl (lv_at hl 0 rfl) ?_
  refine va_get (D := (dC, dI)) (ci := 4) (v := .ref (ar 0)) (C := RX4) (T := TX4) (N := 13) hx hb hts (by decide +kernel) hown hK hP 0 rfl rfl 0 (by decide) (hts (.fieldLink RX4 9 "RedTent$Radio" "hearerCell" "[I") (by decide +kernel)) (fun _ h9 => h9) rfl dX4_addHearer_1 ?_
  refine lv_aload_n hx hb dX4_addHearer_4 rfl (lv_at hl 0 rfl) ?_
  refine va_get (D := (dC, dI)) (ci := 4) (v := .int 0) (C := RX4) (T := TX4) (N := 13) hx hb hts (by decide +kernel) hown hK hP 0 rfl rfl 1 (by decide) (hts (.fieldLink RX4 43 "RedTent$Radio" "hearers" "I") (by decide +kernel)) (fun _ h9 => h9) rfl dX4_addHearer_5 ?_
  refine lv_iload_n hx hb dX4_addHearer_8 rfl (lv_at hl 1 rfl) ?_
  refine va_iast hx hb hK hP hD hS 1 0 rfl rfl (by unfold vp_in; decide) dX4_addHearer_9 (fun H locs hP hD hS => ?_)
  have hP : va_P (dC, dI) vwCl [(h1, .inr (4, [.ref (ar 0), .int 0, .ref (ar 2), .ref (ar 3), .ref (ar 4), .ref (ar 5), .ref (ar 6), .ref (ar 7), .int 0, .ref (ar 9), .ref (ar 10), .ref (ar 11), .int 0])), (ar 0, .inl (cA, 6, .inl (upd f (0 : Int32).toNatClampNeg p0)))] H := hP
  have hD : va_D A [(h1, .inr (4, [.ref (ar 0), .int 0, .ref (ar 2), .ref (ar 3), .ref (ar 4), .ref (ar 5), .ref (ar 6), .ref (ar 7), .int 0, .ref (ar 9), .ref (ar 10), .ref (ar 11), .int 0])), (ar 0, .inl (cA, 6, .inl (upd f (0 : Int32).toNatClampNeg p0)))] := hD
  refine lv_aload_n hx hb dX4_addHearer_10 rfl (lv_at hl 0 rfl) ?_
  refine lv_dup hx hb dX4_addHearer_11 rfl ?_
  refine va_get (D := (dC, dI)) (ci := 4) (v := .int 0) (C := RX4) (T := TX4) (N := 13) hx hb hts (by decide +kernel) hown hK hP 0 rfl rfl 1 (by decide) (hts (.fieldLink RX4 43 "RedTent$Radio" "hearers" "I") (by decide +kernel)) (fun _ h9 => h9) rfl dX4_addHearer_12 ?_
  refine lv_dup_x1 hx hb dX4_addHearer_15 rfl rfl ?_
  refine lv_iconst (v := 1) hx hb dX4_addHearer_16 (by decide) ?_
  refine lv_iadd hx hb dX4_addHearer_17 ?_
  refine lv_topi (fun y_1 ey_1 => ?_)
  obtain rfl : y_1 = 1 := ey_1.trans (by decide)
  refine va_put (D := (dC, dI)) (ci := 4) (v := .int 1) (ty := .int) (C := RX4) (T := TX4) (N := 13) hx hb hts (by decide +kernel) tyX4 tyX4_ok nmX4 hown hK hP hD hS 0 rfl rfl 1 (by decide) (hts (.fieldLink RX4 43 "RedTent$Radio" "hearers" "I") (by decide +kernel)) (fun _ h9 => h9) rfl (by decide +kernel) rfl rfl (Nat.le_of_ble_eq_true rfl) dX4_addHearer_18 (fun H locs hP hD hS => ?_)
  have hP : va_P (dC, dI) vwCl [(h1, .inr (4, [.ref (ar 0), .int 1, .ref (ar 2), .ref (ar 3), .ref (ar 4), .ref (ar 5), .ref (ar 6), .ref (ar 7), .int 0, .ref (ar 9), .ref (ar 10), .ref (ar 11), .int 0])), (ar 0, .inl (cA, 6, .inl (upd f (0 : Int32).toNatClampNeg p0)))] H := hP
  have hD : va_D A [(h1, .inr (4, [.ref (ar 0), .int 1, .ref (ar 2), .ref (ar 3), .ref (ar 4), .ref (ar 5), .ref (ar 6), .ref (ar 7), .int 0, .ref (ar 9), .ref (ar 10), .ref (ar 11), .int 0])), (ar 0, .inl (cA, 6, .inl (upd f (0 : Int32).toNatClampNeg p0)))] := hD
  refine W.widen (k := 0) (n := 0) (by decide +kernel) (by decide +kernel) ?_
  exact W.iret (v := 0) hx hb hr (fun t ht hW => ⟨⟨0, (), rfl, rfl, trivial⟩, hS.F ht⟩) hS.2.2 dX4_addHearer_21
set_option maxHeartbeats 1000000 in
set_option maxRecDepth 100000 in
theorem rt_X11_hearer (l : Launch) (dC : Nat → ClassId) (dI : Nat → Nat → Nat) (sz : Nat) (h0 : Nat) (ad : Nat → Nat) (ar : Nat → Nat) (cA : ClassId) (f : Nat → Int32) (p0 : Int32) : Met l yX11_hearer wsX11_hearer ({ frames := 1, cells := 0, slots := 0, locals := 21 }) (va_Pc [.ref h0, .int p0] (fun U => U.heap.size = sz ∧ va_P (dC, dI) vwCl [(h0, .inr (11, [.ref (ad 0), .ref (ad 1), .ref (ad 2), .ref (ad 3), .ref (ad 4), .ref (ad 5), .ref (ad 6), .ref (ad 7), .ref (ad 8), .int 0, .int 0, .int 0, .int 0])), (ad 2, .inr (4, [.ref (ar 0), .int 0, .ref (ar 2), .ref (ar 3), .ref (ar 4), .ref (ar 5), .ref (ar 6), .ref (ar 7), .int 0, .ref (ar 9), .ref (ar 10), .ref (ar 11), .int 0])), (ar 0, .inl (cA, 6, .inl f))] U.heap ∧ va_K (dC, dI) vwCl [(cA, .int)] U ∧ va_D (fun _ => True) [(h0, .inr (11, [.ref (ad 0), .ref (ad 1), .ref (ad 2), .ref (ad 3), .ref (ad 4), .ref (ad 5), .ref (ad 6), .ref (ad 7), .ref (ad 8), .int 0, .int 0, .int 0, .int 0])), (ad 2, .inr (4, [.ref (ar 0), .int 0, .ref (ar 2), .ref (ar 3), .ref (ar 4), .ref (ar 5), .ref (ar 6), .ref (ar 7), .int 0, .ref (ar 9), .ref (ar 10), .ref (ar 11), .int 0])), (ar 0, .inl (cA, 6, .inl f))])) (va_Qi (fun (r : Int32) (u : Unit) => match u with | () => ((0 ≤ p0 ∧ p0 ≤ 63) ∧ r = 0) ∨ ((¬ (0 ≤ p0 ∧ p0 ≤ 63)) ∧ r = (-2))) (fun (u : Unit) (t : State) => match u with | () => True) (va_A [(h0, .inr (11, [.ref (ad 0), .ref (ad 1), .ref (ad 2), .ref (ad 3), .ref (ad 4), .ref (ad 5), .ref (ad 6), .ref (ad 7), .ref (ad 8), .int 0, .int 0, .int 0, .int 0])), (ad 2, .inr (4, [.ref (ar 0), .int 0, .ref (ar 2), .ref (ar 3), .ref (ar 4), .ref (ar 5), .ref (ar 6), .ref (ar 7), .int 0, .ref (ar 9), .ref (ar 10), .ref (ar 11), .int 0])), (ar 0, .inl (cA, 6, .inl f))] sz)) 0 0 (va_A [(h0, .inr (11, [.ref (ad 0), .ref (ad 1), .ref (ad 2), .ref (ad 3), .ref (ad 4), .ref (ad 5), .ref (ad 6), .ref (ad 7), .ref (ad 8), .int 0, .int 0, .int 0, .int 0])), (ad 2, .inr (4, [.ref (ar 0), .int 0, .ref (ar 2), .ref (ar 3), .ref (ar 4), .ref (ar 5), .ref (ar 6), .ref (ar 7), .int 0, .ref (ar 9), .ref (ar 10), .ref (ar 11), .int 0])), (ar 0, .inl (cA, 6, .inl f))] sz) := by
  refine Met.ofW (cc := cX11_hearer) (maxL := 2) (ret := (some .int)) (by decide) rfl ?_
  intro p e s m args below meth c s₁ B hml hv
  obtain ⟨rfl, hsz, hP, hK, hD0⟩ := hv
  have hx := B.exec
  have hb := B.bytes
  have hr := B.returns
  have hts := atoms_spec (ws := wsX11_hearer) B.pre
  have hown : s.vm.findClass RX11 = some m.cls := findClass_of_methodNamed B.named
  have hlocks := B.notSynchronized
  subst hsz
  have hD := hD0.self (sz := s.heap.size)
  generalize hAe : va_A [(h0, .inr (11, [.ref (ad 0), .ref (ad 1), .ref (ad 2), .ref (ad 3), .ref (ad 4), .ref (ad 5), .ref (ad 6), .ref (ad 7), .ref (ad 8), .int 0, .int 0, .int 0, .int 0])), (ad 2, .inr (4, [.ref (ar 0), .int 0, .ref (ar 2), .ref (ar 3), .ref (ar 4), .ref (ar 5), .ref (ar 6), .ref (ar 7), .int 0, .ref (ar 9), .ref (ar 10), .ref (ar 11), .int 0])), (ar 0, .inl (cA, 6, .inl f))] s.heap.size = A at hD  ⊢
  have hA : ∀ q : Nat, s.heap.size ≤ q → A q := fun q h => by rw [← hAe]; exact Or.inr h
  have hS : va_S A s.heap s.heap [] := va_S.rf
  have hl := lv_entry ([.ref h0, .int p0]) (n := 2) (Nat.le_of_ble_eq_true rfl)
  rw [lg_entry_eq]
  generalize (lg_sl ([.ref h0, .int p0]) ++ List.replicate (2 - (lg_sl ([.ref h0, .int p0])).length) Slot.unset).toArray = ls at hl ⊢
  have hl : lv_has ls 2 [(0, .ref h0), (1, .int p0)] := hl
  refine lv_iload_n hx hb dX11_hearer_0 rfl (lv_at hl 1 rfl) ?_
  refine vp_callSi (va_Run.run (va_runS (As := [.int p0]) (rest := []) ⟨hx, hb, hml, hown, hts⟩ (rt_X11_isCell l p0) (va_cwS 1 hts gX11_hearer_X11_isCell rfl rfl rfl (by decide +kernel) ⟨Nat.le_of_ble_eq_true rfl, Nat.le_of_ble_eq_true rfl⟩) ⟨fun a U g mk q => q, fun U hU hW => ⟨rfl, trivial⟩⟩ rfl rfl hl.1 rfl (lv_room (Nat.le_of_ble_eq_true rfl)) dX11_hearer_1 ⟨by decide +kernel, by decide +kernel⟩)) (fun r_1 hr_1 => ?_)
  rcases hr_1 with ⟨b_2, rfl⟩ | ⟨b_2, rfl⟩
  · refine lv_if_ne (tgt := 10) hx hb dX11_hearer_4 (by decide) (fun _ => ?_) (fun c9 => absurd c9 (by decide))
    refine lv_aload_n hx hb dX11_hearer_10 rfl (lv_at hl 0 rfl) ?_
    refine va_get (D := (dC, dI)) (ci := 11) (v := .ref (ad 2)) (C := RX11) (T := TX11) (N := 13) hx hb hts (by decide +kernel) hown hK hP 0 rfl rfl 2 (by decide) (hts (.fieldLink RX11 25 "RedTent" "radio" "LRedTent$Radio;") (by decide +kernel)) (fun _ h9 => h9) rfl dX11_hearer_11 ?_
    refine va_get (D := (dC, dI)) (ci := 4) (v := .int 0) (C := RX4) (T := TX4) (N := 13) hx hb hts (by decide +kernel) hown hK hP 1 rfl rfl 1 (by decide) (hts (.fieldLink RX11 161 "RedTent$Radio" "hearers" "I") (by decide +kernel)) (fun _ h9 => h9) rfl dX11_hearer_14 ?_
    refine lv_bipush (v := 6) hx hb dX11_hearer_17 (by decide) ?_
    refine lv_icmp_lt (tgt := 25) hx hb dX11_hearer_19 (by decide) (fun _ => ?_) (fun c9 => absurd (by decide) c9)
    refine lv_aload_n hx hb dX11_hearer_25 rfl (lv_at hl 0 rfl) ?_
    refine va_get (D := (dC, dI)) (ci := 11) (v := .ref (ad 2)) (C := RX11) (T := TX11) (N := 13) hx hb hts (by decide +kernel) hown hK hP 0 rfl rfl 2 (by decide) (hts (.fieldLink RX11 25 "RedTent" "radio" "LRedTent$Radio;") (by decide +kernel)) (fun _ h9 => h9) rfl dX11_hearer_26 ?_
    refine lv_iload_n hx hb dX11_hearer_29 rfl (lv_at hl 1 rfl) ?_
    have hPc := hP.sub (ws' := [(ad 2, .inr (4, [.ref (ar 0), .int 0, .ref (ar 2), .ref (ar 3), .ref (ar 4), .ref (ar 5), .ref (ar 6), .ref (ar 7), .int 0, .ref (ar 9), .ref (ar 10), .ref (ar 11), .int 0])), (ar 0, .inl (cA, 6, .inl f))]) [1, 2] rfl
    have hKc := hK.sub (tys' := [(cA, .int)]) [0] rfl
    have hDc := hD.sub (ws' := [(ad 2, .inr (4, [.ref (ar 0), .int 0, .ref (ar 2), .ref (ar 3), .ref (ar 4), .ref (ar 5), .ref (ar 6), .ref (ar 7), .int 0, .ref (ar 9), .ref (ar 10), .ref (ar 11), .int 0])), (ar 0, .inl (cA, 6, .inl f))]) [1, 2] (by decide) rfl
    have hFc := va_free (wc := [(ad 2, .inr (4, [.ref (ar 0), .int 0, .ref (ar 2), .ref (ar 3), .ref (ar 4), .ref (ar 5), .ref (ar 6), .ref (ar 7), .int 0, .ref (ar 9), .ref (ar 10), .ref (ar 11), .int 0])), (ar 0, .inl (cA, 6, .inl f))]) hD hS hA [1, 2] rfl
    refine va_calli (va_runV (As := [.int p0]) (rest := []) ⟨hx, hb, hml, hown, hts⟩ (rt_X4_addHearer l dC dI s.heap.size (ad 2) ar cA f p0) (cwV 1 hts gX11_hearer_X4_addHearer rfl rfl rfl (by decide +kernel) ⟨Nat.le_of_ble_eq_true rfl, Nat.le_of_ble_eq_true rfl⟩) ⟨fun a U g mk q => by obtain ⟨q0, q1, qP, qK, qD⟩ := q; exact ⟨q0, q1, qP, va_K.moved (u := U) (U := U.calling g mk a) (Vm.Alike.refl U.vm) qK, qD⟩, va_recv hKc hPc (ci := 4) (q0 := 0) rfl rfl, fun U hU hW => ⟨rfl, by rw [hU], by rw [hU]; exact hPc, va_K.moved hW.alike hKc, hDc.weaken (fun _ _ _ _ => trivial)⟩⟩ rfl rfl hl.1 rfl (lv_room (Nat.le_of_ble_eq_true rfl)) dX11_hearer_30 ⟨by decide +kernel, by decide +kernel⟩) hS (fun q _ h => hFc q h) hFc (fun r_3 u t H1 locs ht hvm hr_3 hB hz1 hk1 hS => ?_)
    obtain ⟨⟩ := u
    have hP1 : va_P (dC, dI) vwCl [] H1 := fun k q h => by simp at h
    have hD1 : va_D (va_A [(ad 2, .inr (4, [.ref (ar 0), .int 0, .ref (ar 2), .ref (ar 3), .ref (ar 4), .ref (ar 5), .ref (ar 6), .ref (ar 7), .int 0, .ref (ar 9), .ref (ar 10), .ref (ar 11), .int 0])), (ar 0, .inl (cA, 6, .inl f))] s.heap.size) [] := ⟨fun i j p q h => by simp at h, fun k q h => by simp at h⟩
    obtain ⟨hP, hD⟩ := va_join (wr := [(h0, .inr (11, [.ref (ad 0), .ref (ad 1), .ref (ad 2), .ref (ad 3), .ref (ad 4), .ref (ad 5), .ref (ad 6), .ref (ad 7), .ref (ad 8), .int 0, .int 0, .int 0, .int 0]))]) (w1 := []) hP hD [1, 2] [0] rfl rfl (by decide) (by decide) hk1 hFc hP1 hD1
    generalize H1 = H at hP hS ⊢
    have hP : va_P (dC, dI) vwCl [(h0, .inr (11, [.ref (ad 0), .ref (ad 1), .ref (ad 2), .ref (ad 3), .ref (ad 4), .ref (ad 5), .ref (ad 6), .ref (ad 7), .ref (ad 8), .int 0, .int 0, .int 0, .int 0]))] H := hP
    have hD : va_D A [(h0, .inr (11, [.ref (ad 0), .ref (ad 1), .ref (ad 2), .ref (ad 3), .ref (ad 4), .ref (ad 5), .ref (ad 6), .ref (ad 7), .ref (ad 8), .int 0, .int 0, .int 0, .int 0]))] := hD
    try dsimp only at hr_3
    obtain rfl := hr_3
    have hpost : ((0 ≤ p0 ∧ p0 ≤ 63) ∧ (0 : Int32) = 0) ∨ ((¬ (0 ≤ p0 ∧ p0 ≤ 63)) ∧ (0 : Int32) = (-2)) := by
      try simp only [fa_lt, fa_le, fa_eq, fa_lt64, fa_le64, fa_eq64, Int32.reduceToInt, Int64.reduceToInt, zi_ite] at b_2
      first
      | exact Or.inl ⟨by (try simp only [fa_lt, fa_le, fa_eq, fa_lt64, fa_le64, fa_eq64, Int32.reduceToInt, Int64.reduceToInt, zi_ite]); omega, rfl⟩
      | exact Or.inr (⟨by (try simp only [fa_lt, fa_le, fa_eq, fa_lt64, fa_le64, fa_eq64, Int32.reduceToInt, Int64.reduceToInt, zi_ite]); omega, rfl⟩)
    refine W.widen (k := 0) (n := 0) (by decide +kernel) (by decide +kernel) ?_
    exact W.iret (v := 0) hx hb hr (fun t ht hW => ⟨⟨0, (), rfl, hpost, trivial⟩, hS.F ht⟩) hS.2.2 dX11_hearer_33
  · refine lv_if_ne (tgt := 10) hx hb dX11_hearer_4 (by decide) (fun c9 => absurd (by decide) c9) (fun _ => ?_)
    refine lv_bipush (v := (-2)) hx hb dX11_hearer_7 (by decide) ?_
    have hpost : ((0 ≤ p0 ∧ p0 ≤ 63) ∧ ((-2) : Int32) = 0) ∨ ((¬ (0 ≤ p0 ∧ p0 ≤ 63)) ∧ ((-2) : Int32) = (-2)) := by
      try simp only [fa_lt, fa_le, fa_eq, fa_lt64, fa_le64, fa_eq64, Int32.reduceToInt, Int64.reduceToInt, zi_ite] at b_2
      first
      | exact Or.inl ⟨by (try simp only [fa_lt, fa_le, fa_eq, fa_lt64, fa_le64, fa_eq64, Int32.reduceToInt, Int64.reduceToInt, zi_ite]); omega, rfl⟩
      | exact Or.inr (⟨by (try simp only [fa_lt, fa_le, fa_eq, fa_lt64, fa_le64, fa_eq64, Int32.reduceToInt, Int64.reduceToInt, zi_ite]); omega, rfl⟩)
    refine W.widen (k := 0) (n := 0) (by decide +kernel) (by decide +kernel) ?_
    exact W.iret (v := (-2)) hx hb hr (fun t ht hW => ⟨⟨(-2), (), rfl, hpost, trivial⟩, hS.F ht⟩) hS.2.2 dX11_hearer_9
set_option maxHeartbeats 1000000 in
set_option maxRecDepth 100000 in
theorem rt_X4_setWave (l : Launch) (dC : Nat → ClassId) (dI : Nat → Nat → Nat) (sz : Nat) (h1 : Nat) (ar : Nat → Nat) (cA cB : ClassId) (p0 p1 p2 : Int32) (hin0 : 0 ≤ p0.toInt ∧ p0.toInt < 8) : Met l yX4_setWave wsX4_setWave ({ frames := 0, cells := 0, slots := 0, locals := 0 }) (va_Pc [.ref h1, .int p0, .int p1, .int p2] (fun U => U.heap.size = sz ∧ va_P (dC, dI) vwCl [(h1, .inr (4, [.ref (ar 0), .int 0, .ref (ar 2), .ref (ar 3), .ref (ar 4), .ref (ar 5), .ref (ar 6), .ref (ar 7), .int 0, .ref (ar 9), .ref (ar 10), .ref (ar 11), .int 0])), (ar 2, .inl (cA, 8, .inl (fun _ => (0 : Int32)))), (ar 3, .inl (cB, 8, .inl (fun _ => (0 : Int32))))] U.heap ∧ va_K (dC, dI) vwCl [(cA, .int), (cB, .int)] U ∧ va_D (fun _ => True) [(h1, .inr (4, [.ref (ar 0), .int 0, .ref (ar 2), .ref (ar 3), .ref (ar 4), .ref (ar 5), .ref (ar 6), .ref (ar 7), .int 0, .ref (ar 9), .ref (ar 10), .ref (ar 11), .int 0])), (ar 2, .inl (cA, 8, .inl (fun _ => (0 : Int32)))), (ar 3, .inl (cB, 8, .inl (fun _ => (0 : Int32))))])) (va_Qi (fun (r : Int32) (u : Unit) => match u with | () => r = 0) (fun (u : Unit) (t : State) => match u with | () => True) (va_A [(h1, .inr (4, [.ref (ar 0), .int 0, .ref (ar 2), .ref (ar 3), .ref (ar 4), .ref (ar 5), .ref (ar 6), .ref (ar 7), .int 0, .ref (ar 9), .ref (ar 10), .ref (ar 11), .int 0])), (ar 2, .inl (cA, 8, .inl (fun _ => (0 : Int32)))), (ar 3, .inl (cB, 8, .inl (fun _ => (0 : Int32))))] sz)) 0 0 (va_A [(h1, .inr (4, [.ref (ar 0), .int 0, .ref (ar 2), .ref (ar 3), .ref (ar 4), .ref (ar 5), .ref (ar 6), .ref (ar 7), .int 0, .ref (ar 9), .ref (ar 10), .ref (ar 11), .int 0])), (ar 2, .inl (cA, 8, .inl (fun _ => (0 : Int32)))), (ar 3, .inl (cB, 8, .inl (fun _ => (0 : Int32))))] sz) := by
  refine Met.ofW (cc := cX4_setWave) (maxL := 5) (ret := (some .int)) (by decide) rfl ?_
  intro p e s m args below meth c s₁ B hml hv
  obtain ⟨rfl, hsz, hP, hK, hD0⟩ := hv
  have hx := B.exec
  have hb := B.bytes
  have hr := B.returns
  have hts := atoms_spec (ws := wsX4_setWave) B.pre
  have hown : s.vm.findClass RX4 = some m.cls := findClass_of_methodNamed B.named
  have hlocks := B.notSynchronized
  subst hsz
  have hD := hD0.self (sz := s.heap.size)
  generalize hAe : va_A [(h1, .inr (4, [.ref (ar 0), .int 0, .ref (ar 2), .ref (ar 3), .ref (ar 4), .ref (ar 5), .ref (ar 6), .ref (ar 7), .int 0, .ref (ar 9), .ref (ar 10), .ref (ar 11), .int 0])), (ar 2, .inl (cA, 8, .inl (fun _ => (0 : Int32)))), (ar 3, .inl (cB, 8, .inl (fun _ => (0 : Int32))))] s.heap.size = A at hD  ⊢
  have hA : ∀ q : Nat, s.heap.size ≤ q → A q := fun q h => by rw [← hAe]; exact Or.inr h
  have hS : va_S A s.heap s.heap [] := va_S.rf
  have hl := lv_entry ([.ref h1, .int p0, .int p1, .int p2]) (n := 5) (Nat.le_of_ble_eq_true rfl)
  rw [lg_entry_eq]
  generalize (lg_sl ([.ref h1, .int p0, .int p1, .int p2]) ++ List.replicate (5 - (lg_sl ([.ref h1, .int p0, .int p1, .int p2])).length) Slot.unset).toArray = ls at hl ⊢
  have hl : lv_has ls 5 [(0, .ref h1), (1, .int p0), (2, .int p1), (3, .int p2)] := hl
  refine lv_bipush (v := 10) hx hb dX4_setWave_0 (by decide) ?_
  refine lv_aload_n hx hb dX4_setWave_2 rfl (lv_at hl 0 rfl) ?_
  refine va_get (D := (dC, dI)) (ci := 4) (v := .ref (ar 2)) (C := RX4) (T := TX4) (N := 13) hx hb hts (by decide +kernel) hown hK hP 0 rfl rfl 2 (by decide) (hts (.fieldLink RX4 15 "RedTent$Radio" "heardFrom" "[I") (by decide +kernel)) (fun _ h9 => h9) rfl dX4_setWave_3 ?_
  refine lv_iload_n hx hb dX4_setWave_6 rfl (lv_at hl 1 rfl) ?_
  refine va_iald hx hb hK hP 1 0 rfl rfl (vp_in_iff.mpr (by (try simp only [fa_lt, fa_le, fa_eq, fa_lt64, fa_le64, fa_eq64, Int32.reduceToInt, Int64.reduceToInt, zi_ite]) <;> omega)) dX4_setWave_7 ?_
  refine lv_topi (fun y_1 ey_1 => ?_)
  obtain rfl : y_1 = 0 := ey_1
  refine lv_imul hx hb dX4_setWave_8 ?_
  refine lv_topi (fun y_2 ey_2 => ?_)
  obtain rfl : y_2 = 0 := ey_2.trans (by decide)
  refine lv_aload_n hx hb dX4_setWave_9 rfl (lv_at hl 0 rfl) ?_
  refine va_get (D := (dC, dI)) (ci := 4) (v := .ref (ar 3)) (C := RX4) (T := TX4) (N := 13) hx hb hts (by decide +kernel) hown hK hP 0 rfl rfl 3 (by decide) (hts (.fieldLink RX4 18 "RedTent$Radio" "heardTo" "[I") (by decide +kernel)) (fun _ h9 => h9) rfl dX4_setWave_10 ?_
  refine lv_iload_n hx hb dX4_setWave_13 rfl (lv_at hl 1 rfl) ?_
  refine va_iald hx hb hK hP 2 1 rfl rfl (vp_in_iff.mpr (by (try simp only [fa_lt, fa_le, fa_eq, fa_lt64, fa_le64, fa_eq64, Int32.reduceToInt, Int64.reduceToInt, zi_ite]) <;> omega)) dX4_setWave_14 ?_
  refine lv_topi (fun y_3 ey_3 => ?_)
  obtain rfl : y_3 = 0 := ey_3
  refine lv_iadd hx hb dX4_setWave_15 ?_
  refine lv_topi (fun y_4 ey_4 => ?_)
  obtain rfl : y_4 = 0 := ey_4.trans (by decide)
  refine lv_istore (lv' := [(4, .int 0), (0, .ref h1), (1, .int p0), (2, .int p1), (3, .int p2)]) hx hb dX4_setWave_16 hl (by decide) rfl (fun ls hl => ?_)
  refine lv_aload_n hx hb dX4_setWave_18 rfl (lv_at hl 1 rfl) ?_
  refine va_get (D := (dC, dI)) (ci := 4) (v := .ref (ar 2)) (C := RX4) (T := TX4) (N := 13) hx hb hts (by decide +kernel) hown hK hP 0 rfl rfl 2 (by decide) (hts (.fieldLink RX4 15 "RedTent$Radio" "heardFrom" "[I") (by decide +kernel)) (fun _ h9 => h9) rfl dX4_setWave_19 ?_
  refine lv_iload_n hx hb dX4_setWave_22 rfl (lv_at hl 2 rfl) ?_
  refine lv_iload_n hx hb dX4_setWave_23 rfl (lv_at hl 3 rfl) ?_
  refine va_iast hx hb hK hP hD hS 1 0 rfl rfl (vp_in_iff.mpr (by (try simp only [fa_lt, fa_le, fa_eq, fa_lt64, fa_le64, fa_eq64, Int32.reduceToInt, Int64.reduceToInt, zi_ite]) <;> omega)) dX4_setWave_24 (fun H locs hP hD hS => ?_)
  have hP : va_P (dC, dI) vwCl [(h1, .inr (4, [.ref (ar 0), .int 0, .ref (ar 2), .ref (ar 3), .ref (ar 4), .ref (ar 5), .ref (ar 6), .ref (ar 7), .int 0, .ref (ar 9), .ref (ar 10), .ref (ar 11), .int 0])), (ar 2, .inl (cA, 8, .inl (upd (fun _ => (0 : Int32)) p0.toNatClampNeg p1))), (ar 3, .inl (cB, 8, .inl (fun _ => (0 : Int32))))] H := hP
  have hD : va_D A [(h1, .inr (4, [.ref (ar 0), .int 0, .ref (ar 2), .ref (ar 3), .ref (ar 4), .ref (ar 5), .ref (ar 6), .ref (ar 7), .int 0, .ref (ar 9), .ref (ar 10), .ref (ar 11), .int 0])), (ar 2, .inl (cA, 8, .inl (upd (fun _ => (0 : Int32)) p0.toNatClampNeg p1))), (ar 3, .inl (cB, 8, .inl (fun _ => (0 : Int32))))] := hD
  refine lv_aload_n hx hb dX4_setWave_25 rfl (lv_at hl 1 rfl) ?_
  refine va_get (D := (dC, dI)) (ci := 4) (v := .ref (ar 3)) (C := RX4) (T := TX4) (N := 13) hx hb hts (by decide +kernel) hown hK hP 0 rfl rfl 3 (by decide) (hts (.fieldLink RX4 18 "RedTent$Radio" "heardTo" "[I") (by decide +kernel)) (fun _ h9 => h9) rfl dX4_setWave_26 ?_
  refine lv_iload_n hx hb dX4_setWave_29 rfl (lv_at hl 2 rfl) ?_
  refine lv_iload_n hx hb dX4_setWave_30 rfl (lv_at hl 4 rfl) ?_
  refine va_iast hx hb hK hP hD hS 2 1 rfl rfl (vp_in_iff.mpr (by (try simp only [fa_lt, fa_le, fa_eq, fa_lt64, fa_le64, fa_eq64, Int32.reduceToInt, Int64.reduceToInt, zi_ite]) <;> omega)) dX4_setWave_31 (fun H locs hP hD hS => ?_)
  have hP : va_P (dC, dI) vwCl [(h1, .inr (4, [.ref (ar 0), .int 0, .ref (ar 2), .ref (ar 3), .ref (ar 4), .ref (ar 5), .ref (ar 6), .ref (ar 7), .int 0, .ref (ar 9), .ref (ar 10), .ref (ar 11), .int 0])), (ar 2, .inl (cA, 8, .inl (upd (fun _ => (0 : Int32)) p0.toNatClampNeg p1))), (ar 3, .inl (cB, 8, .inl (upd (fun _ => (0 : Int32)) p0.toNatClampNeg p2)))] H := hP
  have hD : va_D A [(h1, .inr (4, [.ref (ar 0), .int 0, .ref (ar 2), .ref (ar 3), .ref (ar 4), .ref (ar 5), .ref (ar 6), .ref (ar 7), .int 0, .ref (ar 9), .ref (ar 10), .ref (ar 11), .int 0])), (ar 2, .inl (cA, 8, .inl (upd (fun _ => (0 : Int32)) p0.toNatClampNeg p1))), (ar 3, .inl (cB, 8, .inl (upd (fun _ => (0 : Int32)) p0.toNatClampNeg p2)))] := hD
  refine lv_iload hx hb dX4_setWave_32 (lv_at hl 0 rfl) ?_
  refine W.widen (k := 0) (n := 0) (by decide +kernel) (by decide +kernel) ?_
  exact W.iret (v := 0) hx hb hr (fun t ht hW => ⟨⟨0, (), rfl, rfl, trivial⟩, hS.F ht⟩) hS.2.2 dX4_setWave_34
set_option maxHeartbeats 1000000 in
set_option maxRecDepth 100000 in
theorem rt_X11_wave (l : Launch) (dC : Nat → ClassId) (dI : Nat → Nat → Nat) (sz : Nat) (h0 : Nat) (ad : Nat → Nat) (ar : Nat → Nat) (cA cB : ClassId) (p0 p1 p2 p3 : Int32) : Met l yX11_wave wsX11_wave ({ frames := 1, cells := 0, slots := 0, locals := 24 }) (va_Pc [.ref h0, .int p0, .int p1, .int p2, .int p3] (fun U => U.heap.size = sz ∧ va_P (dC, dI) vwCl [(h0, .inr (11, [.ref (ad 0), .ref (ad 1), .ref (ad 2), .ref (ad 3), .ref (ad 4), .ref (ad 5), .ref (ad 6), .ref (ad 7), .ref (ad 8), .int 0, .int 0, .int 0, .int 0])), (ad 2, .inr (4, [.ref (ar 0), .int 0, .ref (ar 2), .ref (ar 3), .ref (ar 4), .ref (ar 5), .ref (ar 6), .ref (ar 7), .int 0, .ref (ar 9), .ref (ar 10), .ref (ar 11), .int 0])), (ar 2, .inl (cA, 8, .inl (fun _ => (0 : Int32)))), (ar 3, .inl (cB, 8, .inl (fun _ => (0 : Int32))))] U.heap ∧ va_K (dC, dI) vwCl [(cA, .int), (cB, .int)] U ∧ va_D (fun _ => True) [(h0, .inr (11, [.ref (ad 0), .ref (ad 1), .ref (ad 2), .ref (ad 3), .ref (ad 4), .ref (ad 5), .ref (ad 6), .ref (ad 7), .ref (ad 8), .int 0, .int 0, .int 0, .int 0])), (ad 2, .inr (4, [.ref (ar 0), .int 0, .ref (ar 2), .ref (ar 3), .ref (ar 4), .ref (ar 5), .ref (ar 6), .ref (ar 7), .int 0, .ref (ar 9), .ref (ar 10), .ref (ar 11), .int 0])), (ar 2, .inl (cA, 8, .inl (fun _ => (0 : Int32)))), (ar 3, .inl (cB, 8, .inl (fun _ => (0 : Int32))))])) (va_Qi (fun (r : Int32) (u : Unit) => match u with | () => ((0 ≤ p0 ∧ p0 ≤ 3 ∧ 0 ≤ p1 ∧ p1 ≤ 1 ∧ 0 ≤ p2 ∧ p2 ≤ 9 ∧ p2 ≤ p3 ∧ p3 ≤ 9) ∧ r = 0) ∨ ((¬ (0 ≤ p0 ∧ p0 ≤ 3 ∧ 0 ≤ p1 ∧ p1 ≤ 1 ∧ 0 ≤ p2 ∧ p2 ≤ 9 ∧ p2 ≤ p3 ∧ p3 ≤ 9)) ∧ r = (-2))) (fun (u : Unit) (t : State) => match u with | () => True) (va_A [(h0, .inr (11, [.ref (ad 0), .ref (ad 1), .ref (ad 2), .ref (ad 3), .ref (ad 4), .ref (ad 5), .ref (ad 6), .ref (ad 7), .ref (ad 8), .int 0, .int 0, .int 0, .int 0])), (ad 2, .inr (4, [.ref (ar 0), .int 0, .ref (ar 2), .ref (ar 3), .ref (ar 4), .ref (ar 5), .ref (ar 6), .ref (ar 7), .int 0, .ref (ar 9), .ref (ar 10), .ref (ar 11), .int 0])), (ar 2, .inl (cA, 8, .inl (fun _ => (0 : Int32)))), (ar 3, .inl (cB, 8, .inl (fun _ => (0 : Int32))))] sz)) 0 0 (va_A [(h0, .inr (11, [.ref (ad 0), .ref (ad 1), .ref (ad 2), .ref (ad 3), .ref (ad 4), .ref (ad 5), .ref (ad 6), .ref (ad 7), .ref (ad 8), .int 0, .int 0, .int 0, .int 0])), (ad 2, .inr (4, [.ref (ar 0), .int 0, .ref (ar 2), .ref (ar 3), .ref (ar 4), .ref (ar 5), .ref (ar 6), .ref (ar 7), .int 0, .ref (ar 9), .ref (ar 10), .ref (ar 11), .int 0])), (ar 2, .inl (cA, 8, .inl (fun _ => (0 : Int32)))), (ar 3, .inl (cB, 8, .inl (fun _ => (0 : Int32))))] sz) := by
  refine Met.ofW (cc := cX11_wave) (maxL := 5) (ret := (some .int)) (by decide) rfl ?_
  intro p e s m args below meth c s₁ B hml hv
  obtain ⟨rfl, hsz, hP, hK, hD0⟩ := hv
  have hx := B.exec
  have hb := B.bytes
  have hr := B.returns
  have hts := atoms_spec (ws := wsX11_wave) B.pre
  have hown : s.vm.findClass RX11 = some m.cls := findClass_of_methodNamed B.named
  have hlocks := B.notSynchronized
  subst hsz
  have hD := hD0.self (sz := s.heap.size)
  generalize hAe : va_A [(h0, .inr (11, [.ref (ad 0), .ref (ad 1), .ref (ad 2), .ref (ad 3), .ref (ad 4), .ref (ad 5), .ref (ad 6), .ref (ad 7), .ref (ad 8), .int 0, .int 0, .int 0, .int 0])), (ad 2, .inr (4, [.ref (ar 0), .int 0, .ref (ar 2), .ref (ar 3), .ref (ar 4), .ref (ar 5), .ref (ar 6), .ref (ar 7), .int 0, .ref (ar 9), .ref (ar 10), .ref (ar 11), .int 0])), (ar 2, .inl (cA, 8, .inl (fun _ => (0 : Int32)))), (ar 3, .inl (cB, 8, .inl (fun _ => (0 : Int32))))] s.heap.size = A at hD  ⊢
  have hA : ∀ q : Nat, s.heap.size ≤ q → A q := fun q h => by rw [← hAe]; exact Or.inr h
  have hS : va_S A s.heap s.heap [] := va_S.rf
  have hl := lv_entry ([.ref h0, .int p0, .int p1, .int p2, .int p3]) (n := 5) (Nat.le_of_ble_eq_true rfl)
  rw [lg_entry_eq]
  generalize (lg_sl ([.ref h0, .int p0, .int p1, .int p2, .int p3]) ++ List.replicate (5 - (lg_sl ([.ref h0, .int p0, .int p1, .int p2, .int p3])).length) Slot.unset).toArray = ls at hl ⊢
  have hl : lv_has ls 5 [(0, .ref h0), (1, .int p0), (2, .int p1), (3, .int p2), (4, .int p3)] := hl
  refine lv_iload_n hx hb dX11_wave_0 rfl (lv_at hl 1 rfl) ?_
  refine lv_if_lt (tgt := 41) hx hb dX11_wave_1 (by decide) (fun c_1 => ?_) (fun c_1 => ?_)
  · refine lv_bipush (v := (-2)) hx hb dX11_wave_41 (by decide) ?_
    have hpost : ((0 ≤ p0 ∧ p0 ≤ 3 ∧ 0 ≤ p1 ∧ p1 ≤ 1 ∧ 0 ≤ p2 ∧ p2 ≤ 9 ∧ p2 ≤ p3 ∧ p3 ≤ 9) ∧ ((-2) : Int32) = 0) ∨ ((¬ (0 ≤ p0 ∧ p0 ≤ 3 ∧ 0 ≤ p1 ∧ p1 ≤ 1 ∧ 0 ≤ p2 ∧ p2 ≤ 9 ∧ p2 ≤ p3 ∧ p3 ≤ 9)) ∧ ((-2) : Int32) = (-2)) := by
      try simp only [fa_lt, fa_le, fa_eq, fa_lt64, fa_le64, fa_eq64, Int32.reduceToInt, Int64.reduceToInt, zi_ite] at c_1
      first
      | exact Or.inl ⟨by (try simp only [fa_lt, fa_le, fa_eq, fa_lt64, fa_le64, fa_eq64, Int32.reduceToInt, Int64.reduceToInt, zi_ite]); omega, rfl⟩
      | exact Or.inr (⟨by (try simp only [fa_lt, fa_le, fa_eq, fa_lt64, fa_le64, fa_eq64, Int32.reduceToInt, Int64.reduceToInt, zi_ite]); omega, rfl⟩)
    refine W.widen (k := 0) (n := 0) (by decide +kernel) (by decide +kernel) ?_
    exact W.iret (v := (-2)) hx hb hr (fun t ht hW => ⟨⟨(-2), (), rfl, hpost, trivial⟩, hS.F ht⟩) hS.2.2 dX11_wave_43
  · refine lv_iload_n hx hb dX11_wave_4 rfl (lv_at hl 1 rfl) ?_
    refine lv_iconst (v := 4) hx hb dX11_wave_5 (by decide) ?_
    refine lv_icmp_ge (tgt := 41) hx hb dX11_wave_6 (by decide) (fun c_2 => ?_) (fun c_2 => ?_)
    · refine lv_bipush (v := (-2)) hx hb dX11_wave_41 (by decide) ?_
      have hpost : ((0 ≤ p0 ∧ p0 ≤ 3 ∧ 0 ≤ p1 ∧ p1 ≤ 1 ∧ 0 ≤ p2 ∧ p2 ≤ 9 ∧ p2 ≤ p3 ∧ p3 ≤ 9) ∧ ((-2) : Int32) = 0) ∨ ((¬ (0 ≤ p0 ∧ p0 ≤ 3 ∧ 0 ≤ p1 ∧ p1 ≤ 1 ∧ 0 ≤ p2 ∧ p2 ≤ 9 ∧ p2 ≤ p3 ∧ p3 ≤ 9)) ∧ ((-2) : Int32) = (-2)) := by
        try simp only [fa_lt, fa_le, fa_eq, fa_lt64, fa_le64, fa_eq64, Int32.reduceToInt, Int64.reduceToInt, zi_ite] at c_1
        try simp only [fa_lt, fa_le, fa_eq, fa_lt64, fa_le64, fa_eq64, Int32.reduceToInt, Int64.reduceToInt, zi_ite] at c_2
        first
        | exact Or.inl ⟨by (try simp only [fa_lt, fa_le, fa_eq, fa_lt64, fa_le64, fa_eq64, Int32.reduceToInt, Int64.reduceToInt, zi_ite]); omega, rfl⟩
        | exact Or.inr (⟨by (try simp only [fa_lt, fa_le, fa_eq, fa_lt64, fa_le64, fa_eq64, Int32.reduceToInt, Int64.reduceToInt, zi_ite]); omega, rfl⟩)
      refine W.widen (k := 0) (n := 0) (by decide +kernel) (by decide +kernel) ?_
      exact W.iret (v := (-2)) hx hb hr (fun t ht hW => ⟨⟨(-2), (), rfl, hpost, trivial⟩, hS.F ht⟩) hS.2.2 dX11_wave_43
    · refine lv_iload_n hx hb dX11_wave_9 rfl (lv_at hl 2 rfl) ?_
      refine lv_if_lt (tgt := 41) hx hb dX11_wave_10 (by decide) (fun c_3 => ?_) (fun c_3 => ?_)
      · refine lv_bipush (v := (-2)) hx hb dX11_wave_41 (by decide) ?_
        have hpost : ((0 ≤ p0 ∧ p0 ≤ 3 ∧ 0 ≤ p1 ∧ p1 ≤ 1 ∧ 0 ≤ p2 ∧ p2 ≤ 9 ∧ p2 ≤ p3 ∧ p3 ≤ 9) ∧ ((-2) : Int32) = 0) ∨ ((¬ (0 ≤ p0 ∧ p0 ≤ 3 ∧ 0 ≤ p1 ∧ p1 ≤ 1 ∧ 0 ≤ p2 ∧ p2 ≤ 9 ∧ p2 ≤ p3 ∧ p3 ≤ 9)) ∧ ((-2) : Int32) = (-2)) := by
          try simp only [fa_lt, fa_le, fa_eq, fa_lt64, fa_le64, fa_eq64, Int32.reduceToInt, Int64.reduceToInt, zi_ite] at c_1
          try simp only [fa_lt, fa_le, fa_eq, fa_lt64, fa_le64, fa_eq64, Int32.reduceToInt, Int64.reduceToInt, zi_ite] at c_2
          try simp only [fa_lt, fa_le, fa_eq, fa_lt64, fa_le64, fa_eq64, Int32.reduceToInt, Int64.reduceToInt, zi_ite] at c_3
          first
          | exact Or.inl ⟨by (try simp only [fa_lt, fa_le, fa_eq, fa_lt64, fa_le64, fa_eq64, Int32.reduceToInt, Int64.reduceToInt, zi_ite]); omega, rfl⟩
          | exact Or.inr (⟨by (try simp only [fa_lt, fa_le, fa_eq, fa_lt64, fa_le64, fa_eq64, Int32.reduceToInt, Int64.reduceToInt, zi_ite]); omega, rfl⟩)
        refine W.widen (k := 0) (n := 0) (by decide +kernel) (by decide +kernel) ?_
        exact W.iret (v := (-2)) hx hb hr (fun t ht hW => ⟨⟨(-2), (), rfl, hpost, trivial⟩, hS.F ht⟩) hS.2.2 dX11_wave_43
      · refine lv_iload_n hx hb dX11_wave_13 rfl (lv_at hl 2 rfl) ?_
        refine lv_iconst (v := 1) hx hb dX11_wave_14 (by decide) ?_
        refine lv_icmp_gt (tgt := 41) hx hb dX11_wave_15 (by decide) (fun c_4 => ?_) (fun c_4 => ?_)
        · refine lv_bipush (v := (-2)) hx hb dX11_wave_41 (by decide) ?_
          have hpost : ((0 ≤ p0 ∧ p0 ≤ 3 ∧ 0 ≤ p1 ∧ p1 ≤ 1 ∧ 0 ≤ p2 ∧ p2 ≤ 9 ∧ p2 ≤ p3 ∧ p3 ≤ 9) ∧ ((-2) : Int32) = 0) ∨ ((¬ (0 ≤ p0 ∧ p0 ≤ 3 ∧ 0 ≤ p1 ∧ p1 ≤ 1 ∧ 0 ≤ p2 ∧ p2 ≤ 9 ∧ p2 ≤ p3 ∧ p3 ≤ 9)) ∧ ((-2) : Int32) = (-2)) := by
            try simp only [fa_lt, fa_le, fa_eq, fa_lt64, fa_le64, fa_eq64, Int32.reduceToInt, Int64.reduceToInt, zi_ite] at c_1
            try simp only [fa_lt, fa_le, fa_eq, fa_lt64, fa_le64, fa_eq64, Int32.reduceToInt, Int64.reduceToInt, zi_ite] at c_2
            try simp only [fa_lt, fa_le, fa_eq, fa_lt64, fa_le64, fa_eq64, Int32.reduceToInt, Int64.reduceToInt, zi_ite] at c_3
            try simp only [fa_lt, fa_le, fa_eq, fa_lt64, fa_le64, fa_eq64, Int32.reduceToInt, Int64.reduceToInt, zi_ite] at c_4
            first
            | exact Or.inl ⟨by (try simp only [fa_lt, fa_le, fa_eq, fa_lt64, fa_le64, fa_eq64, Int32.reduceToInt, Int64.reduceToInt, zi_ite]); omega, rfl⟩
            | exact Or.inr (⟨by (try simp only [fa_lt, fa_le, fa_eq, fa_lt64, fa_le64, fa_eq64, Int32.reduceToInt, Int64.reduceToInt, zi_ite]); omega, rfl⟩)
          refine W.widen (k := 0) (n := 0) (by decide +kernel) (by decide +kernel) ?_
          exact W.iret (v := (-2)) hx hb hr (fun t ht hW => ⟨⟨(-2), (), rfl, hpost, trivial⟩, hS.F ht⟩) hS.2.2 dX11_wave_43
        · refine lv_iload_n hx hb dX11_wave_18 rfl (lv_at hl 3 rfl) ?_
          refine lv_if_lt (tgt := 41) hx hb dX11_wave_19 (by decide) (fun c_5 => ?_) (fun c_5 => ?_)
          · refine lv_bipush (v := (-2)) hx hb dX11_wave_41 (by decide) ?_
            have hpost : ((0 ≤ p0 ∧ p0 ≤ 3 ∧ 0 ≤ p1 ∧ p1 ≤ 1 ∧ 0 ≤ p2 ∧ p2 ≤ 9 ∧ p2 ≤ p3 ∧ p3 ≤ 9) ∧ ((-2) : Int32) = 0) ∨ ((¬ (0 ≤ p0 ∧ p0 ≤ 3 ∧ 0 ≤ p1 ∧ p1 ≤ 1 ∧ 0 ≤ p2 ∧ p2 ≤ 9 ∧ p2 ≤ p3 ∧ p3 ≤ 9)) ∧ ((-2) : Int32) = (-2)) := by
              try simp only [fa_lt, fa_le, fa_eq, fa_lt64, fa_le64, fa_eq64, Int32.reduceToInt, Int64.reduceToInt, zi_ite] at c_1
              try simp only [fa_lt, fa_le, fa_eq, fa_lt64, fa_le64, fa_eq64, Int32.reduceToInt, Int64.reduceToInt, zi_ite] at c_2
              try simp only [fa_lt, fa_le, fa_eq, fa_lt64, fa_le64, fa_eq64, Int32.reduceToInt, Int64.reduceToInt, zi_ite] at c_3
              try simp only [fa_lt, fa_le, fa_eq, fa_lt64, fa_le64, fa_eq64, Int32.reduceToInt, Int64.reduceToInt, zi_ite] at c_4
              try simp only [fa_lt, fa_le, fa_eq, fa_lt64, fa_le64, fa_eq64, Int32.reduceToInt, Int64.reduceToInt, zi_ite] at c_5
              first
              | exact Or.inl ⟨by (try simp only [fa_lt, fa_le, fa_eq, fa_lt64, fa_le64, fa_eq64, Int32.reduceToInt, Int64.reduceToInt, zi_ite]); omega, rfl⟩
              | exact Or.inr (⟨by (try simp only [fa_lt, fa_le, fa_eq, fa_lt64, fa_le64, fa_eq64, Int32.reduceToInt, Int64.reduceToInt, zi_ite]); omega, rfl⟩)
            refine W.widen (k := 0) (n := 0) (by decide +kernel) (by decide +kernel) ?_
            exact W.iret (v := (-2)) hx hb hr (fun t ht hW => ⟨⟨(-2), (), rfl, hpost, trivial⟩, hS.F ht⟩) hS.2.2 dX11_wave_43
          · refine lv_iload_n hx hb dX11_wave_22 rfl (lv_at hl 3 rfl) ?_
            refine lv_bipush (v := 9) hx hb dX11_wave_23 (by decide) ?_
            refine lv_icmp_gt (tgt := 41) hx hb dX11_wave_25 (by decide) (fun c_6 => ?_) (fun c_6 => ?_)
            · refine lv_bipush (v := (-2)) hx hb dX11_wave_41 (by decide) ?_
              have hpost : ((0 ≤ p0 ∧ p0 ≤ 3 ∧ 0 ≤ p1 ∧ p1 ≤ 1 ∧ 0 ≤ p2 ∧ p2 ≤ 9 ∧ p2 ≤ p3 ∧ p3 ≤ 9) ∧ ((-2) : Int32) = 0) ∨ ((¬ (0 ≤ p0 ∧ p0 ≤ 3 ∧ 0 ≤ p1 ∧ p1 ≤ 1 ∧ 0 ≤ p2 ∧ p2 ≤ 9 ∧ p2 ≤ p3 ∧ p3 ≤ 9)) ∧ ((-2) : Int32) = (-2)) := by
                try simp only [fa_lt, fa_le, fa_eq, fa_lt64, fa_le64, fa_eq64, Int32.reduceToInt, Int64.reduceToInt, zi_ite] at c_1
                try simp only [fa_lt, fa_le, fa_eq, fa_lt64, fa_le64, fa_eq64, Int32.reduceToInt, Int64.reduceToInt, zi_ite] at c_2
                try simp only [fa_lt, fa_le, fa_eq, fa_lt64, fa_le64, fa_eq64, Int32.reduceToInt, Int64.reduceToInt, zi_ite] at c_3
                try simp only [fa_lt, fa_le, fa_eq, fa_lt64, fa_le64, fa_eq64, Int32.reduceToInt, Int64.reduceToInt, zi_ite] at c_4
                try simp only [fa_lt, fa_le, fa_eq, fa_lt64, fa_le64, fa_eq64, Int32.reduceToInt, Int64.reduceToInt, zi_ite] at c_5
                try simp only [fa_lt, fa_le, fa_eq, fa_lt64, fa_le64, fa_eq64, Int32.reduceToInt, Int64.reduceToInt, zi_ite] at c_6
                first
                | exact Or.inl ⟨by (try simp only [fa_lt, fa_le, fa_eq, fa_lt64, fa_le64, fa_eq64, Int32.reduceToInt, Int64.reduceToInt, zi_ite]); omega, rfl⟩
                | exact Or.inr (⟨by (try simp only [fa_lt, fa_le, fa_eq, fa_lt64, fa_le64, fa_eq64, Int32.reduceToInt, Int64.reduceToInt, zi_ite]); omega, rfl⟩)
              refine W.widen (k := 0) (n := 0) (by decide +kernel) (by decide +kernel) ?_
              exact W.iret (v := (-2)) hx hb hr (fun t ht hW => ⟨⟨(-2), (), rfl, hpost, trivial⟩, hS.F ht⟩) hS.2.2 dX11_wave_43
            · refine lv_iload hx hb dX11_wave_28 (lv_at hl 4 rfl) ?_
              refine lv_iload_n hx hb dX11_wave_30 rfl (lv_at hl 3 rfl) ?_
              refine lv_icmp_lt (tgt := 41) hx hb dX11_wave_31 (by decide) (fun c_7 => ?_) (fun c_7 => ?_)
              · refine lv_bipush (v := (-2)) hx hb dX11_wave_41 (by decide) ?_
                have hpost : ((0 ≤ p0 ∧ p0 ≤ 3 ∧ 0 ≤ p1 ∧ p1 ≤ 1 ∧ 0 ≤ p2 ∧ p2 ≤ 9 ∧ p2 ≤ p3 ∧ p3 ≤ 9) ∧ ((-2) : Int32) = 0) ∨ ((¬ (0 ≤ p0 ∧ p0 ≤ 3 ∧ 0 ≤ p1 ∧ p1 ≤ 1 ∧ 0 ≤ p2 ∧ p2 ≤ 9 ∧ p2 ≤ p3 ∧ p3 ≤ 9)) ∧ ((-2) : Int32) = (-2)) := by
                  try simp only [fa_lt, fa_le, fa_eq, fa_lt64, fa_le64, fa_eq64, Int32.reduceToInt, Int64.reduceToInt, zi_ite] at c_1
                  try simp only [fa_lt, fa_le, fa_eq, fa_lt64, fa_le64, fa_eq64, Int32.reduceToInt, Int64.reduceToInt, zi_ite] at c_2
                  try simp only [fa_lt, fa_le, fa_eq, fa_lt64, fa_le64, fa_eq64, Int32.reduceToInt, Int64.reduceToInt, zi_ite] at c_3
                  try simp only [fa_lt, fa_le, fa_eq, fa_lt64, fa_le64, fa_eq64, Int32.reduceToInt, Int64.reduceToInt, zi_ite] at c_4
                  try simp only [fa_lt, fa_le, fa_eq, fa_lt64, fa_le64, fa_eq64, Int32.reduceToInt, Int64.reduceToInt, zi_ite] at c_5
                  try simp only [fa_lt, fa_le, fa_eq, fa_lt64, fa_le64, fa_eq64, Int32.reduceToInt, Int64.reduceToInt, zi_ite] at c_6
                  try simp only [fa_lt, fa_le, fa_eq, fa_lt64, fa_le64, fa_eq64, Int32.reduceToInt, Int64.reduceToInt, zi_ite] at c_7
                  first
                  | exact Or.inl ⟨by (try simp only [fa_lt, fa_le, fa_eq, fa_lt64, fa_le64, fa_eq64, Int32.reduceToInt, Int64.reduceToInt, zi_ite]); omega, rfl⟩
                  | exact Or.inr (⟨by (try simp only [fa_lt, fa_le, fa_eq, fa_lt64, fa_le64, fa_eq64, Int32.reduceToInt, Int64.reduceToInt, zi_ite]); omega, rfl⟩)
                refine W.widen (k := 0) (n := 0) (by decide +kernel) (by decide +kernel) ?_
                exact W.iret (v := (-2)) hx hb hr (fun t ht hW => ⟨⟨(-2), (), rfl, hpost, trivial⟩, hS.F ht⟩) hS.2.2 dX11_wave_43
              · refine lv_iload hx hb dX11_wave_34 (lv_at hl 4 rfl) ?_
                refine lv_bipush (v := 9) hx hb dX11_wave_36 (by decide) ?_
                refine lv_icmp_le (tgt := 44) hx hb dX11_wave_38 (by decide) (fun c_8 => ?_) (fun c_8 => ?_)
                · refine lv_aload_n hx hb dX11_wave_44 rfl (lv_at hl 0 rfl) ?_
                  refine va_get (D := (dC, dI)) (ci := 11) (v := .ref (ad 2)) (C := RX11) (T := TX11) (N := 13) hx hb hts (by decide +kernel) hown hK hP 0 rfl rfl 2 (by decide) (hts (.fieldLink RX11 25 "RedTent" "radio" "LRedTent$Radio;") (by decide +kernel)) (fun _ h9 => h9) rfl dX11_wave_45 ?_
                  refine lv_iconst (v := 2) hx hb dX11_wave_48 (by decide) ?_
                  refine lv_iload_n hx hb dX11_wave_49 rfl (lv_at hl 1 rfl) ?_
                  refine lv_imul hx hb dX11_wave_50 ?_
                  refine lv_topi (fun y_9 ey_9 => ?_)
                  have ty_9 : y_9.toInt = 2 * p0.toInt := by
                    try simp only [fa_lt, fa_le, fa_eq, fa_lt64, fa_le64, fa_eq64, Int32.reduceToInt, Int64.reduceToInt, zi_ite] at c_1
                    try simp only [fa_lt, fa_le, fa_eq, fa_lt64, fa_le64, fa_eq64, Int32.reduceToInt, Int64.reduceToInt, zi_ite] at c_2
                    try simp only [fa_lt, fa_le, fa_eq, fa_lt64, fa_le64, fa_eq64, Int32.reduceToInt, Int64.reduceToInt, zi_ite] at c_3
                    try simp only [fa_lt, fa_le, fa_eq, fa_lt64, fa_le64, fa_eq64, Int32.reduceToInt, Int64.reduceToInt, zi_ite] at c_4
                    try simp only [fa_lt, fa_le, fa_eq, fa_lt64, fa_le64, fa_eq64, Int32.reduceToInt, Int64.reduceToInt, zi_ite] at c_5
                    try simp only [fa_lt, fa_le, fa_eq, fa_lt64, fa_le64, fa_eq64, Int32.reduceToInt, Int64.reduceToInt, zi_ite] at c_6
                    try simp only [fa_lt, fa_le, fa_eq, fa_lt64, fa_le64, fa_eq64, Int32.reduceToInt, Int64.reduceToInt, zi_ite] at c_7
                    try simp only [fa_lt, fa_le, fa_eq, fa_lt64, fa_le64, fa_eq64, Int32.reduceToInt, Int64.reduceToInt, zi_ite] at c_8
                    rw [ey_9]; exact (zi_mul _ _ (by (try simp only [Int32.reduceToInt]) <;> omega) (by (try simp only [Int32.reduceToInt]) <;> omega))
                  refine lv_iload_n hx hb dX11_wave_51 rfl (lv_at hl 2 rfl) ?_
                  refine lv_iadd hx hb dX11_wave_52 ?_
                  refine lv_topi (fun y_10 ey_10 => ?_)
                  have ty_10 : y_10.toInt = y_9.toInt + p1.toInt := by
                    try simp only [fa_lt, fa_le, fa_eq, fa_lt64, fa_le64, fa_eq64, Int32.reduceToInt, Int64.reduceToInt, zi_ite] at c_1
                    try simp only [fa_lt, fa_le, fa_eq, fa_lt64, fa_le64, fa_eq64, Int32.reduceToInt, Int64.reduceToInt, zi_ite] at c_2
                    try simp only [fa_lt, fa_le, fa_eq, fa_lt64, fa_le64, fa_eq64, Int32.reduceToInt, Int64.reduceToInt, zi_ite] at c_3
                    try simp only [fa_lt, fa_le, fa_eq, fa_lt64, fa_le64, fa_eq64, Int32.reduceToInt, Int64.reduceToInt, zi_ite] at c_4
                    try simp only [fa_lt, fa_le, fa_eq, fa_lt64, fa_le64, fa_eq64, Int32.reduceToInt, Int64.reduceToInt, zi_ite] at c_5
                    try simp only [fa_lt, fa_le, fa_eq, fa_lt64, fa_le64, fa_eq64, Int32.reduceToInt, Int64.reduceToInt, zi_ite] at c_6
                    try simp only [fa_lt, fa_le, fa_eq, fa_lt64, fa_le64, fa_eq64, Int32.reduceToInt, Int64.reduceToInt, zi_ite] at c_7
                    try simp only [fa_lt, fa_le, fa_eq, fa_lt64, fa_le64, fa_eq64, Int32.reduceToInt, Int64.reduceToInt, zi_ite] at c_8
                    try simp only [fa_lt, fa_le, fa_eq, fa_lt64, fa_le64, fa_eq64, Int32.reduceToInt, Int64.reduceToInt, zi_ite] at ty_9
                    rw [ey_10]; exact (zi_add _ _ (by (try simp only [Int32.reduceToInt]) <;> omega) (by (try simp only [Int32.reduceToInt]) <;> omega))
                  refine lv_iload_n hx hb dX11_wave_53 rfl (lv_at hl 3 rfl) ?_
                  refine lv_iload hx hb dX11_wave_54 (lv_at hl 4 rfl) ?_
                  have hPc := hP.sub (ws' := [(ad 2, .inr (4, [.ref (ar 0), .int 0, .ref (ar 2), .ref (ar 3), .ref (ar 4), .ref (ar 5), .ref (ar 6), .ref (ar 7), .int 0, .ref (ar 9), .ref (ar 10), .ref (ar 11), .int 0])), (ar 2, .inl (cA, 8, .inl (fun _ => (0 : Int32)))), (ar 3, .inl (cB, 8, .inl (fun _ => (0 : Int32))))]) [1, 2, 3] rfl
                  have hKc := hK.sub (tys' := [(cA, .int), (cB, .int)]) [0, 1] rfl
                  have hDc := hD.sub (ws' := [(ad 2, .inr (4, [.ref (ar 0), .int 0, .ref (ar 2), .ref (ar 3), .ref (ar 4), .ref (ar 5), .ref (ar 6), .ref (ar 7), .int 0, .ref (ar 9), .ref (ar 10), .ref (ar 11), .int 0])), (ar 2, .inl (cA, 8, .inl (fun _ => (0 : Int32)))), (ar 3, .inl (cB, 8, .inl (fun _ => (0 : Int32))))]) [1, 2, 3] (by decide) rfl
                  have hFc := va_free (wc := [(ad 2, .inr (4, [.ref (ar 0), .int 0, .ref (ar 2), .ref (ar 3), .ref (ar 4), .ref (ar 5), .ref (ar 6), .ref (ar 7), .int 0, .ref (ar 9), .ref (ar 10), .ref (ar 11), .int 0])), (ar 2, .inl (cA, 8, .inl (fun _ => (0 : Int32)))), (ar 3, .inl (cB, 8, .inl (fun _ => (0 : Int32))))]) hD hS hA [1, 2, 3] rfl
                  refine va_calli (va_runV (As := [.int y_10, .int p2, .int p3]) (rest := []) ⟨hx, hb, hml, hown, hts⟩ (rt_X4_setWave l dC dI s.heap.size (ad 2) ar cA cB y_10 p2 p3 (by (try simp only [fa_lt, fa_le, fa_eq, fa_lt64, fa_le64, fa_eq64, Int32.reduceToInt, Int64.reduceToInt, zi_ite] at c_1 c_2 c_3 c_4 c_5 c_6 c_7 c_8 ty_9 ty_10 ⊢) <;> omega)) (cwV 3 hts gX11_wave_X4_setWave rfl rfl rfl (by decide +kernel) ⟨Nat.le_of_ble_eq_true rfl, Nat.le_of_ble_eq_true rfl⟩) ⟨fun a U g mk q => by obtain ⟨q0, q1, qP, qK, qD⟩ := q; exact ⟨q0, q1, qP, va_K.moved (u := U) (U := U.calling g mk a) (Vm.Alike.refl U.vm) qK, qD⟩, va_recv hKc hPc (ci := 4) (q0 := 0) rfl rfl, fun U hU hW => ⟨rfl, by rw [hU], by rw [hU]; exact hPc, va_K.moved hW.alike hKc, hDc.weaken (fun _ _ _ _ => trivial)⟩⟩ rfl rfl hl.1 rfl (lv_room (Nat.le_of_ble_eq_true rfl)) dX11_wave_56 ⟨by decide +kernel, by decide +kernel⟩) hS (fun q _ h => hFc q h) hFc (fun r_11 u t H1 locs ht hvm hr_11 hB hz1 hk1 hS => ?_)
                  obtain ⟨⟩ := u
                  have hP1 : va_P (dC, dI) vwCl [] H1 := fun k q h => by simp at h
                  have hD1 : va_D (va_A [(ad 2, .inr (4, [.ref (ar 0), .int 0, .ref (ar 2), .ref (ar 3), .ref (ar 4), .ref (ar 5), .ref (ar 6), .ref (ar 7), .int 0, .ref (ar 9), .ref (ar 10), .ref (ar 11), .int 0])), (ar 2, .inl (cA, 8, .inl (fun _ => (0 : Int32)))), (ar 3, .inl (cB, 8, .inl (fun _ => (0 : Int32))))] s.heap.size) [] := ⟨fun i j p q h => by simp at h, fun k q h => by simp at h⟩
                  obtain ⟨hP, hD⟩ := va_join (wr := [(h0, .inr (11, [.ref (ad 0), .ref (ad 1), .ref (ad 2), .ref (ad 3), .ref (ad 4), .ref (ad 5), .ref (ad 6), .ref (ad 7), .ref (ad 8), .int 0, .int 0, .int 0, .int 0]))]) (w1 := []) hP hD [1, 2, 3] [0] rfl rfl (by decide) (by decide) hk1 hFc hP1 hD1
                  generalize H1 = H at hP hS ⊢
                  have hP : va_P (dC, dI) vwCl [(h0, .inr (11, [.ref (ad 0), .ref (ad 1), .ref (ad 2), .ref (ad 3), .ref (ad 4), .ref (ad 5), .ref (ad 6), .ref (ad 7), .ref (ad 8), .int 0, .int 0, .int 0, .int 0]))] H := hP
                  have hD : va_D A [(h0, .inr (11, [.ref (ad 0), .ref (ad 1), .ref (ad 2), .ref (ad 3), .ref (ad 4), .ref (ad 5), .ref (ad 6), .ref (ad 7), .ref (ad 8), .int 0, .int 0, .int 0, .int 0]))] := hD
                  try dsimp only at hr_11
                  obtain rfl := hr_11
                  have hpost : ((0 ≤ p0 ∧ p0 ≤ 3 ∧ 0 ≤ p1 ∧ p1 ≤ 1 ∧ 0 ≤ p2 ∧ p2 ≤ 9 ∧ p2 ≤ p3 ∧ p3 ≤ 9) ∧ (0 : Int32) = 0) ∨ ((¬ (0 ≤ p0 ∧ p0 ≤ 3 ∧ 0 ≤ p1 ∧ p1 ≤ 1 ∧ 0 ≤ p2 ∧ p2 ≤ 9 ∧ p2 ≤ p3 ∧ p3 ≤ 9)) ∧ (0 : Int32) = (-2)) := by
                    try simp only [fa_lt, fa_le, fa_eq, fa_lt64, fa_le64, fa_eq64, Int32.reduceToInt, Int64.reduceToInt, zi_ite] at c_1
                    try simp only [fa_lt, fa_le, fa_eq, fa_lt64, fa_le64, fa_eq64, Int32.reduceToInt, Int64.reduceToInt, zi_ite] at c_2
                    try simp only [fa_lt, fa_le, fa_eq, fa_lt64, fa_le64, fa_eq64, Int32.reduceToInt, Int64.reduceToInt, zi_ite] at c_3
                    try simp only [fa_lt, fa_le, fa_eq, fa_lt64, fa_le64, fa_eq64, Int32.reduceToInt, Int64.reduceToInt, zi_ite] at c_4
                    try simp only [fa_lt, fa_le, fa_eq, fa_lt64, fa_le64, fa_eq64, Int32.reduceToInt, Int64.reduceToInt, zi_ite] at c_5
                    try simp only [fa_lt, fa_le, fa_eq, fa_lt64, fa_le64, fa_eq64, Int32.reduceToInt, Int64.reduceToInt, zi_ite] at c_6
                    try simp only [fa_lt, fa_le, fa_eq, fa_lt64, fa_le64, fa_eq64, Int32.reduceToInt, Int64.reduceToInt, zi_ite] at c_7
                    try simp only [fa_lt, fa_le, fa_eq, fa_lt64, fa_le64, fa_eq64, Int32.reduceToInt, Int64.reduceToInt, zi_ite] at c_8
                    try simp only [fa_lt, fa_le, fa_eq, fa_lt64, fa_le64, fa_eq64, Int32.reduceToInt, Int64.reduceToInt, zi_ite] at ty_9
                    try simp only [fa_lt, fa_le, fa_eq, fa_lt64, fa_le64, fa_eq64, Int32.reduceToInt, Int64.reduceToInt, zi_ite] at ty_10
                    first
                    | exact Or.inl ⟨by (try simp only [fa_lt, fa_le, fa_eq, fa_lt64, fa_le64, fa_eq64, Int32.reduceToInt, Int64.reduceToInt, zi_ite]); omega, rfl⟩
                    | exact Or.inr (⟨by (try simp only [fa_lt, fa_le, fa_eq, fa_lt64, fa_le64, fa_eq64, Int32.reduceToInt, Int64.reduceToInt, zi_ite]); omega, rfl⟩)
                  refine W.widen (k := 0) (n := 0) (by decide +kernel) (by decide +kernel) ?_
                  exact W.iret (v := 0) hx hb hr (fun t ht hW => ⟨⟨0, (), rfl, hpost, trivial⟩, hS.F ht⟩) hS.2.2 dX11_wave_59
                · refine lv_bipush (v := (-2)) hx hb dX11_wave_41 (by decide) ?_
                  have hpost : ((0 ≤ p0 ∧ p0 ≤ 3 ∧ 0 ≤ p1 ∧ p1 ≤ 1 ∧ 0 ≤ p2 ∧ p2 ≤ 9 ∧ p2 ≤ p3 ∧ p3 ≤ 9) ∧ ((-2) : Int32) = 0) ∨ ((¬ (0 ≤ p0 ∧ p0 ≤ 3 ∧ 0 ≤ p1 ∧ p1 ≤ 1 ∧ 0 ≤ p2 ∧ p2 ≤ 9 ∧ p2 ≤ p3 ∧ p3 ≤ 9)) ∧ ((-2) : Int32) = (-2)) := by
                    try simp only [fa_lt, fa_le, fa_eq, fa_lt64, fa_le64, fa_eq64, Int32.reduceToInt, Int64.reduceToInt, zi_ite] at c_1
                    try simp only [fa_lt, fa_le, fa_eq, fa_lt64, fa_le64, fa_eq64, Int32.reduceToInt, Int64.reduceToInt, zi_ite] at c_2
                    try simp only [fa_lt, fa_le, fa_eq, fa_lt64, fa_le64, fa_eq64, Int32.reduceToInt, Int64.reduceToInt, zi_ite] at c_3
                    try simp only [fa_lt, fa_le, fa_eq, fa_lt64, fa_le64, fa_eq64, Int32.reduceToInt, Int64.reduceToInt, zi_ite] at c_4
                    try simp only [fa_lt, fa_le, fa_eq, fa_lt64, fa_le64, fa_eq64, Int32.reduceToInt, Int64.reduceToInt, zi_ite] at c_5
                    try simp only [fa_lt, fa_le, fa_eq, fa_lt64, fa_le64, fa_eq64, Int32.reduceToInt, Int64.reduceToInt, zi_ite] at c_6
                    try simp only [fa_lt, fa_le, fa_eq, fa_lt64, fa_le64, fa_eq64, Int32.reduceToInt, Int64.reduceToInt, zi_ite] at c_7
                    try simp only [fa_lt, fa_le, fa_eq, fa_lt64, fa_le64, fa_eq64, Int32.reduceToInt, Int64.reduceToInt, zi_ite] at c_8
                    first
                    | exact Or.inl ⟨by (try simp only [fa_lt, fa_le, fa_eq, fa_lt64, fa_le64, fa_eq64, Int32.reduceToInt, Int64.reduceToInt, zi_ite]); omega, rfl⟩
                    | exact Or.inr (⟨by (try simp only [fa_lt, fa_le, fa_eq, fa_lt64, fa_le64, fa_eq64, Int32.reduceToInt, Int64.reduceToInt, zi_ite]); omega, rfl⟩)
                  refine W.widen (k := 0) (n := 0) (by decide +kernel) (by decide +kernel) ?_
                  exact W.iret (v := (-2)) hx hb hr (fun t ht hW => ⟨⟨(-2), (), rfl, hpost, trivial⟩, hS.F ht⟩) hS.2.2 dX11_wave_43
set_option maxHeartbeats 1000000 in
set_option maxRecDepth 100000 in
theorem rt_X6_addLane (l : Launch) (dC : Nat → ClassId) (dI : Nat → Nat → Nat) (sz : Nat) (h1 : Nat) (ae : Nat → Nat) (cA : ClassId) (f : Nat → Int64) (p0 : Int64) : Met l yX6_addLane wsX6_addLane ({ frames := 0, cells := 0, slots := 0, locals := 0 }) (va_Pc [.ref h1, .long p0] (fun U => U.heap.size = sz ∧ va_P (dC, dI) vwCl [(h1, .inr (6, [.ref (ae 0), .int 0, .ref (ae 2), .long 0, .ref (ae 4), .ref (ae 5), .long 0])), (ae 0, .inl (cA, 16, .inr (.inl f)))] U.heap ∧ va_K (dC, dI) vwCl [(cA, .long)] U ∧ va_D (fun _ => True) [(h1, .inr (6, [.ref (ae 0), .int 0, .ref (ae 2), .long 0, .ref (ae 4), .ref (ae 5), .long 0])), (ae 0, .inl (cA, 16, .inr (.inl f)))])) (va_Qi (fun (r : Int32) (u : Unit) => match u with | () => r = 0) (fun (u : Unit) (t : State) => match u with | () => True) (va_A [(h1, .inr (6, [.ref (ae 0), .int 0, .ref (ae 2), .long 0, .ref (ae 4), .ref (ae 5), .long 0])), (ae 0, .inl (cA, 16, .inr (.inl f)))] sz)) 0 0 (va_A [(h1, .inr (6, [.ref (ae 0), .int 0, .ref (ae 2), .long 0, .ref (ae 4), .ref (ae 5), .long 0])), (ae 0, .inl (cA, 16, .inr (.inl f)))] sz) := by
  refine Met.ofW (cc := cX6_addLane) (maxL := 3) (ret := (some .int)) (by decide) rfl ?_
  intro p e s m args below meth c s₁ B hml hv
  obtain ⟨rfl, hsz, hP, hK, hD0⟩ := hv
  have hx := B.exec
  have hb := B.bytes
  have hr := B.returns
  have hts := atoms_spec (ws := wsX6_addLane) B.pre
  have hown : s.vm.findClass RX6 = some m.cls := findClass_of_methodNamed B.named
  have hlocks := B.notSynchronized
  subst hsz
  have hD := hD0.self (sz := s.heap.size)
  generalize hAe : va_A [(h1, .inr (6, [.ref (ae 0), .int 0, .ref (ae 2), .long 0, .ref (ae 4), .ref (ae 5), .long 0])), (ae 0, .inl (cA, 16, .inr (.inl f)))] s.heap.size = A at hD  ⊢
  have hA : ∀ q : Nat, s.heap.size ≤ q → A q := fun q h => by rw [← hAe]; exact Or.inr h
  have hS : va_S A s.heap s.heap [] := va_S.rf
  have hl := lv_entry ([.ref h1, .long p0]) (n := 3) (Nat.le_of_ble_eq_true rfl)
  rw [lg_entry_eq]
  generalize (lg_sl ([.ref h1, .long p0]) ++ List.replicate (3 - (lg_sl ([.ref h1, .long p0])).length) Slot.unset).toArray = ls at hl ⊢
  have hl : lv_has ls 3 [(0, .ref h1), (1, .long p0)] := hl
  refine lv_aload_n hx hb dX6_addLane_0 rfl (lv_at hl 0 rfl) ?_
  refine va_get (D := (dC, dI)) (ci := 6) (v := .ref (ae 0)) (C := RX6) (T := TX6) (N := 7) hx hb hts (by decide +kernel) hown hK hP 0 rfl rfl 0 (by decide) (hts (.fieldLink RX6 9 "RedTent$Search" "lanes" "[J") (by decide +kernel)) (fun _ h9 => h9) rfl dX6_addLane_1 ?_
  refine lv_aload_n hx hb dX6_addLane_4 rfl (lv_at hl 0 rfl) ?_
  refine va_get (D := (dC, dI)) (ci := 6) (v := .int 0) (C := RX6) (T := TX6) (N := 7) hx hb hts (by decide +kernel) hown hK hP 0 rfl rfl 1 (by decide) (hts (.fieldLink RX6 25 "RedTent$Search" "laneCount" "I") (by decide +kernel)) (fun _ h9 => h9) rfl dX6_addLane_5 ?_
  refine lv_lload_n hx hb dX6_addLane_8 rfl (lv_at hl 1 rfl) ?_
  refine va_last hx hb hK hP hD hS 1 0 rfl rfl (by unfold vp_in; decide) dX6_addLane_9 (fun H locs hP hD hS => ?_)
  have hP : va_P (dC, dI) vwCl [(h1, .inr (6, [.ref (ae 0), .int 0, .ref (ae 2), .long 0, .ref (ae 4), .ref (ae 5), .long 0])), (ae 0, .inl (cA, 16, .inr (.inl (vp_updL f (0 : Int32).toNatClampNeg p0))))] H := hP
  have hD : va_D A [(h1, .inr (6, [.ref (ae 0), .int 0, .ref (ae 2), .long 0, .ref (ae 4), .ref (ae 5), .long 0])), (ae 0, .inl (cA, 16, .inr (.inl (vp_updL f (0 : Int32).toNatClampNeg p0))))] := hD
  refine lv_aload_n hx hb dX6_addLane_10 rfl (lv_at hl 0 rfl) ?_
  refine lv_dup hx hb dX6_addLane_11 rfl ?_
  refine va_get (D := (dC, dI)) (ci := 6) (v := .int 0) (C := RX6) (T := TX6) (N := 7) hx hb hts (by decide +kernel) hown hK hP 0 rfl rfl 1 (by decide) (hts (.fieldLink RX6 25 "RedTent$Search" "laneCount" "I") (by decide +kernel)) (fun _ h9 => h9) rfl dX6_addLane_12 ?_
  refine lv_dup_x1 hx hb dX6_addLane_15 rfl rfl ?_
  refine lv_iconst (v := 1) hx hb dX6_addLane_16 (by decide) ?_
  refine lv_iadd hx hb dX6_addLane_17 ?_
  refine lv_topi (fun y_1 ey_1 => ?_)
  obtain rfl : y_1 = 1 := ey_1.trans (by decide)
  refine va_put (D := (dC, dI)) (ci := 6) (v := .int 1) (ty := .int) (C := RX6) (T := TX6) (N := 7) hx hb hts (by decide +kernel) tyX6 tyX6_ok nmX6 hown hK hP hD hS 0 rfl rfl 1 (by decide) (hts (.fieldLink RX6 25 "RedTent$Search" "laneCount" "I") (by decide +kernel)) (fun _ h9 => h9) rfl (by decide +kernel) rfl rfl (Nat.le_of_ble_eq_true rfl) dX6_addLane_18 (fun H locs hP hD hS => ?_)
  have hP : va_P (dC, dI) vwCl [(h1, .inr (6, [.ref (ae 0), .int 1, .ref (ae 2), .long 0, .ref (ae 4), .ref (ae 5), .long 0])), (ae 0, .inl (cA, 16, .inr (.inl (vp_updL f (0 : Int32).toNatClampNeg p0))))] H := hP
  have hD : va_D A [(h1, .inr (6, [.ref (ae 0), .int 1, .ref (ae 2), .long 0, .ref (ae 4), .ref (ae 5), .long 0])), (ae 0, .inl (cA, 16, .inr (.inl (vp_updL f (0 : Int32).toNatClampNeg p0))))] := hD
  refine W.widen (k := 0) (n := 0) (by decide +kernel) (by decide +kernel) ?_
  exact W.iret (v := 0) hx hb hr (fun t ht hW => ⟨⟨0, (), rfl, rfl, trivial⟩, hS.F ht⟩) hS.2.2 dX6_addLane_21
set_option maxHeartbeats 1000000 in
set_option maxRecDepth 100000 in
theorem rt_X11_lane (l : Launch) (dC : Nat → ClassId) (dI : Nat → Nat → Nat) (sz : Nat) (h0 : Nat) (ad : Nat → Nat) (ae : Nat → Nat) (cA : ClassId) (f : Nat → Int64) (p0 : Int64) : Met l yX11_lane wsX11_lane ({ frames := 1, cells := 0, slots := 0, locals := 22 }) (va_Pc [.ref h0, .long p0] (fun U => U.heap.size = sz ∧ va_P (dC, dI) vwCl [(h0, .inr (11, [.ref (ad 0), .ref (ad 1), .ref (ad 2), .ref (ad 3), .ref (ad 4), .ref (ad 5), .ref (ad 6), .ref (ad 7), .ref (ad 8), .int 0, .int 0, .int 0, .int 0])), (ad 3, .inr (6, [.ref (ae 0), .int 0, .ref (ae 2), .long 0, .ref (ae 4), .ref (ae 5), .long 0])), (ae 0, .inl (cA, 16, .inr (.inl f)))] U.heap ∧ va_K (dC, dI) vwCl [(cA, .long)] U ∧ va_D (fun _ => True) [(h0, .inr (11, [.ref (ad 0), .ref (ad 1), .ref (ad 2), .ref (ad 3), .ref (ad 4), .ref (ad 5), .ref (ad 6), .ref (ad 7), .ref (ad 8), .int 0, .int 0, .int 0, .int 0])), (ad 3, .inr (6, [.ref (ae 0), .int 0, .ref (ae 2), .long 0, .ref (ae 4), .ref (ae 5), .long 0])), (ae 0, .inl (cA, 16, .inr (.inl f)))])) (va_Qi (fun (r : Int32) (u : Unit) => match u with | () => ((p0 = 0) ∧ r = (-2)) ∨ ((¬ p0 = 0) ∧ r = 0)) (fun (u : Unit) (t : State) => match u with | () => True) (va_A [(h0, .inr (11, [.ref (ad 0), .ref (ad 1), .ref (ad 2), .ref (ad 3), .ref (ad 4), .ref (ad 5), .ref (ad 6), .ref (ad 7), .ref (ad 8), .int 0, .int 0, .int 0, .int 0])), (ad 3, .inr (6, [.ref (ae 0), .int 0, .ref (ae 2), .long 0, .ref (ae 4), .ref (ae 5), .long 0])), (ae 0, .inl (cA, 16, .inr (.inl f)))] sz)) 0 0 (va_A [(h0, .inr (11, [.ref (ad 0), .ref (ad 1), .ref (ad 2), .ref (ad 3), .ref (ad 4), .ref (ad 5), .ref (ad 6), .ref (ad 7), .ref (ad 8), .int 0, .int 0, .int 0, .int 0])), (ad 3, .inr (6, [.ref (ae 0), .int 0, .ref (ae 2), .long 0, .ref (ae 4), .ref (ae 5), .long 0])), (ae 0, .inl (cA, 16, .inr (.inl f)))] sz) := by
  refine Met.ofW (cc := cX11_lane) (maxL := 3) (ret := (some .int)) (by decide) rfl ?_
  intro p e s m args below meth c s₁ B hml hv
  obtain ⟨rfl, hsz, hP, hK, hD0⟩ := hv
  have hx := B.exec
  have hb := B.bytes
  have hr := B.returns
  have hts := atoms_spec (ws := wsX11_lane) B.pre
  have hown : s.vm.findClass RX11 = some m.cls := findClass_of_methodNamed B.named
  have hlocks := B.notSynchronized
  subst hsz
  have hD := hD0.self (sz := s.heap.size)
  generalize hAe : va_A [(h0, .inr (11, [.ref (ad 0), .ref (ad 1), .ref (ad 2), .ref (ad 3), .ref (ad 4), .ref (ad 5), .ref (ad 6), .ref (ad 7), .ref (ad 8), .int 0, .int 0, .int 0, .int 0])), (ad 3, .inr (6, [.ref (ae 0), .int 0, .ref (ae 2), .long 0, .ref (ae 4), .ref (ae 5), .long 0])), (ae 0, .inl (cA, 16, .inr (.inl f)))] s.heap.size = A at hD  ⊢
  have hA : ∀ q : Nat, s.heap.size ≤ q → A q := fun q h => by rw [← hAe]; exact Or.inr h
  have hS : va_S A s.heap s.heap [] := va_S.rf
  have hl := lv_entry ([.ref h0, .long p0]) (n := 3) (Nat.le_of_ble_eq_true rfl)
  rw [lg_entry_eq]
  generalize (lg_sl ([.ref h0, .long p0]) ++ List.replicate (3 - (lg_sl ([.ref h0, .long p0])).length) Slot.unset).toArray = ls at hl ⊢
  have hl : lv_has ls 3 [(0, .ref h0), (1, .long p0)] := hl
  refine lv_lload_n hx hb dX11_lane_0 rfl (lv_at hl 1 rfl) ?_
  refine lv_lconst (v := 0) hx hb dX11_lane_1 (by decide) ?_
  refine W.lcmp hx hb dX11_lane_2 ?_
  refine lv_if_ne (tgt := 9) hx hb dX11_lane_3 (by decide) (fun c_1 => ?_) (fun c_1 => ?_)
  · refine lv_aload_n hx hb dX11_lane_9 rfl (lv_at hl 0 rfl) ?_
    refine va_get (D := (dC, dI)) (ci := 11) (v := .ref (ad 3)) (C := RX11) (T := TX11) (N := 13) hx hb hts (by decide +kernel) hown hK hP 0 rfl rfl 3 (by decide) (hts (.fieldLink RX11 32 "RedTent" "search" "LRedTent$Search;") (by decide +kernel)) (fun _ h9 => h9) rfl dX11_lane_10 ?_
    refine va_get (D := (dC, dI)) (ci := 6) (v := .int 0) (C := RX6) (T := TX6) (N := 7) hx hb hts (by decide +kernel) hown hK hP 1 rfl rfl 1 (by decide) (hts (.fieldLink RX11 207 "RedTent$Search" "laneCount" "I") (by decide +kernel)) (fun _ h9 => h9) rfl dX11_lane_13 ?_
    refine lv_bipush (v := 16) hx hb dX11_lane_16 (by decide) ?_
    refine lv_icmp_lt (tgt := 24) hx hb dX11_lane_18 (by decide) (fun _ => ?_) (fun c9 => absurd (by decide) c9)
    refine lv_aload_n hx hb dX11_lane_24 rfl (lv_at hl 0 rfl) ?_
    refine va_get (D := (dC, dI)) (ci := 11) (v := .ref (ad 3)) (C := RX11) (T := TX11) (N := 13) hx hb hts (by decide +kernel) hown hK hP 0 rfl rfl 3 (by decide) (hts (.fieldLink RX11 32 "RedTent" "search" "LRedTent$Search;") (by decide +kernel)) (fun _ h9 => h9) rfl dX11_lane_25 ?_
    refine lv_lload_n hx hb dX11_lane_28 rfl (lv_at hl 1 rfl) ?_
    have hPc := hP.sub (ws' := [(ad 3, .inr (6, [.ref (ae 0), .int 0, .ref (ae 2), .long 0, .ref (ae 4), .ref (ae 5), .long 0])), (ae 0, .inl (cA, 16, .inr (.inl f)))]) [1, 2] rfl
    have hKc := hK.sub (tys' := [(cA, .long)]) [0] rfl
    have hDc := hD.sub (ws' := [(ad 3, .inr (6, [.ref (ae 0), .int 0, .ref (ae 2), .long 0, .ref (ae 4), .ref (ae 5), .long 0])), (ae 0, .inl (cA, 16, .inr (.inl f)))]) [1, 2] (by decide) rfl
    have hFc := va_free (wc := [(ad 3, .inr (6, [.ref (ae 0), .int 0, .ref (ae 2), .long 0, .ref (ae 4), .ref (ae 5), .long 0])), (ae 0, .inl (cA, 16, .inr (.inl f)))]) hD hS hA [1, 2] rfl
    refine va_calli (va_runV (As := [.long p0]) (rest := []) ⟨hx, hb, hml, hown, hts⟩ (rt_X6_addLane l dC dI s.heap.size (ad 3) ae cA f p0) (cwV 1 hts gX11_lane_X6_addLane rfl rfl rfl (by decide +kernel) ⟨Nat.le_of_ble_eq_true rfl, Nat.le_of_ble_eq_true rfl⟩) ⟨fun a U g mk q => by obtain ⟨q0, q1, qP, qK, qD⟩ := q; exact ⟨q0, q1, qP, va_K.moved (u := U) (U := U.calling g mk a) (Vm.Alike.refl U.vm) qK, qD⟩, va_recv hKc hPc (ci := 6) (q0 := 0) rfl rfl, fun U hU hW => ⟨rfl, by rw [hU], by rw [hU]; exact hPc, va_K.moved hW.alike hKc, hDc.weaken (fun _ _ _ _ => trivial)⟩⟩ rfl rfl hl.1 rfl (lv_room (Nat.le_of_ble_eq_true rfl)) dX11_lane_29 ⟨by decide +kernel, by decide +kernel⟩) hS (fun q _ h => hFc q h) hFc (fun r_2 u t H1 locs ht hvm hr_2 hB hz1 hk1 hS => ?_)
    obtain ⟨⟩ := u
    have hP1 : va_P (dC, dI) vwCl [] H1 := fun k q h => by simp at h
    have hD1 : va_D (va_A [(ad 3, .inr (6, [.ref (ae 0), .int 0, .ref (ae 2), .long 0, .ref (ae 4), .ref (ae 5), .long 0])), (ae 0, .inl (cA, 16, .inr (.inl f)))] s.heap.size) [] := ⟨fun i j p q h => by simp at h, fun k q h => by simp at h⟩
    obtain ⟨hP, hD⟩ := va_join (wr := [(h0, .inr (11, [.ref (ad 0), .ref (ad 1), .ref (ad 2), .ref (ad 3), .ref (ad 4), .ref (ad 5), .ref (ad 6), .ref (ad 7), .ref (ad 8), .int 0, .int 0, .int 0, .int 0]))]) (w1 := []) hP hD [1, 2] [0] rfl rfl (by decide) (by decide) hk1 hFc hP1 hD1
    generalize H1 = H at hP hS ⊢
    have hP : va_P (dC, dI) vwCl [(h0, .inr (11, [.ref (ad 0), .ref (ad 1), .ref (ad 2), .ref (ad 3), .ref (ad 4), .ref (ad 5), .ref (ad 6), .ref (ad 7), .ref (ad 8), .int 0, .int 0, .int 0, .int 0]))] H := hP
    have hD : va_D A [(h0, .inr (11, [.ref (ad 0), .ref (ad 1), .ref (ad 2), .ref (ad 3), .ref (ad 4), .ref (ad 5), .ref (ad 6), .ref (ad 7), .ref (ad 8), .int 0, .int 0, .int 0, .int 0]))] := hD
    try dsimp only at hr_2
    obtain rfl := hr_2
    have hpost : ((p0 = 0) ∧ (0 : Int32) = (-2)) ∨ ((¬ p0 = 0) ∧ (0 : Int32) = 0) := by
      try simp only [lg_cmp_ge, lg_cmp_le, lg_cmp_gt, lg_cmp_lt, lg_cmp_eq] at c_1
      try simp only [fa_lt, fa_le, fa_eq, fa_lt64, fa_le64, fa_eq64, Int32.reduceToInt, Int64.reduceToInt, zi_ite] at c_1
      first
      | exact Or.inl ⟨by (try simp only [fa_lt, fa_le, fa_eq, fa_lt64, fa_le64, fa_eq64, Int32.reduceToInt, Int64.reduceToInt, zi_ite]); omega, rfl⟩
      | exact Or.inr (⟨by (try simp only [fa_lt, fa_le, fa_eq, fa_lt64, fa_le64, fa_eq64, Int32.reduceToInt, Int64.reduceToInt, zi_ite]); omega, rfl⟩)
    refine W.widen (k := 0) (n := 0) (by decide +kernel) (by decide +kernel) ?_
    exact W.iret (v := 0) hx hb hr (fun t ht hW => ⟨⟨0, (), rfl, hpost, trivial⟩, hS.F ht⟩) hS.2.2 dX11_lane_32
  · refine lv_bipush (v := (-2)) hx hb dX11_lane_6 (by decide) ?_
    have hpost : ((p0 = 0) ∧ ((-2) : Int32) = (-2)) ∨ ((¬ p0 = 0) ∧ ((-2) : Int32) = 0) := by
      try simp only [lg_cmp_ge, lg_cmp_le, lg_cmp_gt, lg_cmp_lt, lg_cmp_eq] at c_1
      try simp only [fa_lt, fa_le, fa_eq, fa_lt64, fa_le64, fa_eq64, Int32.reduceToInt, Int64.reduceToInt, zi_ite] at c_1
      first
      | exact Or.inl ⟨by (try simp only [fa_lt, fa_le, fa_eq, fa_lt64, fa_le64, fa_eq64, Int32.reduceToInt, Int64.reduceToInt, zi_ite]); omega, rfl⟩
      | exact Or.inr (⟨by (try simp only [fa_lt, fa_le, fa_eq, fa_lt64, fa_le64, fa_eq64, Int32.reduceToInt, Int64.reduceToInt, zi_ite]); omega, rfl⟩)
    refine W.widen (k := 0) (n := 0) (by decide +kernel) (by decide +kernel) ?_
    exact W.iret (v := (-2)) hx hb hr (fun t ht hW => ⟨⟨(-2), (), rfl, hpost, trivial⟩, hS.F ht⟩) hS.2.2 dX11_lane_8
set_option maxHeartbeats 1000000 in
set_option maxRecDepth 100000 in
theorem rt_X11_force (l : Launch) (dC : Nat → ClassId) (dI : Nat → Nat → Nat) (sz : Nat) (h0 : Nat) (ad : Nat → Nat) (ao : Nat → Nat) (p0 : Int32) : Met l yX11_force wsX11_force ({ frames := 0, cells := 0, slots := 0, locals := 0 }) (va_Pc [.ref h0, .int p0] (fun U => U.heap.size = sz ∧ va_P (dC, dI) vwCl [(h0, .inr (11, [.ref (ad 0), .ref (ad 1), .ref (ad 2), .ref (ad 3), .ref (ad 4), .ref (ad 5), .ref (ad 6), .ref (ad 7), .ref (ad 8), .int 0, .int 0, .int 0, .int 0])), (ad 5, .inr (3, [.ref (ao 0), .int 0, .ref (ao 2), .int 1, .int 0, .ref (ao 5), .ref (ao 6), .ref (ao 7)]))] U.heap ∧ va_K (dC, dI) vwCl [] U ∧ va_D (fun _ => True) [(h0, .inr (11, [.ref (ad 0), .ref (ad 1), .ref (ad 2), .ref (ad 3), .ref (ad 4), .ref (ad 5), .ref (ad 6), .ref (ad 7), .ref (ad 8), .int 0, .int 0, .int 0, .int 0])), (ad 5, .inr (3, [.ref (ao 0), .int 0, .ref (ao 2), .int 1, .int 0, .ref (ao 5), .ref (ao 6), .ref (ao 7)]))])) (va_Qi (fun (r : Int32) (u : Unit) => match u with | () => ((p0 = 0) ∧ r = 0) ∨ ((¬ p0 = 0) ∧ r = (-2))) (fun (u : Unit) (t : State) => match u with | () => True) (va_A [(h0, .inr (11, [.ref (ad 0), .ref (ad 1), .ref (ad 2), .ref (ad 3), .ref (ad 4), .ref (ad 5), .ref (ad 6), .ref (ad 7), .ref (ad 8), .int 0, .int 0, .int 0, .int 0])), (ad 5, .inr (3, [.ref (ao 0), .int 0, .ref (ao 2), .int 1, .int 0, .ref (ao 5), .ref (ao 6), .ref (ao 7)]))] sz)) 0 0 (va_A [(h0, .inr (11, [.ref (ad 0), .ref (ad 1), .ref (ad 2), .ref (ad 3), .ref (ad 4), .ref (ad 5), .ref (ad 6), .ref (ad 7), .ref (ad 8), .int 0, .int 0, .int 0, .int 0])), (ad 5, .inr (3, [.ref (ao 0), .int 0, .ref (ao 2), .int 1, .int 0, .ref (ao 5), .ref (ao 6), .ref (ao 7)]))] sz) := by
  refine Met.ofW (cc := cX11_force) (maxL := 3) (ret := (some .int)) (by decide) rfl ?_
  intro p e s m args below meth c s₁ B hml hv
  obtain ⟨rfl, hsz, hP, hK, hD0⟩ := hv
  have hx := B.exec
  have hb := B.bytes
  have hr := B.returns
  have hts := atoms_spec (ws := wsX11_force) B.pre
  have hown : s.vm.findClass RX11 = some m.cls := findClass_of_methodNamed B.named
  have hlocks := B.notSynchronized
  subst hsz
  have hD := hD0.self (sz := s.heap.size)
  generalize hAe : va_A [(h0, .inr (11, [.ref (ad 0), .ref (ad 1), .ref (ad 2), .ref (ad 3), .ref (ad 4), .ref (ad 5), .ref (ad 6), .ref (ad 7), .ref (ad 8), .int 0, .int 0, .int 0, .int 0])), (ad 5, .inr (3, [.ref (ao 0), .int 0, .ref (ao 2), .int 1, .int 0, .ref (ao 5), .ref (ao 6), .ref (ao 7)]))] s.heap.size = A at hD  ⊢
  have hA : ∀ q : Nat, s.heap.size ≤ q → A q := fun q h => by rw [← hAe]; exact Or.inr h
  have hS : va_S A s.heap s.heap [] := va_S.rf
  have hl := lv_entry ([.ref h0, .int p0]) (n := 3) (Nat.le_of_ble_eq_true rfl)
  rw [lg_entry_eq]
  generalize (lg_sl ([.ref h0, .int p0]) ++ List.replicate (3 - (lg_sl ([.ref h0, .int p0])).length) Slot.unset).toArray = ls at hl ⊢
  have hl : lv_has ls 3 [(0, .ref h0), (1, .int p0)] := hl
  refine lv_iload_n hx hb dX11_force_0 rfl (lv_at hl 1 rfl) ?_
  refine lv_if_lt (tgt := 15) hx hb dX11_force_1 (by decide) (fun c_1 => ?_) (fun c_1 => ?_)
  · refine lv_bipush (v := (-2)) hx hb dX11_force_15 (by decide) ?_
    have hpost : ((p0 = 0) ∧ ((-2) : Int32) = 0) ∨ ((¬ p0 = 0) ∧ ((-2) : Int32) = (-2)) := by
      try simp only [fa_lt, fa_le, fa_eq, fa_lt64, fa_le64, fa_eq64, Int32.reduceToInt, Int64.reduceToInt, zi_ite] at c_1
      first
      | exact Or.inl ⟨by (try simp only [fa_lt, fa_le, fa_eq, fa_lt64, fa_le64, fa_eq64, Int32.reduceToInt, Int64.reduceToInt, zi_ite]); omega, rfl⟩
      | exact Or.inr (⟨by (try simp only [fa_lt, fa_le, fa_eq, fa_lt64, fa_le64, fa_eq64, Int32.reduceToInt, Int64.reduceToInt, zi_ite]); omega, rfl⟩)
    refine W.widen (k := 0) (n := 0) (by decide +kernel) (by decide +kernel) ?_
    exact W.iret (v := (-2)) hx hb hr (fun t ht hW => ⟨⟨(-2), (), rfl, hpost, trivial⟩, hS.F ht⟩) hS.2.2 dX11_force_17
  · refine lv_iload_n hx hb dX11_force_4 rfl (lv_at hl 1 rfl) ?_
    refine lv_aload_n hx hb dX11_force_5 rfl (lv_at hl 0 rfl) ?_
    refine va_get (D := (dC, dI)) (ci := 11) (v := .ref (ad 5)) (C := RX11) (T := TX11) (N := 13) hx hb hts (by decide +kernel) hown hK hP 0 rfl rfl 5 (by decide) (hts (.fieldLink RX11 46 "RedTent" "orders" "LRedTent$Orders;") (by decide +kernel)) (fun _ h9 => h9) rfl dX11_force_6 ?_
    refine va_get (D := (dC, dI)) (ci := 3) (v := .int 1) (C := RX3) (T := TX3) (N := 8) hx hb hts (by decide +kernel) hown hK hP 1 rfl rfl 3 (by decide) (hts (.fieldLink RX11 280 "RedTent$Orders" "textCount" "I") (by decide +kernel)) (fun _ h9 => h9) rfl dX11_force_9 ?_
    refine lv_icmp_lt (tgt := 18) hx hb dX11_force_12 (by decide) (fun c_2 => ?_) (fun c_2 => ?_)
    · refine lv_aload_n hx hb dX11_force_18 rfl (lv_at hl 0 rfl) ?_
      refine va_get (D := (dC, dI)) (ci := 11) (v := .ref (ad 5)) (C := RX11) (T := TX11) (N := 13) hx hb hts (by decide +kernel) hown hK hP 0 rfl rfl 5 (by decide) (hts (.fieldLink RX11 46 "RedTent" "orders" "LRedTent$Orders;") (by decide +kernel)) (fun _ h9 => h9) rfl dX11_force_19 ?_
      refine va_get (D := (dC, dI)) (ci := 3) (v := .int 0) (C := RX3) (T := TX3) (N := 8) hx hb hts (by decide +kernel) hown hK hP 1 rfl rfl 4 (by decide) (hts (.fieldLink RX11 283 "RedTent$Orders" "inForce" "I") (by decide +kernel)) (fun _ h9 => h9) rfl dX11_force_22 ?_
      refine lv_istore_n (lv' := [(2, .int 0), (0, .ref h0), (1, .int p0)]) hx hb dX11_force_25 rfl hl (by decide) rfl (fun ls hl => ?_)
      refine lv_aload_n hx hb dX11_force_26 rfl (lv_at hl 1 rfl) ?_
      refine va_get (D := (dC, dI)) (ci := 11) (v := .ref (ad 5)) (C := RX11) (T := TX11) (N := 13) hx hb hts (by decide +kernel) hown hK hP 0 rfl rfl 5 (by decide) (hts (.fieldLink RX11 46 "RedTent" "orders" "LRedTent$Orders;") (by decide +kernel)) (fun _ h9 => h9) rfl dX11_force_27 ?_
      refine lv_iload_n hx hb dX11_force_30 rfl (lv_at hl 2 rfl) ?_
      refine va_put (D := (dC, dI)) (ci := 3) (v := .int p0) (ty := .int) (C := RX3) (T := TX3) (N := 8) hx hb hts (by decide +kernel) tyX3 tyX3_ok nmX3 hown hK hP hD hS 1 rfl rfl 4 (by decide) (hts (.fieldLink RX11 283 "RedTent$Orders" "inForce" "I") (by decide +kernel)) (fun _ h9 => h9) rfl (by decide +kernel) rfl rfl (Nat.le_of_ble_eq_true rfl) dX11_force_31 (fun H locs hP hD hS => ?_)
      have hP : va_P (dC, dI) vwCl [(h0, .inr (11, [.ref (ad 0), .ref (ad 1), .ref (ad 2), .ref (ad 3), .ref (ad 4), .ref (ad 5), .ref (ad 6), .ref (ad 7), .ref (ad 8), .int 0, .int 0, .int 0, .int 0])), (ad 5, .inr (3, [.ref (ao 0), .int 0, .ref (ao 2), .int 1, .int p0, .ref (ao 5), .ref (ao 6), .ref (ao 7)]))] H := hP
      have hD : va_D A [(h0, .inr (11, [.ref (ad 0), .ref (ad 1), .ref (ad 2), .ref (ad 3), .ref (ad 4), .ref (ad 5), .ref (ad 6), .ref (ad 7), .ref (ad 8), .int 0, .int 0, .int 0, .int 0])), (ad 5, .inr (3, [.ref (ao 0), .int 0, .ref (ao 2), .int 1, .int p0, .ref (ao 5), .ref (ao 6), .ref (ao 7)]))] := hD
      refine lv_iload_n hx hb dX11_force_34 rfl (lv_at hl 0 rfl) ?_
      have hpost : ((p0 = 0) ∧ (0 : Int32) = 0) ∨ ((¬ p0 = 0) ∧ (0 : Int32) = (-2)) := by
        try simp only [fa_lt, fa_le, fa_eq, fa_lt64, fa_le64, fa_eq64, Int32.reduceToInt, Int64.reduceToInt, zi_ite] at c_1
        try simp only [fa_lt, fa_le, fa_eq, fa_lt64, fa_le64, fa_eq64, Int32.reduceToInt, Int64.reduceToInt, zi_ite] at c_2
        first
        | exact Or.inl ⟨by (try simp only [fa_lt, fa_le, fa_eq, fa_lt64, fa_le64, fa_eq64, Int32.reduceToInt, Int64.reduceToInt, zi_ite]); omega, rfl⟩
        | exact Or.inr (⟨by (try simp only [fa_lt, fa_le, fa_eq, fa_lt64, fa_le64, fa_eq64, Int32.reduceToInt, Int64.reduceToInt, zi_ite]); omega, rfl⟩)
      refine W.widen (k := 0) (n := 0) (by decide +kernel) (by decide +kernel) ?_
      exact W.iret (v := 0) hx hb hr (fun t ht hW => ⟨⟨0, (), rfl, hpost, trivial⟩, hS.F ht⟩) hS.2.2 dX11_force_35
    · refine lv_bipush (v := (-2)) hx hb dX11_force_15 (by decide) ?_
      have hpost : ((p0 = 0) ∧ ((-2) : Int32) = 0) ∨ ((¬ p0 = 0) ∧ ((-2) : Int32) = (-2)) := by
        try simp only [fa_lt, fa_le, fa_eq, fa_lt64, fa_le64, fa_eq64, Int32.reduceToInt, Int64.reduceToInt, zi_ite] at c_1
        try simp only [fa_lt, fa_le, fa_eq, fa_lt64, fa_le64, fa_eq64, Int32.reduceToInt, Int64.reduceToInt, zi_ite] at c_2
        first
        | exact Or.inl ⟨by (try simp only [fa_lt, fa_le, fa_eq, fa_lt64, fa_le64, fa_eq64, Int32.reduceToInt, Int64.reduceToInt, zi_ite]); omega, rfl⟩
        | exact Or.inr (⟨by (try simp only [fa_lt, fa_le, fa_eq, fa_lt64, fa_le64, fa_eq64, Int32.reduceToInt, Int64.reduceToInt, zi_ite]); omega, rfl⟩)
      refine W.widen (k := 0) (n := 0) (by decide +kernel) (by decide +kernel) ?_
      exact W.iret (v := (-2)) hx hb hr (fun t ht hW => ⟨⟨(-2), (), rfl, hpost, trivial⟩, hS.F ht⟩) hS.2.2 dX11_force_17
set_option maxHeartbeats 1000000 in
set_option maxRecDepth 100000 in
theorem rt_X11_count (l : Launch) (dC : Nat → ClassId) (dI : Nat → Nat → Nat) (h0 : Nat) (ad : Nat → Nat) (aw ar ae ac ao at_ ak : Nat → Nat) (p0 : Int32) : Met l yX11_count wsX11_count ({ frames := 0, cells := 0, slots := 0, locals := 0 }) (va_Pc [.ref h0, .int p0] (fun U => va_P (dC, dI) vwCl [(h0, .inr (11, [.ref (ad 0), .ref (ad 1), .ref (ad 2), .ref (ad 3), .ref (ad 4), .ref (ad 5), .ref (ad 6), .ref (ad 7), .ref (ad 8), .int 0, .int 0, .int 0, .int 0])), (ad 0, .inr (10, [.ref (aw 0), .ref (aw 1), .int 0, .int 0])), (ad 2, .inr (4, [.ref (ar 0), .int 0, .ref (ar 2), .ref (ar 3), .ref (ar 4), .ref (ar 5), .ref (ar 6), .ref (ar 7), .int 0, .ref (ar 9), .ref (ar 10), .ref (ar 11), .int 0])), (ad 3, .inr (6, [.ref (ae 0), .int 0, .ref (ae 2), .long 0, .ref (ae 4), .ref (ae 5), .long 0])), (ad 4, .inr (2, [.ref (ac 0), .ref (ac 1), .ref (ac 2), .ref (ac 3), .ref (ac 4), .int 0])), (ad 5, .inr (3, [.ref (ao 0), .int 0, .ref (ao 2), .int 1, .int 0, .ref (ao 5), .ref (ao 6), .ref (ao 7)])), (ad 6, .inr (8, [.ref (at_ 0), .ref (at_ 1), .ref (at_ 2), .int 0])), (ad 7, .inr (1, [.ref (ak 0), .int 0, .int 0, .int 0]))] U.heap ∧ va_K (dC, dI) vwCl [] U)) (vp_Si (fun r : Int32 => ((p0 = 11) ∧ r = 1) ∨ ((0 ≤ p0 ∧ p0 ≤ 14 ∧ ¬ p0 = 11) ∧ r = 0) ∨ ((¬ (0 ≤ p0 ∧ p0 ≤ 14)) ∧ r = (-2)))) 0 0 (fun _ => False) := by
  refine Met.ofW (cc := cX11_count) (maxL := 2) (ret := (some .int)) (by decide) rfl ?_
  intro p e s m args below meth c s₁ B hml hv
  obtain ⟨rfl, hP, hK⟩ := hv
  have hx := B.exec
  have hb := B.bytes
  have hr := B.returns
  have hts := atoms_spec (ws := wsX11_count) B.pre
  have hown : s.vm.findClass RX11 = some m.cls := findClass_of_methodNamed B.named
  have hlocks := B.notSynchronized
  have hl := lv_entry ([.ref h0, .int p0]) (n := 2) (Nat.le_of_ble_eq_true rfl)
  rw [lg_entry_eq]
  generalize (lg_sl ([.ref h0, .int p0]) ++ List.replicate (2 - (lg_sl ([.ref h0, .int p0])).length) Slot.unset).toArray = ls at hl ⊢
  have hl : lv_has ls 2 [(0, .ref h0), (1, .int p0)] := hl
  refine lv_iload_n hx hb dX11_count_0 rfl (lv_at hl 1 rfl) ?_
  rcases (show p0.toInt < 0 ∨ 14 < p0.toInt ∨ p0 = 0 ∨ p0 = 1 ∨ p0 = 2 ∨ p0 = 3 ∨ p0 = 4 ∨ p0 = 5 ∨ p0 = 6 ∨ p0 = 7 ∨ p0 = 8 ∨ p0 = 9 ∨ p0 = 10 ∨ p0 = 11 ∨ p0 = 12 ∨ p0 = 13 ∨ p0 = 14 by simp only [fa_eq, Int32.reduceToInt]; omega) with c_1 | c_1 | c_1 | c_1 | c_1 | c_1 | c_1 | c_1 | c_1 | c_1 | c_1 | c_1 | c_1 | c_1 | c_1 | c_1 | c_1
  · refine lv_tableOut (tgt := 184) hx hb dX11_count_1 (Or.inl c_1) (by decide) ?_
    refine lv_bipush (v := (-2)) hx hb dX11_count_184 (by decide) ?_
    have hpost : ((p0 = 11) ∧ ((-2) : Int32) = 1) ∨ ((0 ≤ p0 ∧ p0 ≤ 14 ∧ ¬ p0 = 11) ∧ ((-2) : Int32) = 0) ∨ ((¬ (0 ≤ p0 ∧ p0 ≤ 14)) ∧ ((-2) : Int32) = (-2)) := by
      try simp only [fa_lt, fa_le, fa_eq, fa_lt64, fa_le64, fa_eq64, Int32.reduceToInt, Int64.reduceToInt, zi_ite] at c_1
      first
      | exact Or.inl ⟨by (try simp only [fa_lt, fa_le, fa_eq, fa_lt64, fa_le64, fa_eq64, Int32.reduceToInt, Int64.reduceToInt, zi_ite]); omega, rfl⟩
      | exact Or.inr (Or.inl ⟨by (try simp only [fa_lt, fa_le, fa_eq, fa_lt64, fa_le64, fa_eq64, Int32.reduceToInt, Int64.reduceToInt, zi_ite]); omega, rfl⟩)
      | exact Or.inr (Or.inr (⟨by (try simp only [fa_lt, fa_le, fa_eq, fa_lt64, fa_le64, fa_eq64, Int32.reduceToInt, Int64.reduceToInt, zi_ite]); omega, rfl⟩))
    exact W.iret (v := (-2)) hx hb hr (fun t ht hW => ⟨(-2), rfl, hpost, ht⟩) (fun _ h => absurd h List.not_mem_nil) dX11_count_186
  · refine lv_tableOut (tgt := 184) hx hb dX11_count_1 (Or.inr c_1) (by decide) ?_
    refine lv_bipush (v := (-2)) hx hb dX11_count_184 (by decide) ?_
    have hpost : ((p0 = 11) ∧ ((-2) : Int32) = 1) ∨ ((0 ≤ p0 ∧ p0 ≤ 14 ∧ ¬ p0 = 11) ∧ ((-2) : Int32) = 0) ∨ ((¬ (0 ≤ p0 ∧ p0 ≤ 14)) ∧ ((-2) : Int32) = (-2)) := by
      try simp only [fa_lt, fa_le, fa_eq, fa_lt64, fa_le64, fa_eq64, Int32.reduceToInt, Int64.reduceToInt, zi_ite] at c_1
      first
      | exact Or.inl ⟨by (try simp only [fa_lt, fa_le, fa_eq, fa_lt64, fa_le64, fa_eq64, Int32.reduceToInt, Int64.reduceToInt, zi_ite]); omega, rfl⟩
      | exact Or.inr (Or.inl ⟨by (try simp only [fa_lt, fa_le, fa_eq, fa_lt64, fa_le64, fa_eq64, Int32.reduceToInt, Int64.reduceToInt, zi_ite]); omega, rfl⟩)
      | exact Or.inr (Or.inr (⟨by (try simp only [fa_lt, fa_le, fa_eq, fa_lt64, fa_le64, fa_eq64, Int32.reduceToInt, Int64.reduceToInt, zi_ite]); omega, rfl⟩))
    exact W.iret (v := (-2)) hx hb hr (fun t ht hW => ⟨(-2), rfl, hpost, ht⟩) (fun _ h => absurd h List.not_mem_nil) dX11_count_186
  · refine lv_tableIn (off := 75) (tgt := 76) hx hb dX11_count_1 (by rw [c_1]; decide) (by rw [c_1]; decide) (by rw [c_1]; decide) (by decide) ?_
    refine lv_aload_n hx hb dX11_count_76 rfl (lv_at hl 0 rfl) ?_
    refine va_get (D := (dC, dI)) (ci := 11) (v := .int 0) (C := RX11) (T := TX11) (N := 13) hx hb hts (by decide +kernel) hown hK hP 0 rfl rfl 9 (by decide) (hts (.fieldLink RX11 71 "RedTent" "now" "I") (by decide +kernel)) (fun _ h9 => h9) rfl dX11_count_77 ?_
    have hpost : ((p0 = 11) ∧ (0 : Int32) = 1) ∨ ((0 ≤ p0 ∧ p0 ≤ 14 ∧ ¬ p0 = 11) ∧ (0 : Int32) = 0) ∨ ((¬ (0 ≤ p0 ∧ p0 ≤ 14)) ∧ (0 : Int32) = (-2)) := by
      try simp only [fa_lt, fa_le, fa_eq, fa_lt64, fa_le64, fa_eq64, Int32.reduceToInt, Int64.reduceToInt, zi_ite] at c_1
      first
      | exact Or.inl ⟨by (try simp only [fa_lt, fa_le, fa_eq, fa_lt64, fa_le64, fa_eq64, Int32.reduceToInt, Int64.reduceToInt, zi_ite]); omega, rfl⟩
      | exact Or.inr (Or.inl ⟨by (try simp only [fa_lt, fa_le, fa_eq, fa_lt64, fa_le64, fa_eq64, Int32.reduceToInt, Int64.reduceToInt, zi_ite]); omega, rfl⟩)
      | exact Or.inr (Or.inr (⟨by (try simp only [fa_lt, fa_le, fa_eq, fa_lt64, fa_le64, fa_eq64, Int32.reduceToInt, Int64.reduceToInt, zi_ite]); omega, rfl⟩))
    exact W.iret (v := 0) hx hb hr (fun t ht hW => ⟨0, rfl, hpost, ht⟩) (fun _ h => absurd h List.not_mem_nil) dX11_count_80
  · refine lv_tableIn (off := 80) (tgt := 81) hx hb dX11_count_1 (by rw [c_1]; decide) (by rw [c_1]; decide) (by rw [c_1]; decide) (by decide) ?_
    refine lv_aload_n hx hb dX11_count_81 rfl (lv_at hl 0 rfl) ?_
    refine va_get (D := (dC, dI)) (ci := 11) (v := .int 0) (C := RX11) (T := TX11) (N := 13) hx hb hts (by decide +kernel) hown hK hP 0 rfl rfl 10 (by decide) (hts (.fieldLink RX11 75 "RedTent" "bodyCount" "I") (by decide +kernel)) (fun _ h9 => h9) rfl dX11_count_82 ?_
    have hpost : ((p0 = 11) ∧ (0 : Int32) = 1) ∨ ((0 ≤ p0 ∧ p0 ≤ 14 ∧ ¬ p0 = 11) ∧ (0 : Int32) = 0) ∨ ((¬ (0 ≤ p0 ∧ p0 ≤ 14)) ∧ (0 : Int32) = (-2)) := by
      try simp only [fa_lt, fa_le, fa_eq, fa_lt64, fa_le64, fa_eq64, Int32.reduceToInt, Int64.reduceToInt, zi_ite] at c_1
      first
      | exact Or.inl ⟨by (try simp only [fa_lt, fa_le, fa_eq, fa_lt64, fa_le64, fa_eq64, Int32.reduceToInt, Int64.reduceToInt, zi_ite]); omega, rfl⟩
      | exact Or.inr (Or.inl ⟨by (try simp only [fa_lt, fa_le, fa_eq, fa_lt64, fa_le64, fa_eq64, Int32.reduceToInt, Int64.reduceToInt, zi_ite]); omega, rfl⟩)
      | exact Or.inr (Or.inr (⟨by (try simp only [fa_lt, fa_le, fa_eq, fa_lt64, fa_le64, fa_eq64, Int32.reduceToInt, Int64.reduceToInt, zi_ite]); omega, rfl⟩))
    exact W.iret (v := 0) hx hb hr (fun t ht hW => ⟨0, rfl, hpost, ht⟩) (fun _ h => absurd h List.not_mem_nil) dX11_count_85
  · refine lv_tableIn (off := 85) (tgt := 86) hx hb dX11_count_1 (by rw [c_1]; decide) (by rw [c_1]; decide) (by rw [c_1]; decide) (by decide) ?_
    refine lv_aload_n hx hb dX11_count_86 rfl (lv_at hl 0 rfl) ?_
    refine va_get (D := (dC, dI)) (ci := 11) (v := .ref (ad 0)) (C := RX11) (T := TX11) (N := 13) hx hb hts (by decide +kernel) hown hK hP 0 rfl rfl 0 (by decide) (hts (.fieldLink RX11 10 "RedTent" "weather" "LRedTent$Weather;") (by decide +kernel)) (fun _ h9 => h9) rfl dX11_count_87 ?_
    refine va_get (D := (dC, dI)) (ci := 10) (v := .int 0) (C := RX10) (T := TX10) (N := 4) hx hb hts (by decide +kernel) hown hK hP 1 rfl rfl 2 (by decide) (hts (.fieldLink RX11 94 "RedTent$Weather" "windCount" "I") (by decide +kernel)) (fun _ h9 => h9) rfl dX11_count_90 ?_
    have hpost : ((p0 = 11) ∧ (0 : Int32) = 1) ∨ ((0 ≤ p0 ∧ p0 ≤ 14 ∧ ¬ p0 = 11) ∧ (0 : Int32) = 0) ∨ ((¬ (0 ≤ p0 ∧ p0 ≤ 14)) ∧ (0 : Int32) = (-2)) := by
      try simp only [fa_lt, fa_le, fa_eq, fa_lt64, fa_le64, fa_eq64, Int32.reduceToInt, Int64.reduceToInt, zi_ite] at c_1
      first
      | exact Or.inl ⟨by (try simp only [fa_lt, fa_le, fa_eq, fa_lt64, fa_le64, fa_eq64, Int32.reduceToInt, Int64.reduceToInt, zi_ite]); omega, rfl⟩
      | exact Or.inr (Or.inl ⟨by (try simp only [fa_lt, fa_le, fa_eq, fa_lt64, fa_le64, fa_eq64, Int32.reduceToInt, Int64.reduceToInt, zi_ite]); omega, rfl⟩)
      | exact Or.inr (Or.inr (⟨by (try simp only [fa_lt, fa_le, fa_eq, fa_lt64, fa_le64, fa_eq64, Int32.reduceToInt, Int64.reduceToInt, zi_ite]); omega, rfl⟩))
    exact W.iret (v := 0) hx hb hr (fun t ht hW => ⟨0, rfl, hpost, ht⟩) (fun _ h => absurd h List.not_mem_nil) dX11_count_93
  · refine lv_tableIn (off := 93) (tgt := 94) hx hb dX11_count_1 (by rw [c_1]; decide) (by rw [c_1]; decide) (by rw [c_1]; decide) (by decide) ?_
    refine lv_aload_n hx hb dX11_count_94 rfl (lv_at hl 0 rfl) ?_
    refine va_get (D := (dC, dI)) (ci := 11) (v := .int 0) (C := RX11) (T := TX11) (N := 13) hx hb hts (by decide +kernel) hown hK hP 0 rfl rfl 11 (by decide) (hts (.fieldLink RX11 154 "RedTent" "fixCount" "I") (by decide +kernel)) (fun _ h9 => h9) rfl dX11_count_95 ?_
    have hpost : ((p0 = 11) ∧ (0 : Int32) = 1) ∨ ((0 ≤ p0 ∧ p0 ≤ 14 ∧ ¬ p0 = 11) ∧ (0 : Int32) = 0) ∨ ((¬ (0 ≤ p0 ∧ p0 ≤ 14)) ∧ (0 : Int32) = (-2)) := by
      try simp only [fa_lt, fa_le, fa_eq, fa_lt64, fa_le64, fa_eq64, Int32.reduceToInt, Int64.reduceToInt, zi_ite] at c_1
      first
      | exact Or.inl ⟨by (try simp only [fa_lt, fa_le, fa_eq, fa_lt64, fa_le64, fa_eq64, Int32.reduceToInt, Int64.reduceToInt, zi_ite]); omega, rfl⟩
      | exact Or.inr (Or.inl ⟨by (try simp only [fa_lt, fa_le, fa_eq, fa_lt64, fa_le64, fa_eq64, Int32.reduceToInt, Int64.reduceToInt, zi_ite]); omega, rfl⟩)
      | exact Or.inr (Or.inr (⟨by (try simp only [fa_lt, fa_le, fa_eq, fa_lt64, fa_le64, fa_eq64, Int32.reduceToInt, Int64.reduceToInt, zi_ite]); omega, rfl⟩))
    exact W.iret (v := 0) hx hb hr (fun t ht hW => ⟨0, rfl, hpost, ht⟩) (fun _ h => absurd h List.not_mem_nil) dX11_count_98
  · refine lv_tableIn (off := 98) (tgt := 99) hx hb dX11_count_1 (by rw [c_1]; decide) (by rw [c_1]; decide) (by rw [c_1]; decide) (by decide) ?_
    refine lv_aload_n hx hb dX11_count_99 rfl (lv_at hl 0 rfl) ?_
    refine va_get (D := (dC, dI)) (ci := 11) (v := .ref (ad 2)) (C := RX11) (T := TX11) (N := 13) hx hb hts (by decide +kernel) hown hK hP 0 rfl rfl 2 (by decide) (hts (.fieldLink RX11 25 "RedTent" "radio" "LRedTent$Radio;") (by decide +kernel)) (fun _ h9 => h9) rfl dX11_count_100 ?_
    refine va_get (D := (dC, dI)) (ci := 4) (v := .int 0) (C := RX4) (T := TX4) (N := 13) hx hb hts (by decide +kernel) hown hK hP 2 rfl rfl 1 (by decide) (hts (.fieldLink RX11 161 "RedTent$Radio" "hearers" "I") (by decide +kernel)) (fun _ h9 => h9) rfl dX11_count_103 ?_
    have hpost : ((p0 = 11) ∧ (0 : Int32) = 1) ∨ ((0 ≤ p0 ∧ p0 ≤ 14 ∧ ¬ p0 = 11) ∧ (0 : Int32) = 0) ∨ ((¬ (0 ≤ p0 ∧ p0 ≤ 14)) ∧ (0 : Int32) = (-2)) := by
      try simp only [fa_lt, fa_le, fa_eq, fa_lt64, fa_le64, fa_eq64, Int32.reduceToInt, Int64.reduceToInt, zi_ite] at c_1
      first
      | exact Or.inl ⟨by (try simp only [fa_lt, fa_le, fa_eq, fa_lt64, fa_le64, fa_eq64, Int32.reduceToInt, Int64.reduceToInt, zi_ite]); omega, rfl⟩
      | exact Or.inr (Or.inl ⟨by (try simp only [fa_lt, fa_le, fa_eq, fa_lt64, fa_le64, fa_eq64, Int32.reduceToInt, Int64.reduceToInt, zi_ite]); omega, rfl⟩)
      | exact Or.inr (Or.inr (⟨by (try simp only [fa_lt, fa_le, fa_eq, fa_lt64, fa_le64, fa_eq64, Int32.reduceToInt, Int64.reduceToInt, zi_ite]); omega, rfl⟩))
    exact W.iret (v := 0) hx hb hr (fun t ht hW => ⟨0, rfl, hpost, ht⟩) (fun _ h => absurd h List.not_mem_nil) dX11_count_106
  · refine lv_tableIn (off := 106) (tgt := 107) hx hb dX11_count_1 (by rw [c_1]; decide) (by rw [c_1]; decide) (by rw [c_1]; decide) (by decide) ?_
    refine lv_aload_n hx hb dX11_count_107 rfl (lv_at hl 0 rfl) ?_
    refine va_get (D := (dC, dI)) (ci := 11) (v := .ref (ad 2)) (C := RX11) (T := TX11) (N := 13) hx hb hts (by decide +kernel) hown hK hP 0 rfl rfl 2 (by decide) (hts (.fieldLink RX11 25 "RedTent" "radio" "LRedTent$Radio;") (by decide +kernel)) (fun _ h9 => h9) rfl dX11_count_108 ?_
    refine va_get (D := (dC, dI)) (ci := 4) (v := .int 0) (C := RX4) (T := TX4) (N := 13) hx hb hts (by decide +kernel) hown hK hP 2 rfl rfl 8 (by decide) (hts (.fieldLink RX11 171 "RedTent$Radio" "calls" "I") (by decide +kernel)) (fun _ h9 => h9) rfl dX11_count_111 ?_
    have hpost : ((p0 = 11) ∧ (0 : Int32) = 1) ∨ ((0 ≤ p0 ∧ p0 ≤ 14 ∧ ¬ p0 = 11) ∧ (0 : Int32) = 0) ∨ ((¬ (0 ≤ p0 ∧ p0 ≤ 14)) ∧ (0 : Int32) = (-2)) := by
      try simp only [fa_lt, fa_le, fa_eq, fa_lt64, fa_le64, fa_eq64, Int32.reduceToInt, Int64.reduceToInt, zi_ite] at c_1
      first
      | exact Or.inl ⟨by (try simp only [fa_lt, fa_le, fa_eq, fa_lt64, fa_le64, fa_eq64, Int32.reduceToInt, Int64.reduceToInt, zi_ite]); omega, rfl⟩
      | exact Or.inr (Or.inl ⟨by (try simp only [fa_lt, fa_le, fa_eq, fa_lt64, fa_le64, fa_eq64, Int32.reduceToInt, Int64.reduceToInt, zi_ite]); omega, rfl⟩)
      | exact Or.inr (Or.inr (⟨by (try simp only [fa_lt, fa_le, fa_eq, fa_lt64, fa_le64, fa_eq64, Int32.reduceToInt, Int64.reduceToInt, zi_ite]); omega, rfl⟩))
    exact W.iret (v := 0) hx hb hr (fun t ht hW => ⟨0, rfl, hpost, ht⟩) (fun _ h => absurd h List.not_mem_nil) dX11_count_114
  · refine lv_tableIn (off := 114) (tgt := 115) hx hb dX11_count_1 (by rw [c_1]; decide) (by rw [c_1]; decide) (by rw [c_1]; decide) (by decide) ?_
    refine lv_aload_n hx hb dX11_count_115 rfl (lv_at hl 0 rfl) ?_
    refine va_get (D := (dC, dI)) (ci := 11) (v := .ref (ad 2)) (C := RX11) (T := TX11) (N := 13) hx hb hts (by decide +kernel) hown hK hP 0 rfl rfl 2 (by decide) (hts (.fieldLink RX11 25 "RedTent" "radio" "LRedTent$Radio;") (by decide +kernel)) (fun _ h9 => h9) rfl dX11_count_116 ?_
    refine va_get (D := (dC, dI)) (ci := 4) (v := .int 0) (C := RX4) (T := TX4) (N := 13) hx hb hts (by decide +kernel) hown hK hP 2 rfl rfl 12 (by decide) (hts (.fieldLink RX11 193 "RedTent$Radio" "parts" "I") (by decide +kernel)) (fun _ h9 => h9) rfl dX11_count_119 ?_
    have hpost : ((p0 = 11) ∧ (0 : Int32) = 1) ∨ ((0 ≤ p0 ∧ p0 ≤ 14 ∧ ¬ p0 = 11) ∧ (0 : Int32) = 0) ∨ ((¬ (0 ≤ p0 ∧ p0 ≤ 14)) ∧ (0 : Int32) = (-2)) := by
      try simp only [fa_lt, fa_le, fa_eq, fa_lt64, fa_le64, fa_eq64, Int32.reduceToInt, Int64.reduceToInt, zi_ite] at c_1
      first
      | exact Or.inl ⟨by (try simp only [fa_lt, fa_le, fa_eq, fa_lt64, fa_le64, fa_eq64, Int32.reduceToInt, Int64.reduceToInt, zi_ite]); omega, rfl⟩
      | exact Or.inr (Or.inl ⟨by (try simp only [fa_lt, fa_le, fa_eq, fa_lt64, fa_le64, fa_eq64, Int32.reduceToInt, Int64.reduceToInt, zi_ite]); omega, rfl⟩)
      | exact Or.inr (Or.inr (⟨by (try simp only [fa_lt, fa_le, fa_eq, fa_lt64, fa_le64, fa_eq64, Int32.reduceToInt, Int64.reduceToInt, zi_ite]); omega, rfl⟩))
    exact W.iret (v := 0) hx hb hr (fun t ht hW => ⟨0, rfl, hpost, ht⟩) (fun _ h => absurd h List.not_mem_nil) dX11_count_122
  · refine lv_tableIn (off := 122) (tgt := 123) hx hb dX11_count_1 (by rw [c_1]; decide) (by rw [c_1]; decide) (by rw [c_1]; decide) (by decide) ?_
    refine lv_aload_n hx hb dX11_count_123 rfl (lv_at hl 0 rfl) ?_
    refine va_get (D := (dC, dI)) (ci := 11) (v := .ref (ad 3)) (C := RX11) (T := TX11) (N := 13) hx hb hts (by decide +kernel) hown hK hP 0 rfl rfl 3 (by decide) (hts (.fieldLink RX11 32 "RedTent" "search" "LRedTent$Search;") (by decide +kernel)) (fun _ h9 => h9) rfl dX11_count_124 ?_
    refine va_get (D := (dC, dI)) (ci := 6) (v := .int 0) (C := RX6) (T := TX6) (N := 7) hx hb hts (by decide +kernel) hown hK hP 3 rfl rfl 1 (by decide) (hts (.fieldLink RX11 207 "RedTent$Search" "laneCount" "I") (by decide +kernel)) (fun _ h9 => h9) rfl dX11_count_127 ?_
    have hpost : ((p0 = 11) ∧ (0 : Int32) = 1) ∨ ((0 ≤ p0 ∧ p0 ≤ 14 ∧ ¬ p0 = 11) ∧ (0 : Int32) = 0) ∨ ((¬ (0 ≤ p0 ∧ p0 ≤ 14)) ∧ (0 : Int32) = (-2)) := by
      try simp only [fa_lt, fa_le, fa_eq, fa_lt64, fa_le64, fa_eq64, Int32.reduceToInt, Int64.reduceToInt, zi_ite] at c_1
      first
      | exact Or.inl ⟨by (try simp only [fa_lt, fa_le, fa_eq, fa_lt64, fa_le64, fa_eq64, Int32.reduceToInt, Int64.reduceToInt, zi_ite]); omega, rfl⟩
      | exact Or.inr (Or.inl ⟨by (try simp only [fa_lt, fa_le, fa_eq, fa_lt64, fa_le64, fa_eq64, Int32.reduceToInt, Int64.reduceToInt, zi_ite]); omega, rfl⟩)
      | exact Or.inr (Or.inr (⟨by (try simp only [fa_lt, fa_le, fa_eq, fa_lt64, fa_le64, fa_eq64, Int32.reduceToInt, Int64.reduceToInt, zi_ite]); omega, rfl⟩))
    exact W.iret (v := 0) hx hb hr (fun t ht hW => ⟨0, rfl, hpost, ht⟩) (fun _ h => absurd h List.not_mem_nil) dX11_count_130
  · refine lv_tableIn (off := 130) (tgt := 131) hx hb dX11_count_1 (by rw [c_1]; decide) (by rw [c_1]; decide) (by rw [c_1]; decide) (by decide) ?_
    refine lv_aload_n hx hb dX11_count_131 rfl (lv_at hl 0 rfl) ?_
    refine va_get (D := (dC, dI)) (ci := 11) (v := .ref (ad 4)) (C := RX11) (T := TX11) (N := 13) hx hb hts (by decide +kernel) hown hK hP 0 rfl rfl 4 (by decide) (hts (.fieldLink RX11 39 "RedTent" "crew" "LRedTent$Crew;") (by decide +kernel)) (fun _ h9 => h9) rfl dX11_count_132 ?_
    refine va_get (D := (dC, dI)) (ci := 2) (v := .int 0) (C := RX2) (T := TX2) (N := 6) hx hb hts (by decide +kernel) hown hK hP 4 rfl rfl 5 (by decide) (hts (.fieldLink RX11 266 "RedTent$Crew" "men" "I") (by decide +kernel)) (fun _ h9 => h9) rfl dX11_count_135 ?_
    have hpost : ((p0 = 11) ∧ (0 : Int32) = 1) ∨ ((0 ≤ p0 ∧ p0 ≤ 14 ∧ ¬ p0 = 11) ∧ (0 : Int32) = 0) ∨ ((¬ (0 ≤ p0 ∧ p0 ≤ 14)) ∧ (0 : Int32) = (-2)) := by
      try simp only [fa_lt, fa_le, fa_eq, fa_lt64, fa_le64, fa_eq64, Int32.reduceToInt, Int64.reduceToInt, zi_ite] at c_1
      first
      | exact Or.inl ⟨by (try simp only [fa_lt, fa_le, fa_eq, fa_lt64, fa_le64, fa_eq64, Int32.reduceToInt, Int64.reduceToInt, zi_ite]); omega, rfl⟩
      | exact Or.inr (Or.inl ⟨by (try simp only [fa_lt, fa_le, fa_eq, fa_lt64, fa_le64, fa_eq64, Int32.reduceToInt, Int64.reduceToInt, zi_ite]); omega, rfl⟩)
      | exact Or.inr (Or.inr (⟨by (try simp only [fa_lt, fa_le, fa_eq, fa_lt64, fa_le64, fa_eq64, Int32.reduceToInt, Int64.reduceToInt, zi_ite]); omega, rfl⟩))
    exact W.iret (v := 0) hx hb hr (fun t ht hW => ⟨0, rfl, hpost, ht⟩) (fun _ h => absurd h List.not_mem_nil) dX11_count_138
  · refine lv_tableIn (off := 138) (tgt := 139) hx hb dX11_count_1 (by rw [c_1]; decide) (by rw [c_1]; decide) (by rw [c_1]; decide) (by decide) ?_
    refine lv_aload_n hx hb dX11_count_139 rfl (lv_at hl 0 rfl) ?_
    refine va_get (D := (dC, dI)) (ci := 11) (v := .ref (ad 6)) (C := RX11) (T := TX11) (N := 13) hx hb hts (by decide +kernel) hown hK hP 0 rfl rfl 6 (by decide) (hts (.fieldLink RX11 53 "RedTent" "stories" "LRedTent$Stories;") (by decide +kernel)) (fun _ h9 => h9) rfl dX11_count_140 ?_
    refine va_get (D := (dC, dI)) (ci := 8) (v := .int 0) (C := RX8) (T := TX8) (N := 4) hx hb hts (by decide +kernel) hown hK hP 6 rfl rfl 3 (by decide) (hts (.fieldLink RX11 302 "RedTent$Stories" "told" "I") (by decide +kernel)) (fun _ h9 => h9) rfl dX11_count_143 ?_
    have hpost : ((p0 = 11) ∧ (0 : Int32) = 1) ∨ ((0 ≤ p0 ∧ p0 ≤ 14 ∧ ¬ p0 = 11) ∧ (0 : Int32) = 0) ∨ ((¬ (0 ≤ p0 ∧ p0 ≤ 14)) ∧ (0 : Int32) = (-2)) := by
      try simp only [fa_lt, fa_le, fa_eq, fa_lt64, fa_le64, fa_eq64, Int32.reduceToInt, Int64.reduceToInt, zi_ite] at c_1
      first
      | exact Or.inl ⟨by (try simp only [fa_lt, fa_le, fa_eq, fa_lt64, fa_le64, fa_eq64, Int32.reduceToInt, Int64.reduceToInt, zi_ite]); omega, rfl⟩
      | exact Or.inr (Or.inl ⟨by (try simp only [fa_lt, fa_le, fa_eq, fa_lt64, fa_le64, fa_eq64, Int32.reduceToInt, Int64.reduceToInt, zi_ite]); omega, rfl⟩)
      | exact Or.inr (Or.inr (⟨by (try simp only [fa_lt, fa_le, fa_eq, fa_lt64, fa_le64, fa_eq64, Int32.reduceToInt, Int64.reduceToInt, zi_ite]); omega, rfl⟩))
    exact W.iret (v := 0) hx hb hr (fun t ht hW => ⟨0, rfl, hpost, ht⟩) (fun _ h => absurd h List.not_mem_nil) dX11_count_146
  · refine lv_tableIn (off := 146) (tgt := 147) hx hb dX11_count_1 (by rw [c_1]; decide) (by rw [c_1]; decide) (by rw [c_1]; decide) (by decide) ?_
    refine lv_aload_n hx hb dX11_count_147 rfl (lv_at hl 0 rfl) ?_
    refine va_get (D := (dC, dI)) (ci := 11) (v := .ref (ad 7)) (C := RX11) (T := TX11) (N := 13) hx hb hts (by decide +kernel) hown hK hP 0 rfl rfl 7 (by decide) (hts (.fieldLink RX11 60 "RedTent" "breaker" "LRedTent$Breaker;") (by decide +kernel)) (fun _ h9 => h9) rfl dX11_count_148 ?_
    refine va_get (D := (dC, dI)) (ci := 1) (v := .int 0) (C := RX1) (T := TX1) (N := 4) hx hb hts (by decide +kernel) hown hK hP 7 rfl rfl 1 (by decide) (hts (.fieldLink RX11 330 "RedTent$Breaker" "rowCount" "I") (by decide +kernel)) (fun _ h9 => h9) rfl dX11_count_151 ?_
    have hpost : ((p0 = 11) ∧ (0 : Int32) = 1) ∨ ((0 ≤ p0 ∧ p0 ≤ 14 ∧ ¬ p0 = 11) ∧ (0 : Int32) = 0) ∨ ((¬ (0 ≤ p0 ∧ p0 ≤ 14)) ∧ (0 : Int32) = (-2)) := by
      try simp only [fa_lt, fa_le, fa_eq, fa_lt64, fa_le64, fa_eq64, Int32.reduceToInt, Int64.reduceToInt, zi_ite] at c_1
      first
      | exact Or.inl ⟨by (try simp only [fa_lt, fa_le, fa_eq, fa_lt64, fa_le64, fa_eq64, Int32.reduceToInt, Int64.reduceToInt, zi_ite]); omega, rfl⟩
      | exact Or.inr (Or.inl ⟨by (try simp only [fa_lt, fa_le, fa_eq, fa_lt64, fa_le64, fa_eq64, Int32.reduceToInt, Int64.reduceToInt, zi_ite]); omega, rfl⟩)
      | exact Or.inr (Or.inr (⟨by (try simp only [fa_lt, fa_le, fa_eq, fa_lt64, fa_le64, fa_eq64, Int32.reduceToInt, Int64.reduceToInt, zi_ite]); omega, rfl⟩))
    exact W.iret (v := 0) hx hb hr (fun t ht hW => ⟨0, rfl, hpost, ht⟩) (fun _ h => absurd h List.not_mem_nil) dX11_count_154
  · refine lv_tableIn (off := 154) (tgt := 155) hx hb dX11_count_1 (by rw [c_1]; decide) (by rw [c_1]; decide) (by rw [c_1]; decide) (by decide) ?_
    refine lv_aload_n hx hb dX11_count_155 rfl (lv_at hl 0 rfl) ?_
    refine va_get (D := (dC, dI)) (ci := 11) (v := .ref (ad 5)) (C := RX11) (T := TX11) (N := 13) hx hb hts (by decide +kernel) hown hK hP 0 rfl rfl 5 (by decide) (hts (.fieldLink RX11 46 "RedTent" "orders" "LRedTent$Orders;") (by decide +kernel)) (fun _ h9 => h9) rfl dX11_count_156 ?_
    refine va_get (D := (dC, dI)) (ci := 3) (v := .int 1) (C := RX3) (T := TX3) (N := 8) hx hb hts (by decide +kernel) hown hK hP 5 rfl rfl 3 (by decide) (hts (.fieldLink RX11 280 "RedTent$Orders" "textCount" "I") (by decide +kernel)) (fun _ h9 => h9) rfl dX11_count_159 ?_
    have hpost : ((p0 = 11) ∧ (1 : Int32) = 1) ∨ ((0 ≤ p0 ∧ p0 ≤ 14 ∧ ¬ p0 = 11) ∧ (1 : Int32) = 0) ∨ ((¬ (0 ≤ p0 ∧ p0 ≤ 14)) ∧ (1 : Int32) = (-2)) := by
      try simp only [fa_lt, fa_le, fa_eq, fa_lt64, fa_le64, fa_eq64, Int32.reduceToInt, Int64.reduceToInt, zi_ite] at c_1
      first
      | exact Or.inl ⟨by (try simp only [fa_lt, fa_le, fa_eq, fa_lt64, fa_le64, fa_eq64, Int32.reduceToInt, Int64.reduceToInt, zi_ite]); omega, rfl⟩
      | exact Or.inr (Or.inl ⟨by (try simp only [fa_lt, fa_le, fa_eq, fa_lt64, fa_le64, fa_eq64, Int32.reduceToInt, Int64.reduceToInt, zi_ite]); omega, rfl⟩)
      | exact Or.inr (Or.inr (⟨by (try simp only [fa_lt, fa_le, fa_eq, fa_lt64, fa_le64, fa_eq64, Int32.reduceToInt, Int64.reduceToInt, zi_ite]); omega, rfl⟩))
    exact W.iret (v := 1) hx hb hr (fun t ht hW => ⟨1, rfl, hpost, ht⟩) (fun _ h => absurd h List.not_mem_nil) dX11_count_162
  · refine lv_tableIn (off := 162) (tgt := 163) hx hb dX11_count_1 (by rw [c_1]; decide) (by rw [c_1]; decide) (by rw [c_1]; decide) (by decide) ?_
    refine lv_aload_n hx hb dX11_count_163 rfl (lv_at hl 0 rfl) ?_
    refine va_get (D := (dC, dI)) (ci := 11) (v := .ref (ad 5)) (C := RX11) (T := TX11) (N := 13) hx hb hts (by decide +kernel) hown hK hP 0 rfl rfl 5 (by decide) (hts (.fieldLink RX11 46 "RedTent" "orders" "LRedTent$Orders;") (by decide +kernel)) (fun _ h9 => h9) rfl dX11_count_164 ?_
    refine va_get (D := (dC, dI)) (ci := 3) (v := .int 0) (C := RX3) (T := TX3) (N := 8) hx hb hts (by decide +kernel) hown hK hP 5 rfl rfl 1 (by decide) (hts (.fieldLink RX11 271 "RedTent$Orders" "tapeSize" "I") (by decide +kernel)) (fun _ h9 => h9) rfl dX11_count_167 ?_
    have hpost : ((p0 = 11) ∧ (0 : Int32) = 1) ∨ ((0 ≤ p0 ∧ p0 ≤ 14 ∧ ¬ p0 = 11) ∧ (0 : Int32) = 0) ∨ ((¬ (0 ≤ p0 ∧ p0 ≤ 14)) ∧ (0 : Int32) = (-2)) := by
      try simp only [fa_lt, fa_le, fa_eq, fa_lt64, fa_le64, fa_eq64, Int32.reduceToInt, Int64.reduceToInt, zi_ite] at c_1
      first
      | exact Or.inl ⟨by (try simp only [fa_lt, fa_le, fa_eq, fa_lt64, fa_le64, fa_eq64, Int32.reduceToInt, Int64.reduceToInt, zi_ite]); omega, rfl⟩
      | exact Or.inr (Or.inl ⟨by (try simp only [fa_lt, fa_le, fa_eq, fa_lt64, fa_le64, fa_eq64, Int32.reduceToInt, Int64.reduceToInt, zi_ite]); omega, rfl⟩)
      | exact Or.inr (Or.inr (⟨by (try simp only [fa_lt, fa_le, fa_eq, fa_lt64, fa_le64, fa_eq64, Int32.reduceToInt, Int64.reduceToInt, zi_ite]); omega, rfl⟩))
    exact W.iret (v := 0) hx hb hr (fun t ht hW => ⟨0, rfl, hpost, ht⟩) (fun _ h => absurd h List.not_mem_nil) dX11_count_170
  · refine lv_tableIn (off := 170) (tgt := 171) hx hb dX11_count_1 (by rw [c_1]; decide) (by rw [c_1]; decide) (by rw [c_1]; decide) (by decide) ?_
    refine lv_aload_n hx hb dX11_count_171 rfl (lv_at hl 0 rfl) ?_
    refine va_get (D := (dC, dI)) (ci := 11) (v := .ref (ad 5)) (C := RX11) (T := TX11) (N := 13) hx hb hts (by decide +kernel) hown hK hP 0 rfl rfl 5 (by decide) (hts (.fieldLink RX11 46 "RedTent" "orders" "LRedTent$Orders;") (by decide +kernel)) (fun _ h9 => h9) rfl dX11_count_172 ?_
    refine va_get (D := (dC, dI)) (ci := 3) (v := .int 0) (C := RX3) (T := TX3) (N := 8) hx hb hts (by decide +kernel) hown hK hP 5 rfl rfl 4 (by decide) (hts (.fieldLink RX11 283 "RedTent$Orders" "inForce" "I") (by decide +kernel)) (fun _ h9 => h9) rfl dX11_count_175 ?_
    have hpost : ((p0 = 11) ∧ (0 : Int32) = 1) ∨ ((0 ≤ p0 ∧ p0 ≤ 14 ∧ ¬ p0 = 11) ∧ (0 : Int32) = 0) ∨ ((¬ (0 ≤ p0 ∧ p0 ≤ 14)) ∧ (0 : Int32) = (-2)) := by
      try simp only [fa_lt, fa_le, fa_eq, fa_lt64, fa_le64, fa_eq64, Int32.reduceToInt, Int64.reduceToInt, zi_ite] at c_1
      first
      | exact Or.inl ⟨by (try simp only [fa_lt, fa_le, fa_eq, fa_lt64, fa_le64, fa_eq64, Int32.reduceToInt, Int64.reduceToInt, zi_ite]); omega, rfl⟩
      | exact Or.inr (Or.inl ⟨by (try simp only [fa_lt, fa_le, fa_eq, fa_lt64, fa_le64, fa_eq64, Int32.reduceToInt, Int64.reduceToInt, zi_ite]); omega, rfl⟩)
      | exact Or.inr (Or.inr (⟨by (try simp only [fa_lt, fa_le, fa_eq, fa_lt64, fa_le64, fa_eq64, Int32.reduceToInt, Int64.reduceToInt, zi_ite]); omega, rfl⟩))
    exact W.iret (v := 0) hx hb hr (fun t ht hW => ⟨0, rfl, hpost, ht⟩) (fun _ h => absurd h List.not_mem_nil) dX11_count_178
  · refine lv_tableIn (off := 178) (tgt := 179) hx hb dX11_count_1 (by rw [c_1]; decide) (by rw [c_1]; decide) (by rw [c_1]; decide) (by decide) ?_
    refine lv_aload_n hx hb dX11_count_179 rfl (lv_at hl 0 rfl) ?_
    refine va_get (D := (dC, dI)) (ci := 11) (v := .int 0) (C := RX11) (T := TX11) (N := 13) hx hb hts (by decide +kernel) hown hK hP 0 rfl rfl 12 (by decide) (hts (.fieldLink RX11 253 "RedTent" "stayHours" "I") (by decide +kernel)) (fun _ h9 => h9) rfl dX11_count_180 ?_
    have hpost : ((p0 = 11) ∧ (0 : Int32) = 1) ∨ ((0 ≤ p0 ∧ p0 ≤ 14 ∧ ¬ p0 = 11) ∧ (0 : Int32) = 0) ∨ ((¬ (0 ≤ p0 ∧ p0 ≤ 14)) ∧ (0 : Int32) = (-2)) := by
      try simp only [fa_lt, fa_le, fa_eq, fa_lt64, fa_le64, fa_eq64, Int32.reduceToInt, Int64.reduceToInt, zi_ite] at c_1
      first
      | exact Or.inl ⟨by (try simp only [fa_lt, fa_le, fa_eq, fa_lt64, fa_le64, fa_eq64, Int32.reduceToInt, Int64.reduceToInt, zi_ite]); omega, rfl⟩
      | exact Or.inr (Or.inl ⟨by (try simp only [fa_lt, fa_le, fa_eq, fa_lt64, fa_le64, fa_eq64, Int32.reduceToInt, Int64.reduceToInt, zi_ite]); omega, rfl⟩)
      | exact Or.inr (Or.inr (⟨by (try simp only [fa_lt, fa_le, fa_eq, fa_lt64, fa_le64, fa_eq64, Int32.reduceToInt, Int64.reduceToInt, zi_ite]); omega, rfl⟩))
    exact W.iret (v := 0) hx hb hr (fun t ht hW => ⟨0, rfl, hpost, ht⟩) (fun _ h => absurd h List.not_mem_nil) dX11_count_183

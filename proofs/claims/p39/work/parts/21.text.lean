theorem zb_X5_readAll_0 : (decode cX5_readAll 0 = .ok (.aload_n 0, 1)) ∧ (decode cX5_readAll 1 = .ok (.aload_n 1, 1)) ∧ (decode cX5_readAll 2 = .ok (.putfield 11, 3)) ∧ (decode cX5_readAll 5 = .ok (.aload_n 0, 1)) ∧ (decode cX5_readAll 6 = .ok (.iload_n 2, 1)) ∧ (decode cX5_readAll 7 = .ok (.aload_n 1, 1)) ∧ (decode cX5_readAll 8 = .ok (.arraylength, 1)) ∧ (decode cX5_readAll 9 = .ok (.invokestatic 31, 3)) ∧ (decode cX5_readAll 12 = .ok (.putfield 37, 3)) ∧ (decode cX5_readAll 15 = .ok (.aload_n 0, 1)) := by decide +kernel
theorem dX5_readAll_0 : decode cX5_readAll 0 = .ok (.aload_n 0, 1) := zb_X5_readAll_0.1
theorem dX5_readAll_1 : decode cX5_readAll 1 = .ok (.aload_n 1, 1) := zb_X5_readAll_0.2.1
theorem dX5_readAll_2 : decode cX5_readAll 2 = .ok (.putfield 11, 3) := zb_X5_readAll_0.2.2.1
theorem dX5_readAll_5 : decode cX5_readAll 5 = .ok (.aload_n 0, 1) := zb_X5_readAll_0.2.2.2.1
theorem dX5_readAll_6 : decode cX5_readAll 6 = .ok (.iload_n 2, 1) := zb_X5_readAll_0.2.2.2.2.1
theorem dX5_readAll_7 : decode cX5_readAll 7 = .ok (.aload_n 1, 1) := zb_X5_readAll_0.2.2.2.2.2.1
theorem dX5_readAll_8 : decode cX5_readAll 8 = .ok (.arraylength, 1) := zb_X5_readAll_0.2.2.2.2.2.2.1
theorem dX5_readAll_9 : decode cX5_readAll 9 = .ok (.invokestatic 31, 3) := zb_X5_readAll_0.2.2.2.2.2.2.2.1
theorem dX5_readAll_12 : decode cX5_readAll 12 = .ok (.putfield 37, 3) := zb_X5_readAll_0.2.2.2.2.2.2.2.2.1
theorem dX5_readAll_15 : decode cX5_readAll 15 = .ok (.aload_n 0, 1) := zb_X5_readAll_0.2.2.2.2.2.2.2.2.2
theorem zb_X5_readAll_16 : (decode cX5_readAll 16 = .ok (.invokevirtual 41, 3)) ∧ (decode cX5_readAll 19 = .ok (.aload_n 0, 1)) ∧ (decode cX5_readAll 20 = .ok (.getfield 27, 3)) ∧ (decode cX5_readAll 23 = .ok (.invokevirtual 44, 3)) ∧ (decode cX5_readAll 26 = .ok (.aload_n 0, 1)) ∧ (decode cX5_readAll 27 = .ok (.iconst 0, 1)) ∧ (decode cX5_readAll 28 = .ok (.putfield 47, 3)) ∧ (decode cX5_readAll 31 = .ok (.aload_n 0, 1)) ∧ (decode cX5_readAll 32 = .ok (.iconst (-1), 1)) ∧ (decode cX5_readAll 33 = .ok (.putfield 50, 3)) := by decide +kernel
theorem dX5_readAll_16 : decode cX5_readAll 16 = .ok (.invokevirtual 41, 3) := zb_X5_readAll_16.1
theorem dX5_readAll_19 : decode cX5_readAll 19 = .ok (.aload_n 0, 1) := zb_X5_readAll_16.2.1
theorem dX5_readAll_20 : decode cX5_readAll 20 = .ok (.getfield 27, 3) := zb_X5_readAll_16.2.2.1
theorem dX5_readAll_23 : decode cX5_readAll 23 = .ok (.invokevirtual 44, 3) := zb_X5_readAll_16.2.2.2.1
theorem dX5_readAll_26 : decode cX5_readAll 26 = .ok (.aload_n 0, 1) := zb_X5_readAll_16.2.2.2.2.1
theorem dX5_readAll_27 : decode cX5_readAll 27 = .ok (.iconst 0, 1) := zb_X5_readAll_16.2.2.2.2.2.1
theorem dX5_readAll_28 : decode cX5_readAll 28 = .ok (.putfield 47, 3) := zb_X5_readAll_16.2.2.2.2.2.2.1
theorem dX5_readAll_31 : decode cX5_readAll 31 = .ok (.aload_n 0, 1) := zb_X5_readAll_16.2.2.2.2.2.2.2.1
theorem dX5_readAll_32 : decode cX5_readAll 32 = .ok (.iconst (-1), 1) := zb_X5_readAll_16.2.2.2.2.2.2.2.2.1
theorem dX5_readAll_33 : decode cX5_readAll 33 = .ok (.putfield 50, 3) := zb_X5_readAll_16.2.2.2.2.2.2.2.2.2
theorem zb_X5_readAll_36 : (decode cX5_readAll 36 = .ok (.aload_n 0, 1)) ∧ (decode cX5_readAll 37 = .ok (.bipush 7, 2)) ∧ (decode cX5_readAll 39 = .ok (.invokevirtual 53, 3)) ∧ (decode cX5_readAll 42 = .ok (.aload_n 0, 1)) ∧ (decode cX5_readAll 43 = .ok (.iconst 0, 1)) ∧ (decode cX5_readAll 44 = .ok (.invokevirtual 57, 3)) ∧ (decode cX5_readAll 47 = .ok (.aload_n 0, 1)) ∧ (decode cX5_readAll 48 = .ok (.bipush 59, 2)) ∧ (decode cX5_readAll 50 = .ok (.invokevirtual 53, 3)) ∧ (decode cX5_readAll 53 = .ok (.aload_n 0, 1)) := by decide +kernel
theorem dX5_readAll_36 : decode cX5_readAll 36 = .ok (.aload_n 0, 1) := zb_X5_readAll_36.1
theorem dX5_readAll_37 : decode cX5_readAll 37 = .ok (.bipush 7, 2) := zb_X5_readAll_36.2.1
theorem dX5_readAll_39 : decode cX5_readAll 39 = .ok (.invokevirtual 53, 3) := zb_X5_readAll_36.2.2.1
theorem dX5_readAll_42 : decode cX5_readAll 42 = .ok (.aload_n 0, 1) := zb_X5_readAll_36.2.2.2.1
theorem dX5_readAll_43 : decode cX5_readAll 43 = .ok (.iconst 0, 1) := zb_X5_readAll_36.2.2.2.2.1
theorem dX5_readAll_44 : decode cX5_readAll 44 = .ok (.invokevirtual 57, 3) := zb_X5_readAll_36.2.2.2.2.2.1
theorem dX5_readAll_47 : decode cX5_readAll 47 = .ok (.aload_n 0, 1) := zb_X5_readAll_36.2.2.2.2.2.2.1
theorem dX5_readAll_48 : decode cX5_readAll 48 = .ok (.bipush 59, 2) := zb_X5_readAll_36.2.2.2.2.2.2.2.1
theorem dX5_readAll_50 : decode cX5_readAll 50 = .ok (.invokevirtual 53, 3) := zb_X5_readAll_36.2.2.2.2.2.2.2.2.1
theorem dX5_readAll_53 : decode cX5_readAll 53 = .ok (.aload_n 0, 1) := zb_X5_readAll_36.2.2.2.2.2.2.2.2.2
theorem zb_X5_readAll_54 : (decode cX5_readAll 54 = .ok (.getfield 27, 3)) ∧ (decode cX5_readAll 57 = .ok (.aload_n 0, 1)) ∧ (decode cX5_readAll 58 = .ok (.getfield 27, 3)) ∧ (decode cX5_readAll 61 = .ok (.getfield 60, 3)) ∧ (decode cX5_readAll 64 = .ok (.putfield 61, 3)) ∧ (decode cX5_readAll 67 = .ok (.aload_n 0, 1)) ∧ (decode cX5_readAll 68 = .ok (.bipush 8, 2)) ∧ (decode cX5_readAll 70 = .ok (.invokevirtual 53, 3)) ∧ (decode cX5_readAll 73 = .ok (.aload_n 0, 1)) ∧ (decode cX5_readAll 74 = .ok (.iconst 0, 1)) := by decide +kernel
theorem dX5_readAll_54 : decode cX5_readAll 54 = .ok (.getfield 27, 3) := zb_X5_readAll_54.1
theorem dX5_readAll_57 : decode cX5_readAll 57 = .ok (.aload_n 0, 1) := zb_X5_readAll_54.2.1
theorem dX5_readAll_58 : decode cX5_readAll 58 = .ok (.getfield 27, 3) := zb_X5_readAll_54.2.2.1
theorem dX5_readAll_61 : decode cX5_readAll 61 = .ok (.getfield 60, 3) := zb_X5_readAll_54.2.2.2.1
theorem dX5_readAll_64 : decode cX5_readAll 64 = .ok (.putfield 61, 3) := zb_X5_readAll_54.2.2.2.2.1
theorem dX5_readAll_67 : decode cX5_readAll 67 = .ok (.aload_n 0, 1) := zb_X5_readAll_54.2.2.2.2.2.1
theorem dX5_readAll_68 : decode cX5_readAll 68 = .ok (.bipush 8, 2) := zb_X5_readAll_54.2.2.2.2.2.2.1
theorem dX5_readAll_70 : decode cX5_readAll 70 = .ok (.invokevirtual 53, 3) := zb_X5_readAll_54.2.2.2.2.2.2.2.1
theorem dX5_readAll_73 : decode cX5_readAll 73 = .ok (.aload_n 0, 1) := zb_X5_readAll_54.2.2.2.2.2.2.2.2.1
theorem dX5_readAll_74 : decode cX5_readAll 74 = .ok (.iconst 0, 1) := zb_X5_readAll_54.2.2.2.2.2.2.2.2.2
theorem zb_X5_readAll_75 : (decode cX5_readAll 75 = .ok (.invokevirtual 57, 3)) ∧ (decode cX5_readAll 78 = .ok (.aload_n 0, 1)) ∧ (decode cX5_readAll 79 = .ok (.bipush 59, 2)) ∧ (decode cX5_readAll 81 = .ok (.invokevirtual 53, 3)) ∧ (decode cX5_readAll 84 = .ok (.aload_n 0, 1)) ∧ (decode cX5_readAll 85 = .ok (.iconst 0, 1)) ∧ (decode cX5_readAll 86 = .ok (.invokevirtual 53, 3)) ∧ (decode cX5_readAll 89 = .ok (.aload_n 0, 1)) ∧ (decode cX5_readAll 90 = .ok (.getfield 50, 3)) ∧ (decode cX5_readAll 93 = .ok (.ireturn, 1)) := by decide +kernel
theorem dX5_readAll_75 : decode cX5_readAll 75 = .ok (.invokevirtual 57, 3) := zb_X5_readAll_75.1
theorem dX5_readAll_78 : decode cX5_readAll 78 = .ok (.aload_n 0, 1) := zb_X5_readAll_75.2.1
theorem dX5_readAll_79 : decode cX5_readAll 79 = .ok (.bipush 59, 2) := zb_X5_readAll_75.2.2.1
theorem dX5_readAll_81 : decode cX5_readAll 81 = .ok (.invokevirtual 53, 3) := zb_X5_readAll_75.2.2.2.1
theorem dX5_readAll_84 : decode cX5_readAll 84 = .ok (.aload_n 0, 1) := zb_X5_readAll_75.2.2.2.2.1
theorem dX5_readAll_85 : decode cX5_readAll 85 = .ok (.iconst 0, 1) := zb_X5_readAll_75.2.2.2.2.2.1
theorem dX5_readAll_86 : decode cX5_readAll 86 = .ok (.invokevirtual 53, 3) := zb_X5_readAll_75.2.2.2.2.2.2.1
theorem dX5_readAll_89 : decode cX5_readAll 89 = .ok (.aload_n 0, 1) := zb_X5_readAll_75.2.2.2.2.2.2.2.1
theorem dX5_readAll_90 : decode cX5_readAll 90 = .ok (.getfield 50, 3) := zb_X5_readAll_75.2.2.2.2.2.2.2.2.1
theorem dX5_readAll_93 : decode cX5_readAll 93 = .ok (.ireturn, 1) := zb_X5_readAll_75.2.2.2.2.2.2.2.2.2
theorem zb_X3_readTape_0 : (decode cX3_readTape 0 = .ok (.aload_n 0, 1)) ∧ (decode cX3_readTape 1 = .ok (.getfield 38, 3)) ∧ (decode cX3_readTape 4 = .ok (.bipush 6, 2)) ∧ (decode cX3_readTape 6 = .ok (.if_icmp .lt 6, 3)) ∧ (decode cX3_readTape 12 = .ok (.aload_n 0, 1)) ∧ (decode cX3_readTape 13 = .ok (.getfield 24, 3)) ∧ (decode cX3_readTape 16 = .ok (.aload_n 0, 1)) ∧ (decode cX3_readTape 17 = .ok (.getfield 9, 3)) ∧ (decode cX3_readTape 20 = .ok (.aload_n 0, 1)) ∧ (decode cX3_readTape 21 = .ok (.getfield 42, 3)) := by decide +kernel
theorem dX3_readTape_0 : decode cX3_readTape 0 = .ok (.aload_n 0, 1) := zb_X3_readTape_0.1
theorem dX3_readTape_1 : decode cX3_readTape 1 = .ok (.getfield 38, 3) := zb_X3_readTape_0.2.1
theorem dX3_readTape_4 : decode cX3_readTape 4 = .ok (.bipush 6, 2) := zb_X3_readTape_0.2.2.1
theorem dX3_readTape_6 : decode cX3_readTape 6 = .ok (.if_icmp .lt 6, 3) := zb_X3_readTape_0.2.2.2.1
theorem dX3_readTape_12 : decode cX3_readTape 12 = .ok (.aload_n 0, 1) := zb_X3_readTape_0.2.2.2.2.1
theorem dX3_readTape_13 : decode cX3_readTape 13 = .ok (.getfield 24, 3) := zb_X3_readTape_0.2.2.2.2.2.1
theorem dX3_readTape_16 : decode cX3_readTape 16 = .ok (.aload_n 0, 1) := zb_X3_readTape_0.2.2.2.2.2.2.1
theorem dX3_readTape_17 : decode cX3_readTape 17 = .ok (.getfield 9, 3) := zb_X3_readTape_0.2.2.2.2.2.2.2.1
theorem dX3_readTape_20 : decode cX3_readTape 20 = .ok (.aload_n 0, 1) := zb_X3_readTape_0.2.2.2.2.2.2.2.2.1
theorem dX3_readTape_21 : decode cX3_readTape 21 = .ok (.getfield 42, 3) := zb_X3_readTape_0.2.2.2.2.2.2.2.2.2
theorem zb_X3_readTape_24 : (decode cX3_readTape 24 = .ok (.invokevirtual 47, 3)) ∧ (decode cX3_readTape 27 = .ok (.istore_n 1, 1)) ∧ (decode cX3_readTape 28 = .ok (.aload_n 0, 1)) ∧ (decode cX3_readTape 29 = .ok (.iconst 0, 1)) ∧ (decode cX3_readTape 30 = .ok (.putfield 42, 3)) ∧ (decode cX3_readTape 33 = .ok (.iload_n 1, 1)) ∧ (decode cX3_readTape 34 = .ok (.ifCond .lt 8, 3)) ∧ (decode cX3_readTape 42 = .ok (.aload_n 0, 1)) ∧ (decode cX3_readTape 43 = .ok (.getfield 17, 3)) ∧ (decode cX3_readTape 46 = .ok (.aload_n 0, 1)) := by decide +kernel
theorem dX3_readTape_24 : decode cX3_readTape 24 = .ok (.invokevirtual 47, 3) := zb_X3_readTape_24.1
theorem dX3_readTape_27 : decode cX3_readTape 27 = .ok (.istore_n 1, 1) := zb_X3_readTape_24.2.1
theorem dX3_readTape_28 : decode cX3_readTape 28 = .ok (.aload_n 0, 1) := zb_X3_readTape_24.2.2.1
theorem dX3_readTape_29 : decode cX3_readTape 29 = .ok (.iconst 0, 1) := zb_X3_readTape_24.2.2.2.1
theorem dX3_readTape_30 : decode cX3_readTape 30 = .ok (.putfield 42, 3) := zb_X3_readTape_24.2.2.2.2.1
theorem dX3_readTape_33 : decode cX3_readTape 33 = .ok (.iload_n 1, 1) := zb_X3_readTape_24.2.2.2.2.2.1
theorem dX3_readTape_34 : decode cX3_readTape 34 = .ok (.ifCond .lt 8, 3) := zb_X3_readTape_24.2.2.2.2.2.2.1
theorem dX3_readTape_42 : decode cX3_readTape 42 = .ok (.aload_n 0, 1) := zb_X3_readTape_24.2.2.2.2.2.2.2.1
theorem dX3_readTape_43 : decode cX3_readTape 43 = .ok (.getfield 17, 3) := zb_X3_readTape_24.2.2.2.2.2.2.2.2.1
theorem dX3_readTape_46 : decode cX3_readTape 46 = .ok (.aload_n 0, 1) := zb_X3_readTape_24.2.2.2.2.2.2.2.2.2
theorem zb_X3_readTape_47 : (decode cX3_readTape 47 = .ok (.getfield 38, 3)) ∧ (decode cX3_readTape 50 = .ok (.aaload, 1)) ∧ (decode cX3_readTape 51 = .ok (.aload_n 0, 1)) ∧ (decode cX3_readTape 52 = .ok (.getfield 24, 3)) ∧ (decode cX3_readTape 55 = .ok (.getfield 51, 3)) ∧ (decode cX3_readTape 58 = .ok (.invokevirtual 55, 3)) ∧ (decode cX3_readTape 61 = .ok (.aload_n 0, 1)) ∧ (decode cX3_readTape 62 = .ok (.dup, 1)) ∧ (decode cX3_readTape 63 = .ok (.getfield 38, 3)) ∧ (decode cX3_readTape 66 = .ok (.dup_x1, 1)) := by decide +kernel
theorem dX3_readTape_47 : decode cX3_readTape 47 = .ok (.getfield 38, 3) := zb_X3_readTape_47.1
theorem dX3_readTape_50 : decode cX3_readTape 50 = .ok (.aaload, 1) := zb_X3_readTape_47.2.1
theorem dX3_readTape_51 : decode cX3_readTape 51 = .ok (.aload_n 0, 1) := zb_X3_readTape_47.2.2.1
theorem dX3_readTape_52 : decode cX3_readTape 52 = .ok (.getfield 24, 3) := zb_X3_readTape_47.2.2.2.1
theorem dX3_readTape_55 : decode cX3_readTape 55 = .ok (.getfield 51, 3) := zb_X3_readTape_47.2.2.2.2.1
theorem dX3_readTape_58 : decode cX3_readTape 58 = .ok (.invokevirtual 55, 3) := zb_X3_readTape_47.2.2.2.2.2.1
theorem dX3_readTape_61 : decode cX3_readTape 61 = .ok (.aload_n 0, 1) := zb_X3_readTape_47.2.2.2.2.2.2.1
theorem dX3_readTape_62 : decode cX3_readTape 62 = .ok (.dup, 1) := zb_X3_readTape_47.2.2.2.2.2.2.2.1
theorem dX3_readTape_63 : decode cX3_readTape 63 = .ok (.getfield 38, 3) := zb_X3_readTape_47.2.2.2.2.2.2.2.2.1
theorem dX3_readTape_66 : decode cX3_readTape 66 = .ok (.dup_x1, 1) := zb_X3_readTape_47.2.2.2.2.2.2.2.2.2
theorem zb_X3_readTape_67 : (decode cX3_readTape 67 = .ok (.iconst 1, 1)) ∧ (decode cX3_readTape 68 = .ok (.iadd, 1)) ∧ (decode cX3_readTape 69 = .ok (.putfield 38, 3)) ∧ (decode cX3_readTape 72 = .ok (.ireturn, 1)) ∧ (decode cX3_readTape 37 = .ok (.bipush (-100), 2)) ∧ (decode cX3_readTape 39 = .ok (.iload_n 1, 1)) ∧ (decode cX3_readTape 40 = .ok (.isub, 1)) ∧ (decode cX3_readTape 41 = .ok (.ireturn, 1)) ∧ (decode cX3_readTape 9 = .ok (.bipush (-4), 2)) ∧ (decode cX3_readTape 11 = .ok (.ireturn, 1)) := by decide +kernel
theorem dX3_readTape_67 : decode cX3_readTape 67 = .ok (.iconst 1, 1) := zb_X3_readTape_67.1
theorem dX3_readTape_68 : decode cX3_readTape 68 = .ok (.iadd, 1) := zb_X3_readTape_67.2.1
theorem dX3_readTape_69 : decode cX3_readTape 69 = .ok (.putfield 38, 3) := zb_X3_readTape_67.2.2.1
theorem dX3_readTape_72 : decode cX3_readTape 72 = .ok (.ireturn, 1) := zb_X3_readTape_67.2.2.2.1
theorem dX3_readTape_37 : decode cX3_readTape 37 = .ok (.bipush (-100), 2) := zb_X3_readTape_67.2.2.2.2.1
theorem dX3_readTape_39 : decode cX3_readTape 39 = .ok (.iload_n 1, 1) := zb_X3_readTape_67.2.2.2.2.2.1
theorem dX3_readTape_40 : decode cX3_readTape 40 = .ok (.isub, 1) := zb_X3_readTape_67.2.2.2.2.2.2.1
theorem dX3_readTape_41 : decode cX3_readTape 41 = .ok (.ireturn, 1) := zb_X3_readTape_67.2.2.2.2.2.2.2.1
theorem dX3_readTape_9 : decode cX3_readTape 9 = .ok (.bipush (-4), 2) := zb_X3_readTape_67.2.2.2.2.2.2.2.2.1
theorem dX3_readTape_11 : decode cX3_readTape 11 = .ok (.ireturn, 1) := zb_X3_readTape_67.2.2.2.2.2.2.2.2.2
theorem gX5_readAll_X5_cutTokens : GoodIn wsX5_readAll (wsV RX5 41 RX5 yX5_cutTokens wsX5_cutTokens) := ru_gG (ru_gV tw_4_59 tw_4_61 tw_0_9 tw_1_7 mT_X5_cutTokens)
theorem gX5_readAll_X9_clear : GoodIn wsX5_readAll (wsV RX5 44 RX9 yX9_clear wsX9_clear) := ru_gG (ru_gV tw_4_149 tw_1_230 tw_1_231 tw_1_8 mT_X9_clear)
theorem gX5_readAll_X5_need : GoodIn wsX5_readAll (wsV RX5 53 RX5 yX5_need wsX5_need) := ru_gG (ru_gV tw_4_150 tw_4_152 tw_0_13 tw_1_7 mT_X5_need)
theorem gX5_readAll_X5_readChoice : GoodIn wsX5_readAll (wsV RX5 57 RX5 yX5_readChoice wsX5_readChoice) := ru_gG (ru_gV tw_4_166 tw_4_168 tw_0_17 tw_1_7 mT_X5_readChoice)
theorem gX3_readTape_X5_readAll : GoodIn wsX3_readTape (wsV RX3 47 RX5 yX5_readAll wsX5_readAll) := ru_gG (ru_gV tw_4_54 tw_4_55 tw_4_56 tw_1_7 mT_X5_readAll)
theorem gX3_readTape_X9_become : GoodIn wsX3_readTape (wsV RX3 55 RX9 yX9_become wsX9_become) := ru_gG (ru_gV tw_4_195 tw_4_196 tw_4_197 tw_1_8 mT_X9_become)
theorem dX11_text_0 : decode cX11_text 0 = .ok (.aload_n 0, 1) := by decide +kernel
theorem dX11_text_1 : decode cX11_text 1 = .ok (.getfield 46, 3) := by decide +kernel
theorem gX11_text_X3_readTape : GoodIn wsX11_text (wsV RX11 277 RX3 yX3_readTape wsX3_readTape) := ru_gG (ru_gV tw_4_50 tw_4_51 tw_4_52 tw_1_6 mT_X3_readTape)
theorem dX11_text_4 : decode cX11_text 4 = .ok (.invokevirtual 277, 3) := by decide +kernel
theorem dX11_text_7 : decode cX11_text 7 = .ok (.ireturn, 1) := by decide +kernel
set_option maxHeartbeats 400000 in
set_option maxRecDepth 20000 in
theorem fc_X5_readAll (l : Launch) (D : va_G) (ad : Nat → Nat → Nat) (C : Nat → Nat → ClassId) (nb : Nat) (M : fm_M) (hI : fm_I nb ad M) (p0 : Int32) (b_p0 : 0 ≤ p0.toInt ∧ p0.toInt ≤ 160) : Met l yX5_readAll wsX5_readAll ({ frames := 43, cells := 0, slots := 0, locals := 939 }) (va_Pc [.ref (ad 32 0), .ref (ad 28 0), .int p0] (fm_P D ad C nb M)) (va_Qi (fun (r : Int32) (u : fm_M) => fm_I nb ad u ∧ fm_same [32000, 32001, 32006, 32007, 33000, 34000, 35000, 36001, 36002, 37000] M u ∧ ((-1) ≤ r.toInt ∧ r.toInt ≤ 160)) (fun u t => fm_at D ad C nb u t.heap) (fm_A nb ad)) 0 0 (fm_A nb ad) := by
  refine Met.ofW (cc := cX5_readAll) (maxL := 3) (ret := (some .int)) (by decide) rfl ?_
  intro p e s m args below meth c s₁ B hml hv
  obtain ⟨rfl, hw, hc⟩ := hv
  have hx := B.exec
  have hb := B.bytes
  have hr := B.returns
  have hts := atoms_spec (ws := wsX5_readAll) B.pre
  have hown : s.vm.findClass RX5 = some m.cls := findClass_of_methodNamed B.named
  have hinX5 : ∀ w ∈ u_ws RX5 TX5 8, w ∈ wsX5_readAll := fun w h => List.mem_cons_of_mem _ (iT_X5 w h)
  have hinX9 : ∀ w ∈ u_ws RX9 TX9 3, w ∈ wsX5_readAll := fun w h => List.mem_cons_of_mem _ (iT_X9 w h)
  have hS : va_S (fm_A nb ad) s.heap s.heap [] := va_S.rf
  have hE : fm_same [32000, 32001, 32006, 32007, 33000, 34000, 35000, 36001, 36002, 37000] M M := fm_same.rf
  have hl := lv_entry ([.ref (ad 32 0), .ref (ad 28 0), .int p0]) (n := 3) (Nat.le_of_ble_eq_true rfl)
  rw [lg_entry_eq]
  generalize (lg_sl ([.ref (ad 32 0), .ref (ad 28 0), .int p0]) ++ List.replicate (3 - (lg_sl ([.ref (ad 32 0), .ref (ad 28 0), .int p0])).length) Slot.unset).toArray = ls at hl ⊢
  have hl : lv_has ls 3 [(0, .ref (ad 32 0)), (1, .ref (ad 28 0)), (2, .int p0)] := hl
  refine lv_aload_n hx hb dX5_readAll_0 rfl (lv_at hl 0 rfl) ?_
  refine lv_aload_n hx hb dX5_readAll_1 rfl (lv_at hl 1 rfl) ?_
  refine fm_putG (T := TX5) (N := 8) hx hb hts hinX5 tyX5 tyX5_ok nmX5 hown hc hw hI hE hS kl_32 sh_32 od_32 rfl (by decide) rfl (hts (.fieldLink RX5 11 "RedTent$Reader" "bytes" "[I") (List.mem_cons_of_mem _ tw_1_198)) (fun _ h9 => h9) rfl (by decide +kernel) (by decide) dX5_readAll_2 (fun M1 H locs eM1 hw hI hE hS => ?_)
  refine lv_aload_n hx hb dX5_readAll_5 rfl (lv_at hl 0 rfl) ?_
  refine lv_iload_n hx hb dX5_readAll_6 rfl (lv_at hl 2 rfl) ?_
  refine lv_aload_n hx hb dX5_readAll_7 rfl (lv_at hl 1 rfl) ?_
  refine fm_alen (a := 28) (v := 160) hx hb hc hw kl_28 sh_28 (by decide) (by decide) dX5_readAll_8 ?_
  refine va_mmin hx hb (by rw [hml]; exact hl.1.symm) hown (hts (.methodLink RX5 31 Lib.Math.min.name) (List.mem_cons_of_mem _ tw_4_58)) (hts (.static Lib.Math.min.name) (List.mem_cons_of_mem _ tw_2_181)) (hts (.initialized "java/lang/Math") (List.mem_cons_of_mem _ tw_1_17)) (hts (.code Lib.Math.min.name Lib.Math.min.code 2 (some .int)) (List.mem_cons_of_mem _ tw_2_182)) (Nat.le_of_ble_eq_true rfl) (Nat.le_of_ble_eq_true rfl) (Nat.le_of_ble_eq_true rfl) (Nat.le_of_ble_eq_true rfl) dX5_readAll_9 ?_
  refine lv_topi (fun y2 ey2 => ?_)
  have ty2 : y2.toInt = if 160 < p0.toInt then 160 else p0.toInt := by rw [ey2]; exact zi_min rfl zk_160
  refine fm_putI (a := 32) (j := 1) (T := TX5) (N := 8) hx hb hts hinX5 tyX5 tyX5_ok nmX5 hown hc hw hI hE hS kl_32 sh_32 od_32 rfl (by decide) rfl bd_32_1 (hts (.fieldLink RX5 37 "RedTent$Reader" "size" "I") (List.mem_cons_of_mem _ tw_1_199)) (fun _ h9 => h9) rfl (by decide +kernel) (by omega) (by decide) (by decide) dX5_readAll_12 (fun M3 H locs eM3 hw hI hE hS => ?_)
  refine lv_aload_n hx hb dX5_readAll_15 rfl (lv_at hl 0 rfl) ?_
  refine fm_cv (va_runV (As := []) (rest := []) ⟨hx, hb, hml, hown, hts⟩ (fc_X5_cutTokens l D ad C nb M3 hI (by rw [eM3, fm_wI_22, eM1, fm_wG_at])) (cwV 0 hts gX5_readAll_X5_cutTokens rfl rfl rfl (by decide +kernel) ⟨Nat.le_of_ble_eq_true rfl, Nat.le_of_ble_eq_true rfl⟩) (fm_preV hc hw hS kl_32 sh_32 rfl) rfl rfl hl.1 rfl (lv_room (Nat.le_of_ble_eq_true rfl)) dX5_readAll_16 ⟨by decide +kernel, by decide +kernel⟩) hS hc (fun M5 H locs hr4 hw hS => ?_)
  obtain ⟨hI, hEM5, hr4⟩ := hr4
  have hE := hE.tr hEM5 (by decide)
  refine lv_aload_n hx hb dX5_readAll_19 rfl (lv_at hl 0 rfl) ?_
  refine fm_getG (a := 32) (j := 5) (T := TX5) (N := 8) hx hb hts hinX5 hown hc hw kl_32 sh_32 rfl (by decide) rfl (hI.to kl_32 tg_32_5) (hts (.fieldLink RX5 27 "RedTent$Reader" "made" "LRedTent$Text;") (List.mem_cons_of_mem _ tw_1_203)) (fun _ h9 => h9) dX5_readAll_20 ?_
  refine fm_cv (va_runV (As := []) (rest := []) ⟨hx, hb, hml, hown, hts⟩ (fc_X9_clear l D ad C nb M5 hI) (cwV 0 hts gX5_readAll_X9_clear rfl rfl rfl (by decide +kernel) ⟨Nat.le_of_ble_eq_true rfl, Nat.le_of_ble_eq_true rfl⟩) (fm_preV hc hw hS kl_36 sh_36 rfl) rfl rfl hl.1 rfl (lv_room (Nat.le_of_ble_eq_true rfl)) dX5_readAll_23 ⟨by decide +kernel, by decide +kernel⟩) hS hc (fun M7 H locs hr6 hw hS => ?_)
  obtain ⟨hI, hEM7, hr6⟩ := hr6
  have hE := hE.tr hEM7 (by decide)
  refine lv_aload_n hx hb dX5_readAll_26 rfl (lv_at hl 0 rfl) ?_
  refine lv_iconst (v := 0) hx hb dX5_readAll_27 (by decide) ?_
  refine fm_putI (a := 32) (j := 6) (T := TX5) (N := 8) hx hb hts hinX5 tyX5 tyX5_ok nmX5 hown hc hw hI hE hS kl_32 sh_32 od_32 rfl (by decide) rfl bd_32_6 (hts (.fieldLink RX5 47 "RedTent$Reader" "at" "I") (List.mem_cons_of_mem _ tw_1_205)) (fun _ h9 => h9) rfl (by decide +kernel) (by decide) (by decide) (by decide) dX5_readAll_28 (fun M8 H locs eM8 hw hI hE hS => ?_)
  refine lv_aload_n hx hb dX5_readAll_31 rfl (lv_at hl 0 rfl) ?_
  refine lv_iconst (v := (-1)) hx hb dX5_readAll_32 (by decide) ?_
  refine fm_putI (a := 32) (j := 7) (T := TX5) (N := 8) hx hb hts hinX5 tyX5 tyX5_ok nmX5 hown hc hw hI hE hS kl_32 sh_32 od_32 rfl (by decide) rfl bd_32_7 (hts (.fieldLink RX5 50 "RedTent$Reader" "fault" "I") (List.mem_cons_of_mem _ tw_1_206)) (fun _ h9 => h9) rfl (by decide +kernel) (by decide) (by decide) (by decide) dX5_readAll_33 (fun M9 H locs eM9 hw hI hE hS => ?_)
  refine lv_aload_n hx hb dX5_readAll_36 rfl (lv_at hl 0 rfl) ?_
  refine lv_bipush (v := 7) hx hb dX5_readAll_37 (by decide) ?_
  refine fm_cv (va_runV (As := [.int 7]) (rest := []) ⟨hx, hb, hml, hown, hts⟩ (fc_X5_need l D ad C nb M9 hI 7) (cwV 1 hts gX5_readAll_X5_need rfl rfl rfl (by decide +kernel) ⟨Nat.le_of_ble_eq_true rfl, Nat.le_of_ble_eq_true rfl⟩) (fm_preV hc hw hS kl_32 sh_32 rfl) rfl rfl hl.1 rfl (lv_room (Nat.le_of_ble_eq_true rfl)) dX5_readAll_39 ⟨by decide +kernel, by decide +kernel⟩) hS hc (fun M11 H locs hr10 hw hS => ?_)
  obtain ⟨hI, hEM11, hr10⟩ := hr10
  have hE := hE.tr hEM11 (by decide)
  refine lv_aload_n hx hb dX5_readAll_42 rfl (lv_at hl 0 rfl) ?_
  refine lv_iconst (v := 0) hx hb dX5_readAll_43 (by decide) ?_
  refine fm_cv (va_runV (As := [.int 0]) (rest := []) ⟨hx, hb, hml, hown, hts⟩ (fc_X5_readChoice_0 l D ad C nb M11 hI) (cwV 1 hts gX5_readAll_X5_readChoice rfl rfl rfl (by decide +kernel) ⟨Nat.le_of_ble_eq_true rfl, Nat.le_of_ble_eq_true rfl⟩) (fm_preV hc hw hS kl_32 sh_32 rfl) rfl rfl hl.1 rfl (lv_room (Nat.le_of_ble_eq_true rfl)) dX5_readAll_44 ⟨by decide +kernel, by decide +kernel⟩) hS hc (fun M13 H locs hr12 hw hS => ?_)
  obtain ⟨hI, hEM13, hr12⟩ := hr12
  have hE := hE.tr hEM13 (by decide)
  refine lv_aload_n hx hb dX5_readAll_47 rfl (lv_at hl 0 rfl) ?_
  refine lv_bipush (v := 59) hx hb dX5_readAll_48 (by decide) ?_
  refine fm_cv (va_runV (As := [.int 59]) (rest := []) ⟨hx, hb, hml, hown, hts⟩ (fc_X5_need l D ad C nb M13 hI 59) (cwV 1 hts gX5_readAll_X5_need rfl rfl rfl (by decide +kernel) ⟨Nat.le_of_ble_eq_true rfl, Nat.le_of_ble_eq_true rfl⟩) (fm_preV hc hw hS kl_32 sh_32 rfl) rfl rfl hl.1 rfl (lv_room (Nat.le_of_ble_eq_true rfl)) dX5_readAll_50 ⟨by decide +kernel, by decide +kernel⟩) hS hc (fun M15 H locs hr14 hw hS => ?_)
  obtain ⟨hI, hEM15, hr14⟩ := hr14
  have hE := hE.tr hEM15 (by decide)
  refine lv_aload_n hx hb dX5_readAll_53 rfl (lv_at hl 0 rfl) ?_
  refine fm_getG (a := 32) (j := 5) (T := TX5) (N := 8) hx hb hts hinX5 hown hc hw kl_32 sh_32 rfl (by decide) rfl (hI.to kl_32 tg_32_5) (hts (.fieldLink RX5 27 "RedTent$Reader" "made" "LRedTent$Text;") (List.mem_cons_of_mem _ tw_1_203)) (fun _ h9 => h9) dX5_readAll_54 ?_
  refine lv_aload_n hx hb dX5_readAll_57 rfl (lv_at hl 0 rfl) ?_
  refine fm_getG (a := 32) (j := 5) (T := TX5) (N := 8) hx hb hts hinX5 hown hc hw kl_32 sh_32 rfl (by decide) rfl (hI.to kl_32 tg_32_5) (hts (.fieldLink RX5 27 "RedTent$Reader" "made" "LRedTent$Text;") (List.mem_cons_of_mem _ tw_1_203)) (fun _ h9 => h9) dX5_readAll_58 ?_
  refine fm_getI (a := 36) (j := 1) (T := TX9) (N := 3) hx hb hts hinX9 hown hc hw hI kl_36 sh_36 rfl (by decide) rfl bd_36_1 (hts (.fieldLink RX5 60 "RedTent$Text" "size" "I") (List.mem_cons_of_mem _ tw_1_188)) (fun _ h9 => h9) dX5_readAll_61 (fun x16 ex16 bx16 => ?_)
  refine fm_putI (a := 36) (j := 2) (T := TX9) (N := 3) hx hb hts hinX9 tyX9 tyX9_ok nmX9 hown hc hw hI hE hS kl_36 sh_36 od_36 rfl (by decide) rfl bd_36_2 (hts (.fieldLink RX5 61 "RedTent$Text" "goFrom" "I") (List.mem_cons_of_mem _ tw_1_190)) (fun _ h9 => h9) rfl (by decide +kernel) (by omega) (by decide) (by decide) dX5_readAll_64 (fun M17 H locs eM17 hw hI hE hS => ?_)
  refine lv_aload_n hx hb dX5_readAll_67 rfl (lv_at hl 0 rfl) ?_
  refine lv_bipush (v := 8) hx hb dX5_readAll_68 (by decide) ?_
  refine fm_cv (va_runV (As := [.int 8]) (rest := []) ⟨hx, hb, hml, hown, hts⟩ (fc_X5_need l D ad C nb M17 hI 8) (cwV 1 hts gX5_readAll_X5_need rfl rfl rfl (by decide +kernel) ⟨Nat.le_of_ble_eq_true rfl, Nat.le_of_ble_eq_true rfl⟩) (fm_preV hc hw hS kl_32 sh_32 rfl) rfl rfl hl.1 rfl (lv_room (Nat.le_of_ble_eq_true rfl)) dX5_readAll_70 ⟨by decide +kernel, by decide +kernel⟩) hS hc (fun M19 H locs hr18 hw hS => ?_)
  obtain ⟨hI, hEM19, hr18⟩ := hr18
  have hE := hE.tr hEM19 (by decide)
  refine lv_aload_n hx hb dX5_readAll_73 rfl (lv_at hl 0 rfl) ?_
  refine lv_iconst (v := 0) hx hb dX5_readAll_74 (by decide) ?_
  refine fm_cv (va_runV (As := [.int 0]) (rest := []) ⟨hx, hb, hml, hown, hts⟩ (fc_X5_readChoice_0 l D ad C nb M19 hI) (cwV 1 hts gX5_readAll_X5_readChoice rfl rfl rfl (by decide +kernel) ⟨Nat.le_of_ble_eq_true rfl, Nat.le_of_ble_eq_true rfl⟩) (fm_preV hc hw hS kl_32 sh_32 rfl) rfl rfl hl.1 rfl (lv_room (Nat.le_of_ble_eq_true rfl)) dX5_readAll_75 ⟨by decide +kernel, by decide +kernel⟩) hS hc (fun M21 H locs hr20 hw hS => ?_)
  obtain ⟨hI, hEM21, hr20⟩ := hr20
  have hE := hE.tr hEM21 (by decide)
  refine lv_aload_n hx hb dX5_readAll_78 rfl (lv_at hl 0 rfl) ?_
  refine lv_bipush (v := 59) hx hb dX5_readAll_79 (by decide) ?_
  refine fm_cv (va_runV (As := [.int 59]) (rest := []) ⟨hx, hb, hml, hown, hts⟩ (fc_X5_need l D ad C nb M21 hI 59) (cwV 1 hts gX5_readAll_X5_need rfl rfl rfl (by decide +kernel) ⟨Nat.le_of_ble_eq_true rfl, Nat.le_of_ble_eq_true rfl⟩) (fm_preV hc hw hS kl_32 sh_32 rfl) rfl rfl hl.1 rfl (lv_room (Nat.le_of_ble_eq_true rfl)) dX5_readAll_81 ⟨by decide +kernel, by decide +kernel⟩) hS hc (fun M23 H locs hr22 hw hS => ?_)
  obtain ⟨hI, hEM23, hr22⟩ := hr22
  have hE := hE.tr hEM23 (by decide)
  refine lv_aload_n hx hb dX5_readAll_84 rfl (lv_at hl 0 rfl) ?_
  refine lv_iconst (v := 0) hx hb dX5_readAll_85 (by decide) ?_
  refine fm_cv (va_runV (As := [.int 0]) (rest := []) ⟨hx, hb, hml, hown, hts⟩ (fc_X5_need l D ad C nb M23 hI 0) (cwV 1 hts gX5_readAll_X5_need rfl rfl rfl (by decide +kernel) ⟨Nat.le_of_ble_eq_true rfl, Nat.le_of_ble_eq_true rfl⟩) (fm_preV hc hw hS kl_32 sh_32 rfl) rfl rfl hl.1 rfl (lv_room (Nat.le_of_ble_eq_true rfl)) dX5_readAll_86 ⟨by decide +kernel, by decide +kernel⟩) hS hc (fun M25 H locs hr24 hw hS => ?_)
  obtain ⟨hI, hEM25, hr24⟩ := hr24
  have hE := hE.tr hEM25 (by decide)
  refine lv_aload_n hx hb dX5_readAll_89 rfl (lv_at hl 0 rfl) ?_
  refine fm_getI (a := 32) (j := 7) (T := TX5) (N := 8) hx hb hts hinX5 hown hc hw hI kl_32 sh_32 rfl (by decide) rfl bd_32_7 (hts (.fieldLink RX5 50 "RedTent$Reader" "fault" "I") (List.mem_cons_of_mem _ tw_1_206)) (fun _ h9 => h9) dX5_readAll_90 (fun x26 ex26 bx26 => ?_)
  exact W.iret (v := x26) hx hb hr (fun t ht hW => ⟨⟨x26, M25, rfl, ⟨hI, hE, (by omega)⟩, by show fm_at D ad C nb _ t.heap; rw [ht]; exact hw⟩, hS.F ht⟩) hS.2.2 dX5_readAll_93
set_option maxHeartbeats 400000 in
set_option maxRecDepth 20000 in
theorem fc_X3_readTape (l : Launch) (D : va_G) (ad : Nat → Nat → Nat) (C : Nat → Nat → ClassId) (nb : Nat) (M : fm_M) (hI : fm_I nb ad M) : Met l yX3_readTape wsX3_readTape ({ frames := 44, cells := 0, slots := 0, locals := 961 }) (va_Pc [.ref (ad 27 0)] (fm_P D ad C nb M)) (va_Qi (fun (r : Int32) (u : fm_M) => fm_I nb ad u ∧ fm_same [27001, 27003, 32000, 32001, 32006, 32007, 33000, 34000, 35000, 36001, 36002, 37000, 48001, 48002, 49000] M u ∧ True) (fun u t => fm_at D ad C nb u t.heap) (fm_A nb ad)) 0 0 (fm_A nb ad) := by
  refine Met.ofW (cc := cX3_readTape) (maxL := 2) (ret := (some .int)) (by decide) rfl ?_
  intro p e s m args below meth c s₁ B hml hv
  obtain ⟨rfl, hw, hc⟩ := hv
  have hx := B.exec
  have hb := B.bytes
  have hr := B.returns
  have hts := atoms_spec (ws := wsX3_readTape) B.pre
  have hown : s.vm.findClass RX3 = some m.cls := findClass_of_methodNamed B.named
  have hinX3 : ∀ w ∈ u_ws RX3 TX3 8, w ∈ wsX3_readTape := fun w h => List.mem_cons_of_mem _ (iT_X3 w h)
  have hinX5 : ∀ w ∈ u_ws RX5 TX5 8, w ∈ wsX3_readTape := fun w h => List.mem_cons_of_mem _ (iT_X5 w h)
  have hS : va_S (fm_A nb ad) s.heap s.heap [] := va_S.rf
  have hE : fm_same [27001, 27003, 32000, 32001, 32006, 32007, 33000, 34000, 35000, 36001, 36002, 37000, 48001, 48002, 49000] M M := fm_same.rf
  have hl := lv_entry ([.ref (ad 27 0)]) (n := 2) (Nat.le_of_ble_eq_true rfl)
  rw [lg_entry_eq]
  generalize (lg_sl ([.ref (ad 27 0)]) ++ List.replicate (2 - (lg_sl ([.ref (ad 27 0)])).length) Slot.unset).toArray = ls at hl ⊢
  have hl : lv_has ls 2 [(0, .ref (ad 27 0))] := hl
  refine lv_aload_n hx hb dX3_readTape_0 rfl (lv_at hl 0 rfl) ?_
  refine fm_getI (a := 27) (j := 3) (T := TX3) (N := 8) hx hb hts hinX3 hown hc hw hI kl_27 sh_27 rfl (by decide) rfl bd_27_3 (hts (.fieldLink RX3 38 "RedTent$Orders" "textCount" "I") (List.mem_cons_of_mem _ tw_2_5)) (fun _ h9 => h9) dX3_readTape_1 (fun x1 ex1 bx1 => ?_)
  refine lv_bipush (v := 6) hx hb dX3_readTape_4 (by decide) ?_
  refine fx_icmp_lt (tgt := 12) hx hb dX3_readTape_6 (by decide) rfl zk_6 (fun c2 => ?_) (fun c2 => ?_)
  · refine lv_aload_n hx hb dX3_readTape_12 rfl (lv_at hl 0 rfl) ?_
    refine fm_getG (a := 27) (j := 5) (T := TX3) (N := 8) hx hb hts hinX3 hown hc hw kl_27 sh_27 rfl (by decide) rfl (hI.to kl_27 tg_27_5) (hts (.fieldLink RX3 24 "RedTent$Orders" "reader" "LRedTent$Reader;") (List.mem_cons_of_mem _ tw_2_9)) (fun _ h9 => h9) dX3_readTape_13 ?_
    refine lv_aload_n hx hb dX3_readTape_16 rfl (lv_at hl 0 rfl) ?_
    refine fm_getG (a := 27) (j := 0) (T := TX3) (N := 8) hx hb hts hinX3 hown hc hw kl_27 sh_27 rfl (by decide) rfl (hI.to kl_27 tg_27_0) (hts (.fieldLink RX3 9 "RedTent$Orders" "tape" "[I") (List.mem_cons_of_mem _ tw_2_1)) (fun _ h9 => h9) dX3_readTape_17 ?_
    refine lv_aload_n hx hb dX3_readTape_20 rfl (lv_at hl 0 rfl) ?_
    refine fm_getI (a := 27) (j := 1) (T := TX3) (N := 8) hx hb hts hinX3 hown hc hw hI kl_27 sh_27 rfl (by decide) rfl bd_27_1 (hts (.fieldLink RX3 42 "RedTent$Orders" "tapeSize" "I") (List.mem_cons_of_mem _ tw_2_2)) (fun _ h9 => h9) dX3_readTape_21 (fun x3 ex3 bx3 => ?_)
    refine fm_ci (va_runV (As := [.ref (ad 28 0), .int x3]) (rest := []) ⟨hx, hb, hml, hown, hts⟩ (fc_X5_readAll l D ad C nb M hI x3 (by omega)) (cwV 2 hts gX3_readTape_X5_readAll rfl rfl rfl (by decide +kernel) ⟨Nat.le_of_ble_eq_true rfl, Nat.le_of_ble_eq_true rfl⟩) (fm_preV hc hw hS kl_32 sh_32 rfl) rfl rfl hl.1 rfl (lv_room (Nat.le_of_ble_eq_true rfl)) dX3_readTape_24 ⟨by decide +kernel, by decide +kernel⟩) hS hc (fun r4 M5 H locs hr4 hw hS => ?_)
    obtain ⟨hI, hEM5, hr4⟩ := hr4
    have hE := hE.tr hEM5 (by decide)
    refine lv_istore_n (lv' := [(1, .int r4), (0, .ref (ad 27 0))]) hx hb dX3_readTape_27 rfl hl (by decide) rfl (fun ls hl => ?_)
    refine lv_aload_n hx hb dX3_readTape_28 rfl (lv_at hl 1 rfl) ?_
    refine lv_iconst (v := 0) hx hb dX3_readTape_29 (by decide) ?_
    refine fm_putI (a := 27) (j := 1) (T := TX3) (N := 8) hx hb hts hinX3 tyX3 tyX3_ok nmX3 hown hc hw hI hE hS kl_27 sh_27 od_27 rfl (by decide) rfl bd_27_1 (hts (.fieldLink RX3 42 "RedTent$Orders" "tapeSize" "I") (List.mem_cons_of_mem _ tw_2_2)) (fun _ h9 => h9) rfl (by decide +kernel) (by decide) (by decide) (by decide) dX3_readTape_30 (fun M6 H locs eM6 hw hI hE hS => ?_)
    refine lv_iload_n hx hb dX3_readTape_33 rfl (lv_at hl 0 rfl) ?_
    refine fx_if_lt (tgt := 42) hx hb dX3_readTape_34 (by decide) rfl (fun c7 => ?_) (fun c7 => ?_)
    · refine lv_aload_n hx hb dX3_readTape_42 rfl (lv_at hl 1 rfl) ?_
      refine fm_getG (a := 27) (j := 2) (T := TX3) (N := 8) hx hb hts hinX3 hown hc hw kl_27 sh_27 rfl (by decide) rfl (hI.to kl_27 tg_27_2) (hts (.fieldLink RX3 17 "RedTent$Orders" "texts" "[LRedTent$Text;") (List.mem_cons_of_mem _ tw_2_4)) (fun _ h9 => h9) dX3_readTape_43 ?_
      refine lv_aload_n hx hb dX3_readTape_46 rfl (lv_at hl 1 rfl) ?_
      refine fm_getI (a := 27) (j := 3) (T := TX3) (N := 8) hx hb hts hinX3 hown hc hw hI kl_27 sh_27 rfl (by decide) rfl bd_27_3 (hts (.fieldLink RX3 38 "RedTent$Orders" "textCount" "I") (List.mem_cons_of_mem _ tw_2_5)) (fun _ h9 => h9) dX3_readTape_47 (fun x8 ex8 bx8 => ?_)
      obtain rfl : x1 = x8 := by rw [ex8, eM6, fm_wI_nj (fun z => absurd z.2.2 (by decide)), (hEM5 27 0 3 (by decide)).1]; exact ex1
      have hk9 : x1.toNatClampNeg < 6 := zi_cln (by omega)
      refine fm_aald (a := 29) (i := x1) hx hb hc hw kl_29 sh_29 ty_29 (by omega) dX3_readTape_50 (hI.2.2.2.1 _ hk9) ?_
      refine lv_aload_n hx hb dX3_readTape_51 rfl (lv_at hl 1 rfl) ?_
      refine fm_getG (a := 27) (j := 5) (T := TX3) (N := 8) hx hb hts hinX3 hown hc hw kl_27 sh_27 rfl (by decide) rfl (hI.to kl_27 tg_27_5) (hts (.fieldLink RX3 24 "RedTent$Orders" "reader" "LRedTent$Reader;") (List.mem_cons_of_mem _ tw_2_9)) (fun _ h9 => h9) dX3_readTape_52 ?_
      refine fm_getG (a := 32) (j := 5) (T := TX5) (N := 8) hx hb hts hinX5 hown hc hw kl_32 sh_32 rfl (by decide) rfl (hI.to kl_32 tg_32_5) (hts (.fieldLink RX3 51 "RedTent$Reader" "made" "LRedTent$Text;") (List.mem_cons_of_mem _ tw_1_204)) (fun _ h9 => h9) dX3_readTape_55 ?_
      refine fm_cv (va_runV (As := [.ref (ad 36 0)]) (rest := []) ⟨hx, hb, hml, hown, hts⟩ (fc_X9_become l D ad C nb M6 hI x1.toNatClampNeg hk9) (cwV 1 hts gX3_readTape_X9_become rfl rfl rfl (by decide +kernel) ⟨Nat.le_of_ble_eq_true rfl, Nat.le_of_ble_eq_true rfl⟩) (fm_preV hc hw hS (kl_48 hk9) sh_48 rfl) rfl rfl hl.1 rfl (lv_room (Nat.le_of_ble_eq_true rfl)) dX3_readTape_58 ⟨by decide +kernel, by decide +kernel⟩) hS hc (fun M11 H locs hr10 hw hS => ?_)
      obtain ⟨hI, hEM11, hr10⟩ := hr10
      have hE := hE.tr hEM11 (by decide)
      refine lv_aload_n hx hb dX3_readTape_61 rfl (lv_at hl 1 rfl) ?_
      refine lv_dup hx hb dX3_readTape_62 rfl ?_
      refine fm_getI (a := 27) (j := 3) (T := TX3) (N := 8) hx hb hts hinX3 hown hc hw hI kl_27 sh_27 rfl (by decide) rfl bd_27_3 (hts (.fieldLink RX3 38 "RedTent$Orders" "textCount" "I") (List.mem_cons_of_mem _ tw_2_5)) (fun _ h9 => h9) dX3_readTape_63 (fun x12 ex12 bx12 => ?_)
      obtain rfl : x1 = x12 := by rw [ex12, (hEM11 27 0 3 (by decide)).1, eM6, fm_wI_nj (fun z => absurd z.2.2 (by decide)), (hEM5 27 0 3 (by decide)).1]; exact ex1
      refine lv_dup_x1 hx hb dX3_readTape_66 rfl rfl ?_
      refine lv_iconst (v := 1) hx hb dX3_readTape_67 (by decide) ?_
      refine fx_iadd hx hb dX3_readTape_68 rfl zk_1 (by omega) (fun y13 ey13 ty13 => ?_)
      refine fm_putI (a := 27) (j := 3) (T := TX3) (N := 8) hx hb hts hinX3 tyX3 tyX3_ok nmX3 hown hc hw hI hE hS kl_27 sh_27 od_27 rfl (by decide) rfl bd_27_3 (hts (.fieldLink RX3 38 "RedTent$Orders" "textCount" "I") (List.mem_cons_of_mem _ tw_2_5)) (fun _ h9 => h9) rfl (by decide +kernel) (by omega) (by decide) (by decide) dX3_readTape_69 (fun M14 H locs eM14 hw hI hE hS => ?_)
      exact W.iret (v := x1) hx hb hr (fun t ht hW => ⟨⟨x1, M14, rfl, ⟨hI, hE, trivial⟩, by show fm_at D ad C nb _ t.heap; rw [ht]; exact hw⟩, hS.F ht⟩) hS.2.2 dX3_readTape_72
    · refine lv_bipush (v := (-100)) hx hb dX3_readTape_37 (by decide) ?_
      refine lv_iload_n hx hb dX3_readTape_39 rfl (lv_at hl 0 rfl) ?_
      refine fx_isub hx hb dX3_readTape_40 (show ((-100) : Int32).toInt = (-100) from rfl) rfl (by omega) (fun y15 ey15 ty15 => ?_)
      exact W.iret (v := y15) hx hb hr (fun t ht hW => ⟨⟨y15, M6, rfl, ⟨hI, hE, trivial⟩, by show fm_at D ad C nb _ t.heap; rw [ht]; exact hw⟩, hS.F ht⟩) hS.2.2 dX3_readTape_41
  · refine lv_bipush (v := (-4)) hx hb dX3_readTape_9 (by decide) ?_
    exact W.iret (v := (-4)) hx hb hr (fun t ht hW => ⟨⟨(-4), M, rfl, ⟨hI, hE, trivial⟩, by show fm_at D ad C nb _ t.heap; rw [ht]; exact hw⟩, hS.F ht⟩) hS.2.2 dX3_readTape_11
set_option maxHeartbeats 400000 in
set_option maxRecDepth 20000 in
theorem fc_X11_text (l : Launch) (D : va_G) (ad : Nat → Nat → Nat) (C : Nat → Nat → ClassId) (nb : Nat) (M : fm_M) (hI : fm_I nb ad M) : Met l yX11_text wsX11_text ({ frames := 45, cells := 0, slots := 0, locals := 982 }) (va_Pc [.ref (ad 0 0)] (fm_P D ad C nb M)) (va_Qi (fun (r : Int32) (u : fm_M) => fm_I nb ad u ∧ fm_same [27001, 27003, 32000, 32001, 32006, 32007, 33000, 34000, 35000, 36001, 36002, 37000, 48001, 48002, 49000] M u ∧ True) (fun u t => fm_at D ad C nb u t.heap) (fm_A nb ad)) 0 0 (fm_A nb ad) := by
  refine Met.ofW (cc := cX11_text) (maxL := 1) (ret := (some .int)) (by decide) rfl ?_
  intro p e s m args below meth c s₁ B hml hv
  obtain ⟨rfl, hw, hc⟩ := hv
  have hx := B.exec
  have hb := B.bytes
  have hr := B.returns
  have hts := atoms_spec (ws := wsX11_text) B.pre
  have hown : s.vm.findClass RX11 = some m.cls := findClass_of_methodNamed B.named
  have hinX11 : ∀ w ∈ u_ws RX11 TX11 13, w ∈ wsX11_text := fun w h => List.mem_cons_of_mem _ (iT_X11 w h)
  have hS : va_S (fm_A nb ad) s.heap s.heap [] := va_S.rf
  have hE : fm_same [27001, 27003, 32000, 32001, 32006, 32007, 33000, 34000, 35000, 36001, 36002, 37000, 48001, 48002, 49000] M M := fm_same.rf
  have hl := lv_entry ([.ref (ad 0 0)]) (n := 1) (Nat.le_of_ble_eq_true rfl)
  rw [lg_entry_eq]
  generalize (lg_sl ([.ref (ad 0 0)]) ++ List.replicate (1 - (lg_sl ([.ref (ad 0 0)])).length) Slot.unset).toArray = ls at hl ⊢
  have hl : lv_has ls 1 [(0, .ref (ad 0 0))] := hl
  refine lv_aload_n hx hb dX11_text_0 rfl (lv_at hl 0 rfl) ?_
  refine fm_getG (a := 0) (j := 5) (T := TX11) (N := 13) hx hb hts hinX11 hown hc hw kl_0 sh_0 rfl (by decide) rfl (hI.to kl_0 tg_0_5) (hts (.fieldLink RX11 46 "RedTent" "orders" "LRedTent$Orders;") (List.mem_cons_of_mem _ tw_2_100)) (fun _ h9 => h9) dX11_text_1 ?_
  refine fm_ci (va_runV (As := []) (rest := []) ⟨hx, hb, hml, hown, hts⟩ (fc_X3_readTape l D ad C nb M hI) (cwV 0 hts gX11_text_X3_readTape rfl rfl rfl (by decide +kernel) ⟨Nat.le_of_ble_eq_true rfl, Nat.le_of_ble_eq_true rfl⟩) (fm_preV hc hw hS kl_27 sh_27 rfl) rfl rfl hl.1 rfl (lv_room (Nat.le_of_ble_eq_true rfl)) dX11_text_4 ⟨by decide +kernel, by decide +kernel⟩) hS hc (fun r1 M2 H locs hr1 hw hS => ?_)
  obtain ⟨hI, hEM2, hr1⟩ := hr1
  have hE := hE.tr hEM2 (by decide)
  exact W.iret (v := r1) hx hb hr (fun t ht hW => ⟨⟨r1, M2, rfl, ⟨hI, hE, trivial⟩, by show fm_at D ad C nb _ t.heap; rw [ht]; exact hw⟩, hS.F ht⟩) hS.2.2 dX11_text_7

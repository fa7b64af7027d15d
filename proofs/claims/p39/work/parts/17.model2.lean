theorem zb_X12_pass_0 : (decode cX12_pass 0 = .ok (.iload_n 1, 1)) ∧ (decode cX12_pass 1 = .ok (.iconst 1, 1)) ∧ (decode cX12_pass 2 = .ok (.bipush 48, 2)) ∧ (decode cX12_pass 4 = .ok (.invokestatic 186, 3)) ∧ (decode cX12_pass 7 = .ok (.ifCond .ne 6, 3)) ∧ (decode cX12_pass 13 = .ok (.aload_n 0, 1)) ∧ (decode cX12_pass 14 = .ok (.getfield 201, 3)) ∧ (decode cX12_pass 17 = .ok (.iload_n 1, 1)) ∧ (decode cX12_pass 18 = .ok (.iadd, 1)) ∧ (decode cX12_pass 19 = .ok (.sipush 239, 3)) ∧ (decode cX12_pass 22 = .ok (.if_icmp .le 6, 3)) := by decide +kernel
theorem dX12_pass_0 : decode cX12_pass 0 = .ok (.iload_n 1, 1) := zb_X12_pass_0.1
theorem dX12_pass_1 : decode cX12_pass 1 = .ok (.iconst 1, 1) := zb_X12_pass_0.2.1
theorem dX12_pass_2 : decode cX12_pass 2 = .ok (.bipush 48, 2) := zb_X12_pass_0.2.2.1
theorem dX12_pass_4 : decode cX12_pass 4 = .ok (.invokestatic 186, 3) := zb_X12_pass_0.2.2.2.1
theorem dX12_pass_7 : decode cX12_pass 7 = .ok (.ifCond .ne 6, 3) := zb_X12_pass_0.2.2.2.2.1
theorem dX12_pass_13 : decode cX12_pass 13 = .ok (.aload_n 0, 1) := zb_X12_pass_0.2.2.2.2.2.1
theorem dX12_pass_14 : decode cX12_pass 14 = .ok (.getfield 201, 3) := zb_X12_pass_0.2.2.2.2.2.2.1
theorem dX12_pass_17 : decode cX12_pass 17 = .ok (.iload_n 1, 1) := zb_X12_pass_0.2.2.2.2.2.2.2.1
theorem dX12_pass_18 : decode cX12_pass 18 = .ok (.iadd, 1) := zb_X12_pass_0.2.2.2.2.2.2.2.2.1
theorem dX12_pass_19 : decode cX12_pass 19 = .ok (.sipush 239, 3) := zb_X12_pass_0.2.2.2.2.2.2.2.2.2.1
theorem dX12_pass_22 : decode cX12_pass 22 = .ok (.if_icmp .le 6, 3) := zb_X12_pass_0.2.2.2.2.2.2.2.2.2.2
theorem zb_X12_pass_28 : (decode cX12_pass 28 = .ok (.aload_n 0, 1)) ∧ (decode cX12_pass 29 = .ok (.dup, 1)) ∧ (decode cX12_pass 30 = .ok (.getfield 201, 3)) ∧ (decode cX12_pass 33 = .ok (.iload_n 1, 1)) ∧ (decode cX12_pass 34 = .ok (.iadd, 1)) ∧ (decode cX12_pass 35 = .ok (.putfield 201, 3)) ∧ (decode cX12_pass 38 = .ok (.iconst 0, 1)) ∧ (decode cX12_pass 39 = .ok (.istore_n 2, 1)) ∧ (decode cX12_pass 40 = .ok (.iload_n 2, 1)) ∧ (decode cX12_pass 41 = .ok (.aload_n 0, 1)) ∧ (decode cX12_pass 42 = .ok (.getfield 190, 3)) := by decide +kernel
theorem dX12_pass_28 : decode cX12_pass 28 = .ok (.aload_n 0, 1) := zb_X12_pass_28.1
theorem dX12_pass_29 : decode cX12_pass 29 = .ok (.dup, 1) := zb_X12_pass_28.2.1
theorem dX12_pass_30 : decode cX12_pass 30 = .ok (.getfield 201, 3) := zb_X12_pass_28.2.2.1
theorem dX12_pass_33 : decode cX12_pass 33 = .ok (.iload_n 1, 1) := zb_X12_pass_28.2.2.2.1
theorem dX12_pass_34 : decode cX12_pass 34 = .ok (.iadd, 1) := zb_X12_pass_28.2.2.2.2.1
theorem dX12_pass_35 : decode cX12_pass 35 = .ok (.putfield 201, 3) := zb_X12_pass_28.2.2.2.2.2.1
theorem dX12_pass_38 : decode cX12_pass 38 = .ok (.iconst 0, 1) := zb_X12_pass_28.2.2.2.2.2.2.1
theorem dX12_pass_39 : decode cX12_pass 39 = .ok (.istore_n 2, 1) := zb_X12_pass_28.2.2.2.2.2.2.2.1
theorem dX12_pass_40 : decode cX12_pass 40 = .ok (.iload_n 2, 1) := zb_X12_pass_28.2.2.2.2.2.2.2.2.1
theorem dX12_pass_41 : decode cX12_pass 41 = .ok (.aload_n 0, 1) := zb_X12_pass_28.2.2.2.2.2.2.2.2.2.1
theorem dX12_pass_42 : decode cX12_pass 42 = .ok (.getfield 190, 3) := zb_X12_pass_28.2.2.2.2.2.2.2.2.2.2
theorem zb_X12_pass_45 : (decode cX12_pass 45 = .ok (.if_icmp .ge 39, 3)) ∧ (decode cX12_pass 84 = .ok (.aload_n 0, 1)) ∧ (decode cX12_pass 85 = .ok (.getfield 201, 3)) ∧ (decode cX12_pass 88 = .ok (.ireturn, 1)) ∧ (decode cX12_pass 48 = .ok (.aload_n 0, 1)) ∧ (decode cX12_pass 49 = .ok (.getfield 40, 3)) ∧ (decode cX12_pass 52 = .ok (.iload_n 2, 1)) ∧ (decode cX12_pass 53 = .ok (.iaload, 1)) ∧ (decode cX12_pass 54 = .ok (.iload_n 1, 1)) ∧ (decode cX12_pass 55 = .ok (.aload_n 0, 1)) ∧ (decode cX12_pass 56 = .ok (.iload_n 2, 1)) := by decide +kernel
theorem dX12_pass_45 : decode cX12_pass 45 = .ok (.if_icmp .ge 39, 3) := zb_X12_pass_45.1
theorem dX12_pass_84 : decode cX12_pass 84 = .ok (.aload_n 0, 1) := zb_X12_pass_45.2.1
theorem dX12_pass_85 : decode cX12_pass 85 = .ok (.getfield 201, 3) := zb_X12_pass_45.2.2.1
theorem dX12_pass_88 : decode cX12_pass 88 = .ok (.ireturn, 1) := zb_X12_pass_45.2.2.2.1
theorem dX12_pass_48 : decode cX12_pass 48 = .ok (.aload_n 0, 1) := zb_X12_pass_45.2.2.2.2.1
theorem dX12_pass_49 : decode cX12_pass 49 = .ok (.getfield 40, 3) := zb_X12_pass_45.2.2.2.2.2.1
theorem dX12_pass_52 : decode cX12_pass 52 = .ok (.iload_n 2, 1) := zb_X12_pass_45.2.2.2.2.2.2.1
theorem dX12_pass_53 : decode cX12_pass 53 = .ok (.iaload, 1) := zb_X12_pass_45.2.2.2.2.2.2.2.1
theorem dX12_pass_54 : decode cX12_pass 54 = .ok (.iload_n 1, 1) := zb_X12_pass_45.2.2.2.2.2.2.2.2.1
theorem dX12_pass_55 : decode cX12_pass 55 = .ok (.aload_n 0, 1) := zb_X12_pass_45.2.2.2.2.2.2.2.2.2.1
theorem dX12_pass_56 : decode cX12_pass 56 = .ok (.iload_n 2, 1) := zb_X12_pass_45.2.2.2.2.2.2.2.2.2.2
theorem zb_X12_pass_57 : (decode cX12_pass 57 = .ok (.invokevirtual 204, 3)) ∧ (decode cX12_pass 60 = .ok (.imul, 1)) ∧ (decode cX12_pass 61 = .ok (.isub, 1)) ∧ (decode cX12_pass 62 = .ok (.istore_n 3, 1)) ∧ (decode cX12_pass 63 = .ok (.aload_n 0, 1)) ∧ (decode cX12_pass 64 = .ok (.getfield 40, 3)) ∧ (decode cX12_pass 67 = .ok (.iload_n 2, 1)) ∧ (decode cX12_pass 68 = .ok (.iload_n 3, 1)) ∧ (decode cX12_pass 69 = .ok (.ifCond .ge 7, 3)) ∧ (decode cX12_pass 76 = .ok (.iload_n 3, 1)) ∧ (decode cX12_pass 77 = .ok (.iastore, 1)) := by decide +kernel
theorem dX12_pass_57 : decode cX12_pass 57 = .ok (.invokevirtual 204, 3) := zb_X12_pass_57.1
theorem dX12_pass_60 : decode cX12_pass 60 = .ok (.imul, 1) := zb_X12_pass_57.2.1
theorem dX12_pass_61 : decode cX12_pass 61 = .ok (.isub, 1) := zb_X12_pass_57.2.2.1
theorem dX12_pass_62 : decode cX12_pass 62 = .ok (.istore_n 3, 1) := zb_X12_pass_57.2.2.2.1
theorem dX12_pass_63 : decode cX12_pass 63 = .ok (.aload_n 0, 1) := zb_X12_pass_57.2.2.2.2.1
theorem dX12_pass_64 : decode cX12_pass 64 = .ok (.getfield 40, 3) := zb_X12_pass_57.2.2.2.2.2.1
theorem dX12_pass_67 : decode cX12_pass 67 = .ok (.iload_n 2, 1) := zb_X12_pass_57.2.2.2.2.2.2.1
theorem dX12_pass_68 : decode cX12_pass 68 = .ok (.iload_n 3, 1) := zb_X12_pass_57.2.2.2.2.2.2.2.1
theorem dX12_pass_69 : decode cX12_pass 69 = .ok (.ifCond .ge 7, 3) := zb_X12_pass_57.2.2.2.2.2.2.2.2.1
theorem dX12_pass_76 : decode cX12_pass 76 = .ok (.iload_n 3, 1) := zb_X12_pass_57.2.2.2.2.2.2.2.2.2.1
theorem dX12_pass_77 : decode cX12_pass 77 = .ok (.iastore, 1) := zb_X12_pass_57.2.2.2.2.2.2.2.2.2.2
theorem zb_X12_pass_78 : (decode cX12_pass 78 = .ok (.iinc 2 1, 3)) ∧ (decode cX12_pass 81 = .ok (.goto (-41), 3)) ∧ (decode cX12_pass 72 = .ok (.iconst 0, 1)) ∧ (decode cX12_pass 73 = .ok (.goto 4, 3)) ∧ (decode cX12_pass 25 = .ok (.bipush (-4), 2)) ∧ (decode cX12_pass 27 = .ok (.ireturn, 1)) ∧ (decode cX12_pass 10 = .ok (.bipush (-2), 2)) ∧ (decode cX12_pass 12 = .ok (.ireturn, 1)) := by decide +kernel
theorem dX12_pass_78 : decode cX12_pass 78 = .ok (.iinc 2 1, 3) := zb_X12_pass_78.1
theorem dX12_pass_81 : decode cX12_pass 81 = .ok (.goto (-41), 3) := zb_X12_pass_78.2.1
theorem dX12_pass_72 : decode cX12_pass 72 = .ok (.iconst 0, 1) := zb_X12_pass_78.2.2.1
theorem dX12_pass_73 : decode cX12_pass 73 = .ok (.goto 4, 3) := zb_X12_pass_78.2.2.2.1
theorem dX12_pass_25 : decode cX12_pass 25 = .ok (.bipush (-4), 2) := zb_X12_pass_78.2.2.2.2.1
theorem dX12_pass_27 : decode cX12_pass 27 = .ok (.ireturn, 1) := zb_X12_pass_78.2.2.2.2.2.1
theorem dX12_pass_10 : decode cX12_pass 10 = .ok (.bipush (-2), 2) := zb_X12_pass_78.2.2.2.2.2.2.1
theorem dX12_pass_12 : decode cX12_pass 12 = .ok (.ireturn, 1) := zb_X12_pass_78.2.2.2.2.2.2.2
theorem zb_X12_wind_56 : (decode cX12_wind 56 = .ok (.iload 4, 2)) ∧ (decode cX12_wind 65 = .ok (.idiv, 1)) ∧ (decode cX12_wind 69 = .ok (.idiv, 1)) ∧ (decode cX12_wind 72 = .ok (.irem, 1)) ∧ (decode cX12_wind 79 = .ok (.idiv, 1)) ∧ (decode cX12_wind 82 = .ok (.irem, 1)) ∧ (decode cX12_wind 86 = .ok (.irem, 1)) := by decide +kernel
theorem dX12_wind_56 : decode cX12_wind 56 = .ok (.iload 4, 2) := zb_X12_wind_56.1
theorem dX12_wind_65 : decode cX12_wind 65 = .ok (.idiv, 1) := zb_X12_wind_56.2.1
theorem dX12_wind_69 : decode cX12_wind 69 = .ok (.idiv, 1) := zb_X12_wind_56.2.2.1
theorem dX12_wind_72 : decode cX12_wind 72 = .ok (.irem, 1) := zb_X12_wind_56.2.2.2.1
theorem dX12_wind_79 : decode cX12_wind 79 = .ok (.idiv, 1) := zb_X12_wind_56.2.2.2.2.1
theorem dX12_wind_82 : decode cX12_wind 82 = .ok (.irem, 1) := zb_X12_wind_56.2.2.2.2.2.1
theorem dX12_wind_86 : decode cX12_wind 86 = .ok (.irem, 1) := zb_X12_wind_56.2.2.2.2.2.2
theorem zb_X12_wind_22 : (decode cX12_wind 22 = .ok (.idiv, 1)) ∧ (decode cX12_wind 25 = .ok (.irem, 1)) ∧ (decode cX12_wind 54 = .ok (.istore 4, 2)) ∧ (decode cX12_wind 33 = .ok (.idiv, 1)) ∧ (decode cX12_wind 36 = .ok (.irem, 1)) ∧ (decode cX12_wind 44 = .ok (.irem, 1)) := by decide +kernel
theorem dX12_wind_22 : decode cX12_wind 22 = .ok (.idiv, 1) := zb_X12_wind_22.1
theorem dX12_wind_25 : decode cX12_wind 25 = .ok (.irem, 1) := zb_X12_wind_22.2.1
theorem dX12_wind_54 : decode cX12_wind 54 = .ok (.istore 4, 2) := zb_X12_wind_22.2.2.1
theorem dX12_wind_33 : decode cX12_wind 33 = .ok (.idiv, 1) := zb_X12_wind_22.2.2.2.1
theorem dX12_wind_36 : decode cX12_wind 36 = .ok (.irem, 1) := zb_X12_wind_22.2.2.2.2.1
theorem dX12_wind_44 : decode cX12_wind 44 = .ok (.irem, 1) := zb_X12_wind_22.2.2.2.2.2
theorem zb_X12_fog_0 : (decode cX12_fog 0 = .ok (.iload_n 1, 1)) ∧ (decode cX12_fog 1 = .ok (.iload_n 2, 1)) ∧ (decode cX12_fog 2 = .ok (.invokestatic 207, 3)) ∧ (decode cX12_fog 5 = .ok (.ifCond .eq 13, 3)) ∧ (decode cX12_fog 8 = .ok (.iload_n 3, 1)) ∧ (decode cX12_fog 9 = .ok (.iconst 0, 1)) ∧ (decode cX12_fog 10 = .ok (.bipush 16, 2)) ∧ (decode cX12_fog 12 = .ok (.invokestatic 186, 3)) ∧ (decode cX12_fog 15 = .ok (.ifCond .ne 6, 3)) ∧ (decode cX12_fog 21 = .ok (.aload_n 0, 1)) ∧ (decode cX12_fog 22 = .ok (.getfield 214, 3)) := by decide +kernel
theorem dX12_fog_0 : decode cX12_fog 0 = .ok (.iload_n 1, 1) := zb_X12_fog_0.1
theorem dX12_fog_1 : decode cX12_fog 1 = .ok (.iload_n 2, 1) := zb_X12_fog_0.2.1
theorem dX12_fog_2 : decode cX12_fog 2 = .ok (.invokestatic 207, 3) := zb_X12_fog_0.2.2.1
theorem dX12_fog_5 : decode cX12_fog 5 = .ok (.ifCond .eq 13, 3) := zb_X12_fog_0.2.2.2.1
theorem dX12_fog_8 : decode cX12_fog 8 = .ok (.iload_n 3, 1) := zb_X12_fog_0.2.2.2.2.1
theorem dX12_fog_9 : decode cX12_fog 9 = .ok (.iconst 0, 1) := zb_X12_fog_0.2.2.2.2.2.1
theorem dX12_fog_10 : decode cX12_fog 10 = .ok (.bipush 16, 2) := zb_X12_fog_0.2.2.2.2.2.2.1
theorem dX12_fog_12 : decode cX12_fog 12 = .ok (.invokestatic 186, 3) := zb_X12_fog_0.2.2.2.2.2.2.2.1
theorem dX12_fog_15 : decode cX12_fog 15 = .ok (.ifCond .ne 6, 3) := zb_X12_fog_0.2.2.2.2.2.2.2.2.1
theorem dX12_fog_21 : decode cX12_fog 21 = .ok (.aload_n 0, 1) := zb_X12_fog_0.2.2.2.2.2.2.2.2.2.1
theorem dX12_fog_22 : decode cX12_fog 22 = .ok (.getfield 214, 3) := zb_X12_fog_0.2.2.2.2.2.2.2.2.2.2
theorem zb_X12_fog_25 : (decode cX12_fog 25 = .ok (.bipush 30, 2)) ∧ (decode cX12_fog 27 = .ok (.if_icmp .ne 6, 3)) ∧ (decode cX12_fog 33 = .ok (.aload_n 0, 1)) ∧ (decode cX12_fog 34 = .ok (.getfield 19, 3)) ∧ (decode cX12_fog 37 = .ok (.aload_n 0, 1)) ∧ (decode cX12_fog 38 = .ok (.getfield 214, 3)) ∧ (decode cX12_fog 41 = .ok (.iload_n 1, 1)) ∧ (decode cX12_fog 42 = .ok (.iastore, 1)) ∧ (decode cX12_fog 43 = .ok (.aload_n 0, 1)) ∧ (decode cX12_fog 44 = .ok (.getfield 22, 3)) ∧ (decode cX12_fog 47 = .ok (.aload_n 0, 1)) := by decide +kernel
theorem dX12_fog_25 : decode cX12_fog 25 = .ok (.bipush 30, 2) := zb_X12_fog_25.1
theorem dX12_fog_27 : decode cX12_fog 27 = .ok (.if_icmp .ne 6, 3) := zb_X12_fog_25.2.1
theorem dX12_fog_33 : decode cX12_fog 33 = .ok (.aload_n 0, 1) := zb_X12_fog_25.2.2.1
theorem dX12_fog_34 : decode cX12_fog 34 = .ok (.getfield 19, 3) := zb_X12_fog_25.2.2.2.1
theorem dX12_fog_37 : decode cX12_fog 37 = .ok (.aload_n 0, 1) := zb_X12_fog_25.2.2.2.2.1
theorem dX12_fog_38 : decode cX12_fog 38 = .ok (.getfield 214, 3) := zb_X12_fog_25.2.2.2.2.2.1
theorem dX12_fog_41 : decode cX12_fog 41 = .ok (.iload_n 1, 1) := zb_X12_fog_25.2.2.2.2.2.2.1
theorem dX12_fog_42 : decode cX12_fog 42 = .ok (.iastore, 1) := zb_X12_fog_25.2.2.2.2.2.2.2.1
theorem dX12_fog_43 : decode cX12_fog 43 = .ok (.aload_n 0, 1) := zb_X12_fog_25.2.2.2.2.2.2.2.2.1
theorem dX12_fog_44 : decode cX12_fog 44 = .ok (.getfield 22, 3) := zb_X12_fog_25.2.2.2.2.2.2.2.2.2.1
theorem dX12_fog_47 : decode cX12_fog 47 = .ok (.aload_n 0, 1) := zb_X12_fog_25.2.2.2.2.2.2.2.2.2.2
theorem zb_X12_fog_48 : (decode cX12_fog 48 = .ok (.getfield 214, 3)) ∧ (decode cX12_fog 51 = .ok (.iload_n 2, 1)) ∧ (decode cX12_fog 52 = .ok (.iastore, 1)) ∧ (decode cX12_fog 53 = .ok (.aload_n 0, 1)) ∧ (decode cX12_fog 54 = .ok (.getfield 25, 3)) ∧ (decode cX12_fog 57 = .ok (.aload_n 0, 1)) ∧ (decode cX12_fog 58 = .ok (.getfield 214, 3)) ∧ (decode cX12_fog 61 = .ok (.iload_n 3, 1)) ∧ (decode cX12_fog 62 = .ok (.iastore, 1)) ∧ (decode cX12_fog 63 = .ok (.aload_n 0, 1)) ∧ (decode cX12_fog 64 = .ok (.dup, 1)) := by decide +kernel
theorem dX12_fog_48 : decode cX12_fog 48 = .ok (.getfield 214, 3) := zb_X12_fog_48.1
theorem dX12_fog_51 : decode cX12_fog 51 = .ok (.iload_n 2, 1) := zb_X12_fog_48.2.1
theorem dX12_fog_52 : decode cX12_fog 52 = .ok (.iastore, 1) := zb_X12_fog_48.2.2.1
theorem dX12_fog_53 : decode cX12_fog 53 = .ok (.aload_n 0, 1) := zb_X12_fog_48.2.2.2.1
theorem dX12_fog_54 : decode cX12_fog 54 = .ok (.getfield 25, 3) := zb_X12_fog_48.2.2.2.2.1
theorem dX12_fog_57 : decode cX12_fog 57 = .ok (.aload_n 0, 1) := zb_X12_fog_48.2.2.2.2.2.1
theorem dX12_fog_58 : decode cX12_fog 58 = .ok (.getfield 214, 3) := zb_X12_fog_48.2.2.2.2.2.2.1
theorem dX12_fog_61 : decode cX12_fog 61 = .ok (.iload_n 3, 1) := zb_X12_fog_48.2.2.2.2.2.2.2.1
theorem dX12_fog_62 : decode cX12_fog 62 = .ok (.iastore, 1) := zb_X12_fog_48.2.2.2.2.2.2.2.2.1
theorem dX12_fog_63 : decode cX12_fog 63 = .ok (.aload_n 0, 1) := zb_X12_fog_48.2.2.2.2.2.2.2.2.2.1
theorem dX12_fog_64 : decode cX12_fog 64 = .ok (.dup, 1) := zb_X12_fog_48.2.2.2.2.2.2.2.2.2.2
theorem zb_X12_fog_65 : (decode cX12_fog 65 = .ok (.getfield 214, 3)) ∧ (decode cX12_fog 68 = .ok (.iconst 1, 1)) ∧ (decode cX12_fog 69 = .ok (.iadd, 1)) ∧ (decode cX12_fog 70 = .ok (.putfield 214, 3)) ∧ (decode cX12_fog 73 = .ok (.aload_n 0, 1)) ∧ (decode cX12_fog 74 = .ok (.getfield 214, 3)) ∧ (decode cX12_fog 77 = .ok (.ireturn, 1)) ∧ (decode cX12_fog 30 = .ok (.bipush (-4), 2)) ∧ (decode cX12_fog 32 = .ok (.ireturn, 1)) ∧ (decode cX12_fog 18 = .ok (.bipush (-2), 2)) ∧ (decode cX12_fog 20 = .ok (.ireturn, 1)) := by decide +kernel
theorem dX12_fog_65 : decode cX12_fog 65 = .ok (.getfield 214, 3) := zb_X12_fog_65.1
theorem dX12_fog_68 : decode cX12_fog 68 = .ok (.iconst 1, 1) := zb_X12_fog_65.2.1
theorem dX12_fog_69 : decode cX12_fog 69 = .ok (.iadd, 1) := zb_X12_fog_65.2.2.1
theorem dX12_fog_70 : decode cX12_fog 70 = .ok (.putfield 214, 3) := zb_X12_fog_65.2.2.2.1
theorem dX12_fog_73 : decode cX12_fog 73 = .ok (.aload_n 0, 1) := zb_X12_fog_65.2.2.2.2.1
theorem dX12_fog_74 : decode cX12_fog 74 = .ok (.getfield 214, 3) := zb_X12_fog_65.2.2.2.2.2.1
theorem dX12_fog_77 : decode cX12_fog 77 = .ok (.ireturn, 1) := zb_X12_fog_65.2.2.2.2.2.2.1
theorem dX12_fog_30 : decode cX12_fog 30 = .ok (.bipush (-4), 2) := zb_X12_fog_65.2.2.2.2.2.2.2.1
theorem dX12_fog_32 : decode cX12_fog 32 = .ok (.ireturn, 1) := zb_X12_fog_65.2.2.2.2.2.2.2.2.1
theorem dX12_fog_18 : decode cX12_fog 18 = .ok (.bipush (-2), 2) := zb_X12_fog_65.2.2.2.2.2.2.2.2.2.1
theorem dX12_fog_20 : decode cX12_fog 20 = .ok (.ireturn, 1) := zb_X12_fog_65.2.2.2.2.2.2.2.2.2.2
theorem zb_X12_patch_0 : (decode cX12_patch 0 = .ok (.aload_n 0, 1)) ∧ (decode cX12_patch 1 = .ok (.iload_n 1, 1)) ∧ (decode cX12_patch 2 = .ok (.invokevirtual 193, 3)) ∧ (decode cX12_patch 5 = .ok (.ifCond .eq 43, 3)) ∧ (decode cX12_patch 8 = .ok (.iload_n 2, 1)) ∧ (decode cX12_patch 9 = .ok (.aload_n 0, 1)) ∧ (decode cX12_patch 10 = .ok (.getfield 31, 3)) ∧ (decode cX12_patch 13 = .ok (.aload_n 0, 1)) ∧ (decode cX12_patch 14 = .ok (.iload_n 1, 1)) ∧ (decode cX12_patch 15 = .ok (.invokevirtual 193, 3)) ∧ (decode cX12_patch 18 = .ok (.ifCond .eq 7, 3)) := by decide +kernel
theorem dX12_patch_0 : decode cX12_patch 0 = .ok (.aload_n 0, 1) := zb_X12_patch_0.1
theorem dX12_patch_1 : decode cX12_patch 1 = .ok (.iload_n 1, 1) := zb_X12_patch_0.2.1
theorem dX12_patch_2 : decode cX12_patch 2 = .ok (.invokevirtual 193, 3) := zb_X12_patch_0.2.2.1
theorem dX12_patch_5 : decode cX12_patch 5 = .ok (.ifCond .eq 43, 3) := zb_X12_patch_0.2.2.2.1
theorem dX12_patch_8 : decode cX12_patch 8 = .ok (.iload_n 2, 1) := zb_X12_patch_0.2.2.2.2.1
theorem dX12_patch_9 : decode cX12_patch 9 = .ok (.aload_n 0, 1) := zb_X12_patch_0.2.2.2.2.2.1
theorem dX12_patch_10 : decode cX12_patch 10 = .ok (.getfield 31, 3) := zb_X12_patch_0.2.2.2.2.2.2.1
theorem dX12_patch_13 : decode cX12_patch 13 = .ok (.aload_n 0, 1) := zb_X12_patch_0.2.2.2.2.2.2.2.1
theorem dX12_patch_14 : decode cX12_patch 14 = .ok (.iload_n 1, 1) := zb_X12_patch_0.2.2.2.2.2.2.2.2.1
theorem dX12_patch_15 : decode cX12_patch 15 = .ok (.invokevirtual 193, 3) := zb_X12_patch_0.2.2.2.2.2.2.2.2.2.1
theorem dX12_patch_18 : decode cX12_patch 18 = .ok (.ifCond .eq 7, 3) := zb_X12_patch_0.2.2.2.2.2.2.2.2.2.2
theorem zb_X12_patch_21 : (decode cX12_patch 21 = .ok (.iload_n 1, 1)) ∧ (decode cX12_patch 22 = .ok (.goto 4, 3)) ∧ (decode cX12_patch 26 = .ok (.iaload, 1)) ∧ (decode cX12_patch 27 = .ok (.sipush 239, 3)) ∧ (decode cX12_patch 30 = .ok (.invokestatic 186, 3)) ∧ (decode cX12_patch 33 = .ok (.ifCond .eq 15, 3)) ∧ (decode cX12_patch 36 = .ok (.iload_n 3, 1)) ∧ (decode cX12_patch 37 = .ok (.iconst 0, 1)) ∧ (decode cX12_patch 38 = .ok (.aload_n 0, 1)) ∧ (decode cX12_patch 39 = .ok (.getfield 201, 3)) ∧ (decode cX12_patch 42 = .ok (.invokestatic 186, 3)) := by decide +kernel
theorem dX12_patch_21 : decode cX12_patch 21 = .ok (.iload_n 1, 1) := zb_X12_patch_21.1
theorem dX12_patch_22 : decode cX12_patch 22 = .ok (.goto 4, 3) := zb_X12_patch_21.2.1
theorem dX12_patch_26 : decode cX12_patch 26 = .ok (.iaload, 1) := zb_X12_patch_21.2.2.1
theorem dX12_patch_27 : decode cX12_patch 27 = .ok (.sipush 239, 3) := zb_X12_patch_21.2.2.2.1
theorem dX12_patch_30 : decode cX12_patch 30 = .ok (.invokestatic 186, 3) := zb_X12_patch_21.2.2.2.2.1
theorem dX12_patch_33 : decode cX12_patch 33 = .ok (.ifCond .eq 15, 3) := zb_X12_patch_21.2.2.2.2.2.1
theorem dX12_patch_36 : decode cX12_patch 36 = .ok (.iload_n 3, 1) := zb_X12_patch_21.2.2.2.2.2.2.1
theorem dX12_patch_37 : decode cX12_patch 37 = .ok (.iconst 0, 1) := zb_X12_patch_21.2.2.2.2.2.2.2.1
theorem dX12_patch_38 : decode cX12_patch 38 = .ok (.aload_n 0, 1) := zb_X12_patch_21.2.2.2.2.2.2.2.2.1
theorem dX12_patch_39 : decode cX12_patch 39 = .ok (.getfield 201, 3) := zb_X12_patch_21.2.2.2.2.2.2.2.2.2.1
theorem dX12_patch_42 : decode cX12_patch 42 = .ok (.invokestatic 186, 3) := zb_X12_patch_21.2.2.2.2.2.2.2.2.2.2
theorem zb_X12_patch_45 : (decode cX12_patch 45 = .ok (.ifCond .ne 7, 3)) ∧ (decode cX12_patch 52 = .ok (.aload_n 0, 1)) ∧ (decode cX12_patch 53 = .ok (.iload_n 1, 1)) ∧ (decode cX12_patch 54 = .ok (.iload_n 2, 1)) ∧ (decode cX12_patch 55 = .ok (.iload_n 3, 1)) ∧ (decode cX12_patch 56 = .ok (.invokevirtual 238, 3)) ∧ (decode cX12_patch 59 = .ok (.lreturn, 1)) ∧ (decode cX12_patch 48 = .ok (.ldc2_w 236, 3)) ∧ (decode cX12_patch 51 = .ok (.lreturn, 1)) ∧ (decode cX12_patch 25 = .ok (.iconst 0, 1)) := by decide +kernel
theorem dX12_patch_45 : decode cX12_patch 45 = .ok (.ifCond .ne 7, 3) := zb_X12_patch_45.1
theorem dX12_patch_52 : decode cX12_patch 52 = .ok (.aload_n 0, 1) := zb_X12_patch_45.2.1
theorem dX12_patch_53 : decode cX12_patch 53 = .ok (.iload_n 1, 1) := zb_X12_patch_45.2.2.1
theorem dX12_patch_54 : decode cX12_patch 54 = .ok (.iload_n 2, 1) := zb_X12_patch_45.2.2.2.1
theorem dX12_patch_55 : decode cX12_patch 55 = .ok (.iload_n 3, 1) := zb_X12_patch_45.2.2.2.2.1
theorem dX12_patch_56 : decode cX12_patch 56 = .ok (.invokevirtual 238, 3) := zb_X12_patch_45.2.2.2.2.2.1
theorem dX12_patch_59 : decode cX12_patch 59 = .ok (.lreturn, 1) := zb_X12_patch_45.2.2.2.2.2.2.1
theorem dX12_patch_48 : decode cX12_patch 48 = .ok (.ldc2_w 236, 3) := zb_X12_patch_45.2.2.2.2.2.2.2.1
theorem dX12_patch_51 : decode cX12_patch 51 = .ok (.lreturn, 1) := zb_X12_patch_45.2.2.2.2.2.2.2.2.1
theorem dX12_patch_25 : decode cX12_patch 25 = .ok (.iconst 0, 1) := zb_X12_patch_45.2.2.2.2.2.2.2.2.2
theorem zb_X12_addFix_0 : (decode cX12_addFix 0 = .ok (.aload_n 0, 1)) ∧ (decode cX12_addFix 1 = .ok (.getfield 223, 3)) ∧ (decode cX12_addFix 4 = .ok (.bipush 40, 2)) ∧ (decode cX12_addFix 6 = .ok (.if_icmp .ne 6, 3)) ∧ (decode cX12_addFix 12 = .ok (.aload_n 0, 1)) ∧ (decode cX12_addFix 13 = .ok (.getfield 46, 3)) ∧ (decode cX12_addFix 16 = .ok (.aload_n 0, 1)) ∧ (decode cX12_addFix 17 = .ok (.getfield 223, 3)) ∧ (decode cX12_addFix 20 = .ok (.iload_n 1, 1)) ∧ (decode cX12_addFix 21 = .ok (.iastore, 1)) := by decide +kernel
theorem dX12_addFix_0 : decode cX12_addFix 0 = .ok (.aload_n 0, 1) := zb_X12_addFix_0.1
theorem dX12_addFix_1 : decode cX12_addFix 1 = .ok (.getfield 223, 3) := zb_X12_addFix_0.2.1
theorem dX12_addFix_4 : decode cX12_addFix 4 = .ok (.bipush 40, 2) := zb_X12_addFix_0.2.2.1
theorem dX12_addFix_6 : decode cX12_addFix 6 = .ok (.if_icmp .ne 6, 3) := zb_X12_addFix_0.2.2.2.1
theorem dX12_addFix_12 : decode cX12_addFix 12 = .ok (.aload_n 0, 1) := zb_X12_addFix_0.2.2.2.2.1
theorem dX12_addFix_13 : decode cX12_addFix 13 = .ok (.getfield 46, 3) := zb_X12_addFix_0.2.2.2.2.2.1
theorem dX12_addFix_16 : decode cX12_addFix 16 = .ok (.aload_n 0, 1) := zb_X12_addFix_0.2.2.2.2.2.2.1
theorem dX12_addFix_17 : decode cX12_addFix 17 = .ok (.getfield 223, 3) := zb_X12_addFix_0.2.2.2.2.2.2.2.1
theorem dX12_addFix_20 : decode cX12_addFix 20 = .ok (.iload_n 1, 1) := zb_X12_addFix_0.2.2.2.2.2.2.2.2.1
theorem dX12_addFix_21 : decode cX12_addFix 21 = .ok (.iastore, 1) := zb_X12_addFix_0.2.2.2.2.2.2.2.2.2
theorem zb_X12_addFix_22 : (decode cX12_addFix 22 = .ok (.aload_n 0, 1)) ∧ (decode cX12_addFix 23 = .ok (.getfield 49, 3)) ∧ (decode cX12_addFix 26 = .ok (.aload_n 0, 1)) ∧ (decode cX12_addFix 27 = .ok (.getfield 223, 3)) ∧ (decode cX12_addFix 30 = .ok (.iload_n 2, 1)) ∧ (decode cX12_addFix 31 = .ok (.iastore, 1)) ∧ (decode cX12_addFix 32 = .ok (.aload_n 0, 1)) ∧ (decode cX12_addFix 33 = .ok (.getfield 52, 3)) ∧ (decode cX12_addFix 36 = .ok (.aload_n 0, 1)) ∧ (decode cX12_addFix 37 = .ok (.getfield 223, 3)) := by decide +kernel
theorem dX12_addFix_22 : decode cX12_addFix 22 = .ok (.aload_n 0, 1) := zb_X12_addFix_22.1
theorem dX12_addFix_23 : decode cX12_addFix 23 = .ok (.getfield 49, 3) := zb_X12_addFix_22.2.1
theorem dX12_addFix_26 : decode cX12_addFix 26 = .ok (.aload_n 0, 1) := zb_X12_addFix_22.2.2.1
theorem dX12_addFix_27 : decode cX12_addFix 27 = .ok (.getfield 223, 3) := zb_X12_addFix_22.2.2.2.1
theorem dX12_addFix_30 : decode cX12_addFix 30 = .ok (.iload_n 2, 1) := zb_X12_addFix_22.2.2.2.2.1
theorem dX12_addFix_31 : decode cX12_addFix 31 = .ok (.iastore, 1) := zb_X12_addFix_22.2.2.2.2.2.1
theorem dX12_addFix_32 : decode cX12_addFix 32 = .ok (.aload_n 0, 1) := zb_X12_addFix_22.2.2.2.2.2.2.1
theorem dX12_addFix_33 : decode cX12_addFix 33 = .ok (.getfield 52, 3) := zb_X12_addFix_22.2.2.2.2.2.2.2.1
theorem dX12_addFix_36 : decode cX12_addFix 36 = .ok (.aload_n 0, 1) := zb_X12_addFix_22.2.2.2.2.2.2.2.2.1
theorem dX12_addFix_37 : decode cX12_addFix 37 = .ok (.getfield 223, 3) := zb_X12_addFix_22.2.2.2.2.2.2.2.2.2
theorem zb_X12_addFix_40 : (decode cX12_addFix 40 = .ok (.lload_n 3, 1)) ∧ (decode cX12_addFix 41 = .ok (.lastore, 1)) ∧ (decode cX12_addFix 42 = .ok (.aload_n 0, 1)) ∧ (decode cX12_addFix 43 = .ok (.getfield 56, 3)) ∧ (decode cX12_addFix 46 = .ok (.aload_n 0, 1)) ∧ (decode cX12_addFix 47 = .ok (.getfield 223, 3)) ∧ (decode cX12_addFix 50 = .ok (.aload_n 0, 1)) ∧ (decode cX12_addFix 51 = .ok (.getfield 201, 3)) ∧ (decode cX12_addFix 54 = .ok (.iastore, 1)) ∧ (decode cX12_addFix 55 = .ok (.aload_n 0, 1)) := by decide +kernel
theorem dX12_addFix_40 : decode cX12_addFix 40 = .ok (.lload_n 3, 1) := zb_X12_addFix_40.1
theorem dX12_addFix_41 : decode cX12_addFix 41 = .ok (.lastore, 1) := zb_X12_addFix_40.2.1
theorem dX12_addFix_42 : decode cX12_addFix 42 = .ok (.aload_n 0, 1) := zb_X12_addFix_40.2.2.1
theorem dX12_addFix_43 : decode cX12_addFix 43 = .ok (.getfield 56, 3) := zb_X12_addFix_40.2.2.2.1
theorem dX12_addFix_46 : decode cX12_addFix 46 = .ok (.aload_n 0, 1) := zb_X12_addFix_40.2.2.2.2.1
theorem dX12_addFix_47 : decode cX12_addFix 47 = .ok (.getfield 223, 3) := zb_X12_addFix_40.2.2.2.2.2.1
theorem dX12_addFix_50 : decode cX12_addFix 50 = .ok (.aload_n 0, 1) := zb_X12_addFix_40.2.2.2.2.2.2.1
theorem dX12_addFix_51 : decode cX12_addFix 51 = .ok (.getfield 201, 3) := zb_X12_addFix_40.2.2.2.2.2.2.2.1
theorem dX12_addFix_54 : decode cX12_addFix 54 = .ok (.iastore, 1) := zb_X12_addFix_40.2.2.2.2.2.2.2.2.1
theorem dX12_addFix_55 : decode cX12_addFix 55 = .ok (.aload_n 0, 1) := zb_X12_addFix_40.2.2.2.2.2.2.2.2.2
theorem zb_X12_addFix_56 : (decode cX12_addFix 56 = .ok (.dup, 1)) ∧ (decode cX12_addFix 57 = .ok (.getfield 223, 3)) ∧ (decode cX12_addFix 60 = .ok (.iconst 1, 1)) ∧ (decode cX12_addFix 61 = .ok (.iadd, 1)) ∧ (decode cX12_addFix 62 = .ok (.putfield 223, 3)) ∧ (decode cX12_addFix 65 = .ok (.aload_n 0, 1)) ∧ (decode cX12_addFix 66 = .ok (.getfield 223, 3)) ∧ (decode cX12_addFix 69 = .ok (.ireturn, 1)) ∧ (decode cX12_addFix 9 = .ok (.bipush (-4), 2)) ∧ (decode cX12_addFix 11 = .ok (.ireturn, 1)) := by decide +kernel
theorem dX12_addFix_56 : decode cX12_addFix 56 = .ok (.dup, 1) := zb_X12_addFix_56.1
theorem dX12_addFix_57 : decode cX12_addFix 57 = .ok (.getfield 223, 3) := zb_X12_addFix_56.2.1
theorem dX12_addFix_60 : decode cX12_addFix 60 = .ok (.iconst 1, 1) := zb_X12_addFix_56.2.2.1
theorem dX12_addFix_61 : decode cX12_addFix 61 = .ok (.iadd, 1) := zb_X12_addFix_56.2.2.2.1
theorem dX12_addFix_62 : decode cX12_addFix 62 = .ok (.putfield 223, 3) := zb_X12_addFix_56.2.2.2.2.1
theorem dX12_addFix_65 : decode cX12_addFix 65 = .ok (.aload_n 0, 1) := zb_X12_addFix_56.2.2.2.2.2.1
theorem dX12_addFix_66 : decode cX12_addFix 66 = .ok (.getfield 223, 3) := zb_X12_addFix_56.2.2.2.2.2.2.1
theorem dX12_addFix_69 : decode cX12_addFix 69 = .ok (.ireturn, 1) := zb_X12_addFix_56.2.2.2.2.2.2.2.1
theorem dX12_addFix_9 : decode cX12_addFix 9 = .ok (.bipush (-4), 2) := zb_X12_addFix_56.2.2.2.2.2.2.2.2.1
theorem dX12_addFix_11 : decode cX12_addFix 11 = .ok (.ireturn, 1) := zb_X12_addFix_56.2.2.2.2.2.2.2.2.2
theorem zb_X12_fix_0 : (decode cX12_fix 0 = .ok (.aload_n 0, 1)) ∧ (decode cX12_fix 1 = .ok (.iload_n 1, 1)) ∧ (decode cX12_fix 2 = .ok (.invokevirtual 193, 3)) ∧ (decode cX12_fix 5 = .ok (.ifCond .eq 30, 3)) ∧ (decode cX12_fix 8 = .ok (.iload_n 2, 1)) ∧ (decode cX12_fix 9 = .ok (.aload_n 0, 1)) ∧ (decode cX12_fix 10 = .ok (.getfield 31, 3)) ∧ (decode cX12_fix 13 = .ok (.iload_n 1, 1)) ∧ (decode cX12_fix 14 = .ok (.iaload, 1)) ∧ (decode cX12_fix 15 = .ok (.aload_n 0, 1)) ∧ (decode cX12_fix 16 = .ok (.getfield 201, 3)) := by decide +kernel
theorem dX12_fix_0 : decode cX12_fix 0 = .ok (.aload_n 0, 1) := zb_X12_fix_0.1
theorem dX12_fix_1 : decode cX12_fix 1 = .ok (.iload_n 1, 1) := zb_X12_fix_0.2.1
theorem dX12_fix_2 : decode cX12_fix 2 = .ok (.invokevirtual 193, 3) := zb_X12_fix_0.2.2.1
theorem dX12_fix_5 : decode cX12_fix 5 = .ok (.ifCond .eq 30, 3) := zb_X12_fix_0.2.2.2.1
theorem dX12_fix_8 : decode cX12_fix 8 = .ok (.iload_n 2, 1) := zb_X12_fix_0.2.2.2.2.1
theorem dX12_fix_9 : decode cX12_fix 9 = .ok (.aload_n 0, 1) := zb_X12_fix_0.2.2.2.2.2.1
theorem dX12_fix_10 : decode cX12_fix 10 = .ok (.getfield 31, 3) := zb_X12_fix_0.2.2.2.2.2.2.1
theorem dX12_fix_13 : decode cX12_fix 13 = .ok (.iload_n 1, 1) := zb_X12_fix_0.2.2.2.2.2.2.2.1
theorem dX12_fix_14 : decode cX12_fix 14 = .ok (.iaload, 1) := zb_X12_fix_0.2.2.2.2.2.2.2.2.1
theorem dX12_fix_15 : decode cX12_fix 15 = .ok (.aload_n 0, 1) := zb_X12_fix_0.2.2.2.2.2.2.2.2.2.1
theorem dX12_fix_16 : decode cX12_fix 16 = .ok (.getfield 201, 3) := zb_X12_fix_0.2.2.2.2.2.2.2.2.2.2
theorem zb_X12_fix_19 : (decode cX12_fix 19 = .ok (.invokestatic 186, 3)) ∧ (decode cX12_fix 22 = .ok (.ifCond .eq 13, 3)) ∧ (decode cX12_fix 25 = .ok (.aload_n 0, 1)) ∧ (decode cX12_fix 26 = .ok (.iload_n 1, 1)) ∧ (decode cX12_fix 27 = .ok (.iload_n 2, 1)) ∧ (decode cX12_fix 28 = .ok (.lload_n 3, 1)) ∧ (decode cX12_fix 29 = .ok (.invokevirtual 242, 3)) ∧ (decode cX12_fix 32 = .ok (.goto 5, 3)) ∧ (decode cX12_fix 37 = .ok (.ireturn, 1)) ∧ (decode cX12_fix 35 = .ok (.bipush (-2), 2)) := by decide +kernel
theorem dX12_fix_19 : decode cX12_fix 19 = .ok (.invokestatic 186, 3) := zb_X12_fix_19.1
theorem dX12_fix_22 : decode cX12_fix 22 = .ok (.ifCond .eq 13, 3) := zb_X12_fix_19.2.1
theorem dX12_fix_25 : decode cX12_fix 25 = .ok (.aload_n 0, 1) := zb_X12_fix_19.2.2.1
theorem dX12_fix_26 : decode cX12_fix 26 = .ok (.iload_n 1, 1) := zb_X12_fix_19.2.2.2.1
theorem dX12_fix_27 : decode cX12_fix 27 = .ok (.iload_n 2, 1) := zb_X12_fix_19.2.2.2.2.1
theorem dX12_fix_28 : decode cX12_fix 28 = .ok (.lload_n 3, 1) := zb_X12_fix_19.2.2.2.2.2.1
theorem dX12_fix_29 : decode cX12_fix 29 = .ok (.invokevirtual 242, 3) := zb_X12_fix_19.2.2.2.2.2.2.1
theorem dX12_fix_32 : decode cX12_fix 32 = .ok (.goto 5, 3) := zb_X12_fix_19.2.2.2.2.2.2.2.1
theorem dX12_fix_37 : decode cX12_fix 37 = .ok (.ireturn, 1) := zb_X12_fix_19.2.2.2.2.2.2.2.2.1
theorem dX12_fix_35 : decode cX12_fix 35 = .ok (.bipush (-2), 2) := zb_X12_fix_19.2.2.2.2.2.2.2.2.2
theorem zb_X12_hearer_0 : (decode cX12_hearer 0 = .ok (.iload_n 1, 1)) ∧ (decode cX12_hearer 1 = .ok (.invokestatic 217, 3)) ∧ (decode cX12_hearer 4 = .ok (.ifCond .ne 6, 3)) ∧ (decode cX12_hearer 10 = .ok (.aload_n 0, 1)) ∧ (decode cX12_hearer 11 = .ok (.getfield 246, 3)) ∧ (decode cX12_hearer 14 = .ok (.bipush 6, 2)) ∧ (decode cX12_hearer 16 = .ok (.if_icmp .ne 6, 3)) ∧ (decode cX12_hearer 22 = .ok (.aload_n 0, 1)) ∧ (decode cX12_hearer 23 = .ok (.getfield 59, 3)) ∧ (decode cX12_hearer 26 = .ok (.aload_n 0, 1)) := by decide +kernel
theorem dX12_hearer_0 : decode cX12_hearer 0 = .ok (.iload_n 1, 1) := zb_X12_hearer_0.1
theorem dX12_hearer_1 : decode cX12_hearer 1 = .ok (.invokestatic 217, 3) := zb_X12_hearer_0.2.1
theorem dX12_hearer_4 : decode cX12_hearer 4 = .ok (.ifCond .ne 6, 3) := zb_X12_hearer_0.2.2.1
theorem dX12_hearer_10 : decode cX12_hearer 10 = .ok (.aload_n 0, 1) := zb_X12_hearer_0.2.2.2.1
theorem dX12_hearer_11 : decode cX12_hearer 11 = .ok (.getfield 246, 3) := zb_X12_hearer_0.2.2.2.2.1
theorem dX12_hearer_14 : decode cX12_hearer 14 = .ok (.bipush 6, 2) := zb_X12_hearer_0.2.2.2.2.2.1
theorem dX12_hearer_16 : decode cX12_hearer 16 = .ok (.if_icmp .ne 6, 3) := zb_X12_hearer_0.2.2.2.2.2.2.1
theorem dX12_hearer_22 : decode cX12_hearer 22 = .ok (.aload_n 0, 1) := zb_X12_hearer_0.2.2.2.2.2.2.2.1
theorem dX12_hearer_23 : decode cX12_hearer 23 = .ok (.getfield 59, 3) := zb_X12_hearer_0.2.2.2.2.2.2.2.2.1
theorem dX12_hearer_26 : decode cX12_hearer 26 = .ok (.aload_n 0, 1) := zb_X12_hearer_0.2.2.2.2.2.2.2.2.2
theorem zb_X12_hearer_27 : (decode cX12_hearer 27 = .ok (.getfield 246, 3)) ∧ (decode cX12_hearer 30 = .ok (.iload_n 1, 1)) ∧ (decode cX12_hearer 31 = .ok (.iastore, 1)) ∧ (decode cX12_hearer 32 = .ok (.aload_n 0, 1)) ∧ (decode cX12_hearer 33 = .ok (.dup, 1)) ∧ (decode cX12_hearer 34 = .ok (.getfield 246, 3)) ∧ (decode cX12_hearer 37 = .ok (.iconst 1, 1)) ∧ (decode cX12_hearer 38 = .ok (.iadd, 1)) ∧ (decode cX12_hearer 39 = .ok (.putfield 246, 3)) ∧ (decode cX12_hearer 42 = .ok (.aload_n 0, 1)) := by decide +kernel
theorem dX12_hearer_27 : decode cX12_hearer 27 = .ok (.getfield 246, 3) := zb_X12_hearer_27.1
theorem dX12_hearer_30 : decode cX12_hearer 30 = .ok (.iload_n 1, 1) := zb_X12_hearer_27.2.1
theorem dX12_hearer_31 : decode cX12_hearer 31 = .ok (.iastore, 1) := zb_X12_hearer_27.2.2.1
theorem dX12_hearer_32 : decode cX12_hearer 32 = .ok (.aload_n 0, 1) := zb_X12_hearer_27.2.2.2.1
theorem dX12_hearer_33 : decode cX12_hearer 33 = .ok (.dup, 1) := zb_X12_hearer_27.2.2.2.2.1
theorem dX12_hearer_34 : decode cX12_hearer 34 = .ok (.getfield 246, 3) := zb_X12_hearer_27.2.2.2.2.2.1
theorem dX12_hearer_37 : decode cX12_hearer 37 = .ok (.iconst 1, 1) := zb_X12_hearer_27.2.2.2.2.2.2.1
theorem dX12_hearer_38 : decode cX12_hearer 38 = .ok (.iadd, 1) := zb_X12_hearer_27.2.2.2.2.2.2.2.1
theorem dX12_hearer_39 : decode cX12_hearer 39 = .ok (.putfield 246, 3) := zb_X12_hearer_27.2.2.2.2.2.2.2.2.1
theorem dX12_hearer_42 : decode cX12_hearer 42 = .ok (.aload_n 0, 1) := zb_X12_hearer_27.2.2.2.2.2.2.2.2.2
theorem zb_X12_hearer_43 : (decode cX12_hearer 43 = .ok (.getfield 246, 3)) ∧ (decode cX12_hearer 46 = .ok (.iconst 1, 1)) ∧ (decode cX12_hearer 47 = .ok (.isub, 1)) ∧ (decode cX12_hearer 48 = .ok (.ireturn, 1)) ∧ (decode cX12_hearer 19 = .ok (.bipush (-4), 2)) ∧ (decode cX12_hearer 21 = .ok (.ireturn, 1)) ∧ (decode cX12_hearer 7 = .ok (.bipush (-2), 2)) ∧ (decode cX12_hearer 9 = .ok (.ireturn, 1)) := by decide +kernel
theorem dX12_hearer_43 : decode cX12_hearer 43 = .ok (.getfield 246, 3) := zb_X12_hearer_43.1
theorem dX12_hearer_46 : decode cX12_hearer 46 = .ok (.iconst 1, 1) := zb_X12_hearer_43.2.1
theorem dX12_hearer_47 : decode cX12_hearer 47 = .ok (.isub, 1) := zb_X12_hearer_43.2.2.1
theorem dX12_hearer_48 : decode cX12_hearer 48 = .ok (.ireturn, 1) := zb_X12_hearer_43.2.2.2.1
theorem dX12_hearer_19 : decode cX12_hearer 19 = .ok (.bipush (-4), 2) := zb_X12_hearer_43.2.2.2.2.1
theorem dX12_hearer_21 : decode cX12_hearer 21 = .ok (.ireturn, 1) := zb_X12_hearer_43.2.2.2.2.2.1
theorem dX12_hearer_7 : decode cX12_hearer 7 = .ok (.bipush (-2), 2) := zb_X12_hearer_43.2.2.2.2.2.2.1
theorem dX12_hearer_9 : decode cX12_hearer 9 = .ok (.ireturn, 1) := zb_X12_hearer_43.2.2.2.2.2.2.2
theorem zb_X12_wave_0 : (decode cX12_wave 0 = .ok (.iload_n 1, 1)) ∧ (decode cX12_wave 1 = .ok (.invokestatic 249, 3)) ∧ (decode cX12_wave 4 = .ok (.ifCond .eq 33, 3)) ∧ (decode cX12_wave 7 = .ok (.iload_n 2, 1)) ∧ (decode cX12_wave 8 = .ok (.iconst 0, 1)) ∧ (decode cX12_wave 9 = .ok (.iconst 1, 1)) ∧ (decode cX12_wave 10 = .ok (.invokestatic 186, 3)) ∧ (decode cX12_wave 13 = .ok (.ifCond .eq 24, 3)) ∧ (decode cX12_wave 16 = .ok (.iload_n 3, 1)) ∧ (decode cX12_wave 17 = .ok (.iconst 0, 1)) := by decide +kernel
theorem dX12_wave_0 : decode cX12_wave 0 = .ok (.iload_n 1, 1) := zb_X12_wave_0.1
theorem dX12_wave_1 : decode cX12_wave 1 = .ok (.invokestatic 249, 3) := zb_X12_wave_0.2.1
theorem dX12_wave_4 : decode cX12_wave 4 = .ok (.ifCond .eq 33, 3) := zb_X12_wave_0.2.2.1
theorem dX12_wave_7 : decode cX12_wave 7 = .ok (.iload_n 2, 1) := zb_X12_wave_0.2.2.2.1
theorem dX12_wave_8 : decode cX12_wave 8 = .ok (.iconst 0, 1) := zb_X12_wave_0.2.2.2.2.1
theorem dX12_wave_9 : decode cX12_wave 9 = .ok (.iconst 1, 1) := zb_X12_wave_0.2.2.2.2.2.1
theorem dX12_wave_10 : decode cX12_wave 10 = .ok (.invokestatic 186, 3) := zb_X12_wave_0.2.2.2.2.2.2.1
theorem dX12_wave_13 : decode cX12_wave 13 = .ok (.ifCond .eq 24, 3) := zb_X12_wave_0.2.2.2.2.2.2.2.1
theorem dX12_wave_16 : decode cX12_wave 16 = .ok (.iload_n 3, 1) := zb_X12_wave_0.2.2.2.2.2.2.2.2.1
theorem dX12_wave_17 : decode cX12_wave 17 = .ok (.iconst 0, 1) := zb_X12_wave_0.2.2.2.2.2.2.2.2.2
theorem zb_X12_wave_18 : (decode cX12_wave 18 = .ok (.bipush 9, 2)) ∧ (decode cX12_wave 20 = .ok (.invokestatic 186, 3)) ∧ (decode cX12_wave 23 = .ok (.ifCond .eq 14, 3)) ∧ (decode cX12_wave 26 = .ok (.iload 4, 2)) ∧ (decode cX12_wave 28 = .ok (.iload_n 3, 1)) ∧ (decode cX12_wave 29 = .ok (.bipush 9, 2)) ∧ (decode cX12_wave 31 = .ok (.invokestatic 186, 3)) ∧ (decode cX12_wave 34 = .ok (.ifCond .ne 6, 3)) ∧ (decode cX12_wave 40 = .ok (.iconst 2, 1)) ∧ (decode cX12_wave 41 = .ok (.iload_n 1, 1)) := by decide +kernel
theorem dX12_wave_18 : decode cX12_wave 18 = .ok (.bipush 9, 2) := zb_X12_wave_18.1
theorem dX12_wave_20 : decode cX12_wave 20 = .ok (.invokestatic 186, 3) := zb_X12_wave_18.2.1
theorem dX12_wave_23 : decode cX12_wave 23 = .ok (.ifCond .eq 14, 3) := zb_X12_wave_18.2.2.1
theorem dX12_wave_26 : decode cX12_wave 26 = .ok (.iload 4, 2) := zb_X12_wave_18.2.2.2.1
theorem dX12_wave_28 : decode cX12_wave 28 = .ok (.iload_n 3, 1) := zb_X12_wave_18.2.2.2.2.1
theorem dX12_wave_29 : decode cX12_wave 29 = .ok (.bipush 9, 2) := zb_X12_wave_18.2.2.2.2.2.1
theorem dX12_wave_31 : decode cX12_wave 31 = .ok (.invokestatic 186, 3) := zb_X12_wave_18.2.2.2.2.2.2.1
theorem dX12_wave_34 : decode cX12_wave 34 = .ok (.ifCond .ne 6, 3) := zb_X12_wave_18.2.2.2.2.2.2.2.1
theorem dX12_wave_40 : decode cX12_wave 40 = .ok (.iconst 2, 1) := zb_X12_wave_18.2.2.2.2.2.2.2.2.1
theorem dX12_wave_41 : decode cX12_wave 41 = .ok (.iload_n 1, 1) := zb_X12_wave_18.2.2.2.2.2.2.2.2.2
theorem zb_X12_wave_42 : (decode cX12_wave 42 = .ok (.imul, 1)) ∧ (decode cX12_wave 43 = .ok (.iload_n 2, 1)) ∧ (decode cX12_wave 44 = .ok (.iadd, 1)) ∧ (decode cX12_wave 45 = .ok (.istore 5, 2)) ∧ (decode cX12_wave 47 = .ok (.bipush 10, 2)) ∧ (decode cX12_wave 49 = .ok (.aload_n 0, 1)) ∧ (decode cX12_wave 50 = .ok (.getfield 62, 3)) ∧ (decode cX12_wave 53 = .ok (.iload 5, 2)) ∧ (decode cX12_wave 55 = .ok (.iaload, 1)) ∧ (decode cX12_wave 56 = .ok (.imul, 1)) := by decide +kernel
theorem dX12_wave_42 : decode cX12_wave 42 = .ok (.imul, 1) := zb_X12_wave_42.1
theorem dX12_wave_43 : decode cX12_wave 43 = .ok (.iload_n 2, 1) := zb_X12_wave_42.2.1
theorem dX12_wave_44 : decode cX12_wave 44 = .ok (.iadd, 1) := zb_X12_wave_42.2.2.1
theorem dX12_wave_45 : decode cX12_wave 45 = .ok (.istore 5, 2) := zb_X12_wave_42.2.2.2.1
theorem dX12_wave_47 : decode cX12_wave 47 = .ok (.bipush 10, 2) := zb_X12_wave_42.2.2.2.2.1
theorem dX12_wave_49 : decode cX12_wave 49 = .ok (.aload_n 0, 1) := zb_X12_wave_42.2.2.2.2.2.1
theorem dX12_wave_50 : decode cX12_wave 50 = .ok (.getfield 62, 3) := zb_X12_wave_42.2.2.2.2.2.2.1
theorem dX12_wave_53 : decode cX12_wave 53 = .ok (.iload 5, 2) := zb_X12_wave_42.2.2.2.2.2.2.2.1
theorem dX12_wave_55 : decode cX12_wave 55 = .ok (.iaload, 1) := zb_X12_wave_42.2.2.2.2.2.2.2.2.1
theorem dX12_wave_56 : decode cX12_wave 56 = .ok (.imul, 1) := zb_X12_wave_42.2.2.2.2.2.2.2.2.2
theorem zb_X12_wave_57 : (decode cX12_wave 57 = .ok (.aload_n 0, 1)) ∧ (decode cX12_wave 58 = .ok (.getfield 65, 3)) ∧ (decode cX12_wave 61 = .ok (.iload 5, 2)) ∧ (decode cX12_wave 63 = .ok (.iaload, 1)) ∧ (decode cX12_wave 64 = .ok (.iadd, 1)) ∧ (decode cX12_wave 65 = .ok (.istore 6, 2)) ∧ (decode cX12_wave 67 = .ok (.aload_n 0, 1)) ∧ (decode cX12_wave 68 = .ok (.getfield 62, 3)) ∧ (decode cX12_wave 71 = .ok (.iload 5, 2)) ∧ (decode cX12_wave 73 = .ok (.iload_n 3, 1)) := by decide +kernel
theorem dX12_wave_57 : decode cX12_wave 57 = .ok (.aload_n 0, 1) := zb_X12_wave_57.1
theorem dX12_wave_58 : decode cX12_wave 58 = .ok (.getfield 65, 3) := zb_X12_wave_57.2.1
theorem dX12_wave_61 : decode cX12_wave 61 = .ok (.iload 5, 2) := zb_X12_wave_57.2.2.1
theorem dX12_wave_63 : decode cX12_wave 63 = .ok (.iaload, 1) := zb_X12_wave_57.2.2.2.1
theorem dX12_wave_64 : decode cX12_wave 64 = .ok (.iadd, 1) := zb_X12_wave_57.2.2.2.2.1
theorem dX12_wave_65 : decode cX12_wave 65 = .ok (.istore 6, 2) := zb_X12_wave_57.2.2.2.2.2.1
theorem dX12_wave_67 : decode cX12_wave 67 = .ok (.aload_n 0, 1) := zb_X12_wave_57.2.2.2.2.2.2.1
theorem dX12_wave_68 : decode cX12_wave 68 = .ok (.getfield 62, 3) := zb_X12_wave_57.2.2.2.2.2.2.2.1
theorem dX12_wave_71 : decode cX12_wave 71 = .ok (.iload 5, 2) := zb_X12_wave_57.2.2.2.2.2.2.2.2.1
theorem dX12_wave_73 : decode cX12_wave 73 = .ok (.iload_n 3, 1) := zb_X12_wave_57.2.2.2.2.2.2.2.2.2
theorem zb_X12_wave_74 : (decode cX12_wave 74 = .ok (.iastore, 1)) ∧ (decode cX12_wave 75 = .ok (.aload_n 0, 1)) ∧ (decode cX12_wave 76 = .ok (.getfield 65, 3)) ∧ (decode cX12_wave 79 = .ok (.iload 5, 2)) ∧ (decode cX12_wave 81 = .ok (.iload 4, 2)) ∧ (decode cX12_wave 83 = .ok (.iastore, 1)) ∧ (decode cX12_wave 84 = .ok (.iload 6, 2)) ∧ (decode cX12_wave 86 = .ok (.ireturn, 1)) ∧ (decode cX12_wave 37 = .ok (.bipush (-2), 2)) ∧ (decode cX12_wave 39 = .ok (.ireturn, 1)) := by decide +kernel
theorem dX12_wave_74 : decode cX12_wave 74 = .ok (.iastore, 1) := zb_X12_wave_74.1
theorem dX12_wave_75 : decode cX12_wave 75 = .ok (.aload_n 0, 1) := zb_X12_wave_74.2.1
theorem dX12_wave_76 : decode cX12_wave 76 = .ok (.getfield 65, 3) := zb_X12_wave_74.2.2.1
theorem dX12_wave_79 : decode cX12_wave 79 = .ok (.iload 5, 2) := zb_X12_wave_74.2.2.2.1
theorem dX12_wave_81 : decode cX12_wave 81 = .ok (.iload 4, 2) := zb_X12_wave_74.2.2.2.2.1
theorem dX12_wave_83 : decode cX12_wave 83 = .ok (.iastore, 1) := zb_X12_wave_74.2.2.2.2.2.1
theorem dX12_wave_84 : decode cX12_wave 84 = .ok (.iload 6, 2) := zb_X12_wave_74.2.2.2.2.2.2.1
theorem dX12_wave_86 : decode cX12_wave 86 = .ok (.ireturn, 1) := zb_X12_wave_74.2.2.2.2.2.2.2.1
theorem dX12_wave_37 : decode cX12_wave 37 = .ok (.bipush (-2), 2) := zb_X12_wave_74.2.2.2.2.2.2.2.2.1
theorem dX12_wave_39 : decode cX12_wave 39 = .ok (.ireturn, 1) := zb_X12_wave_74.2.2.2.2.2.2.2.2.2
theorem zb_X12_call_0 : (decode cX12_call 0 = .ok (.aload_n 0, 1)) ∧ (decode cX12_call 1 = .ok (.iload_n 1, 1)) ∧ (decode cX12_call 2 = .ok (.invokevirtual 193, 3)) ∧ (decode cX12_call 5 = .ok (.ifCond .eq 10, 3)) ∧ (decode cX12_call 8 = .ok (.iload_n 2, 1)) ∧ (decode cX12_call 9 = .ok (.invokestatic 249, 3)) ∧ (decode cX12_call 12 = .ok (.ifCond .ne 6, 3)) ∧ (decode cX12_call 18 = .ok (.aload_n 0, 1)) ∧ (decode cX12_call 19 = .ok (.getfield 252, 3)) ∧ (decode cX12_call 22 = .ok (.bipush 20, 2)) ∧ (decode cX12_call 24 = .ok (.if_icmp .ne 6, 3)) := by decide +kernel
theorem dX12_call_0 : decode cX12_call 0 = .ok (.aload_n 0, 1) := zb_X12_call_0.1
theorem dX12_call_1 : decode cX12_call 1 = .ok (.iload_n 1, 1) := zb_X12_call_0.2.1
theorem dX12_call_2 : decode cX12_call 2 = .ok (.invokevirtual 193, 3) := zb_X12_call_0.2.2.1
theorem dX12_call_5 : decode cX12_call 5 = .ok (.ifCond .eq 10, 3) := zb_X12_call_0.2.2.2.1
theorem dX12_call_8 : decode cX12_call 8 = .ok (.iload_n 2, 1) := zb_X12_call_0.2.2.2.2.1
theorem dX12_call_9 : decode cX12_call 9 = .ok (.invokestatic 249, 3) := zb_X12_call_0.2.2.2.2.2.1
theorem dX12_call_12 : decode cX12_call 12 = .ok (.ifCond .ne 6, 3) := zb_X12_call_0.2.2.2.2.2.2.1
theorem dX12_call_18 : decode cX12_call 18 = .ok (.aload_n 0, 1) := zb_X12_call_0.2.2.2.2.2.2.2.1
theorem dX12_call_19 : decode cX12_call 19 = .ok (.getfield 252, 3) := zb_X12_call_0.2.2.2.2.2.2.2.2.1
theorem dX12_call_22 : decode cX12_call 22 = .ok (.bipush 20, 2) := zb_X12_call_0.2.2.2.2.2.2.2.2.2.1
theorem dX12_call_24 : decode cX12_call 24 = .ok (.if_icmp .ne 6, 3) := zb_X12_call_0.2.2.2.2.2.2.2.2.2.2
theorem zb_X12_call_30 : (decode cX12_call 30 = .ok (.aload_n 0, 1)) ∧ (decode cX12_call 31 = .ok (.getfield 68, 3)) ∧ (decode cX12_call 34 = .ok (.aload_n 0, 1)) ∧ (decode cX12_call 35 = .ok (.getfield 252, 3)) ∧ (decode cX12_call 38 = .ok (.iload_n 1, 1)) ∧ (decode cX12_call 39 = .ok (.iastore, 1)) ∧ (decode cX12_call 40 = .ok (.aload_n 0, 1)) ∧ (decode cX12_call 41 = .ok (.getfield 71, 3)) ∧ (decode cX12_call 44 = .ok (.aload_n 0, 1)) ∧ (decode cX12_call 45 = .ok (.getfield 252, 3)) ∧ (decode cX12_call 48 = .ok (.iload_n 2, 1)) := by decide +kernel
theorem dX12_call_30 : decode cX12_call 30 = .ok (.aload_n 0, 1) := zb_X12_call_30.1
theorem dX12_call_31 : decode cX12_call 31 = .ok (.getfield 68, 3) := zb_X12_call_30.2.1
theorem dX12_call_34 : decode cX12_call 34 = .ok (.aload_n 0, 1) := zb_X12_call_30.2.2.1
theorem dX12_call_35 : decode cX12_call 35 = .ok (.getfield 252, 3) := zb_X12_call_30.2.2.2.1
theorem dX12_call_38 : decode cX12_call 38 = .ok (.iload_n 1, 1) := zb_X12_call_30.2.2.2.2.1
theorem dX12_call_39 : decode cX12_call 39 = .ok (.iastore, 1) := zb_X12_call_30.2.2.2.2.2.1
theorem dX12_call_40 : decode cX12_call 40 = .ok (.aload_n 0, 1) := zb_X12_call_30.2.2.2.2.2.2.1
theorem dX12_call_41 : decode cX12_call 41 = .ok (.getfield 71, 3) := zb_X12_call_30.2.2.2.2.2.2.2.1
theorem dX12_call_44 : decode cX12_call 44 = .ok (.aload_n 0, 1) := zb_X12_call_30.2.2.2.2.2.2.2.2.1
theorem dX12_call_45 : decode cX12_call 45 = .ok (.getfield 252, 3) := zb_X12_call_30.2.2.2.2.2.2.2.2.2.1
theorem dX12_call_48 : decode cX12_call 48 = .ok (.iload_n 2, 1) := zb_X12_call_30.2.2.2.2.2.2.2.2.2.2
theorem zb_X12_call_49 : (decode cX12_call 49 = .ok (.iastore, 1)) ∧ (decode cX12_call 50 = .ok (.aload_n 0, 1)) ∧ (decode cX12_call 51 = .ok (.getfield 74, 3)) ∧ (decode cX12_call 54 = .ok (.aload_n 0, 1)) ∧ (decode cX12_call 55 = .ok (.getfield 252, 3)) ∧ (decode cX12_call 58 = .ok (.aload_n 0, 1)) ∧ (decode cX12_call 59 = .ok (.getfield 201, 3)) ∧ (decode cX12_call 62 = .ok (.iastore, 1)) ∧ (decode cX12_call 63 = .ok (.aload_n 0, 1)) ∧ (decode cX12_call 64 = .ok (.getfield 77, 3)) ∧ (decode cX12_call 67 = .ok (.aload_n 0, 1)) := by decide +kernel
theorem dX12_call_49 : decode cX12_call 49 = .ok (.iastore, 1) := zb_X12_call_49.1
theorem dX12_call_50 : decode cX12_call 50 = .ok (.aload_n 0, 1) := zb_X12_call_49.2.1
theorem dX12_call_51 : decode cX12_call 51 = .ok (.getfield 74, 3) := zb_X12_call_49.2.2.1
theorem dX12_call_54 : decode cX12_call 54 = .ok (.aload_n 0, 1) := zb_X12_call_49.2.2.2.1
theorem dX12_call_55 : decode cX12_call 55 = .ok (.getfield 252, 3) := zb_X12_call_49.2.2.2.2.1
theorem dX12_call_58 : decode cX12_call 58 = .ok (.aload_n 0, 1) := zb_X12_call_49.2.2.2.2.2.1
theorem dX12_call_59 : decode cX12_call 59 = .ok (.getfield 201, 3) := zb_X12_call_49.2.2.2.2.2.2.1
theorem dX12_call_62 : decode cX12_call 62 = .ok (.iastore, 1) := zb_X12_call_49.2.2.2.2.2.2.2.1
theorem dX12_call_63 : decode cX12_call 63 = .ok (.aload_n 0, 1) := zb_X12_call_49.2.2.2.2.2.2.2.2.1
theorem dX12_call_64 : decode cX12_call 64 = .ok (.getfield 77, 3) := zb_X12_call_49.2.2.2.2.2.2.2.2.2.1
theorem dX12_call_67 : decode cX12_call 67 = .ok (.aload_n 0, 1) := zb_X12_call_49.2.2.2.2.2.2.2.2.2.2
theorem zb_X12_call_68 : (decode cX12_call 68 = .ok (.getfield 252, 3)) ∧ (decode cX12_call 71 = .ok (.lload_n 3, 1)) ∧ (decode cX12_call 72 = .ok (.lastore, 1)) ∧ (decode cX12_call 73 = .ok (.aload_n 0, 1)) ∧ (decode cX12_call 74 = .ok (.dup, 1)) ∧ (decode cX12_call 75 = .ok (.getfield 252, 3)) ∧ (decode cX12_call 78 = .ok (.iconst 1, 1)) ∧ (decode cX12_call 79 = .ok (.iadd, 1)) ∧ (decode cX12_call 80 = .ok (.putfield 252, 3)) ∧ (decode cX12_call 83 = .ok (.aload_n 0, 1)) ∧ (decode cX12_call 84 = .ok (.getfield 252, 3)) := by decide +kernel
theorem dX12_call_68 : decode cX12_call 68 = .ok (.getfield 252, 3) := zb_X12_call_68.1
theorem dX12_call_71 : decode cX12_call 71 = .ok (.lload_n 3, 1) := zb_X12_call_68.2.1
theorem dX12_call_72 : decode cX12_call 72 = .ok (.lastore, 1) := zb_X12_call_68.2.2.1
theorem dX12_call_73 : decode cX12_call 73 = .ok (.aload_n 0, 1) := zb_X12_call_68.2.2.2.1
theorem dX12_call_74 : decode cX12_call 74 = .ok (.dup, 1) := zb_X12_call_68.2.2.2.2.1
theorem dX12_call_75 : decode cX12_call 75 = .ok (.getfield 252, 3) := zb_X12_call_68.2.2.2.2.2.1
theorem dX12_call_78 : decode cX12_call 78 = .ok (.iconst 1, 1) := zb_X12_call_68.2.2.2.2.2.2.1
theorem dX12_call_79 : decode cX12_call 79 = .ok (.iadd, 1) := zb_X12_call_68.2.2.2.2.2.2.2.1
theorem dX12_call_80 : decode cX12_call 80 = .ok (.putfield 252, 3) := zb_X12_call_68.2.2.2.2.2.2.2.2.1
theorem dX12_call_83 : decode cX12_call 83 = .ok (.aload_n 0, 1) := zb_X12_call_68.2.2.2.2.2.2.2.2.2.1
theorem dX12_call_84 : decode cX12_call 84 = .ok (.getfield 252, 3) := zb_X12_call_68.2.2.2.2.2.2.2.2.2.2
theorem zb_X12_call_87 : (decode cX12_call 87 = .ok (.iconst 1, 1)) ∧ (decode cX12_call 88 = .ok (.isub, 1)) ∧ (decode cX12_call 89 = .ok (.ireturn, 1)) ∧ (decode cX12_call 27 = .ok (.bipush (-4), 2)) ∧ (decode cX12_call 29 = .ok (.ireturn, 1)) ∧ (decode cX12_call 15 = .ok (.bipush (-2), 2)) ∧ (decode cX12_call 17 = .ok (.ireturn, 1)) := by decide +kernel
theorem dX12_call_87 : decode cX12_call 87 = .ok (.iconst 1, 1) := zb_X12_call_87.1
theorem dX12_call_88 : decode cX12_call 88 = .ok (.isub, 1) := zb_X12_call_87.2.1
theorem dX12_call_89 : decode cX12_call 89 = .ok (.ireturn, 1) := zb_X12_call_87.2.2.1
theorem dX12_call_27 : decode cX12_call 27 = .ok (.bipush (-4), 2) := zb_X12_call_87.2.2.2.1
theorem dX12_call_29 : decode cX12_call 29 = .ok (.ireturn, 1) := zb_X12_call_87.2.2.2.2.1
theorem dX12_call_15 : decode cX12_call 15 = .ok (.bipush (-2), 2) := zb_X12_call_87.2.2.2.2.2.1
theorem dX12_call_17 : decode cX12_call 17 = .ok (.ireturn, 1) := zb_X12_call_87.2.2.2.2.2.2
theorem zb_X12_canHear_31 : (decode cX12_canHear 31 = .ok (.irem, 1)) ∧ (decode cX12_canHear 78 = .ok (.lstore 5, 2)) ∧ (decode cX12_canHear 81 = .ok (.istore 7, 2)) ∧ (decode cX12_canHear 84 = .ok (.istore 8, 2)) ∧ (decode cX12_canHear 86 = .ok (.iload 8, 2)) ∧ (decode cX12_canHear 174 = .ok (.iload 7, 2)) ∧ (decode cX12_canHear 96 = .ok (.istore 9, 2)) ∧ (decode cX12_canHear 98 = .ok (.iload 9, 2)) ∧ (decode cX12_canHear 168 = .ok (.iinc 8 1, 3)) ∧ (decode cX12_canHear 105 = .ok (.iload 7, 2)) ∧ (decode cX12_canHear 107 = .ok (.lload 5, 2)) ∧ (decode cX12_canHear 109 = .ok (.iload 9, 2)) := by decide +kernel
theorem dX12_canHear_31 : decode cX12_canHear 31 = .ok (.irem, 1) := zb_X12_canHear_31.1
theorem dX12_canHear_78 : decode cX12_canHear 78 = .ok (.lstore 5, 2) := zb_X12_canHear_31.2.1
theorem dX12_canHear_81 : decode cX12_canHear 81 = .ok (.istore 7, 2) := zb_X12_canHear_31.2.2.1
theorem dX12_canHear_84 : decode cX12_canHear 84 = .ok (.istore 8, 2) := zb_X12_canHear_31.2.2.2.1
theorem dX12_canHear_86 : decode cX12_canHear 86 = .ok (.iload 8, 2) := zb_X12_canHear_31.2.2.2.2.1
theorem dX12_canHear_174 : decode cX12_canHear 174 = .ok (.iload 7, 2) := zb_X12_canHear_31.2.2.2.2.2.1
theorem dX12_canHear_96 : decode cX12_canHear 96 = .ok (.istore 9, 2) := zb_X12_canHear_31.2.2.2.2.2.2.1
theorem dX12_canHear_98 : decode cX12_canHear 98 = .ok (.iload 9, 2) := zb_X12_canHear_31.2.2.2.2.2.2.2.1
theorem dX12_canHear_168 : decode cX12_canHear 168 = .ok (.iinc 8 1, 3) := zb_X12_canHear_31.2.2.2.2.2.2.2.2.1
theorem dX12_canHear_105 : decode cX12_canHear 105 = .ok (.iload 7, 2) := zb_X12_canHear_31.2.2.2.2.2.2.2.2.2.1
theorem dX12_canHear_107 : decode cX12_canHear 107 = .ok (.lload 5, 2) := zb_X12_canHear_31.2.2.2.2.2.2.2.2.2.2.1
theorem dX12_canHear_109 : decode cX12_canHear 109 = .ok (.iload 9, 2) := zb_X12_canHear_31.2.2.2.2.2.2.2.2.2.2.2
theorem zb_X12_canHear_111 : (decode cX12_canHear 111 = .ok (.lushr, 1)) ∧ (decode cX12_canHear 159 = .ok (.ior, 1)) ∧ (decode cX12_canHear 160 = .ok (.istore 7, 2)) ∧ (decode cX12_canHear 162 = .ok (.iinc 9 1, 3)) ∧ (decode cX12_canHear 119 = .ok (.iload 9, 2)) ∧ (decode cX12_canHear 125 = .ok (.iload 8, 2)) ∧ (decode cX12_canHear 135 = .ok (.iload 4, 2)) ∧ (decode cX12_canHear 142 = .ok (.iload 4, 2)) ∧ (decode cX12_canHear 152 = .ok (.iload 8, 2)) ∧ (decode cX12_canHear 154 = .ok (.ishl, 1)) ∧ (decode cX12_canHear 40 = .ok (.imul, 1)) ∧ (decode cX12_canHear 59 = .ok (.istore 4, 2)) := by decide +kernel
theorem dX12_canHear_111 : decode cX12_canHear 111 = .ok (.lushr, 1) := zb_X12_canHear_111.1
theorem dX12_canHear_159 : decode cX12_canHear 159 = .ok (.ior, 1) := zb_X12_canHear_111.2.1
theorem dX12_canHear_160 : decode cX12_canHear 160 = .ok (.istore 7, 2) := zb_X12_canHear_111.2.2.1
theorem dX12_canHear_162 : decode cX12_canHear 162 = .ok (.iinc 9 1, 3) := zb_X12_canHear_111.2.2.2.1
theorem dX12_canHear_119 : decode cX12_canHear 119 = .ok (.iload 9, 2) := zb_X12_canHear_111.2.2.2.2.1
theorem dX12_canHear_125 : decode cX12_canHear 125 = .ok (.iload 8, 2) := zb_X12_canHear_111.2.2.2.2.2.1
theorem dX12_canHear_135 : decode cX12_canHear 135 = .ok (.iload 4, 2) := zb_X12_canHear_111.2.2.2.2.2.2.1
theorem dX12_canHear_142 : decode cX12_canHear 142 = .ok (.iload 4, 2) := zb_X12_canHear_111.2.2.2.2.2.2.2.1
theorem dX12_canHear_152 : decode cX12_canHear 152 = .ok (.iload 8, 2) := zb_X12_canHear_111.2.2.2.2.2.2.2.2.1
theorem dX12_canHear_154 : decode cX12_canHear 154 = .ok (.ishl, 1) := zb_X12_canHear_111.2.2.2.2.2.2.2.2.2.1
theorem dX12_canHear_40 : decode cX12_canHear 40 = .ok (.imul, 1) := zb_X12_canHear_111.2.2.2.2.2.2.2.2.2.2.1
theorem dX12_canHear_59 : decode cX12_canHear 59 = .ok (.istore 4, 2) := zb_X12_canHear_111.2.2.2.2.2.2.2.2.2.2.2
theorem zb_X12_part_0 : (decode cX12_part 0 = .ok (.iload_n 1, 1)) ∧ (decode cX12_part 1 = .ok (.ifCond .lt 30, 3)) ∧ (decode cX12_part 31 = .ok (.bipush (-2), 2)) ∧ (decode cX12_part 33 = .ok (.ireturn, 1)) ∧ (decode cX12_part 4 = .ok (.iload_n 1, 1)) ∧ (decode cX12_part 5 = .ok (.aload_n 0, 1)) ∧ (decode cX12_part 6 = .ok (.getfield 246, 3)) ∧ (decode cX12_part 9 = .ok (.if_icmp .ge 22, 3)) ∧ (decode cX12_part 12 = .ok (.aload_n 0, 1)) ∧ (decode cX12_part 13 = .ok (.iload_n 2, 1)) := by decide +kernel
theorem dX12_part_0 : decode cX12_part 0 = .ok (.iload_n 1, 1) := zb_X12_part_0.1
theorem dX12_part_1 : decode cX12_part 1 = .ok (.ifCond .lt 30, 3) := zb_X12_part_0.2.1
theorem dX12_part_31 : decode cX12_part 31 = .ok (.bipush (-2), 2) := zb_X12_part_0.2.2.1
theorem dX12_part_33 : decode cX12_part 33 = .ok (.ireturn, 1) := zb_X12_part_0.2.2.2.1
theorem dX12_part_4 : decode cX12_part 4 = .ok (.iload_n 1, 1) := zb_X12_part_0.2.2.2.2.1
theorem dX12_part_5 : decode cX12_part 5 = .ok (.aload_n 0, 1) := zb_X12_part_0.2.2.2.2.2.1
theorem dX12_part_6 : decode cX12_part 6 = .ok (.getfield 246, 3) := zb_X12_part_0.2.2.2.2.2.2.1
theorem dX12_part_9 : decode cX12_part 9 = .ok (.if_icmp .ge 22, 3) := zb_X12_part_0.2.2.2.2.2.2.2.1
theorem dX12_part_12 : decode cX12_part 12 = .ok (.aload_n 0, 1) := zb_X12_part_0.2.2.2.2.2.2.2.2.1
theorem dX12_part_13 : decode cX12_part 13 = .ok (.iload_n 2, 1) := zb_X12_part_0.2.2.2.2.2.2.2.2.2
theorem zb_X12_part_14 : (decode cX12_part 14 = .ok (.invokevirtual 255, 3)) ∧ (decode cX12_part 17 = .ok (.ifCond .eq 14, 3)) ∧ (decode cX12_part 20 = .ok (.iload_n 3, 1)) ∧ (decode cX12_part 21 = .ok (.iconst 0, 1)) ∧ (decode cX12_part 22 = .ok (.ldc_w 262, 3)) ∧ (decode cX12_part 25 = .ok (.invokestatic 186, 3)) ∧ (decode cX12_part 28 = .ok (.ifCond .ne 6, 3)) ∧ (decode cX12_part 34 = .ok (.aload_n 0, 1)) ∧ (decode cX12_part 35 = .ok (.getfield 263, 3)) ∧ (decode cX12_part 38 = .ok (.bipush 40, 2)) := by decide +kernel
theorem dX12_part_14 : decode cX12_part 14 = .ok (.invokevirtual 255, 3) := zb_X12_part_14.1
theorem dX12_part_17 : decode cX12_part 17 = .ok (.ifCond .eq 14, 3) := zb_X12_part_14.2.1
theorem dX12_part_20 : decode cX12_part 20 = .ok (.iload_n 3, 1) := zb_X12_part_14.2.2.1
theorem dX12_part_21 : decode cX12_part 21 = .ok (.iconst 0, 1) := zb_X12_part_14.2.2.2.1
theorem dX12_part_22 : decode cX12_part 22 = .ok (.ldc_w 262, 3) := zb_X12_part_14.2.2.2.2.1
theorem dX12_part_25 : decode cX12_part 25 = .ok (.invokestatic 186, 3) := zb_X12_part_14.2.2.2.2.2.1
theorem dX12_part_28 : decode cX12_part 28 = .ok (.ifCond .ne 6, 3) := zb_X12_part_14.2.2.2.2.2.2.1
theorem dX12_part_34 : decode cX12_part 34 = .ok (.aload_n 0, 1) := zb_X12_part_14.2.2.2.2.2.2.2.1
theorem dX12_part_35 : decode cX12_part 35 = .ok (.getfield 263, 3) := zb_X12_part_14.2.2.2.2.2.2.2.2.1
theorem dX12_part_38 : decode cX12_part 38 = .ok (.bipush 40, 2) := zb_X12_part_14.2.2.2.2.2.2.2.2.2
theorem zb_X12_part_40 : (decode cX12_part 40 = .ok (.if_icmp .ne 6, 3)) ∧ (decode cX12_part 46 = .ok (.aload_n 0, 1)) ∧ (decode cX12_part 47 = .ok (.getfield 80, 3)) ∧ (decode cX12_part 50 = .ok (.aload_n 0, 1)) ∧ (decode cX12_part 51 = .ok (.getfield 263, 3)) ∧ (decode cX12_part 54 = .ok (.iload_n 2, 1)) ∧ (decode cX12_part 55 = .ok (.iastore, 1)) ∧ (decode cX12_part 56 = .ok (.aload_n 0, 1)) ∧ (decode cX12_part 57 = .ok (.getfield 83, 3)) ∧ (decode cX12_part 60 = .ok (.aload_n 0, 1)) := by decide +kernel
theorem dX12_part_40 : decode cX12_part 40 = .ok (.if_icmp .ne 6, 3) := zb_X12_part_40.1
theorem dX12_part_46 : decode cX12_part 46 = .ok (.aload_n 0, 1) := zb_X12_part_40.2.1
theorem dX12_part_47 : decode cX12_part 47 = .ok (.getfield 80, 3) := zb_X12_part_40.2.2.1
theorem dX12_part_50 : decode cX12_part 50 = .ok (.aload_n 0, 1) := zb_X12_part_40.2.2.2.1
theorem dX12_part_51 : decode cX12_part 51 = .ok (.getfield 263, 3) := zb_X12_part_40.2.2.2.2.1
theorem dX12_part_54 : decode cX12_part 54 = .ok (.iload_n 2, 1) := zb_X12_part_40.2.2.2.2.2.1
theorem dX12_part_55 : decode cX12_part 55 = .ok (.iastore, 1) := zb_X12_part_40.2.2.2.2.2.2.1
theorem dX12_part_56 : decode cX12_part 56 = .ok (.aload_n 0, 1) := zb_X12_part_40.2.2.2.2.2.2.2.1
theorem dX12_part_57 : decode cX12_part 57 = .ok (.getfield 83, 3) := zb_X12_part_40.2.2.2.2.2.2.2.2.1
theorem dX12_part_60 : decode cX12_part 60 = .ok (.aload_n 0, 1) := zb_X12_part_40.2.2.2.2.2.2.2.2.2
theorem zb_X12_part_61 : (decode cX12_part 61 = .ok (.getfield 263, 3)) ∧ (decode cX12_part 64 = .ok (.iload_n 3, 1)) ∧ (decode cX12_part 65 = .ok (.iastore, 1)) ∧ (decode cX12_part 66 = .ok (.aload_n 0, 1)) ∧ (decode cX12_part 67 = .ok (.getfield 86, 3)) ∧ (decode cX12_part 70 = .ok (.aload_n 0, 1)) ∧ (decode cX12_part 71 = .ok (.getfield 263, 3)) ∧ (decode cX12_part 74 = .ok (.lload 4, 2)) ∧ (decode cX12_part 76 = .ok (.lastore, 1)) ∧ (decode cX12_part 77 = .ok (.aload_n 0, 1)) := by decide +kernel
theorem dX12_part_61 : decode cX12_part 61 = .ok (.getfield 263, 3) := zb_X12_part_61.1
theorem dX12_part_64 : decode cX12_part 64 = .ok (.iload_n 3, 1) := zb_X12_part_61.2.1
theorem dX12_part_65 : decode cX12_part 65 = .ok (.iastore, 1) := zb_X12_part_61.2.2.1
theorem dX12_part_66 : decode cX12_part 66 = .ok (.aload_n 0, 1) := zb_X12_part_61.2.2.2.1
theorem dX12_part_67 : decode cX12_part 67 = .ok (.getfield 86, 3) := zb_X12_part_61.2.2.2.2.1
theorem dX12_part_70 : decode cX12_part 70 = .ok (.aload_n 0, 1) := zb_X12_part_61.2.2.2.2.2.1
theorem dX12_part_71 : decode cX12_part 71 = .ok (.getfield 263, 3) := zb_X12_part_61.2.2.2.2.2.2.1
theorem dX12_part_74 : decode cX12_part 74 = .ok (.lload 4, 2) := zb_X12_part_61.2.2.2.2.2.2.2.1
theorem dX12_part_76 : decode cX12_part 76 = .ok (.lastore, 1) := zb_X12_part_61.2.2.2.2.2.2.2.2.1
theorem dX12_part_77 : decode cX12_part 77 = .ok (.aload_n 0, 1) := zb_X12_part_61.2.2.2.2.2.2.2.2.2
theorem zb_X12_part_78 : (decode cX12_part 78 = .ok (.dup, 1)) ∧ (decode cX12_part 79 = .ok (.getfield 263, 3)) ∧ (decode cX12_part 82 = .ok (.iconst 1, 1)) ∧ (decode cX12_part 83 = .ok (.iadd, 1)) ∧ (decode cX12_part 84 = .ok (.putfield 263, 3)) ∧ (decode cX12_part 87 = .ok (.aload_n 0, 1)) ∧ (decode cX12_part 88 = .ok (.getfield 263, 3)) ∧ (decode cX12_part 91 = .ok (.ireturn, 1)) ∧ (decode cX12_part 43 = .ok (.bipush (-4), 2)) ∧ (decode cX12_part 45 = .ok (.ireturn, 1)) := by decide +kernel
theorem dX12_part_78 : decode cX12_part 78 = .ok (.dup, 1) := zb_X12_part_78.1
theorem dX12_part_79 : decode cX12_part 79 = .ok (.getfield 263, 3) := zb_X12_part_78.2.1
theorem dX12_part_82 : decode cX12_part 82 = .ok (.iconst 1, 1) := zb_X12_part_78.2.2.1
theorem dX12_part_83 : decode cX12_part 83 = .ok (.iadd, 1) := zb_X12_part_78.2.2.2.1
theorem dX12_part_84 : decode cX12_part 84 = .ok (.putfield 263, 3) := zb_X12_part_78.2.2.2.2.1
theorem dX12_part_87 : decode cX12_part 87 = .ok (.aload_n 0, 1) := zb_X12_part_78.2.2.2.2.2.1
theorem dX12_part_88 : decode cX12_part 88 = .ok (.getfield 263, 3) := zb_X12_part_78.2.2.2.2.2.2.1
theorem dX12_part_91 : decode cX12_part 91 = .ok (.ireturn, 1) := zb_X12_part_78.2.2.2.2.2.2.2.1
theorem dX12_part_43 : decode cX12_part 43 = .ok (.bipush (-4), 2) := zb_X12_part_78.2.2.2.2.2.2.2.2.1
theorem dX12_part_45 : decode cX12_part 45 = .ok (.ireturn, 1) := zb_X12_part_78.2.2.2.2.2.2.2.2.2
theorem zb_X12_word_0 : (decode cX12_word 0 = .ok (.aload_n 0, 1)) ∧ (decode cX12_word 1 = .ok (.iload_n 1, 1)) ∧ (decode cX12_word 2 = .ok (.invokevirtual 255, 3)) ∧ (decode cX12_word 5 = .ok (.ifCond .eq 13, 3)) ∧ (decode cX12_word 8 = .ok (.iload_n 2, 1)) ∧ (decode cX12_word 9 = .ok (.iconst 0, 1)) ∧ (decode cX12_word 10 = .ok (.bipush 15, 2)) ∧ (decode cX12_word 12 = .ok (.invokestatic 186, 3)) ∧ (decode cX12_word 15 = .ok (.ifCond .ne 6, 3)) ∧ (decode cX12_word 21 = .ok (.iconst (-1), 1)) ∧ (decode cX12_word 22 = .ok (.istore_n 3, 1)) ∧ (decode cX12_word 23 = .ok (.iconst 0, 1)) := by decide +kernel
theorem dX12_word_0 : decode cX12_word 0 = .ok (.aload_n 0, 1) := zb_X12_word_0.1
theorem dX12_word_1 : decode cX12_word 1 = .ok (.iload_n 1, 1) := zb_X12_word_0.2.1
theorem dX12_word_2 : decode cX12_word 2 = .ok (.invokevirtual 255, 3) := zb_X12_word_0.2.2.1
theorem dX12_word_5 : decode cX12_word 5 = .ok (.ifCond .eq 13, 3) := zb_X12_word_0.2.2.2.1
theorem dX12_word_8 : decode cX12_word 8 = .ok (.iload_n 2, 1) := zb_X12_word_0.2.2.2.2.1
theorem dX12_word_9 : decode cX12_word 9 = .ok (.iconst 0, 1) := zb_X12_word_0.2.2.2.2.2.1
theorem dX12_word_10 : decode cX12_word 10 = .ok (.bipush 15, 2) := zb_X12_word_0.2.2.2.2.2.2.1
theorem dX12_word_12 : decode cX12_word 12 = .ok (.invokestatic 186, 3) := zb_X12_word_0.2.2.2.2.2.2.2.1
theorem dX12_word_15 : decode cX12_word 15 = .ok (.ifCond .ne 6, 3) := zb_X12_word_0.2.2.2.2.2.2.2.2.1
theorem dX12_word_21 : decode cX12_word 21 = .ok (.iconst (-1), 1) := zb_X12_word_0.2.2.2.2.2.2.2.2.2.1
theorem dX12_word_22 : decode cX12_word 22 = .ok (.istore_n 3, 1) := zb_X12_word_0.2.2.2.2.2.2.2.2.2.2.1
theorem dX12_word_23 : decode cX12_word 23 = .ok (.iconst 0, 1) := zb_X12_word_0.2.2.2.2.2.2.2.2.2.2.2
theorem zb_X12_word_24 : (decode cX12_word 24 = .ok (.istore 4, 2)) ∧ (decode cX12_word 26 = .ok (.iload 4, 2)) ∧ (decode cX12_word 28 = .ok (.aload_n 0, 1)) ∧ (decode cX12_word 29 = .ok (.getfield 263, 3)) ∧ (decode cX12_word 32 = .ok (.if_icmp .ge 67, 3)) ∧ (decode cX12_word 99 = .ok (.iload_n 3, 1)) ∧ (decode cX12_word 100 = .ok (.ireturn, 1)) ∧ (decode cX12_word 35 = .ok (.aload_n 0, 1)) ∧ (decode cX12_word 36 = .ok (.getfield 80, 3)) ∧ (decode cX12_word 39 = .ok (.iload 4, 2)) ∧ (decode cX12_word 41 = .ok (.iaload, 1)) ∧ (decode cX12_word 42 = .ok (.iload_n 1, 1)) := by decide +kernel
theorem dX12_word_24 : decode cX12_word 24 = .ok (.istore 4, 2) := zb_X12_word_24.1
theorem dX12_word_26 : decode cX12_word 26 = .ok (.iload 4, 2) := zb_X12_word_24.2.1
theorem dX12_word_28 : decode cX12_word 28 = .ok (.aload_n 0, 1) := zb_X12_word_24.2.2.1
theorem dX12_word_29 : decode cX12_word 29 = .ok (.getfield 263, 3) := zb_X12_word_24.2.2.2.1
theorem dX12_word_32 : decode cX12_word 32 = .ok (.if_icmp .ge 67, 3) := zb_X12_word_24.2.2.2.2.1
theorem dX12_word_99 : decode cX12_word 99 = .ok (.iload_n 3, 1) := zb_X12_word_24.2.2.2.2.2.1
theorem dX12_word_100 : decode cX12_word 100 = .ok (.ireturn, 1) := zb_X12_word_24.2.2.2.2.2.2.1
theorem dX12_word_35 : decode cX12_word 35 = .ok (.aload_n 0, 1) := zb_X12_word_24.2.2.2.2.2.2.2.1
theorem dX12_word_36 : decode cX12_word 36 = .ok (.getfield 80, 3) := zb_X12_word_24.2.2.2.2.2.2.2.2.1
theorem dX12_word_39 : decode cX12_word 39 = .ok (.iload 4, 2) := zb_X12_word_24.2.2.2.2.2.2.2.2.2.1
theorem dX12_word_41 : decode cX12_word 41 = .ok (.iaload, 1) := zb_X12_word_24.2.2.2.2.2.2.2.2.2.2.1
theorem dX12_word_42 : decode cX12_word 42 = .ok (.iload_n 1, 1) := zb_X12_word_24.2.2.2.2.2.2.2.2.2.2.2
theorem zb_X12_word_43 : (decode cX12_word 43 = .ok (.if_icmp .ne 50, 3)) ∧ (decode cX12_word 93 = .ok (.iinc 4 1, 3)) ∧ (decode cX12_word 96 = .ok (.goto (-70), 3)) ∧ (decode cX12_word 46 = .ok (.aload_n 0, 1)) ∧ (decode cX12_word 47 = .ok (.getfield 83, 3)) ∧ (decode cX12_word 50 = .ok (.iload 4, 2)) ∧ (decode cX12_word 52 = .ok (.iaload, 1)) ∧ (decode cX12_word 53 = .ok (.iload_n 2, 1)) ∧ (decode cX12_word 54 = .ok (.ishr, 1)) ∧ (decode cX12_word 55 = .ok (.iconst 1, 1)) ∧ (decode cX12_word 56 = .ok (.iand, 1)) ∧ (decode cX12_word 57 = .ok (.iconst 1, 1)) := by decide +kernel
theorem dX12_word_43 : decode cX12_word 43 = .ok (.if_icmp .ne 50, 3) := zb_X12_word_43.1
theorem dX12_word_93 : decode cX12_word 93 = .ok (.iinc 4 1, 3) := zb_X12_word_43.2.1
theorem dX12_word_96 : decode cX12_word 96 = .ok (.goto (-70), 3) := zb_X12_word_43.2.2.1
theorem dX12_word_46 : decode cX12_word 46 = .ok (.aload_n 0, 1) := zb_X12_word_43.2.2.2.1
theorem dX12_word_47 : decode cX12_word 47 = .ok (.getfield 83, 3) := zb_X12_word_43.2.2.2.2.1
theorem dX12_word_50 : decode cX12_word 50 = .ok (.iload 4, 2) := zb_X12_word_43.2.2.2.2.2.1
theorem dX12_word_52 : decode cX12_word 52 = .ok (.iaload, 1) := zb_X12_word_43.2.2.2.2.2.2.1
theorem dX12_word_53 : decode cX12_word 53 = .ok (.iload_n 2, 1) := zb_X12_word_43.2.2.2.2.2.2.2.1
theorem dX12_word_54 : decode cX12_word 54 = .ok (.ishr, 1) := zb_X12_word_43.2.2.2.2.2.2.2.2.1
theorem dX12_word_55 : decode cX12_word 55 = .ok (.iconst 1, 1) := zb_X12_word_43.2.2.2.2.2.2.2.2.2.1
theorem dX12_word_56 : decode cX12_word 56 = .ok (.iand, 1) := zb_X12_word_43.2.2.2.2.2.2.2.2.2.2.1
theorem dX12_word_57 : decode cX12_word 57 = .ok (.iconst 1, 1) := zb_X12_word_43.2.2.2.2.2.2.2.2.2.2.2
theorem zb_X12_word_58 : (decode cX12_word 58 = .ok (.if_icmp .ne 35, 3)) ∧ (decode cX12_word 61 = .ok (.aload_n 0, 1)) ∧ (decode cX12_word 62 = .ok (.getfield 86, 3)) ∧ (decode cX12_word 65 = .ok (.iload 4, 2)) ∧ (decode cX12_word 67 = .ok (.laload, 1)) ∧ (decode cX12_word 68 = .ok (.iload_n 2, 1)) ∧ (decode cX12_word 69 = .ok (.invokestatic 268, 3)) ∧ (decode cX12_word 72 = .ok (.istore 5, 2)) ∧ (decode cX12_word 74 = .ok (.iload_n 3, 1)) ∧ (decode cX12_word 75 = .ok (.iconst (-1), 1)) ∧ (decode cX12_word 76 = .ok (.if_icmp .eq 9, 3)) ∧ (decode cX12_word 85 = .ok (.iload 5, 2)) := by decide +kernel
theorem dX12_word_58 : decode cX12_word 58 = .ok (.if_icmp .ne 35, 3) := zb_X12_word_58.1
theorem dX12_word_61 : decode cX12_word 61 = .ok (.aload_n 0, 1) := zb_X12_word_58.2.1
theorem dX12_word_62 : decode cX12_word 62 = .ok (.getfield 86, 3) := zb_X12_word_58.2.2.1
theorem dX12_word_65 : decode cX12_word 65 = .ok (.iload 4, 2) := zb_X12_word_58.2.2.2.1
theorem dX12_word_67 : decode cX12_word 67 = .ok (.laload, 1) := zb_X12_word_58.2.2.2.2.1
theorem dX12_word_68 : decode cX12_word 68 = .ok (.iload_n 2, 1) := zb_X12_word_58.2.2.2.2.2.1
theorem dX12_word_69 : decode cX12_word 69 = .ok (.invokestatic 268, 3) := zb_X12_word_58.2.2.2.2.2.2.1
theorem dX12_word_72 : decode cX12_word 72 = .ok (.istore 5, 2) := zb_X12_word_58.2.2.2.2.2.2.2.1
theorem dX12_word_74 : decode cX12_word 74 = .ok (.iload_n 3, 1) := zb_X12_word_58.2.2.2.2.2.2.2.2.1
theorem dX12_word_75 : decode cX12_word 75 = .ok (.iconst (-1), 1) := zb_X12_word_58.2.2.2.2.2.2.2.2.2.1
theorem dX12_word_76 : decode cX12_word 76 = .ok (.if_icmp .eq 9, 3) := zb_X12_word_58.2.2.2.2.2.2.2.2.2.2.1
theorem dX12_word_85 : decode cX12_word 85 = .ok (.iload 5, 2) := zb_X12_word_58.2.2.2.2.2.2.2.2.2.2.2
theorem zb_X12_word_87 : (decode cX12_word 87 = .ok (.goto 5, 3)) ∧ (decode cX12_word 92 = .ok (.istore_n 3, 1)) ∧ (decode cX12_word 79 = .ok (.iload_n 3, 1)) ∧ (decode cX12_word 80 = .ok (.iload 5, 2)) ∧ (decode cX12_word 82 = .ok (.if_icmp .ne 8, 3)) ∧ (decode cX12_word 90 = .ok (.bipush (-2), 2)) ∧ (decode cX12_word 18 = .ok (.bipush (-3), 2)) ∧ (decode cX12_word 20 = .ok (.ireturn, 1)) := by decide +kernel
theorem dX12_word_87 : decode cX12_word 87 = .ok (.goto 5, 3) := zb_X12_word_87.1
theorem dX12_word_92 : decode cX12_word 92 = .ok (.istore_n 3, 1) := zb_X12_word_87.2.1
theorem dX12_word_79 : decode cX12_word 79 = .ok (.iload_n 3, 1) := zb_X12_word_87.2.2.1
theorem dX12_word_80 : decode cX12_word 80 = .ok (.iload 5, 2) := zb_X12_word_87.2.2.2.1
theorem dX12_word_82 : decode cX12_word 82 = .ok (.if_icmp .ne 8, 3) := zb_X12_word_87.2.2.2.2.1
theorem dX12_word_90 : decode cX12_word 90 = .ok (.bipush (-2), 2) := zb_X12_word_87.2.2.2.2.2.1
theorem dX12_word_18 : decode cX12_word 18 = .ok (.bipush (-3), 2) := zb_X12_word_87.2.2.2.2.2.2.1
theorem dX12_word_20 : decode cX12_word 20 = .ok (.ireturn, 1) := zb_X12_word_87.2.2.2.2.2.2.2
theorem zb_X12_isTrue_0 : (decode cX12_isTrue 0 = .ok (.iload_n 1, 1)) ∧ (decode cX12_isTrue 1 = .ok (.ifCond .lt 11, 3)) ∧ (decode cX12_isTrue 12 = .ok (.bipush (-2), 2)) ∧ (decode cX12_isTrue 14 = .ok (.ireturn, 1)) ∧ (decode cX12_isTrue 4 = .ok (.iload_n 1, 1)) ∧ (decode cX12_isTrue 5 = .ok (.aload_n 0, 1)) ∧ (decode cX12_isTrue 6 = .ok (.getfield 263, 3)) ∧ (decode cX12_isTrue 9 = .ok (.if_icmp .lt 6, 3)) ∧ (decode cX12_isTrue 15 = .ok (.iconst 1, 1)) ∧ (decode cX12_isTrue 16 = .ok (.istore_n 2, 1)) ∧ (decode cX12_isTrue 17 = .ok (.iconst 0, 1)) := by decide +kernel
theorem dX12_isTrue_0 : decode cX12_isTrue 0 = .ok (.iload_n 1, 1) := zb_X12_isTrue_0.1
theorem dX12_isTrue_1 : decode cX12_isTrue 1 = .ok (.ifCond .lt 11, 3) := zb_X12_isTrue_0.2.1
theorem dX12_isTrue_12 : decode cX12_isTrue 12 = .ok (.bipush (-2), 2) := zb_X12_isTrue_0.2.2.1
theorem dX12_isTrue_14 : decode cX12_isTrue 14 = .ok (.ireturn, 1) := zb_X12_isTrue_0.2.2.2.1
theorem dX12_isTrue_4 : decode cX12_isTrue 4 = .ok (.iload_n 1, 1) := zb_X12_isTrue_0.2.2.2.2.1
theorem dX12_isTrue_5 : decode cX12_isTrue 5 = .ok (.aload_n 0, 1) := zb_X12_isTrue_0.2.2.2.2.2.1
theorem dX12_isTrue_6 : decode cX12_isTrue 6 = .ok (.getfield 263, 3) := zb_X12_isTrue_0.2.2.2.2.2.2.1
theorem dX12_isTrue_9 : decode cX12_isTrue 9 = .ok (.if_icmp .lt 6, 3) := zb_X12_isTrue_0.2.2.2.2.2.2.2.1
theorem dX12_isTrue_15 : decode cX12_isTrue 15 = .ok (.iconst 1, 1) := zb_X12_isTrue_0.2.2.2.2.2.2.2.2.1
theorem dX12_isTrue_16 : decode cX12_isTrue 16 = .ok (.istore_n 2, 1) := zb_X12_isTrue_0.2.2.2.2.2.2.2.2.2.1
theorem dX12_isTrue_17 : decode cX12_isTrue 17 = .ok (.iconst 0, 1) := zb_X12_isTrue_0.2.2.2.2.2.2.2.2.2.2
theorem zb_X12_isTrue_18 : (decode cX12_isTrue 18 = .ok (.istore_n 3, 1)) ∧ (decode cX12_isTrue 19 = .ok (.iload_n 3, 1)) ∧ (decode cX12_isTrue 20 = .ok (.bipush 16, 2)) ∧ (decode cX12_isTrue 22 = .ok (.if_icmp .ge 73, 3)) ∧ (decode cX12_isTrue 95 = .ok (.iload_n 2, 1)) ∧ (decode cX12_isTrue 96 = .ok (.ifCond .eq 7, 3)) ∧ (decode cX12_isTrue 103 = .ok (.iconst 0, 1)) ∧ (decode cX12_isTrue 104 = .ok (.ireturn, 1)) ∧ (decode cX12_isTrue 99 = .ok (.iconst 1, 1)) ∧ (decode cX12_isTrue 100 = .ok (.goto 4, 3)) ∧ (decode cX12_isTrue 46 = .ok (.iload_n 2, 1)) := by decide +kernel
theorem dX12_isTrue_18 : decode cX12_isTrue 18 = .ok (.istore_n 3, 1) := zb_X12_isTrue_18.1
theorem dX12_isTrue_19 : decode cX12_isTrue 19 = .ok (.iload_n 3, 1) := zb_X12_isTrue_18.2.1
theorem dX12_isTrue_20 : decode cX12_isTrue 20 = .ok (.bipush 16, 2) := zb_X12_isTrue_18.2.2.1
theorem dX12_isTrue_22 : decode cX12_isTrue 22 = .ok (.if_icmp .ge 73, 3) := zb_X12_isTrue_18.2.2.2.1
theorem dX12_isTrue_95 : decode cX12_isTrue 95 = .ok (.iload_n 2, 1) := zb_X12_isTrue_18.2.2.2.2.1
theorem dX12_isTrue_96 : decode cX12_isTrue 96 = .ok (.ifCond .eq 7, 3) := zb_X12_isTrue_18.2.2.2.2.2.1
theorem dX12_isTrue_103 : decode cX12_isTrue 103 = .ok (.iconst 0, 1) := zb_X12_isTrue_18.2.2.2.2.2.2.1
theorem dX12_isTrue_104 : decode cX12_isTrue 104 = .ok (.ireturn, 1) := zb_X12_isTrue_18.2.2.2.2.2.2.2.1
theorem dX12_isTrue_99 : decode cX12_isTrue 99 = .ok (.iconst 1, 1) := zb_X12_isTrue_18.2.2.2.2.2.2.2.2.1
theorem dX12_isTrue_100 : decode cX12_isTrue 100 = .ok (.goto 4, 3) := zb_X12_isTrue_18.2.2.2.2.2.2.2.2.2.1
theorem dX12_isTrue_46 : decode cX12_isTrue 46 = .ok (.iload_n 2, 1) := zb_X12_isTrue_18.2.2.2.2.2.2.2.2.2.2
theorem zb_X12_isTrue_47 : (decode cX12_isTrue 47 = .ok (.ifCond .eq 40, 3)) ∧ (decode cX12_isTrue 87 = .ok (.iconst 0, 1)) ∧ (decode cX12_isTrue 88 = .ok (.istore_n 2, 1)) ∧ (decode cX12_isTrue 89 = .ok (.iinc 3 1, 3)) ∧ (decode cX12_isTrue 92 = .ok (.goto (-73), 3)) ∧ (decode cX12_isTrue 50 = .ok (.iload 4, 2)) ∧ (decode cX12_isTrue 52 = .ok (.ifCond .eq 31, 3)) ∧ (decode cX12_isTrue 83 = .ok (.iconst 1, 1)) ∧ (decode cX12_isTrue 84 = .ok (.goto 4, 3)) ∧ (decode cX12_isTrue 55 = .ok (.aload_n 0, 1)) ∧ (decode cX12_isTrue 56 = .ok (.getfield 86, 3)) := by decide +kernel
theorem dX12_isTrue_47 : decode cX12_isTrue 47 = .ok (.ifCond .eq 40, 3) := zb_X12_isTrue_47.1
theorem dX12_isTrue_87 : decode cX12_isTrue 87 = .ok (.iconst 0, 1) := zb_X12_isTrue_47.2.1
theorem dX12_isTrue_88 : decode cX12_isTrue 88 = .ok (.istore_n 2, 1) := zb_X12_isTrue_47.2.2.1
theorem dX12_isTrue_89 : decode cX12_isTrue 89 = .ok (.iinc 3 1, 3) := zb_X12_isTrue_47.2.2.2.1
theorem dX12_isTrue_92 : decode cX12_isTrue 92 = .ok (.goto (-73), 3) := zb_X12_isTrue_47.2.2.2.2.1
theorem dX12_isTrue_50 : decode cX12_isTrue 50 = .ok (.iload 4, 2) := zb_X12_isTrue_47.2.2.2.2.2.1
theorem dX12_isTrue_52 : decode cX12_isTrue 52 = .ok (.ifCond .eq 31, 3) := zb_X12_isTrue_47.2.2.2.2.2.2.1
theorem dX12_isTrue_83 : decode cX12_isTrue 83 = .ok (.iconst 1, 1) := zb_X12_isTrue_47.2.2.2.2.2.2.2.1
theorem dX12_isTrue_84 : decode cX12_isTrue 84 = .ok (.goto 4, 3) := zb_X12_isTrue_47.2.2.2.2.2.2.2.2.1
theorem dX12_isTrue_55 : decode cX12_isTrue 55 = .ok (.aload_n 0, 1) := zb_X12_isTrue_47.2.2.2.2.2.2.2.2.2.1
theorem dX12_isTrue_56 : decode cX12_isTrue 56 = .ok (.getfield 86, 3) := zb_X12_isTrue_47.2.2.2.2.2.2.2.2.2.2
theorem zb_X12_isTrue_59 : (decode cX12_isTrue 59 = .ok (.iload_n 1, 1)) ∧ (decode cX12_isTrue 60 = .ok (.laload, 1)) ∧ (decode cX12_isTrue 61 = .ok (.iload_n 3, 1)) ∧ (decode cX12_isTrue 62 = .ok (.invokestatic 268, 3)) ∧ (decode cX12_isTrue 65 = .ok (.aload_n 0, 1)) ∧ (decode cX12_isTrue 66 = .ok (.getfield 77, 3)) ∧ (decode cX12_isTrue 69 = .ok (.aload_n 0, 1)) ∧ (decode cX12_isTrue 70 = .ok (.getfield 80, 3)) ∧ (decode cX12_isTrue 73 = .ok (.iload_n 1, 1)) ∧ (decode cX12_isTrue 74 = .ok (.iaload, 1)) ∧ (decode cX12_isTrue 75 = .ok (.laload, 1)) := by decide +kernel
theorem dX12_isTrue_59 : decode cX12_isTrue 59 = .ok (.iload_n 1, 1) := zb_X12_isTrue_59.1
theorem dX12_isTrue_60 : decode cX12_isTrue 60 = .ok (.laload, 1) := zb_X12_isTrue_59.2.1
theorem dX12_isTrue_61 : decode cX12_isTrue 61 = .ok (.iload_n 3, 1) := zb_X12_isTrue_59.2.2.1
theorem dX12_isTrue_62 : decode cX12_isTrue 62 = .ok (.invokestatic 268, 3) := zb_X12_isTrue_59.2.2.2.1
theorem dX12_isTrue_65 : decode cX12_isTrue 65 = .ok (.aload_n 0, 1) := zb_X12_isTrue_59.2.2.2.2.1
theorem dX12_isTrue_66 : decode cX12_isTrue 66 = .ok (.getfield 77, 3) := zb_X12_isTrue_59.2.2.2.2.2.1
theorem dX12_isTrue_69 : decode cX12_isTrue 69 = .ok (.aload_n 0, 1) := zb_X12_isTrue_59.2.2.2.2.2.2.1
theorem dX12_isTrue_70 : decode cX12_isTrue 70 = .ok (.getfield 80, 3) := zb_X12_isTrue_59.2.2.2.2.2.2.2.1
theorem dX12_isTrue_73 : decode cX12_isTrue 73 = .ok (.iload_n 1, 1) := zb_X12_isTrue_59.2.2.2.2.2.2.2.2.1
theorem dX12_isTrue_74 : decode cX12_isTrue 74 = .ok (.iaload, 1) := zb_X12_isTrue_59.2.2.2.2.2.2.2.2.2.1
theorem dX12_isTrue_75 : decode cX12_isTrue 75 = .ok (.laload, 1) := zb_X12_isTrue_59.2.2.2.2.2.2.2.2.2.2
theorem zb_X12_isTrue_76 : (decode cX12_isTrue 76 = .ok (.iload_n 3, 1)) ∧ (decode cX12_isTrue 77 = .ok (.invokestatic 268, 3)) ∧ (decode cX12_isTrue 80 = .ok (.if_icmp .ne 7, 3)) ∧ (decode cX12_isTrue 25 = .ok (.aload_n 0, 1)) ∧ (decode cX12_isTrue 26 = .ok (.getfield 83, 3)) ∧ (decode cX12_isTrue 29 = .ok (.iload_n 1, 1)) ∧ (decode cX12_isTrue 30 = .ok (.iaload, 1)) ∧ (decode cX12_isTrue 31 = .ok (.iload_n 3, 1)) ∧ (decode cX12_isTrue 32 = .ok (.ishr, 1)) ∧ (decode cX12_isTrue 33 = .ok (.iconst 1, 1)) ∧ (decode cX12_isTrue 34 = .ok (.iand, 1)) := by decide +kernel
theorem dX12_isTrue_76 : decode cX12_isTrue 76 = .ok (.iload_n 3, 1) := zb_X12_isTrue_76.1
theorem dX12_isTrue_77 : decode cX12_isTrue 77 = .ok (.invokestatic 268, 3) := zb_X12_isTrue_76.2.1
theorem dX12_isTrue_80 : decode cX12_isTrue 80 = .ok (.if_icmp .ne 7, 3) := zb_X12_isTrue_76.2.2.1
theorem dX12_isTrue_25 : decode cX12_isTrue 25 = .ok (.aload_n 0, 1) := zb_X12_isTrue_76.2.2.2.1
theorem dX12_isTrue_26 : decode cX12_isTrue 26 = .ok (.getfield 83, 3) := zb_X12_isTrue_76.2.2.2.2.1
theorem dX12_isTrue_29 : decode cX12_isTrue 29 = .ok (.iload_n 1, 1) := zb_X12_isTrue_76.2.2.2.2.2.1
theorem dX12_isTrue_30 : decode cX12_isTrue 30 = .ok (.iaload, 1) := zb_X12_isTrue_76.2.2.2.2.2.2.1
theorem dX12_isTrue_31 : decode cX12_isTrue 31 = .ok (.iload_n 3, 1) := zb_X12_isTrue_76.2.2.2.2.2.2.2.1
theorem dX12_isTrue_32 : decode cX12_isTrue 32 = .ok (.ishr, 1) := zb_X12_isTrue_76.2.2.2.2.2.2.2.2.1
theorem dX12_isTrue_33 : decode cX12_isTrue 33 = .ok (.iconst 1, 1) := zb_X12_isTrue_76.2.2.2.2.2.2.2.2.2.1
theorem dX12_isTrue_34 : decode cX12_isTrue 34 = .ok (.iand, 1) := zb_X12_isTrue_76.2.2.2.2.2.2.2.2.2.2
theorem zb_X12_isTrue_35 : (decode cX12_isTrue 35 = .ok (.iconst 1, 1)) ∧ (decode cX12_isTrue 36 = .ok (.if_icmp .ne 7, 3)) ∧ (decode cX12_isTrue 43 = .ok (.iconst 0, 1)) ∧ (decode cX12_isTrue 44 = .ok (.istore 4, 2)) ∧ (decode cX12_isTrue 39 = .ok (.iconst 1, 1)) ∧ (decode cX12_isTrue 40 = .ok (.goto 4, 3)) := by decide +kernel
theorem dX12_isTrue_35 : decode cX12_isTrue 35 = .ok (.iconst 1, 1) := zb_X12_isTrue_35.1
theorem dX12_isTrue_36 : decode cX12_isTrue 36 = .ok (.if_icmp .ne 7, 3) := zb_X12_isTrue_35.2.1
theorem dX12_isTrue_43 : decode cX12_isTrue 43 = .ok (.iconst 0, 1) := zb_X12_isTrue_35.2.2.1
theorem dX12_isTrue_44 : decode cX12_isTrue 44 = .ok (.istore 4, 2) := zb_X12_isTrue_35.2.2.2.1
theorem dX12_isTrue_39 : decode cX12_isTrue 39 = .ok (.iconst 1, 1) := zb_X12_isTrue_35.2.2.2.2.1
theorem dX12_isTrue_40 : decode cX12_isTrue 40 = .ok (.goto 4, 3) := zb_X12_isTrue_35.2.2.2.2.2
theorem zb_X12_lane_0 : (decode cX12_lane 0 = .ok (.lload_n 1, 1)) ∧ (decode cX12_lane 1 = .ok (.lconst 0, 1)) ∧ (decode cX12_lane 2 = .ok (.lcmp, 1)) ∧ (decode cX12_lane 3 = .ok (.ifCond .ne 6, 3)) ∧ (decode cX12_lane 9 = .ok (.aload_n 0, 1)) ∧ (decode cX12_lane 10 = .ok (.getfield 272, 3)) ∧ (decode cX12_lane 13 = .ok (.bipush 16, 2)) ∧ (decode cX12_lane 15 = .ok (.if_icmp .ne 6, 3)) ∧ (decode cX12_lane 21 = .ok (.aload_n 0, 1)) ∧ (decode cX12_lane 22 = .ok (.getfield 89, 3)) := by decide +kernel
theorem dX12_lane_0 : decode cX12_lane 0 = .ok (.lload_n 1, 1) := zb_X12_lane_0.1
theorem dX12_lane_1 : decode cX12_lane 1 = .ok (.lconst 0, 1) := zb_X12_lane_0.2.1
theorem dX12_lane_2 : decode cX12_lane 2 = .ok (.lcmp, 1) := zb_X12_lane_0.2.2.1
theorem dX12_lane_3 : decode cX12_lane 3 = .ok (.ifCond .ne 6, 3) := zb_X12_lane_0.2.2.2.1
theorem dX12_lane_9 : decode cX12_lane 9 = .ok (.aload_n 0, 1) := zb_X12_lane_0.2.2.2.2.1
theorem dX12_lane_10 : decode cX12_lane 10 = .ok (.getfield 272, 3) := zb_X12_lane_0.2.2.2.2.2.1
theorem dX12_lane_13 : decode cX12_lane 13 = .ok (.bipush 16, 2) := zb_X12_lane_0.2.2.2.2.2.2.1
theorem dX12_lane_15 : decode cX12_lane 15 = .ok (.if_icmp .ne 6, 3) := zb_X12_lane_0.2.2.2.2.2.2.2.1
theorem dX12_lane_21 : decode cX12_lane 21 = .ok (.aload_n 0, 1) := zb_X12_lane_0.2.2.2.2.2.2.2.2.1
theorem dX12_lane_22 : decode cX12_lane 22 = .ok (.getfield 89, 3) := zb_X12_lane_0.2.2.2.2.2.2.2.2.2
theorem zb_X12_lane_25 : (decode cX12_lane 25 = .ok (.aload_n 0, 1)) ∧ (decode cX12_lane 26 = .ok (.getfield 272, 3)) ∧ (decode cX12_lane 29 = .ok (.lload_n 1, 1)) ∧ (decode cX12_lane 30 = .ok (.lastore, 1)) ∧ (decode cX12_lane 31 = .ok (.aload_n 0, 1)) ∧ (decode cX12_lane 32 = .ok (.dup, 1)) ∧ (decode cX12_lane 33 = .ok (.getfield 272, 3)) ∧ (decode cX12_lane 36 = .ok (.iconst 1, 1)) ∧ (decode cX12_lane 37 = .ok (.iadd, 1)) ∧ (decode cX12_lane 38 = .ok (.putfield 272, 3)) := by decide +kernel
theorem dX12_lane_25 : decode cX12_lane 25 = .ok (.aload_n 0, 1) := zb_X12_lane_25.1
theorem dX12_lane_26 : decode cX12_lane 26 = .ok (.getfield 272, 3) := zb_X12_lane_25.2.1
theorem dX12_lane_29 : decode cX12_lane 29 = .ok (.lload_n 1, 1) := zb_X12_lane_25.2.2.1
theorem dX12_lane_30 : decode cX12_lane 30 = .ok (.lastore, 1) := zb_X12_lane_25.2.2.2.1
theorem dX12_lane_31 : decode cX12_lane 31 = .ok (.aload_n 0, 1) := zb_X12_lane_25.2.2.2.2.1
theorem dX12_lane_32 : decode cX12_lane 32 = .ok (.dup, 1) := zb_X12_lane_25.2.2.2.2.2.1
theorem dX12_lane_33 : decode cX12_lane 33 = .ok (.getfield 272, 3) := zb_X12_lane_25.2.2.2.2.2.2.1
theorem dX12_lane_36 : decode cX12_lane 36 = .ok (.iconst 1, 1) := zb_X12_lane_25.2.2.2.2.2.2.2.1
theorem dX12_lane_37 : decode cX12_lane 37 = .ok (.iadd, 1) := zb_X12_lane_25.2.2.2.2.2.2.2.2.1
theorem dX12_lane_38 : decode cX12_lane 38 = .ok (.putfield 272, 3) := zb_X12_lane_25.2.2.2.2.2.2.2.2.2
theorem zb_X12_lane_41 : (decode cX12_lane 41 = .ok (.aload_n 0, 1)) ∧ (decode cX12_lane 42 = .ok (.getfield 272, 3)) ∧ (decode cX12_lane 45 = .ok (.iconst 1, 1)) ∧ (decode cX12_lane 46 = .ok (.isub, 1)) ∧ (decode cX12_lane 47 = .ok (.ireturn, 1)) ∧ (decode cX12_lane 18 = .ok (.bipush (-4), 2)) ∧ (decode cX12_lane 20 = .ok (.ireturn, 1)) ∧ (decode cX12_lane 6 = .ok (.bipush (-2), 2)) ∧ (decode cX12_lane 8 = .ok (.ireturn, 1)) := by decide +kernel
theorem dX12_lane_41 : decode cX12_lane 41 = .ok (.aload_n 0, 1) := zb_X12_lane_41.1
theorem dX12_lane_42 : decode cX12_lane 42 = .ok (.getfield 272, 3) := zb_X12_lane_41.2.1
theorem dX12_lane_45 : decode cX12_lane 45 = .ok (.iconst 1, 1) := zb_X12_lane_41.2.2.1
theorem dX12_lane_46 : decode cX12_lane 46 = .ok (.isub, 1) := zb_X12_lane_41.2.2.2.1
theorem dX12_lane_47 : decode cX12_lane 47 = .ok (.ireturn, 1) := zb_X12_lane_41.2.2.2.2.1
theorem dX12_lane_18 : decode cX12_lane 18 = .ok (.bipush (-4), 2) := zb_X12_lane_41.2.2.2.2.2.1
theorem dX12_lane_20 : decode cX12_lane 20 = .ok (.ireturn, 1) := zb_X12_lane_41.2.2.2.2.2.2.1
theorem dX12_lane_6 : decode cX12_lane 6 = .ok (.bipush (-2), 2) := zb_X12_lane_41.2.2.2.2.2.2.2.1
theorem dX12_lane_8 : decode cX12_lane 8 = .ok (.ireturn, 1) := zb_X12_lane_41.2.2.2.2.2.2.2.2
theorem zb_X12_flown_0 : (decode cX12_flown 0 = .ok (.aload_n 0, 1)) ∧ (decode cX12_flown 1 = .ok (.iload_n 1, 1)) ∧ (decode cX12_flown 2 = .ok (.invokevirtual 275, 3)) ∧ (decode cX12_flown 5 = .ok (.ifCond .eq 23, 3)) ∧ (decode cX12_flown 8 = .ok (.aload_n 0, 1)) ∧ (decode cX12_flown 9 = .ok (.iload_n 2, 1)) ∧ (decode cX12_flown 10 = .ok (.invokevirtual 193, 3)) ∧ (decode cX12_flown 13 = .ok (.ifCond .eq 15, 3)) ∧ (decode cX12_flown 16 = .ok (.iload_n 3, 1)) ∧ (decode cX12_flown 17 = .ok (.ifCond .lt 11, 3)) ∧ (decode cX12_flown 28 = .ok (.bipush (-2), 2)) := by decide +kernel
theorem dX12_flown_0 : decode cX12_flown 0 = .ok (.aload_n 0, 1) := zb_X12_flown_0.1
theorem dX12_flown_1 : decode cX12_flown 1 = .ok (.iload_n 1, 1) := zb_X12_flown_0.2.1
theorem dX12_flown_2 : decode cX12_flown 2 = .ok (.invokevirtual 275, 3) := zb_X12_flown_0.2.2.1
theorem dX12_flown_5 : decode cX12_flown 5 = .ok (.ifCond .eq 23, 3) := zb_X12_flown_0.2.2.2.1
theorem dX12_flown_8 : decode cX12_flown 8 = .ok (.aload_n 0, 1) := zb_X12_flown_0.2.2.2.2.1
theorem dX12_flown_9 : decode cX12_flown 9 = .ok (.iload_n 2, 1) := zb_X12_flown_0.2.2.2.2.2.1
theorem dX12_flown_10 : decode cX12_flown 10 = .ok (.invokevirtual 193, 3) := zb_X12_flown_0.2.2.2.2.2.2.1
theorem dX12_flown_13 : decode cX12_flown 13 = .ok (.ifCond .eq 15, 3) := zb_X12_flown_0.2.2.2.2.2.2.2.1
theorem dX12_flown_16 : decode cX12_flown 16 = .ok (.iload_n 3, 1) := zb_X12_flown_0.2.2.2.2.2.2.2.2.1
theorem dX12_flown_17 : decode cX12_flown 17 = .ok (.ifCond .lt 11, 3) := zb_X12_flown_0.2.2.2.2.2.2.2.2.2.1
theorem dX12_flown_28 : decode cX12_flown 28 = .ok (.bipush (-2), 2) := zb_X12_flown_0.2.2.2.2.2.2.2.2.2.2
theorem zb_X12_flown_30 : (decode cX12_flown 30 = .ok (.ireturn, 1)) ∧ (decode cX12_flown 20 = .ok (.iload_n 3, 1)) ∧ (decode cX12_flown 21 = .ok (.aload_n 0, 1)) ∧ (decode cX12_flown 22 = .ok (.getfield 272, 3)) ∧ (decode cX12_flown 25 = .ok (.if_icmp .lt 6, 3)) ∧ (decode cX12_flown 31 = .ok (.aload_n 0, 1)) ∧ (decode cX12_flown 32 = .ok (.getfield 98, 3)) ∧ (decode cX12_flown 35 = .ok (.iload_n 2, 1)) ∧ (decode cX12_flown 36 = .ok (.iaload, 1)) ∧ (decode cX12_flown 37 = .ok (.bipush 6, 2)) ∧ (decode cX12_flown 39 = .ok (.if_icmp .ne 6, 3)) := by decide +kernel
theorem dX12_flown_30 : decode cX12_flown 30 = .ok (.ireturn, 1) := zb_X12_flown_30.1
theorem dX12_flown_20 : decode cX12_flown 20 = .ok (.iload_n 3, 1) := zb_X12_flown_30.2.1
theorem dX12_flown_21 : decode cX12_flown 21 = .ok (.aload_n 0, 1) := zb_X12_flown_30.2.2.1
theorem dX12_flown_22 : decode cX12_flown 22 = .ok (.getfield 272, 3) := zb_X12_flown_30.2.2.2.1
theorem dX12_flown_25 : decode cX12_flown 25 = .ok (.if_icmp .lt 6, 3) := zb_X12_flown_30.2.2.2.2.1
theorem dX12_flown_31 : decode cX12_flown 31 = .ok (.aload_n 0, 1) := zb_X12_flown_30.2.2.2.2.2.1
theorem dX12_flown_32 : decode cX12_flown 32 = .ok (.getfield 98, 3) := zb_X12_flown_30.2.2.2.2.2.2.1
theorem dX12_flown_35 : decode cX12_flown 35 = .ok (.iload_n 2, 1) := zb_X12_flown_30.2.2.2.2.2.2.2.1
theorem dX12_flown_36 : decode cX12_flown 36 = .ok (.iaload, 1) := zb_X12_flown_30.2.2.2.2.2.2.2.2.1
theorem dX12_flown_37 : decode cX12_flown 37 = .ok (.bipush 6, 2) := zb_X12_flown_30.2.2.2.2.2.2.2.2.2.1
theorem dX12_flown_39 : decode cX12_flown 39 = .ok (.if_icmp .ne 6, 3) := zb_X12_flown_30.2.2.2.2.2.2.2.2.2.2
theorem zb_X12_flown_45 : (decode cX12_flown 45 = .ok (.aload_n 0, 1)) ∧ (decode cX12_flown 46 = .ok (.getfield 92, 3)) ∧ (decode cX12_flown 49 = .ok (.bipush 6, 2)) ∧ (decode cX12_flown 51 = .ok (.iload_n 2, 1)) ∧ (decode cX12_flown 52 = .ok (.imul, 1)) ∧ (decode cX12_flown 53 = .ok (.aload_n 0, 1)) ∧ (decode cX12_flown 54 = .ok (.getfield 98, 3)) ∧ (decode cX12_flown 57 = .ok (.iload_n 2, 1)) ∧ (decode cX12_flown 58 = .ok (.iaload, 1)) ∧ (decode cX12_flown 59 = .ok (.iadd, 1)) ∧ (decode cX12_flown 60 = .ok (.iload_n 3, 1)) := by decide +kernel
theorem dX12_flown_45 : decode cX12_flown 45 = .ok (.aload_n 0, 1) := zb_X12_flown_45.1
theorem dX12_flown_46 : decode cX12_flown 46 = .ok (.getfield 92, 3) := zb_X12_flown_45.2.1
theorem dX12_flown_49 : decode cX12_flown 49 = .ok (.bipush 6, 2) := zb_X12_flown_45.2.2.1
theorem dX12_flown_51 : decode cX12_flown 51 = .ok (.iload_n 2, 1) := zb_X12_flown_45.2.2.2.1
theorem dX12_flown_52 : decode cX12_flown 52 = .ok (.imul, 1) := zb_X12_flown_45.2.2.2.2.1
theorem dX12_flown_53 : decode cX12_flown 53 = .ok (.aload_n 0, 1) := zb_X12_flown_45.2.2.2.2.2.1
theorem dX12_flown_54 : decode cX12_flown 54 = .ok (.getfield 98, 3) := zb_X12_flown_45.2.2.2.2.2.2.1
theorem dX12_flown_57 : decode cX12_flown 57 = .ok (.iload_n 2, 1) := zb_X12_flown_45.2.2.2.2.2.2.2.1
theorem dX12_flown_58 : decode cX12_flown 58 = .ok (.iaload, 1) := zb_X12_flown_45.2.2.2.2.2.2.2.2.1
theorem dX12_flown_59 : decode cX12_flown 59 = .ok (.iadd, 1) := zb_X12_flown_45.2.2.2.2.2.2.2.2.2.1
theorem dX12_flown_60 : decode cX12_flown 60 = .ok (.iload_n 3, 1) := zb_X12_flown_45.2.2.2.2.2.2.2.2.2.2
theorem zb_X12_flown_61 : (decode cX12_flown 61 = .ok (.iastore, 1)) ∧ (decode cX12_flown 62 = .ok (.aload_n 0, 1)) ∧ (decode cX12_flown 63 = .ok (.getfield 95, 3)) ∧ (decode cX12_flown 66 = .ok (.bipush 6, 2)) ∧ (decode cX12_flown 68 = .ok (.iload_n 2, 1)) ∧ (decode cX12_flown 69 = .ok (.imul, 1)) ∧ (decode cX12_flown 70 = .ok (.aload_n 0, 1)) ∧ (decode cX12_flown 71 = .ok (.getfield 98, 3)) ∧ (decode cX12_flown 74 = .ok (.iload_n 2, 1)) ∧ (decode cX12_flown 75 = .ok (.iaload, 1)) ∧ (decode cX12_flown 76 = .ok (.iadd, 1)) := by decide +kernel
theorem dX12_flown_61 : decode cX12_flown 61 = .ok (.iastore, 1) := zb_X12_flown_61.1
theorem dX12_flown_62 : decode cX12_flown 62 = .ok (.aload_n 0, 1) := zb_X12_flown_61.2.1
theorem dX12_flown_63 : decode cX12_flown 63 = .ok (.getfield 95, 3) := zb_X12_flown_61.2.2.1
theorem dX12_flown_66 : decode cX12_flown 66 = .ok (.bipush 6, 2) := zb_X12_flown_61.2.2.2.1
theorem dX12_flown_68 : decode cX12_flown 68 = .ok (.iload_n 2, 1) := zb_X12_flown_61.2.2.2.2.1
theorem dX12_flown_69 : decode cX12_flown 69 = .ok (.imul, 1) := zb_X12_flown_61.2.2.2.2.2.1
theorem dX12_flown_70 : decode cX12_flown 70 = .ok (.aload_n 0, 1) := zb_X12_flown_61.2.2.2.2.2.2.1
theorem dX12_flown_71 : decode cX12_flown 71 = .ok (.getfield 98, 3) := zb_X12_flown_61.2.2.2.2.2.2.2.1
theorem dX12_flown_74 : decode cX12_flown 74 = .ok (.iload_n 2, 1) := zb_X12_flown_61.2.2.2.2.2.2.2.2.1
theorem dX12_flown_75 : decode cX12_flown 75 = .ok (.iaload, 1) := zb_X12_flown_61.2.2.2.2.2.2.2.2.2.1
theorem dX12_flown_76 : decode cX12_flown 76 = .ok (.iadd, 1) := zb_X12_flown_61.2.2.2.2.2.2.2.2.2.2
theorem zb_X12_flown_77 : (decode cX12_flown 77 = .ok (.aload_n 0, 1)) ∧ (decode cX12_flown 78 = .ok (.aload_n 0, 1)) ∧ (decode cX12_flown 79 = .ok (.getfield 201, 3)) ∧ (decode cX12_flown 82 = .ok (.invokevirtual 278, 3)) ∧ (decode cX12_flown 85 = .ok (.iastore, 1)) ∧ (decode cX12_flown 86 = .ok (.aload_n 0, 1)) ∧ (decode cX12_flown 87 = .ok (.getfield 98, 3)) ∧ (decode cX12_flown 90 = .ok (.iload_n 2, 1)) ∧ (decode cX12_flown 91 = .ok (.dup2, 1)) ∧ (decode cX12_flown 92 = .ok (.iaload, 1)) ∧ (decode cX12_flown 93 = .ok (.iconst 1, 1)) := by decide +kernel
theorem dX12_flown_77 : decode cX12_flown 77 = .ok (.aload_n 0, 1) := zb_X12_flown_77.1
theorem dX12_flown_78 : decode cX12_flown 78 = .ok (.aload_n 0, 1) := zb_X12_flown_77.2.1
theorem dX12_flown_79 : decode cX12_flown 79 = .ok (.getfield 201, 3) := zb_X12_flown_77.2.2.1
theorem dX12_flown_82 : decode cX12_flown 82 = .ok (.invokevirtual 278, 3) := zb_X12_flown_77.2.2.2.1
theorem dX12_flown_85 : decode cX12_flown 85 = .ok (.iastore, 1) := zb_X12_flown_77.2.2.2.2.1
theorem dX12_flown_86 : decode cX12_flown 86 = .ok (.aload_n 0, 1) := zb_X12_flown_77.2.2.2.2.2.1
theorem dX12_flown_87 : decode cX12_flown 87 = .ok (.getfield 98, 3) := zb_X12_flown_77.2.2.2.2.2.2.1
theorem dX12_flown_90 : decode cX12_flown 90 = .ok (.iload_n 2, 1) := zb_X12_flown_77.2.2.2.2.2.2.2.1
theorem dX12_flown_91 : decode cX12_flown 91 = .ok (.dup2, 1) := zb_X12_flown_77.2.2.2.2.2.2.2.2.1
theorem dX12_flown_92 : decode cX12_flown 92 = .ok (.iaload, 1) := zb_X12_flown_77.2.2.2.2.2.2.2.2.2.1
theorem dX12_flown_93 : decode cX12_flown 93 = .ok (.iconst 1, 1) := zb_X12_flown_77.2.2.2.2.2.2.2.2.2.2
theorem zb_X12_flown_94 : (decode cX12_flown 94 = .ok (.iadd, 1)) ∧ (decode cX12_flown 95 = .ok (.iastore, 1)) ∧ (decode cX12_flown 96 = .ok (.aload_n 0, 1)) ∧ (decode cX12_flown 97 = .ok (.getfield 98, 3)) ∧ (decode cX12_flown 100 = .ok (.iload_n 2, 1)) ∧ (decode cX12_flown 101 = .ok (.iaload, 1)) ∧ (decode cX12_flown 102 = .ok (.ireturn, 1)) ∧ (decode cX12_flown 42 = .ok (.bipush (-4), 2)) ∧ (decode cX12_flown 44 = .ok (.ireturn, 1)) := by decide +kernel
theorem dX12_flown_94 : decode cX12_flown 94 = .ok (.iadd, 1) := zb_X12_flown_94.1
theorem dX12_flown_95 : decode cX12_flown 95 = .ok (.iastore, 1) := zb_X12_flown_94.2.1
theorem dX12_flown_96 : decode cX12_flown 96 = .ok (.aload_n 0, 1) := zb_X12_flown_94.2.2.1
theorem dX12_flown_97 : decode cX12_flown 97 = .ok (.getfield 98, 3) := zb_X12_flown_94.2.2.2.1
theorem dX12_flown_100 : decode cX12_flown 100 = .ok (.iload_n 2, 1) := zb_X12_flown_94.2.2.2.2.1
theorem dX12_flown_101 : decode cX12_flown 101 = .ok (.iaload, 1) := zb_X12_flown_94.2.2.2.2.2.1
theorem dX12_flown_102 : decode cX12_flown 102 = .ok (.ireturn, 1) := zb_X12_flown_94.2.2.2.2.2.2.1
theorem dX12_flown_42 : decode cX12_flown 42 = .ok (.bipush (-4), 2) := zb_X12_flown_94.2.2.2.2.2.2.2.1
theorem dX12_flown_44 : decode cX12_flown 44 = .ok (.ireturn, 1) := zb_X12_flown_94.2.2.2.2.2.2.2.2
theorem zb_X12_weigh_13 : (decode cX12_weigh 13 = .ok (.lstore_n 2, 1)) ∧ (decode cX12_weigh 20 = .ok (.istore 4, 2)) ∧ (decode cX12_weigh 22 = .ok (.iload 4, 2)) ∧ (decode cX12_weigh 48 = .ok (.istore 7, 2)) ∧ (decode cX12_weigh 50 = .ok (.iload 7, 2)) ∧ (decode cX12_weigh 141 = .ok (.iload 4, 2)) ∧ (decode cX12_weigh 143 = .ok (.lload 5, 2)) ∧ (decode cX12_weigh 145 = .ok (.lastore, 1)) ∧ (decode cX12_weigh 151 = .ok (.lload 5, 2)) ∧ (decode cX12_weigh 153 = .ok (.ladd, 1)) := by decide +kernel
theorem dX12_weigh_13 : decode cX12_weigh 13 = .ok (.lstore_n 2, 1) := zb_X12_weigh_13.1
theorem dX12_weigh_20 : decode cX12_weigh 20 = .ok (.istore 4, 2) := zb_X12_weigh_13.2.1
theorem dX12_weigh_22 : decode cX12_weigh 22 = .ok (.iload 4, 2) := zb_X12_weigh_13.2.2.1
theorem dX12_weigh_48 : decode cX12_weigh 48 = .ok (.istore 7, 2) := zb_X12_weigh_13.2.2.2.1
theorem dX12_weigh_50 : decode cX12_weigh 50 = .ok (.iload 7, 2) := zb_X12_weigh_13.2.2.2.2.1
theorem dX12_weigh_141 : decode cX12_weigh 141 = .ok (.iload 4, 2) := zb_X12_weigh_13.2.2.2.2.2.1
theorem dX12_weigh_143 : decode cX12_weigh 143 = .ok (.lload 5, 2) := zb_X12_weigh_13.2.2.2.2.2.2.1
theorem dX12_weigh_145 : decode cX12_weigh 145 = .ok (.lastore, 1) := zb_X12_weigh_13.2.2.2.2.2.2.2.1
theorem dX12_weigh_151 : decode cX12_weigh 151 = .ok (.lload 5, 2) := zb_X12_weigh_13.2.2.2.2.2.2.2.2.1
theorem dX12_weigh_153 : decode cX12_weigh 153 = .ok (.ladd, 1) := zb_X12_weigh_13.2.2.2.2.2.2.2.2.2
theorem zb_X12_weigh_157 : (decode cX12_weigh 157 = .ok (.iinc 4 1, 3)) ∧ (decode cX12_weigh 102 = .ok (.lload 5, 2)) ∧ (decode cX12_weigh 104 = .ok (.iload 8, 2)) ∧ (decode cX12_weigh 128 = .ok (.lmul, 1)) ∧ (decode cX12_weigh 129 = .ok (.lstore 5, 2)) ∧ (decode cX12_weigh 131 = .ok (.iinc 7 1, 3)) ∧ (decode cX12_weigh 116 = .ok (.imul, 1)) ∧ (decode cX12_weigh 117 = .ok (.iload 7, 2)) ∧ (decode cX12_weigh 57 = .ok (.iload 7, 2)) ∧ (decode cX12_weigh 100 = .ok (.istore 8, 2)) := by decide +kernel
theorem dX12_weigh_157 : decode cX12_weigh 157 = .ok (.iinc 4 1, 3) := zb_X12_weigh_157.1
theorem dX12_weigh_102 : decode cX12_weigh 102 = .ok (.lload 5, 2) := zb_X12_weigh_157.2.1
theorem dX12_weigh_104 : decode cX12_weigh 104 = .ok (.iload 8, 2) := zb_X12_weigh_157.2.2.1
theorem dX12_weigh_128 : decode cX12_weigh 128 = .ok (.lmul, 1) := zb_X12_weigh_157.2.2.2.1
theorem dX12_weigh_129 : decode cX12_weigh 129 = .ok (.lstore 5, 2) := zb_X12_weigh_157.2.2.2.2.1
theorem dX12_weigh_131 : decode cX12_weigh 131 = .ok (.iinc 7 1, 3) := zb_X12_weigh_157.2.2.2.2.2.1
theorem dX12_weigh_116 : decode cX12_weigh 116 = .ok (.imul, 1) := zb_X12_weigh_157.2.2.2.2.2.2.1
theorem dX12_weigh_117 : decode cX12_weigh 117 = .ok (.iload 7, 2) := zb_X12_weigh_157.2.2.2.2.2.2.2.1
theorem dX12_weigh_57 : decode cX12_weigh 57 = .ok (.iload 7, 2) := zb_X12_weigh_157.2.2.2.2.2.2.2.2.1
theorem dX12_weigh_100 : decode cX12_weigh 100 = .ok (.istore 8, 2) := zb_X12_weigh_157.2.2.2.2.2.2.2.2.2
theorem zb_X12_weigh_79 : (decode cX12_weigh 79 = .ok (.imul, 1)) ∧ (decode cX12_weigh 80 = .ok (.iload 7, 2)) ∧ (decode cX12_weigh 84 = .ok (.laload, 1)) ∧ (decode cX12_weigh 85 = .ok (.iload 4, 2)) ∧ (decode cX12_weigh 87 = .ok (.lushr, 1)) ∧ (decode cX12_weigh 29 = .ok (.lload_n 2, 1)) ∧ (decode cX12_weigh 30 = .ok (.iload 4, 2)) ∧ (decode cX12_weigh 32 = .ok (.lushr, 1)) ∧ (decode cX12_weigh 45 = .ok (.lstore 5, 2)) := by decide +kernel
theorem dX12_weigh_79 : decode cX12_weigh 79 = .ok (.imul, 1) := zb_X12_weigh_79.1
theorem dX12_weigh_80 : decode cX12_weigh 80 = .ok (.iload 7, 2) := zb_X12_weigh_79.2.1
theorem dX12_weigh_84 : decode cX12_weigh 84 = .ok (.laload, 1) := zb_X12_weigh_79.2.2.1
theorem dX12_weigh_85 : decode cX12_weigh 85 = .ok (.iload 4, 2) := zb_X12_weigh_79.2.2.2.1
theorem dX12_weigh_87 : decode cX12_weigh 87 = .ok (.lushr, 1) := zb_X12_weigh_79.2.2.2.2.1
theorem dX12_weigh_29 : decode cX12_weigh 29 = .ok (.lload_n 2, 1) := zb_X12_weigh_79.2.2.2.2.2.1
theorem dX12_weigh_30 : decode cX12_weigh 30 = .ok (.iload 4, 2) := zb_X12_weigh_79.2.2.2.2.2.2.1
theorem dX12_weigh_32 : decode cX12_weigh 32 = .ok (.lushr, 1) := zb_X12_weigh_79.2.2.2.2.2.2.2.1
theorem dX12_weigh_45 : decode cX12_weigh 45 = .ok (.lstore 5, 2) := zb_X12_weigh_79.2.2.2.2.2.2.2.2
theorem zb_X12_share_0 : (decode cX12_share 0 = .ok (.aload_n 0, 1)) ∧ (decode cX12_share 1 = .ok (.iload_n 1, 1)) ∧ (decode cX12_share 2 = .ok (.invokevirtual 193, 3)) ∧ (decode cX12_share 5 = .ok (.ifCond .eq 19, 3)) ∧ (decode cX12_share 8 = .ok (.iload_n 2, 1)) ∧ (decode cX12_share 9 = .ok (.invokestatic 217, 3)) ∧ (decode cX12_share 12 = .ok (.ifCond .eq 12, 3)) ∧ (decode cX12_share 15 = .ok (.iload_n 3, 1)) ∧ (decode cX12_share 16 = .ok (.iconst 0, 1)) ∧ (decode cX12_share 17 = .ok (.iconst 1, 1)) := by decide +kernel
theorem dX12_share_0 : decode cX12_share 0 = .ok (.aload_n 0, 1) := zb_X12_share_0.1
theorem dX12_share_1 : decode cX12_share 1 = .ok (.iload_n 1, 1) := zb_X12_share_0.2.1
theorem dX12_share_2 : decode cX12_share 2 = .ok (.invokevirtual 193, 3) := zb_X12_share_0.2.2.1
theorem dX12_share_5 : decode cX12_share 5 = .ok (.ifCond .eq 19, 3) := zb_X12_share_0.2.2.2.1
theorem dX12_share_8 : decode cX12_share 8 = .ok (.iload_n 2, 1) := zb_X12_share_0.2.2.2.2.1
theorem dX12_share_9 : decode cX12_share 9 = .ok (.invokestatic 217, 3) := zb_X12_share_0.2.2.2.2.2.1
theorem dX12_share_12 : decode cX12_share 12 = .ok (.ifCond .eq 12, 3) := zb_X12_share_0.2.2.2.2.2.2.1
theorem dX12_share_15 : decode cX12_share 15 = .ok (.iload_n 3, 1) := zb_X12_share_0.2.2.2.2.2.2.2.1
theorem dX12_share_16 : decode cX12_share 16 = .ok (.iconst 0, 1) := zb_X12_share_0.2.2.2.2.2.2.2.2.1
theorem dX12_share_17 : decode cX12_share 17 = .ok (.iconst 1, 1) := zb_X12_share_0.2.2.2.2.2.2.2.2.2
theorem zb_X12_share_18 : (decode cX12_share 18 = .ok (.invokestatic 186, 3)) ∧ (decode cX12_share 21 = .ok (.ifCond .ne 7, 3)) ∧ (decode cX12_share 28 = .ok (.aload_n 0, 1)) ∧ (decode cX12_share 29 = .ok (.iload_n 1, 1)) ∧ (decode cX12_share 30 = .ok (.invokevirtual 287, 3)) ∧ (decode cX12_share 33 = .ok (.aload_n 0, 1)) ∧ (decode cX12_share 34 = .ok (.getfield 134, 3)) ∧ (decode cX12_share 37 = .ok (.iload_n 2, 1)) ∧ (decode cX12_share 38 = .ok (.laload, 1)) ∧ (decode cX12_share 39 = .ok (.lconst 0, 1)) := by decide +kernel
theorem dX12_share_18 : decode cX12_share 18 = .ok (.invokestatic 186, 3) := zb_X12_share_18.1
theorem dX12_share_21 : decode cX12_share 21 = .ok (.ifCond .ne 7, 3) := zb_X12_share_18.2.1
theorem dX12_share_28 : decode cX12_share 28 = .ok (.aload_n 0, 1) := zb_X12_share_18.2.2.1
theorem dX12_share_29 : decode cX12_share 29 = .ok (.iload_n 1, 1) := zb_X12_share_18.2.2.2.1
theorem dX12_share_30 : decode cX12_share 30 = .ok (.invokevirtual 287, 3) := zb_X12_share_18.2.2.2.2.1
theorem dX12_share_33 : decode cX12_share 33 = .ok (.aload_n 0, 1) := zb_X12_share_18.2.2.2.2.2.1
theorem dX12_share_34 : decode cX12_share 34 = .ok (.getfield 134, 3) := zb_X12_share_18.2.2.2.2.2.2.1
theorem dX12_share_37 : decode cX12_share 37 = .ok (.iload_n 2, 1) := zb_X12_share_18.2.2.2.2.2.2.2.1
theorem dX12_share_38 : decode cX12_share 38 = .ok (.laload, 1) := zb_X12_share_18.2.2.2.2.2.2.2.2.1
theorem dX12_share_39 : decode cX12_share 39 = .ok (.lconst 0, 1) := zb_X12_share_18.2.2.2.2.2.2.2.2.2
theorem zb_X12_share_40 : (decode cX12_share 40 = .ok (.lcmp, 1)) ∧ (decode cX12_share 41 = .ok (.ifCond .ne 6, 3)) ∧ (decode cX12_share 47 = .ok (.aload_n 0, 1)) ∧ (decode cX12_share 48 = .ok (.getfield 281, 3)) ∧ (decode cX12_share 51 = .ok (.aload_n 0, 1)) ∧ (decode cX12_share 52 = .ok (.getfield 134, 3)) ∧ (decode cX12_share 55 = .ok (.iload_n 2, 1)) ∧ (decode cX12_share 56 = .ok (.laload, 1)) ∧ (decode cX12_share 57 = .ok (.invokestatic 291, 3)) ∧ (decode cX12_share 60 = .ok (.lstore 4, 2)) := by decide +kernel
theorem dX12_share_40 : decode cX12_share 40 = .ok (.lcmp, 1) := zb_X12_share_40.1
theorem dX12_share_41 : decode cX12_share 41 = .ok (.ifCond .ne 6, 3) := zb_X12_share_40.2.1
theorem dX12_share_47 : decode cX12_share 47 = .ok (.aload_n 0, 1) := zb_X12_share_40.2.2.1
theorem dX12_share_48 : decode cX12_share 48 = .ok (.getfield 281, 3) := zb_X12_share_40.2.2.2.1
theorem dX12_share_51 : decode cX12_share 51 = .ok (.aload_n 0, 1) := zb_X12_share_40.2.2.2.2.1
theorem dX12_share_52 : decode cX12_share 52 = .ok (.getfield 134, 3) := zb_X12_share_40.2.2.2.2.2.1
theorem dX12_share_55 : decode cX12_share 55 = .ok (.iload_n 2, 1) := zb_X12_share_40.2.2.2.2.2.2.1
theorem dX12_share_56 : decode cX12_share 56 = .ok (.laload, 1) := zb_X12_share_40.2.2.2.2.2.2.2.1
theorem dX12_share_57 : decode cX12_share 57 = .ok (.invokestatic 291, 3) := zb_X12_share_40.2.2.2.2.2.2.2.2.1
theorem dX12_share_60 : decode cX12_share 60 = .ok (.lstore 4, 2) := zb_X12_share_40.2.2.2.2.2.2.2.2.2
theorem zb_X12_share_62 : (decode cX12_share 62 = .ok (.iload_n 3, 1)) ∧ (decode cX12_share 63 = .ok (.ifCond .ne 15, 3)) ∧ (decode cX12_share 78 = .ok (.aload_n 0, 1)) ∧ (decode cX12_share 79 = .ok (.getfield 281, 3)) ∧ (decode cX12_share 82 = .ok (.lload 4, 2)) ∧ (decode cX12_share 84 = .ok (.ldiv, 1)) ∧ (decode cX12_share 85 = .ok (.lreturn, 1)) ∧ (decode cX12_share 66 = .ok (.aload_n 0, 1)) ∧ (decode cX12_share 67 = .ok (.getfield 134, 3)) ∧ (decode cX12_share 70 = .ok (.iload_n 2, 1)) := by decide +kernel
theorem dX12_share_62 : decode cX12_share 62 = .ok (.iload_n 3, 1) := zb_X12_share_62.1
theorem dX12_share_63 : decode cX12_share 63 = .ok (.ifCond .ne 15, 3) := zb_X12_share_62.2.1
theorem dX12_share_78 : decode cX12_share 78 = .ok (.aload_n 0, 1) := zb_X12_share_62.2.2.1
theorem dX12_share_79 : decode cX12_share 79 = .ok (.getfield 281, 3) := zb_X12_share_62.2.2.2.1
theorem dX12_share_82 : decode cX12_share 82 = .ok (.lload 4, 2) := zb_X12_share_62.2.2.2.2.1
theorem dX12_share_84 : decode cX12_share 84 = .ok (.ldiv, 1) := zb_X12_share_62.2.2.2.2.2.1
theorem dX12_share_85 : decode cX12_share 85 = .ok (.lreturn, 1) := zb_X12_share_62.2.2.2.2.2.2.1
theorem dX12_share_66 : decode cX12_share 66 = .ok (.aload_n 0, 1) := zb_X12_share_62.2.2.2.2.2.2.2.1
theorem dX12_share_67 : decode cX12_share 67 = .ok (.getfield 134, 3) := zb_X12_share_62.2.2.2.2.2.2.2.2.1
theorem dX12_share_70 : decode cX12_share 70 = .ok (.iload_n 2, 1) := zb_X12_share_62.2.2.2.2.2.2.2.2.2
theorem zb_X12_share_71 : (decode cX12_share 71 = .ok (.laload, 1)) ∧ (decode cX12_share 72 = .ok (.lload 4, 2)) ∧ (decode cX12_share 74 = .ok (.ldiv, 1)) ∧ (decode cX12_share 75 = .ok (.goto 10, 3)) ∧ (decode cX12_share 44 = .ok (.iload_n 3, 1)) ∧ (decode cX12_share 45 = .ok (.i2l, 1)) ∧ (decode cX12_share 46 = .ok (.lreturn, 1)) ∧ (decode cX12_share 24 = .ok (.ldc2_w 236, 3)) ∧ (decode cX12_share 27 = .ok (.lreturn, 1)) := by decide +kernel
theorem dX12_share_71 : decode cX12_share 71 = .ok (.laload, 1) := zb_X12_share_71.1
theorem dX12_share_72 : decode cX12_share 72 = .ok (.lload 4, 2) := zb_X12_share_71.2.1
theorem dX12_share_74 : decode cX12_share 74 = .ok (.ldiv, 1) := zb_X12_share_71.2.2.1
theorem dX12_share_75 : decode cX12_share 75 = .ok (.goto 10, 3) := zb_X12_share_71.2.2.2.1
theorem dX12_share_44 : decode cX12_share 44 = .ok (.iload_n 3, 1) := zb_X12_share_71.2.2.2.2.1
theorem dX12_share_45 : decode cX12_share 45 = .ok (.i2l, 1) := zb_X12_share_71.2.2.2.2.2.1
theorem dX12_share_46 : decode cX12_share 46 = .ok (.lreturn, 1) := zb_X12_share_71.2.2.2.2.2.2.1
theorem dX12_share_24 : decode cX12_share 24 = .ok (.ldc2_w 236, 3) := zb_X12_share_71.2.2.2.2.2.2.2.1
theorem dX12_share_27 : decode cX12_share 27 = .ok (.lreturn, 1) := zb_X12_share_71.2.2.2.2.2.2.2.2
theorem zb_X12_partFrom_6 : (decode cX12_partFrom 6 = .ok (.lstore 6, 2)) ∧ (decode cX12_partFrom 9 = .ok (.istore 8, 2)) ∧ (decode cX12_partFrom 11 = .ok (.iload 8, 2)) ∧ (decode cX12_partFrom 52 = .ok (.lload 6, 2)) ∧ (decode cX12_partFrom 63 = .ok (.lload 6, 2)) ∧ (decode cX12_partFrom 69 = .ok (.istore 8, 2)) ∧ (decode cX12_partFrom 71 = .ok (.iload 8, 2)) ∧ (decode cX12_partFrom 81 = .ok (.iload 8, 2)) ∧ (decode cX12_partFrom 87 = .ok (.iload 8, 2)) ∧ (decode cX12_partFrom 91 = .ok (.iinc 8 1, 3)) ∧ (decode cX12_partFrom 18 = .ok (.lload 6, 2)) := by decide +kernel
theorem dX12_partFrom_6 : decode cX12_partFrom 6 = .ok (.lstore 6, 2) := zb_X12_partFrom_6.1
theorem dX12_partFrom_9 : decode cX12_partFrom 9 = .ok (.istore 8, 2) := zb_X12_partFrom_6.2.1
theorem dX12_partFrom_11 : decode cX12_partFrom 11 = .ok (.iload 8, 2) := zb_X12_partFrom_6.2.2.1
theorem dX12_partFrom_52 : decode cX12_partFrom 52 = .ok (.lload 6, 2) := zb_X12_partFrom_6.2.2.2.1
theorem dX12_partFrom_63 : decode cX12_partFrom 63 = .ok (.lload 6, 2) := zb_X12_partFrom_6.2.2.2.2.1
theorem dX12_partFrom_69 : decode cX12_partFrom 69 = .ok (.istore 8, 2) := zb_X12_partFrom_6.2.2.2.2.2.1
theorem dX12_partFrom_71 : decode cX12_partFrom 71 = .ok (.iload 8, 2) := zb_X12_partFrom_6.2.2.2.2.2.2.1
theorem dX12_partFrom_81 : decode cX12_partFrom 81 = .ok (.iload 8, 2) := zb_X12_partFrom_6.2.2.2.2.2.2.2.1
theorem dX12_partFrom_87 : decode cX12_partFrom 87 = .ok (.iload 8, 2) := zb_X12_partFrom_6.2.2.2.2.2.2.2.2.1
theorem dX12_partFrom_91 : decode cX12_partFrom 91 = .ok (.iinc 8 1, 3) := zb_X12_partFrom_6.2.2.2.2.2.2.2.2.2.1
theorem dX12_partFrom_18 : decode cX12_partFrom 18 = .ok (.lload 6, 2) := zb_X12_partFrom_6.2.2.2.2.2.2.2.2.2.2
theorem zb_X12_partFrom_20 : (decode cX12_partFrom 20 = .ok (.lload 4, 2)) ∧ (decode cX12_partFrom 22 = .ok (.iload 8, 2)) ∧ (decode cX12_partFrom 24 = .ok (.lushr, 1)) ∧ (decode cX12_partFrom 43 = .ok (.ladd, 1)) ∧ (decode cX12_partFrom 44 = .ok (.lstore 6, 2)) ∧ (decode cX12_partFrom 46 = .ok (.iinc 8 1, 3)) ∧ (decode cX12_partFrom 36 = .ok (.iload 8, 2)) ∧ (decode cX12_partFrom 38 = .ok (.laload, 1)) ∧ (decode cX12_partFrom 99 = .ok (.istore 6, 2)) ∧ (decode cX12_partFrom 101 = .ok (.iload 6, 2)) ∧ (decode cX12_partFrom 111 = .ok (.iload 6, 2)) := by decide +kernel
theorem dX12_partFrom_20 : decode cX12_partFrom 20 = .ok (.lload 4, 2) := zb_X12_partFrom_20.1
theorem dX12_partFrom_22 : decode cX12_partFrom 22 = .ok (.iload 8, 2) := zb_X12_partFrom_20.2.1
theorem dX12_partFrom_24 : decode cX12_partFrom 24 = .ok (.lushr, 1) := zb_X12_partFrom_20.2.2.1
theorem dX12_partFrom_43 : decode cX12_partFrom 43 = .ok (.ladd, 1) := zb_X12_partFrom_20.2.2.2.1
theorem dX12_partFrom_44 : decode cX12_partFrom 44 = .ok (.lstore 6, 2) := zb_X12_partFrom_20.2.2.2.2.1
theorem dX12_partFrom_46 : decode cX12_partFrom 46 = .ok (.iinc 8 1, 3) := zb_X12_partFrom_20.2.2.2.2.2.1
theorem dX12_partFrom_36 : decode cX12_partFrom 36 = .ok (.iload 8, 2) := zb_X12_partFrom_20.2.2.2.2.2.2.1
theorem dX12_partFrom_38 : decode cX12_partFrom 38 = .ok (.laload, 1) := zb_X12_partFrom_20.2.2.2.2.2.2.2.1
theorem dX12_partFrom_99 : decode cX12_partFrom 99 = .ok (.istore 6, 2) := zb_X12_partFrom_20.2.2.2.2.2.2.2.2.1
theorem dX12_partFrom_101 : decode cX12_partFrom 101 = .ok (.iload 6, 2) := zb_X12_partFrom_20.2.2.2.2.2.2.2.2.2.1
theorem dX12_partFrom_111 : decode cX12_partFrom 111 = .ok (.iload 6, 2) := zb_X12_partFrom_20.2.2.2.2.2.2.2.2.2.2
theorem zb_X12_partFrom_113 : (decode cX12_partFrom 113 = .ok (.ishr, 1)) ∧ (decode cX12_partFrom 154 = .ok (.iinc 6 1, 3)) ∧ (decode cX12_partFrom 125 = .ok (.iload 6, 2)) ∧ (decode cX12_partFrom 135 = .ok (.iload 6, 2)) ∧ (decode cX12_partFrom 137 = .ok (.ishl, 1)) ∧ (decode cX12_partFrom 139 = .ok (.ixor, 1)) ∧ (decode cX12_partFrom 141 = .ok (.lload 4, 2)) ∧ (decode cX12_partFrom 147 = .ok (.iload 6, 2)) ∧ (decode cX12_partFrom 149 = .ok (.laload, 1)) := by decide +kernel
theorem dX12_partFrom_113 : decode cX12_partFrom 113 = .ok (.ishr, 1) := zb_X12_partFrom_113.1
theorem dX12_partFrom_154 : decode cX12_partFrom 154 = .ok (.iinc 6 1, 3) := zb_X12_partFrom_113.2.1
theorem dX12_partFrom_125 : decode cX12_partFrom 125 = .ok (.iload 6, 2) := zb_X12_partFrom_113.2.2.1
theorem dX12_partFrom_135 : decode cX12_partFrom 135 = .ok (.iload 6, 2) := zb_X12_partFrom_113.2.2.2.1
theorem dX12_partFrom_137 : decode cX12_partFrom 137 = .ok (.ishl, 1) := zb_X12_partFrom_113.2.2.2.2.1
theorem dX12_partFrom_139 : decode cX12_partFrom 139 = .ok (.ixor, 1) := zb_X12_partFrom_113.2.2.2.2.2.1
theorem dX12_partFrom_141 : decode cX12_partFrom 141 = .ok (.lload 4, 2) := zb_X12_partFrom_113.2.2.2.2.2.2.1
theorem dX12_partFrom_147 : decode cX12_partFrom 147 = .ok (.iload 6, 2) := zb_X12_partFrom_113.2.2.2.2.2.2.2.1
theorem dX12_partFrom_149 : decode cX12_partFrom 149 = .ok (.laload, 1) := zb_X12_partFrom_113.2.2.2.2.2.2.2.2
theorem zb_X12_parted_50 : (decode cX12_parted 50 = .ok (.istore 6, 2)) ∧ (decode cX12_parted 52 = .ok (.iload 6, 2)) ∧ (decode cX12_parted 95 = .ok (.iload 5, 2)) ∧ (decode cX12_parted 107 = .ok (.istore 6, 2)) ∧ (decode cX12_parted 113 = .ok (.iload 6, 2)) ∧ (decode cX12_parted 121 = .ok (.iload 4, 2)) ∧ (decode cX12_parted 124 = .ok (.iload 6, 2)) ∧ (decode cX12_parted 150 = .ok (.iload 6, 2)) ∧ (decode cX12_parted 157 = .ok (.iload 4, 2)) ∧ (decode cX12_parted 192 = .ok (.lmul, 1)) ∧ (decode cX12_parted 197 = .ok (.ldiv, 1)) := by decide +kernel
theorem dX12_parted_50 : decode cX12_parted 50 = .ok (.istore 6, 2) := zb_X12_parted_50.1
theorem dX12_parted_52 : decode cX12_parted 52 = .ok (.iload 6, 2) := zb_X12_parted_50.2.1
theorem dX12_parted_95 : decode cX12_parted 95 = .ok (.iload 5, 2) := zb_X12_parted_50.2.2.1
theorem dX12_parted_107 : decode cX12_parted 107 = .ok (.istore 6, 2) := zb_X12_parted_50.2.2.2.1
theorem dX12_parted_113 : decode cX12_parted 113 = .ok (.iload 6, 2) := zb_X12_parted_50.2.2.2.2.1
theorem dX12_parted_121 : decode cX12_parted 121 = .ok (.iload 4, 2) := zb_X12_parted_50.2.2.2.2.2.1
theorem dX12_parted_124 : decode cX12_parted 124 = .ok (.iload 6, 2) := zb_X12_parted_50.2.2.2.2.2.2.1
theorem dX12_parted_150 : decode cX12_parted 150 = .ok (.iload 6, 2) := zb_X12_parted_50.2.2.2.2.2.2.2.1
theorem dX12_parted_157 : decode cX12_parted 157 = .ok (.iload 4, 2) := zb_X12_parted_50.2.2.2.2.2.2.2.2.1
theorem dX12_parted_192 : decode cX12_parted 192 = .ok (.lmul, 1) := zb_X12_parted_50.2.2.2.2.2.2.2.2.2.1
theorem dX12_parted_197 : decode cX12_parted 197 = .ok (.ldiv, 1) := zb_X12_parted_50.2.2.2.2.2.2.2.2.2.2
theorem zb_X12_parted_198 : (decode cX12_parted 198 = .ok (.l2i, 1)) ∧ (decode cX12_parted 166 = .ok (.iload 4, 2)) ∧ (decode cX12_parted 59 = .ok (.iload 5, 2)) ∧ (decode cX12_parted 87 = .ok (.istore 5, 2)) ∧ (decode cX12_parted 89 = .ok (.iinc 6 1, 3)) ∧ (decode cX12_parted 65 = .ok (.iload 6, 2)) ∧ (decode cX12_parted 67 = .ok (.ishr, 1)) ∧ (decode cX12_parted 74 = .ok (.iload 6, 2)) ∧ (decode cX12_parted 47 = .ok (.istore 5, 2)) ∧ (decode cX12_parted 17 = .ok (.ishr, 1)) ∧ (decode cX12_parted 38 = .ok (.ishr, 1)) := by decide +kernel
theorem dX12_parted_198 : decode cX12_parted 198 = .ok (.l2i, 1) := zb_X12_parted_198.1
theorem dX12_parted_166 : decode cX12_parted 166 = .ok (.iload 4, 2) := zb_X12_parted_198.2.1
theorem dX12_parted_59 : decode cX12_parted 59 = .ok (.iload 5, 2) := zb_X12_parted_198.2.2.1
theorem dX12_parted_87 : decode cX12_parted 87 = .ok (.istore 5, 2) := zb_X12_parted_198.2.2.2.1
theorem dX12_parted_89 : decode cX12_parted 89 = .ok (.iinc 6 1, 3) := zb_X12_parted_198.2.2.2.2.1
theorem dX12_parted_65 : decode cX12_parted 65 = .ok (.iload 6, 2) := zb_X12_parted_198.2.2.2.2.2.1
theorem dX12_parted_67 : decode cX12_parted 67 = .ok (.ishr, 1) := zb_X12_parted_198.2.2.2.2.2.2.1
theorem dX12_parted_74 : decode cX12_parted 74 = .ok (.iload 6, 2) := zb_X12_parted_198.2.2.2.2.2.2.2.1
theorem dX12_parted_47 : decode cX12_parted 47 = .ok (.istore 5, 2) := zb_X12_parted_198.2.2.2.2.2.2.2.2.1
theorem dX12_parted_17 : decode cX12_parted 17 = .ok (.ishr, 1) := zb_X12_parted_198.2.2.2.2.2.2.2.2.2.1
theorem dX12_parted_38 : decode cX12_parted 38 = .ok (.ishr, 1) := zb_X12_parted_198.2.2.2.2.2.2.2.2.2.2
theorem ck_X12_wind_0_17mo : ((cX12_wind.data.toList).drop 0).take 16 = [27, 28, 184, 0, 207, 153, 0, 48, 29, 3, 17, 17, 92, 184, 0, 186] := by decide +kernel
theorem ck_X12_wind_1_17mo : ((cX12_wind.data.toList).drop 16).take 16 = [153, 0, 37, 29, 16, 100, 108, 16, 10, 112, 7, 163, 0, 26, 29, 16] := by decide +kernel
theorem ck_X12_wind_2_17mo : ((cX12_wind.data.toList).drop 32).take 16 = [10, 108, 16, 10, 112, 7, 163, 0, 15, 29, 16, 10, 112, 7, 163, 0] := by decide +kernel
theorem ck_X12_wind_3_17mo : ((cX12_wind.data.toList).drop 48).take 16 = [7, 4, 167, 0, 4, 3, 54, 4, 21, 4, 153, 0, 32, 29, 17, 3] := by decide +kernel
theorem ck_X12_wind_4_17mo : ((cX12_wind.data.toList).drop 64).take 16 = [232, 108, 29, 16, 100, 108, 16, 10, 112, 163, 0, 17, 29, 16, 10, 108] := by decide +kernel
theorem ck_X12_wind_5_17mo : ((cX12_wind.data.toList).drop 80).take 16 = [16, 10, 112, 29, 16, 10, 112, 164, 0, 6, 16, 254, 172, 42, 180, 0] := by decide +kernel
theorem ck_X12_wind_6_17mo : ((cX12_wind.data.toList).drop 96).take 16 = [211, 16, 30, 160, 0, 6, 16, 252, 172, 42, 180, 0, 9, 42, 180, 0] := by decide +kernel
theorem ck_X12_wind_7_17mo : ((cX12_wind.data.toList).drop 112).take 16 = [211, 27, 79, 42, 180, 0, 13, 42, 180, 0, 211, 28, 79, 42, 180, 0] := by decide +kernel
theorem ck_X12_wind_8_17mo : ((cX12_wind.data.toList).drop 128).take 16 = [16, 42, 180, 0, 211, 29, 79, 42, 89, 180, 0, 211, 4, 96, 181, 0] := by decide +kernel
theorem ck_X12_wind_9_17mo : ((cX12_wind.data.toList).drop 144).take 16 = [211, 42, 180, 0, 211, 172] := by decide +kernel
theorem ck_X12_body_0_17mo : ((cX12_body.data.toList).drop 0).take 16 = [27, 3, 8, 184, 0, 186, 153, 0, 44, 28, 184, 0, 217, 153, 0, 37] := by decide +kernel
theorem ck_X12_body_1_17mo : ((cX12_body.data.toList).drop 16).take 16 = [29, 3, 16, 20, 184, 0, 186, 153, 0, 27, 21, 4, 3, 17, 39, 15] := by decide +kernel
theorem ck_X12_body_2_17mo : ((cX12_body.data.toList).drop 32).take 16 = [184, 0, 186, 153, 0, 15, 21, 5, 3, 17, 3, 231, 184, 0, 186, 154] := by decide +kernel
theorem ck_X12_body_3_17mo : ((cX12_body.data.toList).drop 48).take 16 = [0, 6, 16, 254, 172, 42, 180, 0, 190, 16, 12, 160, 0, 6, 16, 252] := by decide +kernel
theorem ck_X12_body_4_17mo : ((cX12_body.data.toList).drop 64).take 16 = [172, 42, 180, 0, 28, 42, 180, 0, 190, 27, 79, 42, 180, 0, 34, 42] := by decide +kernel
theorem ck_X12_body_5_17mo : ((cX12_body.data.toList).drop 80).take 16 = [180, 0, 190, 28, 79, 42, 180, 0, 31, 42, 180, 0, 190, 42, 180, 0] := by decide +kernel
theorem ck_X12_body_6_17mo : ((cX12_body.data.toList).drop 96).take 16 = [201, 79, 42, 180, 0, 37, 42, 180, 0, 190, 29, 79, 42, 180, 0, 40] := by decide +kernel
theorem ck_X12_body_7_17mo : ((cX12_body.data.toList).drop 112).take 16 = [42, 180, 0, 190, 21, 4, 79, 42, 180, 0, 43, 42, 180, 0, 190, 21] := by decide +kernel
theorem ck_X12_body_8_17mo : ((cX12_body.data.toList).drop 128).take 16 = [5, 79, 42, 89, 180, 0, 190, 4, 96, 181, 0, 190, 42, 180, 0, 190] := by decide +kernel
theorem ck_X12_body_9_17mo : ((cX12_body.data.toList).drop 144).take 16 = [4, 100, 172] := by decide +kernel
theorem ck_X12_bodyTold_0_17mo : ((cX12_bodyTold.data.toList).drop 0).take 16 = [42, 27, 182, 0, 193, 154, 0, 6, 16, 254, 172, 28, 170, 0, 0, 0] := by decide +kernel
theorem ck_X12_bodyTold_4_17mo : ((cX12_bodyTold.data.toList).drop 64).take 16 = [42, 180, 0, 28, 27, 46, 172, 42, 180, 0, 34, 27, 46, 172, 42, 180] := by decide +kernel
theorem ck_X12_bodyTold_5_17mo : ((cX12_bodyTold.data.toList).drop 80).take 16 = [0, 31, 27, 46, 172, 42, 180, 0, 37, 27, 46, 172, 42, 180, 0, 40] := by decide +kernel
theorem ck_X12_bodyTold_6_17mo : ((cX12_bodyTold.data.toList).drop 96).take 16 = [27, 46, 172, 42, 180, 0, 43, 27, 46, 172, 42, 27, 182, 0, 204, 172] := by decide +kernel
theorem ck_X12_bodyTold_7_17mo : ((cX12_bodyTold.data.toList).drop 112).take 16 = [42, 27, 182, 0, 220, 172, 42, 27, 182, 0, 204, 154, 0, 9, 17, 39] := by decide +kernel
theorem ck_X12_bodyTold_8_17mo : ((cX12_bodyTold.data.toList).drop 128).take 16 = [15, 167, 0, 20, 42, 180, 0, 201, 42, 180, 0, 40, 27, 46, 42, 27] := by decide +kernel
theorem ck_X12_bodyTold_9_17mo : ((cX12_bodyTold.data.toList).drop 144).take 16 = [182, 0, 204, 108, 96, 172, 16, 254, 172] := by decide +kernel
theorem ck_X12_canHear_0_17mo : ((cX12_canHear.data.toList).drop 0).take 16 = [42, 27, 182, 0, 255, 153, 0, 15, 28, 3, 42, 180, 0, 201, 184, 0] := by decide +kernel
theorem ck_X12_canHear_1_17mo : ((cX12_canHear.data.toList).drop 16).take 16 = [186, 154, 0, 6, 16, 254, 172, 42, 180, 0, 74, 27, 46, 16, 24, 112] := by decide +kernel
theorem ck_X12_canHear_2_17mo : ((cX12_canHear.data.toList).drop 32).take 16 = [62, 5, 42, 180, 0, 71, 27, 46, 104, 29, 16, 6, 161, 0, 9, 29] := by decide +kernel
theorem ck_X12_canHear_3_17mo : ((cX12_canHear.data.toList).drop 48).take 16 = [16, 17, 164, 0, 7, 4, 167, 0, 4, 3, 96, 54, 4, 42, 42, 180] := by decide +kernel
theorem ck_X12_canHear_4_17mo : ((cX12_canHear.data.toList).drop 64).take 16 = [0, 68, 27, 46, 42, 180, 0, 74, 27, 46, 28, 182, 0, 238, 55, 5] := by decide +kernel
theorem ck_X12_canHear_5_17mo : ((cX12_canHear.data.toList).drop 80).take 16 = [3, 54, 7, 3, 54, 8, 21, 8, 42, 180, 0, 246, 162, 0, 82, 3] := by decide +kernel
theorem ck_X12_canHear_6_17mo : ((cX12_canHear.data.toList).drop 96).take 16 = [54, 9, 21, 9, 16, 64, 162, 0, 66, 21, 7, 22, 5, 21, 9, 125] := by decide +kernel
theorem ck_X12_canHear_7_17mo : ((cX12_canHear.data.toList).drop 112).take 16 = [10, 127, 10, 148, 154, 0, 42, 21, 9, 42, 180, 0, 59, 21, 8, 46] := by decide +kernel
theorem ck_X12_canHear_8_17mo : ((cX12_canHear.data.toList).drop 128).take 16 = [184, 1, 2, 42, 180, 0, 62, 21, 4, 46, 42, 180, 0, 65, 21, 4] := by decide +kernel
theorem ck_X12_canHear_9_17mo : ((cX12_canHear.data.toList).drop 144).take 16 = [46, 184, 0, 186, 153, 0, 10, 4, 21, 8, 120, 167, 0, 4, 3, 128] := by decide +kernel
theorem ck_X12_canHear_10_17mo : ((cX12_canHear.data.toList).drop 160).take 16 = [54, 7, 132, 9, 1, 167, 255, 189, 132, 8, 1, 167, 255, 171, 21, 7] := by decide +kernel
theorem ck_X12_canHear_11_17mo : ((cX12_canHear.data.toList).drop 176).take 16 = [172] := by decide +kernel
theorem ck_X12_weigh_0_17mo : ((cX12_weigh.data.toList).drop 0).take 16 = [42, 27, 42, 180, 0, 201, 42, 180, 0, 201, 182, 0, 238, 65, 42, 9] := by decide +kernel
theorem ck_X12_weigh_1_17mo : ((cX12_weigh.data.toList).drop 16).take 16 = [181, 1, 25, 3, 54, 4, 21, 4, 16, 64, 162, 0, 137, 32, 21, 4] := by decide +kernel
theorem ck_X12_weigh_2_17mo : ((cX12_weigh.data.toList).drop 32).take 16 = [125, 10, 127, 10, 148, 154, 0, 7, 10, 167, 0, 4, 9, 55, 5, 3] := by decide +kernel
theorem ck_X12_weigh_3_17mo : ((cX12_weigh.data.toList).drop 48).take 16 = [54, 7, 21, 7, 16, 6, 162, 0, 83, 21, 7, 42, 180, 0, 98, 27] := by decide +kernel
theorem ck_X12_weigh_4_17mo : ((cX12_weigh.data.toList).drop 64).take 16 = [46, 162, 0, 34, 42, 180, 0, 89, 42, 180, 0, 92, 16, 6, 27, 104] := by decide +kernel
theorem ck_X12_weigh_5_17mo : ((cX12_weigh.data.toList).drop 80).take 16 = [21, 7, 96, 46, 47, 21, 4, 125, 10, 127, 10, 148, 154, 0, 7, 4] := by decide +kernel
theorem ck_X12_weigh_6_17mo : ((cX12_weigh.data.toList).drop 96).take 16 = [167, 0, 4, 3, 54, 8, 22, 5, 21, 8, 153, 0, 19, 42, 180, 0] := by decide +kernel
theorem ck_X12_weigh_7_17mo : ((cX12_weigh.data.toList).drop 112).take 16 = [95, 16, 6, 27, 104, 21, 7, 96, 46, 133, 167, 0, 6, 20, 1, 29] := by decide +kernel
theorem ck_X12_weigh_8_17mo : ((cX12_weigh.data.toList).drop 128).take 16 = [105, 55, 5, 132, 7, 1, 167, 255, 172, 42, 180, 0, 134, 21, 4, 22] := by decide +kernel
theorem ck_X12_weigh_9_17mo : ((cX12_weigh.data.toList).drop 144).take 16 = [5, 80, 42, 89, 180, 1, 25, 22, 5, 97, 181, 1, 25, 132, 4, 1] := by decide +kernel
theorem ck_X12_weigh_10_17mo : ((cX12_weigh.data.toList).drop 160).take 16 = [167, 255, 118, 177] := by decide +kernel
theorem ck_X12_partFrom_0_17mo : ((cX12_partFrom.data.toList).drop 0).take 16 = [27, 28, 160, 0, 96, 9, 55, 6, 3, 54, 8, 21, 8, 16, 64, 162] := by decide +kernel
theorem ck_X12_partFrom_1_17mo : ((cX12_partFrom.data.toList).drop 16).take 16 = [0, 37, 22, 6, 22, 4, 21, 8, 125, 10, 127, 10, 148, 154, 0, 13] := by decide +kernel
theorem ck_X12_partFrom_2_17mo : ((cX12_partFrom.data.toList).drop 32).take 16 = [42, 180, 0, 134, 21, 8, 47, 167, 0, 4, 9, 97, 55, 6, 132, 8] := by decide +kernel
theorem ck_X12_partFrom_3_17mo : ((cX12_partFrom.data.toList).drop 48).take 16 = [1, 167, 255, 218, 22, 6, 42, 180, 1, 39, 148, 158, 0, 38, 42, 22] := by decide +kernel
theorem ck_X12_partFrom_4_17mo : ((cX12_partFrom.data.toList).drop 64).take 16 = [6, 181, 1, 39, 3, 54, 8, 21, 8, 28, 162, 0, 23, 42, 180, 0] := by decide +kernel
theorem ck_X12_partFrom_5_17mo : ((cX12_partFrom.data.toList).drop 80).take 16 = [140, 21, 8, 42, 180, 0, 137, 21, 8, 46, 79, 132, 8, 1, 167, 255] := by decide +kernel
theorem ck_X12_partFrom_6_17mo : ((cX12_partFrom.data.toList).drop 96).take 16 = [233, 177, 3, 54, 6, 21, 6, 42, 180, 1, 16, 162, 0, 53, 29, 21] := by decide +kernel
theorem ck_X12_partFrom_7_17mo : ((cX12_partFrom.data.toList).drop 112).take 16 = [6, 122, 4, 126, 4, 160, 0, 37, 42, 180, 0, 137, 27, 21, 6, 79] := by decide +kernel
theorem ck_X12_partFrom_8_17mo : ((cX12_partFrom.data.toList).drop 128).take 16 = [42, 27, 4, 96, 28, 29, 4, 21, 6, 120, 2, 130, 126, 22, 4, 42] := by decide +kernel
theorem ck_X12_partFrom_9_17mo : ((cX12_partFrom.data.toList).drop 144).take 16 = [180, 0, 89, 21, 6, 47, 129, 182, 1, 42, 132, 6, 1, 167, 255, 200] := by decide +kernel
theorem ck_X12_partFrom_10_17mo : ((cX12_partFrom.data.toList).drop 160).take 16 = [177] := by decide +kernel
theorem ck_X12_parted_0_17mo : ((cX12_parted.data.toList).drop 0).take 16 = [42, 27, 182, 0, 193, 153, 0, 41, 28, 155, 0, 37, 28, 42, 180, 0] := by decide +kernel
theorem ck_X12_parted_1_17mo : ((cX12_parted.data.toList).drop 16).take 16 = [190, 122, 154, 0, 28, 28, 184, 1, 46, 6, 163, 0, 20, 29, 155, 0] := by decide +kernel
theorem ck_X12_parted_2_17mo : ((cX12_parted.data.toList).drop 32).take 16 = [16, 29, 42, 180, 1, 16, 122, 154, 0, 7, 4, 167, 0, 4, 3, 54] := by decide +kernel
theorem ck_X12_parted_3_17mo : ((cX12_parted.data.toList).drop 48).take 16 = [5, 3, 54, 6, 21, 6, 16, 12, 162, 0, 39, 21, 5, 153, 0, 25] := by decide +kernel
theorem ck_X12_parted_4_17mo : ((cX12_parted.data.toList).drop 64).take 16 = [28, 21, 6, 122, 4, 126, 153, 0, 12, 42, 21, 6, 182, 1, 19, 153] := by decide +kernel
theorem ck_X12_parted_5_17mo : ((cX12_parted.data.toList).drop 80).take 16 = [0, 7, 4, 167, 0, 4, 3, 54, 5, 132, 6, 1, 167, 255, 216, 21] := by decide +kernel
theorem ck_X12_parted_6_17mo : ((cX12_parted.data.toList).drop 96).take 16 = [5, 154, 0, 6, 16, 254, 172, 28, 184, 1, 46, 54, 6, 29, 184, 1] := by decide +kernel
theorem ck_X12_parted_7_17mo : ((cX12_parted.data.toList).drop 112).take 16 = [46, 21, 6, 162, 0, 6, 16, 253, 172, 21, 4, 2, 21, 6, 4, 100] := by decide +kernel
theorem ck_X12_parted_8_17mo : ((cX12_parted.data.toList).drop 128).take 16 = [184, 0, 186, 154, 0, 5, 2, 172, 42, 27, 182, 1, 31, 42, 20, 0] := by decide +kernel
theorem ck_X12_parted_9_17mo : ((cX12_parted.data.toList).drop 144).take 16 = [226, 181, 1, 39, 42, 3, 21, 6, 29, 9, 182, 1, 42, 21, 4, 155] := by decide +kernel
theorem ck_X12_parted_10_17mo : ((cX12_parted.data.toList).drop 160).take 16 = [0, 13, 42, 180, 0, 140, 21, 4, 46, 167, 0, 30, 42, 180, 1, 25] := by decide +kernel
theorem ck_X12_parted_11_17mo : ((cX12_parted.data.toList).drop 176).take 16 = [9, 148, 154, 0, 7, 3, 167, 0, 17, 20, 1, 49, 42, 180, 1, 39] := by decide +kernel
theorem ck_X12_parted_12_17mo : ((cX12_parted.data.toList).drop 192).take 16 = [105, 42, 180, 1, 25, 109, 136, 172] := by decide +kernel
theorem gX12_pass_X12_within : GoodIn wsX12_pass (va_wsS RX12 186 yX12_within wsX12_within) := ru_gG (ru_gS tw_6_122 tw_6_123 tw_1_12 mT_X12_within)
theorem gX12_pass_X12_eats : GoodIn wsX12_pass (wsV RX12 204 RX12 yX12_eats wsX12_eats) := ru_gG (ru_gV tw_6_125 tw_6_127 tw_0_29 tw_1_12 mT_X12_eats)
theorem dX12_wind_58 : decode cX12_wind 58 = .ok (.ifCond .eq 32, 3) := dk_s (dk_k153 58) (dk_by (j := 10) rfl ck_X12_wind_3_17mo rfl rfl rfl) (dk_by (j := 11) rfl ck_X12_wind_3_17mo rfl rfl rfl) (dk_by (j := 12) rfl ck_X12_wind_3_17mo rfl rfl rfl) (by decide)
theorem dX12_wind_90 : decode cX12_wind 90 = .ok (.bipush (-2), 2) := dk_1 (dk_k16 90) (dk_by (j := 10) rfl ck_X12_wind_5_17mo rfl rfl rfl) (dk_by (j := 11) rfl ck_X12_wind_5_17mo rfl rfl rfl) (by decide)
theorem dX12_wind_92 : decode cX12_wind 92 = .ok (.ireturn, 1) := dk_0 (dk_k172 92) (dk_by (j := 12) rfl ck_X12_wind_5_17mo rfl rfl rfl)
theorem dX12_wind_61 : decode cX12_wind 61 = .ok (.iload_n 3, 1) := dk_0 (dk_k29 61) (dk_by (j := 13) rfl ck_X12_wind_3_17mo rfl rfl rfl)
theorem dX12_wind_62 : decode cX12_wind 62 = .ok (.sipush 1000, 3) := dk_s (dk_k17 62) (dk_by (j := 14) rfl ck_X12_wind_3_17mo rfl rfl rfl) (dk_by (j := 15) rfl ck_X12_wind_3_17mo rfl rfl rfl) (dk_by (j := 0) rfl ck_X12_wind_4_17mo rfl rfl rfl) (by decide)
theorem dX12_wind_66 : decode cX12_wind 66 = .ok (.iload_n 3, 1) := dk_0 (dk_k29 66) (dk_by (j := 2) rfl ck_X12_wind_4_17mo rfl rfl rfl)
theorem dX12_wind_67 : decode cX12_wind 67 = .ok (.bipush 100, 2) := dk_1 (dk_k16 67) (dk_by (j := 3) rfl ck_X12_wind_4_17mo rfl rfl rfl) (dk_by (j := 4) rfl ck_X12_wind_4_17mo rfl rfl rfl) (by decide)
theorem dX12_wind_70 : decode cX12_wind 70 = .ok (.bipush 10, 2) := dk_1 (dk_k16 70) (dk_by (j := 6) rfl ck_X12_wind_4_17mo rfl rfl rfl) (dk_by (j := 7) rfl ck_X12_wind_4_17mo rfl rfl rfl) (by decide)
theorem dX12_wind_73 : decode cX12_wind 73 = .ok (.if_icmp .gt 17, 3) := dk_s (dk_k163 73) (dk_by (j := 9) rfl ck_X12_wind_4_17mo rfl rfl rfl) (dk_by (j := 10) rfl ck_X12_wind_4_17mo rfl rfl rfl) (dk_by (j := 11) rfl ck_X12_wind_4_17mo rfl rfl rfl) (by decide)
theorem dX12_wind_76 : decode cX12_wind 76 = .ok (.iload_n 3, 1) := dk_0 (dk_k29 76) (dk_by (j := 12) rfl ck_X12_wind_4_17mo rfl rfl rfl)
theorem dX12_wind_77 : decode cX12_wind 77 = .ok (.bipush 10, 2) := dk_1 (dk_k16 77) (dk_by (j := 13) rfl ck_X12_wind_4_17mo rfl rfl rfl) (dk_by (j := 14) rfl ck_X12_wind_4_17mo rfl rfl rfl) (by decide)
theorem dX12_wind_80 : decode cX12_wind 80 = .ok (.bipush 10, 2) := dk_1 (dk_k16 80) (dk_by (j := 0) rfl ck_X12_wind_5_17mo rfl rfl rfl) (dk_by (j := 1) rfl ck_X12_wind_5_17mo rfl rfl rfl) (by decide)
theorem dX12_wind_83 : decode cX12_wind 83 = .ok (.iload_n 3, 1) := dk_0 (dk_k29 83) (dk_by (j := 3) rfl ck_X12_wind_5_17mo rfl rfl rfl)
theorem dX12_wind_84 : decode cX12_wind 84 = .ok (.bipush 10, 2) := dk_1 (dk_k16 84) (dk_by (j := 4) rfl ck_X12_wind_5_17mo rfl rfl rfl) (dk_by (j := 5) rfl ck_X12_wind_5_17mo rfl rfl rfl) (by decide)
theorem dX12_wind_87 : decode cX12_wind 87 = .ok (.if_icmp .le 6, 3) := dk_s (dk_k164 87) (dk_by (j := 7) rfl ck_X12_wind_5_17mo rfl rfl rfl) (dk_by (j := 8) rfl ck_X12_wind_5_17mo rfl rfl rfl) (dk_by (j := 9) rfl ck_X12_wind_5_17mo rfl rfl rfl) (by decide)
theorem dX12_wind_93 : decode cX12_wind 93 = .ok (.aload_n 0, 1) := dk_0 (dk_k42 93) (dk_by (j := 13) rfl ck_X12_wind_5_17mo rfl rfl rfl)
theorem dX12_wind_94 : decode cX12_wind 94 = .ok (.getfield 211, 3) := dk_2 (dk_k180 94) (dk_by (j := 14) rfl ck_X12_wind_5_17mo rfl rfl rfl) (dk_by (j := 15) rfl ck_X12_wind_5_17mo rfl rfl rfl) (dk_by (j := 0) rfl ck_X12_wind_6_17mo rfl rfl rfl) (by decide)
theorem dX12_wind_97 : decode cX12_wind 97 = .ok (.bipush 30, 2) := dk_1 (dk_k16 97) (dk_by (j := 1) rfl ck_X12_wind_6_17mo rfl rfl rfl) (dk_by (j := 2) rfl ck_X12_wind_6_17mo rfl rfl rfl) (by decide)
theorem dX12_wind_99 : decode cX12_wind 99 = .ok (.if_icmp .ne 6, 3) := dk_s (dk_k160 99) (dk_by (j := 3) rfl ck_X12_wind_6_17mo rfl rfl rfl) (dk_by (j := 4) rfl ck_X12_wind_6_17mo rfl rfl rfl) (dk_by (j := 5) rfl ck_X12_wind_6_17mo rfl rfl rfl) (by decide)
theorem dX12_wind_105 : decode cX12_wind 105 = .ok (.aload_n 0, 1) := dk_0 (dk_k42 105) (dk_by (j := 9) rfl ck_X12_wind_6_17mo rfl rfl rfl)
theorem dX12_wind_106 : decode cX12_wind 106 = .ok (.getfield 9, 3) := dk_2 (dk_k180 106) (dk_by (j := 10) rfl ck_X12_wind_6_17mo rfl rfl rfl) (dk_by (j := 11) rfl ck_X12_wind_6_17mo rfl rfl rfl) (dk_by (j := 12) rfl ck_X12_wind_6_17mo rfl rfl rfl) (by decide)
theorem dX12_wind_109 : decode cX12_wind 109 = .ok (.aload_n 0, 1) := dk_0 (dk_k42 109) (dk_by (j := 13) rfl ck_X12_wind_6_17mo rfl rfl rfl)
theorem dX12_wind_110 : decode cX12_wind 110 = .ok (.getfield 211, 3) := dk_2 (dk_k180 110) (dk_by (j := 14) rfl ck_X12_wind_6_17mo rfl rfl rfl) (dk_by (j := 15) rfl ck_X12_wind_6_17mo rfl rfl rfl) (dk_by (j := 0) rfl ck_X12_wind_7_17mo rfl rfl rfl) (by decide)
theorem dX12_wind_113 : decode cX12_wind 113 = .ok (.iload_n 1, 1) := dk_0 (dk_k27 113) (dk_by (j := 1) rfl ck_X12_wind_7_17mo rfl rfl rfl)
theorem dX12_wind_114 : decode cX12_wind 114 = .ok (.iastore, 1) := dk_0 (dk_k79 114) (dk_by (j := 2) rfl ck_X12_wind_7_17mo rfl rfl rfl)
theorem dX12_wind_115 : decode cX12_wind 115 = .ok (.aload_n 0, 1) := dk_0 (dk_k42 115) (dk_by (j := 3) rfl ck_X12_wind_7_17mo rfl rfl rfl)
theorem dX12_wind_116 : decode cX12_wind 116 = .ok (.getfield 13, 3) := dk_2 (dk_k180 116) (dk_by (j := 4) rfl ck_X12_wind_7_17mo rfl rfl rfl) (dk_by (j := 5) rfl ck_X12_wind_7_17mo rfl rfl rfl) (dk_by (j := 6) rfl ck_X12_wind_7_17mo rfl rfl rfl) (by decide)
theorem dX12_wind_119 : decode cX12_wind 119 = .ok (.aload_n 0, 1) := dk_0 (dk_k42 119) (dk_by (j := 7) rfl ck_X12_wind_7_17mo rfl rfl rfl)
theorem dX12_wind_120 : decode cX12_wind 120 = .ok (.getfield 211, 3) := dk_2 (dk_k180 120) (dk_by (j := 8) rfl ck_X12_wind_7_17mo rfl rfl rfl) (dk_by (j := 9) rfl ck_X12_wind_7_17mo rfl rfl rfl) (dk_by (j := 10) rfl ck_X12_wind_7_17mo rfl rfl rfl) (by decide)
theorem dX12_wind_123 : decode cX12_wind 123 = .ok (.iload_n 2, 1) := dk_0 (dk_k28 123) (dk_by (j := 11) rfl ck_X12_wind_7_17mo rfl rfl rfl)
theorem dX12_wind_124 : decode cX12_wind 124 = .ok (.iastore, 1) := dk_0 (dk_k79 124) (dk_by (j := 12) rfl ck_X12_wind_7_17mo rfl rfl rfl)
theorem dX12_wind_125 : decode cX12_wind 125 = .ok (.aload_n 0, 1) := dk_0 (dk_k42 125) (dk_by (j := 13) rfl ck_X12_wind_7_17mo rfl rfl rfl)
theorem dX12_wind_126 : decode cX12_wind 126 = .ok (.getfield 16, 3) := dk_2 (dk_k180 126) (dk_by (j := 14) rfl ck_X12_wind_7_17mo rfl rfl rfl) (dk_by (j := 15) rfl ck_X12_wind_7_17mo rfl rfl rfl) (dk_by (j := 0) rfl ck_X12_wind_8_17mo rfl rfl rfl) (by decide)
theorem dX12_wind_129 : decode cX12_wind 129 = .ok (.aload_n 0, 1) := dk_0 (dk_k42 129) (dk_by (j := 1) rfl ck_X12_wind_8_17mo rfl rfl rfl)
theorem dX12_wind_130 : decode cX12_wind 130 = .ok (.getfield 211, 3) := dk_2 (dk_k180 130) (dk_by (j := 2) rfl ck_X12_wind_8_17mo rfl rfl rfl) (dk_by (j := 3) rfl ck_X12_wind_8_17mo rfl rfl rfl) (dk_by (j := 4) rfl ck_X12_wind_8_17mo rfl rfl rfl) (by decide)
theorem dX12_wind_133 : decode cX12_wind 133 = .ok (.iload_n 3, 1) := dk_0 (dk_k29 133) (dk_by (j := 5) rfl ck_X12_wind_8_17mo rfl rfl rfl)
theorem dX12_wind_134 : decode cX12_wind 134 = .ok (.iastore, 1) := dk_0 (dk_k79 134) (dk_by (j := 6) rfl ck_X12_wind_8_17mo rfl rfl rfl)
theorem dX12_wind_135 : decode cX12_wind 135 = .ok (.aload_n 0, 1) := dk_0 (dk_k42 135) (dk_by (j := 7) rfl ck_X12_wind_8_17mo rfl rfl rfl)
theorem dX12_wind_136 : decode cX12_wind 136 = .ok (.dup, 1) := dk_0 (dk_k89 136) (dk_by (j := 8) rfl ck_X12_wind_8_17mo rfl rfl rfl)
theorem dX12_wind_137 : decode cX12_wind 137 = .ok (.getfield 211, 3) := dk_2 (dk_k180 137) (dk_by (j := 9) rfl ck_X12_wind_8_17mo rfl rfl rfl) (dk_by (j := 10) rfl ck_X12_wind_8_17mo rfl rfl rfl) (dk_by (j := 11) rfl ck_X12_wind_8_17mo rfl rfl rfl) (by decide)
theorem dX12_wind_140 : decode cX12_wind 140 = .ok (.iconst 1, 1) := dk_0 (dk_k4 140) (dk_by (j := 12) rfl ck_X12_wind_8_17mo rfl rfl rfl)
theorem dX12_wind_141 : decode cX12_wind 141 = .ok (.iadd, 1) := dk_0 (dk_k96 141) (dk_by (j := 13) rfl ck_X12_wind_8_17mo rfl rfl rfl)
theorem dX12_wind_142 : decode cX12_wind 142 = .ok (.putfield 211, 3) := dk_2 (dk_k181 142) (dk_by (j := 14) rfl ck_X12_wind_8_17mo rfl rfl rfl) (dk_by (j := 15) rfl ck_X12_wind_8_17mo rfl rfl rfl) (dk_by (j := 0) rfl ck_X12_wind_9_17mo rfl rfl rfl) (by decide)
theorem dX12_wind_145 : decode cX12_wind 145 = .ok (.aload_n 0, 1) := dk_0 (dk_k42 145) (dk_by (j := 1) rfl ck_X12_wind_9_17mo rfl rfl rfl)
theorem dX12_wind_146 : decode cX12_wind 146 = .ok (.getfield 211, 3) := dk_2 (dk_k180 146) (dk_by (j := 2) rfl ck_X12_wind_9_17mo rfl rfl rfl) (dk_by (j := 3) rfl ck_X12_wind_9_17mo rfl rfl rfl) (dk_by (j := 4) rfl ck_X12_wind_9_17mo rfl rfl rfl) (by decide)
theorem dX12_wind_149 : decode cX12_wind 149 = .ok (.ireturn, 1) := dk_0 (dk_k172 149) (dk_by (j := 5) rfl ck_X12_wind_9_17mo rfl rfl rfl)
theorem dX12_wind_102 : decode cX12_wind 102 = .ok (.bipush (-4), 2) := dk_1 (dk_k16 102) (dk_by (j := 6) rfl ck_X12_wind_6_17mo rfl rfl rfl) (dk_by (j := 7) rfl ck_X12_wind_6_17mo rfl rfl rfl) (by decide)
theorem dX12_wind_104 : decode cX12_wind 104 = .ok (.ireturn, 1) := dk_0 (dk_k172 104) (dk_by (j := 8) rfl ck_X12_wind_6_17mo rfl rfl rfl)
theorem dX12_wind_0 : decode cX12_wind 0 = .ok (.iload_n 1, 1) := dk_0 (dk_k27 0) (dk_by (j := 0) rfl ck_X12_wind_0_17mo rfl rfl rfl)
theorem dX12_wind_1 : decode cX12_wind 1 = .ok (.iload_n 2, 1) := dk_0 (dk_k28 1) (dk_by (j := 1) rfl ck_X12_wind_0_17mo rfl rfl rfl)
theorem gX12_wind_X12_areHours : GoodIn wsX12_wind (va_wsS RX12 207 yX12_areHours wsX12_areHours) := ru_gG (ru_gS tw_6_133 tw_6_134 tw_1_12 mT_X12_areHours)
theorem dX12_wind_2 : decode cX12_wind 2 = .ok (.invokestatic 207, 3) := dk_2 (dk_k184 2) (dk_by (j := 2) rfl ck_X12_wind_0_17mo rfl rfl rfl) (dk_by (j := 3) rfl ck_X12_wind_0_17mo rfl rfl rfl) (dk_by (j := 4) rfl ck_X12_wind_0_17mo rfl rfl rfl) (by decide)
theorem dX12_wind_5 : decode cX12_wind 5 = .ok (.ifCond .eq 48, 3) := dk_s (dk_k153 5) (dk_by (j := 5) rfl ck_X12_wind_0_17mo rfl rfl rfl) (dk_by (j := 6) rfl ck_X12_wind_0_17mo rfl rfl rfl) (dk_by (j := 7) rfl ck_X12_wind_0_17mo rfl rfl rfl) (by decide)
theorem dX12_wind_8 : decode cX12_wind 8 = .ok (.iload_n 3, 1) := dk_0 (dk_k29 8) (dk_by (j := 8) rfl ck_X12_wind_0_17mo rfl rfl rfl)
theorem dX12_wind_9 : decode cX12_wind 9 = .ok (.iconst 0, 1) := dk_0 (dk_k3 9) (dk_by (j := 9) rfl ck_X12_wind_0_17mo rfl rfl rfl)
theorem dX12_wind_10 : decode cX12_wind 10 = .ok (.sipush 4444, 3) := dk_s (dk_k17 10) (dk_by (j := 10) rfl ck_X12_wind_0_17mo rfl rfl rfl) (dk_by (j := 11) rfl ck_X12_wind_0_17mo rfl rfl rfl) (dk_by (j := 12) rfl ck_X12_wind_0_17mo rfl rfl rfl) (by decide)
theorem gX12_wind_X12_within : GoodIn wsX12_wind (va_wsS RX12 186 yX12_within wsX12_within) := ru_gG (ru_gS tw_6_122 tw_6_123 tw_1_12 mT_X12_within)
theorem dX12_wind_13 : decode cX12_wind 13 = .ok (.invokestatic 186, 3) := dk_2 (dk_k184 13) (dk_by (j := 13) rfl ck_X12_wind_0_17mo rfl rfl rfl) (dk_by (j := 14) rfl ck_X12_wind_0_17mo rfl rfl rfl) (dk_by (j := 15) rfl ck_X12_wind_0_17mo rfl rfl rfl) (by decide)
theorem dX12_wind_16 : decode cX12_wind 16 = .ok (.ifCond .eq 37, 3) := dk_s (dk_k153 16) (dk_by (j := 0) rfl ck_X12_wind_1_17mo rfl rfl rfl) (dk_by (j := 1) rfl ck_X12_wind_1_17mo rfl rfl rfl) (dk_by (j := 2) rfl ck_X12_wind_1_17mo rfl rfl rfl) (by decide)
theorem dX12_wind_19 : decode cX12_wind 19 = .ok (.iload_n 3, 1) := dk_0 (dk_k29 19) (dk_by (j := 3) rfl ck_X12_wind_1_17mo rfl rfl rfl)
theorem dX12_wind_20 : decode cX12_wind 20 = .ok (.bipush 100, 2) := dk_1 (dk_k16 20) (dk_by (j := 4) rfl ck_X12_wind_1_17mo rfl rfl rfl) (dk_by (j := 5) rfl ck_X12_wind_1_17mo rfl rfl rfl) (by decide)
theorem dX12_wind_23 : decode cX12_wind 23 = .ok (.bipush 10, 2) := dk_1 (dk_k16 23) (dk_by (j := 7) rfl ck_X12_wind_1_17mo rfl rfl rfl) (dk_by (j := 8) rfl ck_X12_wind_1_17mo rfl rfl rfl) (by decide)
theorem dX12_wind_26 : decode cX12_wind 26 = .ok (.iconst 4, 1) := dk_0 (dk_k7 26) (dk_by (j := 10) rfl ck_X12_wind_1_17mo rfl rfl rfl)
theorem dX12_wind_27 : decode cX12_wind 27 = .ok (.if_icmp .gt 26, 3) := dk_s (dk_k163 27) (dk_by (j := 11) rfl ck_X12_wind_1_17mo rfl rfl rfl) (dk_by (j := 12) rfl ck_X12_wind_1_17mo rfl rfl rfl) (dk_by (j := 13) rfl ck_X12_wind_1_17mo rfl rfl rfl) (by decide)
theorem dX12_wind_53 : decode cX12_wind 53 = .ok (.iconst 0, 1) := dk_0 (dk_k3 53) (dk_by (j := 5) rfl ck_X12_wind_3_17mo rfl rfl rfl)
theorem dX12_wind_30 : decode cX12_wind 30 = .ok (.iload_n 3, 1) := dk_0 (dk_k29 30) (dk_by (j := 14) rfl ck_X12_wind_1_17mo rfl rfl rfl)
theorem dX12_wind_31 : decode cX12_wind 31 = .ok (.bipush 10, 2) := dk_1 (dk_k16 31) (dk_by (j := 15) rfl ck_X12_wind_1_17mo rfl rfl rfl) (dk_by (j := 0) rfl ck_X12_wind_2_17mo rfl rfl rfl) (by decide)
theorem dX12_wind_34 : decode cX12_wind 34 = .ok (.bipush 10, 2) := dk_1 (dk_k16 34) (dk_by (j := 2) rfl ck_X12_wind_2_17mo rfl rfl rfl) (dk_by (j := 3) rfl ck_X12_wind_2_17mo rfl rfl rfl) (by decide)
theorem dX12_wind_37 : decode cX12_wind 37 = .ok (.iconst 4, 1) := dk_0 (dk_k7 37) (dk_by (j := 5) rfl ck_X12_wind_2_17mo rfl rfl rfl)
theorem dX12_wind_38 : decode cX12_wind 38 = .ok (.if_icmp .gt 15, 3) := dk_s (dk_k163 38) (dk_by (j := 6) rfl ck_X12_wind_2_17mo rfl rfl rfl) (dk_by (j := 7) rfl ck_X12_wind_2_17mo rfl rfl rfl) (dk_by (j := 8) rfl ck_X12_wind_2_17mo rfl rfl rfl) (by decide)
theorem dX12_wind_41 : decode cX12_wind 41 = .ok (.iload_n 3, 1) := dk_0 (dk_k29 41) (dk_by (j := 9) rfl ck_X12_wind_2_17mo rfl rfl rfl)
theorem dX12_wind_42 : decode cX12_wind 42 = .ok (.bipush 10, 2) := dk_1 (dk_k16 42) (dk_by (j := 10) rfl ck_X12_wind_2_17mo rfl rfl rfl) (dk_by (j := 11) rfl ck_X12_wind_2_17mo rfl rfl rfl) (by decide)
theorem dX12_wind_45 : decode cX12_wind 45 = .ok (.iconst 4, 1) := dk_0 (dk_k7 45) (dk_by (j := 13) rfl ck_X12_wind_2_17mo rfl rfl rfl)
theorem dX12_wind_46 : decode cX12_wind 46 = .ok (.if_icmp .gt 7, 3) := dk_s (dk_k163 46) (dk_by (j := 14) rfl ck_X12_wind_2_17mo rfl rfl rfl) (dk_by (j := 15) rfl ck_X12_wind_2_17mo rfl rfl rfl) (dk_by (j := 0) rfl ck_X12_wind_3_17mo rfl rfl rfl) (by decide)
theorem dX12_wind_49 : decode cX12_wind 49 = .ok (.iconst 1, 1) := dk_0 (dk_k4 49) (dk_by (j := 1) rfl ck_X12_wind_3_17mo rfl rfl rfl)
theorem dX12_wind_50 : decode cX12_wind 50 = .ok (.goto 4, 3) := dk_s (dk_k167 50) (dk_by (j := 2) rfl ck_X12_wind_3_17mo rfl rfl rfl) (dk_by (j := 3) rfl ck_X12_wind_3_17mo rfl rfl rfl) (dk_by (j := 4) rfl ck_X12_wind_3_17mo rfl rfl rfl) (by decide)
theorem gX12_fog_X12_areHours : GoodIn wsX12_fog (va_wsS RX12 207 yX12_areHours wsX12_areHours) := ru_gG (ru_gS tw_6_133 tw_6_134 tw_1_12 mT_X12_areHours)
theorem gX12_fog_X12_within : GoodIn wsX12_fog (va_wsS RX12 186 yX12_within wsX12_within) := ru_gG (ru_gS tw_6_122 tw_6_123 tw_1_12 mT_X12_within)
theorem dX12_body_0 : decode cX12_body 0 = .ok (.iload_n 1, 1) := dk_0 (dk_k27 0) (dk_by (j := 0) rfl ck_X12_body_0_17mo rfl rfl rfl)
theorem dX12_body_1 : decode cX12_body 1 = .ok (.iconst 0, 1) := dk_0 (dk_k3 1) (dk_by (j := 1) rfl ck_X12_body_0_17mo rfl rfl rfl)
theorem dX12_body_2 : decode cX12_body 2 = .ok (.iconst 5, 1) := dk_0 (dk_k8 2) (dk_by (j := 2) rfl ck_X12_body_0_17mo rfl rfl rfl)
theorem gX12_body_X12_within : GoodIn wsX12_body (va_wsS RX12 186 yX12_within wsX12_within) := ru_gG (ru_gS tw_6_122 tw_6_123 tw_1_12 mT_X12_within)
theorem dX12_body_3 : decode cX12_body 3 = .ok (.invokestatic 186, 3) := dk_2 (dk_k184 3) (dk_by (j := 3) rfl ck_X12_body_0_17mo rfl rfl rfl) (dk_by (j := 4) rfl ck_X12_body_0_17mo rfl rfl rfl) (dk_by (j := 5) rfl ck_X12_body_0_17mo rfl rfl rfl) (by decide)
theorem dX12_body_6 : decode cX12_body 6 = .ok (.ifCond .eq 44, 3) := dk_s (dk_k153 6) (dk_by (j := 6) rfl ck_X12_body_0_17mo rfl rfl rfl) (dk_by (j := 7) rfl ck_X12_body_0_17mo rfl rfl rfl) (dk_by (j := 8) rfl ck_X12_body_0_17mo rfl rfl rfl) (by decide)
theorem dX12_body_9 : decode cX12_body 9 = .ok (.iload_n 2, 1) := dk_0 (dk_k28 9) (dk_by (j := 9) rfl ck_X12_body_0_17mo rfl rfl rfl)
theorem gX12_body_X12_isCell : GoodIn wsX12_body (va_wsS RX12 217 yX12_isCell wsX12_isCell) := ru_gG (ru_gS tw_6_144 tw_6_145 tw_1_12 mT_X12_isCell)
theorem dX12_body_10 : decode cX12_body 10 = .ok (.invokestatic 217, 3) := dk_2 (dk_k184 10) (dk_by (j := 10) rfl ck_X12_body_0_17mo rfl rfl rfl) (dk_by (j := 11) rfl ck_X12_body_0_17mo rfl rfl rfl) (dk_by (j := 12) rfl ck_X12_body_0_17mo rfl rfl rfl) (by decide)
theorem dX12_body_13 : decode cX12_body 13 = .ok (.ifCond .eq 37, 3) := dk_s (dk_k153 13) (dk_by (j := 13) rfl ck_X12_body_0_17mo rfl rfl rfl) (dk_by (j := 14) rfl ck_X12_body_0_17mo rfl rfl rfl) (dk_by (j := 15) rfl ck_X12_body_0_17mo rfl rfl rfl) (by decide)
theorem dX12_body_16 : decode cX12_body 16 = .ok (.iload_n 3, 1) := dk_0 (dk_k29 16) (dk_by (j := 0) rfl ck_X12_body_1_17mo rfl rfl rfl)
theorem dX12_body_17 : decode cX12_body 17 = .ok (.iconst 0, 1) := dk_0 (dk_k3 17) (dk_by (j := 1) rfl ck_X12_body_1_17mo rfl rfl rfl)
theorem dX12_body_18 : decode cX12_body 18 = .ok (.bipush 20, 2) := dk_1 (dk_k16 18) (dk_by (j := 2) rfl ck_X12_body_1_17mo rfl rfl rfl) (dk_by (j := 3) rfl ck_X12_body_1_17mo rfl rfl rfl) (by decide)
theorem dX12_body_20 : decode cX12_body 20 = .ok (.invokestatic 186, 3) := dk_2 (dk_k184 20) (dk_by (j := 4) rfl ck_X12_body_1_17mo rfl rfl rfl) (dk_by (j := 5) rfl ck_X12_body_1_17mo rfl rfl rfl) (dk_by (j := 6) rfl ck_X12_body_1_17mo rfl rfl rfl) (by decide)
theorem dX12_body_23 : decode cX12_body 23 = .ok (.ifCond .eq 27, 3) := dk_s (dk_k153 23) (dk_by (j := 7) rfl ck_X12_body_1_17mo rfl rfl rfl) (dk_by (j := 8) rfl ck_X12_body_1_17mo rfl rfl rfl) (dk_by (j := 9) rfl ck_X12_body_1_17mo rfl rfl rfl) (by decide)
theorem dX12_body_26 : decode cX12_body 26 = .ok (.iload 4, 2) := by decide +kernel
theorem dX12_body_28 : decode cX12_body 28 = .ok (.iconst 0, 1) := dk_0 (dk_k3 28) (dk_by (j := 12) rfl ck_X12_body_1_17mo rfl rfl rfl)
theorem dX12_body_29 : decode cX12_body 29 = .ok (.sipush 9999, 3) := dk_s (dk_k17 29) (dk_by (j := 13) rfl ck_X12_body_1_17mo rfl rfl rfl) (dk_by (j := 14) rfl ck_X12_body_1_17mo rfl rfl rfl) (dk_by (j := 15) rfl ck_X12_body_1_17mo rfl rfl rfl) (by decide)
theorem dX12_body_32 : decode cX12_body 32 = .ok (.invokestatic 186, 3) := dk_2 (dk_k184 32) (dk_by (j := 0) rfl ck_X12_body_2_17mo rfl rfl rfl) (dk_by (j := 1) rfl ck_X12_body_2_17mo rfl rfl rfl) (dk_by (j := 2) rfl ck_X12_body_2_17mo rfl rfl rfl) (by decide)
theorem dX12_body_35 : decode cX12_body 35 = .ok (.ifCond .eq 15, 3) := dk_s (dk_k153 35) (dk_by (j := 3) rfl ck_X12_body_2_17mo rfl rfl rfl) (dk_by (j := 4) rfl ck_X12_body_2_17mo rfl rfl rfl) (dk_by (j := 5) rfl ck_X12_body_2_17mo rfl rfl rfl) (by decide)
theorem dX12_body_38 : decode cX12_body 38 = .ok (.iload 5, 2) := by decide +kernel
theorem dX12_body_40 : decode cX12_body 40 = .ok (.iconst 0, 1) := dk_0 (dk_k3 40) (dk_by (j := 8) rfl ck_X12_body_2_17mo rfl rfl rfl)
theorem dX12_body_41 : decode cX12_body 41 = .ok (.sipush 999, 3) := dk_s (dk_k17 41) (dk_by (j := 9) rfl ck_X12_body_2_17mo rfl rfl rfl) (dk_by (j := 10) rfl ck_X12_body_2_17mo rfl rfl rfl) (dk_by (j := 11) rfl ck_X12_body_2_17mo rfl rfl rfl) (by decide)
theorem dX12_body_44 : decode cX12_body 44 = .ok (.invokestatic 186, 3) := dk_2 (dk_k184 44) (dk_by (j := 12) rfl ck_X12_body_2_17mo rfl rfl rfl) (dk_by (j := 13) rfl ck_X12_body_2_17mo rfl rfl rfl) (dk_by (j := 14) rfl ck_X12_body_2_17mo rfl rfl rfl) (by decide)
theorem dX12_body_47 : decode cX12_body 47 = .ok (.ifCond .ne 6, 3) := dk_s (dk_k154 47) (dk_by (j := 15) rfl ck_X12_body_2_17mo rfl rfl rfl) (dk_by (j := 0) rfl ck_X12_body_3_17mo rfl rfl rfl) (dk_by (j := 1) rfl ck_X12_body_3_17mo rfl rfl rfl) (by decide)
theorem dX12_body_53 : decode cX12_body 53 = .ok (.aload_n 0, 1) := dk_0 (dk_k42 53) (dk_by (j := 5) rfl ck_X12_body_3_17mo rfl rfl rfl)
theorem dX12_body_54 : decode cX12_body 54 = .ok (.getfield 190, 3) := dk_2 (dk_k180 54) (dk_by (j := 6) rfl ck_X12_body_3_17mo rfl rfl rfl) (dk_by (j := 7) rfl ck_X12_body_3_17mo rfl rfl rfl) (dk_by (j := 8) rfl ck_X12_body_3_17mo rfl rfl rfl) (by decide)
theorem dX12_body_57 : decode cX12_body 57 = .ok (.bipush 12, 2) := dk_1 (dk_k16 57) (dk_by (j := 9) rfl ck_X12_body_3_17mo rfl rfl rfl) (dk_by (j := 10) rfl ck_X12_body_3_17mo rfl rfl rfl) (by decide)
theorem dX12_body_59 : decode cX12_body 59 = .ok (.if_icmp .ne 6, 3) := dk_s (dk_k160 59) (dk_by (j := 11) rfl ck_X12_body_3_17mo rfl rfl rfl) (dk_by (j := 12) rfl ck_X12_body_3_17mo rfl rfl rfl) (dk_by (j := 13) rfl ck_X12_body_3_17mo rfl rfl rfl) (by decide)
theorem dX12_body_65 : decode cX12_body 65 = .ok (.aload_n 0, 1) := dk_0 (dk_k42 65) (dk_by (j := 1) rfl ck_X12_body_4_17mo rfl rfl rfl)
theorem dX12_body_66 : decode cX12_body 66 = .ok (.getfield 28, 3) := dk_2 (dk_k180 66) (dk_by (j := 2) rfl ck_X12_body_4_17mo rfl rfl rfl) (dk_by (j := 3) rfl ck_X12_body_4_17mo rfl rfl rfl) (dk_by (j := 4) rfl ck_X12_body_4_17mo rfl rfl rfl) (by decide)
theorem dX12_body_69 : decode cX12_body 69 = .ok (.aload_n 0, 1) := dk_0 (dk_k42 69) (dk_by (j := 5) rfl ck_X12_body_4_17mo rfl rfl rfl)
theorem dX12_body_70 : decode cX12_body 70 = .ok (.getfield 190, 3) := dk_2 (dk_k180 70) (dk_by (j := 6) rfl ck_X12_body_4_17mo rfl rfl rfl) (dk_by (j := 7) rfl ck_X12_body_4_17mo rfl rfl rfl) (dk_by (j := 8) rfl ck_X12_body_4_17mo rfl rfl rfl) (by decide)
theorem dX12_body_73 : decode cX12_body 73 = .ok (.iload_n 1, 1) := dk_0 (dk_k27 73) (dk_by (j := 9) rfl ck_X12_body_4_17mo rfl rfl rfl)
theorem dX12_body_74 : decode cX12_body 74 = .ok (.iastore, 1) := dk_0 (dk_k79 74) (dk_by (j := 10) rfl ck_X12_body_4_17mo rfl rfl rfl)
theorem dX12_body_75 : decode cX12_body 75 = .ok (.aload_n 0, 1) := dk_0 (dk_k42 75) (dk_by (j := 11) rfl ck_X12_body_4_17mo rfl rfl rfl)
theorem dX12_body_76 : decode cX12_body 76 = .ok (.getfield 34, 3) := dk_2 (dk_k180 76) (dk_by (j := 12) rfl ck_X12_body_4_17mo rfl rfl rfl) (dk_by (j := 13) rfl ck_X12_body_4_17mo rfl rfl rfl) (dk_by (j := 14) rfl ck_X12_body_4_17mo rfl rfl rfl) (by decide)
theorem dX12_body_79 : decode cX12_body 79 = .ok (.aload_n 0, 1) := dk_0 (dk_k42 79) (dk_by (j := 15) rfl ck_X12_body_4_17mo rfl rfl rfl)
theorem dX12_body_80 : decode cX12_body 80 = .ok (.getfield 190, 3) := dk_2 (dk_k180 80) (dk_by (j := 0) rfl ck_X12_body_5_17mo rfl rfl rfl) (dk_by (j := 1) rfl ck_X12_body_5_17mo rfl rfl rfl) (dk_by (j := 2) rfl ck_X12_body_5_17mo rfl rfl rfl) (by decide)
theorem dX12_body_83 : decode cX12_body 83 = .ok (.iload_n 2, 1) := dk_0 (dk_k28 83) (dk_by (j := 3) rfl ck_X12_body_5_17mo rfl rfl rfl)
theorem dX12_body_84 : decode cX12_body 84 = .ok (.iastore, 1) := dk_0 (dk_k79 84) (dk_by (j := 4) rfl ck_X12_body_5_17mo rfl rfl rfl)
theorem dX12_body_85 : decode cX12_body 85 = .ok (.aload_n 0, 1) := dk_0 (dk_k42 85) (dk_by (j := 5) rfl ck_X12_body_5_17mo rfl rfl rfl)
theorem dX12_body_86 : decode cX12_body 86 = .ok (.getfield 31, 3) := dk_2 (dk_k180 86) (dk_by (j := 6) rfl ck_X12_body_5_17mo rfl rfl rfl) (dk_by (j := 7) rfl ck_X12_body_5_17mo rfl rfl rfl) (dk_by (j := 8) rfl ck_X12_body_5_17mo rfl rfl rfl) (by decide)
theorem dX12_body_89 : decode cX12_body 89 = .ok (.aload_n 0, 1) := dk_0 (dk_k42 89) (dk_by (j := 9) rfl ck_X12_body_5_17mo rfl rfl rfl)
theorem dX12_body_90 : decode cX12_body 90 = .ok (.getfield 190, 3) := dk_2 (dk_k180 90) (dk_by (j := 10) rfl ck_X12_body_5_17mo rfl rfl rfl) (dk_by (j := 11) rfl ck_X12_body_5_17mo rfl rfl rfl) (dk_by (j := 12) rfl ck_X12_body_5_17mo rfl rfl rfl) (by decide)
theorem dX12_body_93 : decode cX12_body 93 = .ok (.aload_n 0, 1) := dk_0 (dk_k42 93) (dk_by (j := 13) rfl ck_X12_body_5_17mo rfl rfl rfl)
theorem dX12_body_94 : decode cX12_body 94 = .ok (.getfield 201, 3) := dk_2 (dk_k180 94) (dk_by (j := 14) rfl ck_X12_body_5_17mo rfl rfl rfl) (dk_by (j := 15) rfl ck_X12_body_5_17mo rfl rfl rfl) (dk_by (j := 0) rfl ck_X12_body_6_17mo rfl rfl rfl) (by decide)
theorem dX12_body_97 : decode cX12_body 97 = .ok (.iastore, 1) := dk_0 (dk_k79 97) (dk_by (j := 1) rfl ck_X12_body_6_17mo rfl rfl rfl)
theorem dX12_body_98 : decode cX12_body 98 = .ok (.aload_n 0, 1) := dk_0 (dk_k42 98) (dk_by (j := 2) rfl ck_X12_body_6_17mo rfl rfl rfl)
theorem dX12_body_99 : decode cX12_body 99 = .ok (.getfield 37, 3) := dk_2 (dk_k180 99) (dk_by (j := 3) rfl ck_X12_body_6_17mo rfl rfl rfl) (dk_by (j := 4) rfl ck_X12_body_6_17mo rfl rfl rfl) (dk_by (j := 5) rfl ck_X12_body_6_17mo rfl rfl rfl) (by decide)
theorem dX12_body_102 : decode cX12_body 102 = .ok (.aload_n 0, 1) := dk_0 (dk_k42 102) (dk_by (j := 6) rfl ck_X12_body_6_17mo rfl rfl rfl)
theorem dX12_body_103 : decode cX12_body 103 = .ok (.getfield 190, 3) := dk_2 (dk_k180 103) (dk_by (j := 7) rfl ck_X12_body_6_17mo rfl rfl rfl) (dk_by (j := 8) rfl ck_X12_body_6_17mo rfl rfl rfl) (dk_by (j := 9) rfl ck_X12_body_6_17mo rfl rfl rfl) (by decide)
theorem dX12_body_106 : decode cX12_body 106 = .ok (.iload_n 3, 1) := dk_0 (dk_k29 106) (dk_by (j := 10) rfl ck_X12_body_6_17mo rfl rfl rfl)
theorem dX12_body_107 : decode cX12_body 107 = .ok (.iastore, 1) := dk_0 (dk_k79 107) (dk_by (j := 11) rfl ck_X12_body_6_17mo rfl rfl rfl)
theorem dX12_body_108 : decode cX12_body 108 = .ok (.aload_n 0, 1) := dk_0 (dk_k42 108) (dk_by (j := 12) rfl ck_X12_body_6_17mo rfl rfl rfl)
theorem dX12_body_109 : decode cX12_body 109 = .ok (.getfield 40, 3) := dk_2 (dk_k180 109) (dk_by (j := 13) rfl ck_X12_body_6_17mo rfl rfl rfl) (dk_by (j := 14) rfl ck_X12_body_6_17mo rfl rfl rfl) (dk_by (j := 15) rfl ck_X12_body_6_17mo rfl rfl rfl) (by decide)
theorem dX12_body_112 : decode cX12_body 112 = .ok (.aload_n 0, 1) := dk_0 (dk_k42 112) (dk_by (j := 0) rfl ck_X12_body_7_17mo rfl rfl rfl)
theorem dX12_body_113 : decode cX12_body 113 = .ok (.getfield 190, 3) := dk_2 (dk_k180 113) (dk_by (j := 1) rfl ck_X12_body_7_17mo rfl rfl rfl) (dk_by (j := 2) rfl ck_X12_body_7_17mo rfl rfl rfl) (dk_by (j := 3) rfl ck_X12_body_7_17mo rfl rfl rfl) (by decide)
theorem dX12_body_116 : decode cX12_body 116 = .ok (.iload 4, 2) := by decide +kernel
theorem dX12_body_118 : decode cX12_body 118 = .ok (.iastore, 1) := dk_0 (dk_k79 118) (dk_by (j := 6) rfl ck_X12_body_7_17mo rfl rfl rfl)
theorem dX12_body_119 : decode cX12_body 119 = .ok (.aload_n 0, 1) := dk_0 (dk_k42 119) (dk_by (j := 7) rfl ck_X12_body_7_17mo rfl rfl rfl)
theorem dX12_body_120 : decode cX12_body 120 = .ok (.getfield 43, 3) := dk_2 (dk_k180 120) (dk_by (j := 8) rfl ck_X12_body_7_17mo rfl rfl rfl) (dk_by (j := 9) rfl ck_X12_body_7_17mo rfl rfl rfl) (dk_by (j := 10) rfl ck_X12_body_7_17mo rfl rfl rfl) (by decide)
theorem dX12_body_123 : decode cX12_body 123 = .ok (.aload_n 0, 1) := dk_0 (dk_k42 123) (dk_by (j := 11) rfl ck_X12_body_7_17mo rfl rfl rfl)
theorem dX12_body_124 : decode cX12_body 124 = .ok (.getfield 190, 3) := dk_2 (dk_k180 124) (dk_by (j := 12) rfl ck_X12_body_7_17mo rfl rfl rfl) (dk_by (j := 13) rfl ck_X12_body_7_17mo rfl rfl rfl) (dk_by (j := 14) rfl ck_X12_body_7_17mo rfl rfl rfl) (by decide)
theorem dX12_body_127 : decode cX12_body 127 = .ok (.iload 5, 2) := by decide +kernel
theorem dX12_body_129 : decode cX12_body 129 = .ok (.iastore, 1) := dk_0 (dk_k79 129) (dk_by (j := 1) rfl ck_X12_body_8_17mo rfl rfl rfl)
theorem dX12_body_130 : decode cX12_body 130 = .ok (.aload_n 0, 1) := dk_0 (dk_k42 130) (dk_by (j := 2) rfl ck_X12_body_8_17mo rfl rfl rfl)
theorem dX12_body_131 : decode cX12_body 131 = .ok (.dup, 1) := dk_0 (dk_k89 131) (dk_by (j := 3) rfl ck_X12_body_8_17mo rfl rfl rfl)
theorem dX12_body_132 : decode cX12_body 132 = .ok (.getfield 190, 3) := dk_2 (dk_k180 132) (dk_by (j := 4) rfl ck_X12_body_8_17mo rfl rfl rfl) (dk_by (j := 5) rfl ck_X12_body_8_17mo rfl rfl rfl) (dk_by (j := 6) rfl ck_X12_body_8_17mo rfl rfl rfl) (by decide)
theorem dX12_body_135 : decode cX12_body 135 = .ok (.iconst 1, 1) := dk_0 (dk_k4 135) (dk_by (j := 7) rfl ck_X12_body_8_17mo rfl rfl rfl)
theorem dX12_body_136 : decode cX12_body 136 = .ok (.iadd, 1) := dk_0 (dk_k96 136) (dk_by (j := 8) rfl ck_X12_body_8_17mo rfl rfl rfl)
theorem dX12_body_137 : decode cX12_body 137 = .ok (.putfield 190, 3) := dk_2 (dk_k181 137) (dk_by (j := 9) rfl ck_X12_body_8_17mo rfl rfl rfl) (dk_by (j := 10) rfl ck_X12_body_8_17mo rfl rfl rfl) (dk_by (j := 11) rfl ck_X12_body_8_17mo rfl rfl rfl) (by decide)
theorem dX12_body_140 : decode cX12_body 140 = .ok (.aload_n 0, 1) := dk_0 (dk_k42 140) (dk_by (j := 12) rfl ck_X12_body_8_17mo rfl rfl rfl)
theorem dX12_body_141 : decode cX12_body 141 = .ok (.getfield 190, 3) := dk_2 (dk_k180 141) (dk_by (j := 13) rfl ck_X12_body_8_17mo rfl rfl rfl) (dk_by (j := 14) rfl ck_X12_body_8_17mo rfl rfl rfl) (dk_by (j := 15) rfl ck_X12_body_8_17mo rfl rfl rfl) (by decide)
theorem dX12_body_144 : decode cX12_body 144 = .ok (.iconst 1, 1) := dk_0 (dk_k4 144) (dk_by (j := 0) rfl ck_X12_body_9_17mo rfl rfl rfl)
theorem dX12_body_145 : decode cX12_body 145 = .ok (.isub, 1) := dk_0 (dk_k100 145) (dk_by (j := 1) rfl ck_X12_body_9_17mo rfl rfl rfl)
theorem dX12_body_146 : decode cX12_body 146 = .ok (.ireturn, 1) := dk_0 (dk_k172 146) (dk_by (j := 2) rfl ck_X12_body_9_17mo rfl rfl rfl)
theorem dX12_body_62 : decode cX12_body 62 = .ok (.bipush (-4), 2) := dk_1 (dk_k16 62) (dk_by (j := 14) rfl ck_X12_body_3_17mo rfl rfl rfl) (dk_by (j := 15) rfl ck_X12_body_3_17mo rfl rfl rfl) (by decide)
theorem dX12_body_64 : decode cX12_body 64 = .ok (.ireturn, 1) := dk_0 (dk_k172 64) (dk_by (j := 0) rfl ck_X12_body_4_17mo rfl rfl rfl)
theorem dX12_body_50 : decode cX12_body 50 = .ok (.bipush (-2), 2) := dk_1 (dk_k16 50) (dk_by (j := 2) rfl ck_X12_body_3_17mo rfl rfl rfl) (dk_by (j := 3) rfl ck_X12_body_3_17mo rfl rfl rfl) (by decide)
theorem dX12_body_52 : decode cX12_body 52 = .ok (.ireturn, 1) := dk_0 (dk_k172 52) (dk_by (j := 4) rfl ck_X12_body_3_17mo rfl rfl rfl)
theorem dX12_bodyTold_0 : decode cX12_bodyTold 0 = .ok (.aload_n 0, 1) := dk_0 (dk_k42 0) (dk_by (j := 0) rfl ck_X12_bodyTold_0_17mo rfl rfl rfl)
theorem dX12_bodyTold_1 : decode cX12_bodyTold 1 = .ok (.iload_n 1, 1) := dk_0 (dk_k27 1) (dk_by (j := 1) rfl ck_X12_bodyTold_0_17mo rfl rfl rfl)
theorem gX12_bodyTold_X12_isBody : GoodIn wsX12_bodyTold (wsV RX12 193 RX12 yX12_isBody wsX12_isBody) := ru_gG (ru_gV tw_6_151 tw_6_153 tw_0_30 tw_1_12 mT_X12_isBody)
theorem dX12_bodyTold_2 : decode cX12_bodyTold 2 = .ok (.invokevirtual 193, 3) := dk_2 (dk_k182 2) (dk_by (j := 2) rfl ck_X12_bodyTold_0_17mo rfl rfl rfl) (dk_by (j := 3) rfl ck_X12_bodyTold_0_17mo rfl rfl rfl) (dk_by (j := 4) rfl ck_X12_bodyTold_0_17mo rfl rfl rfl) (by decide)
theorem dX12_bodyTold_5 : decode cX12_bodyTold 5 = .ok (.ifCond .ne 6, 3) := dk_s (dk_k154 5) (dk_by (j := 5) rfl ck_X12_bodyTold_0_17mo rfl rfl rfl) (dk_by (j := 6) rfl ck_X12_bodyTold_0_17mo rfl rfl rfl) (dk_by (j := 7) rfl ck_X12_bodyTold_0_17mo rfl rfl rfl) (by decide)
theorem dX12_bodyTold_11 : decode cX12_bodyTold 11 = .ok (.iload_n 2, 1) := dk_0 (dk_k28 11) (dk_by (j := 11) rfl ck_X12_bodyTold_0_17mo rfl rfl rfl)
theorem dX12_bodyTold_12 : decode cX12_bodyTold 12 = .ok (.tableswitch 138 0 8 #[52, 59, 66, 73, 80, 87, 94, 100, 106], 52) := by decide +kernel
theorem dX12_bodyTold_150 : decode cX12_bodyTold 150 = .ok (.bipush (-2), 2) := dk_1 (dk_k16 150) (dk_by (j := 6) rfl ck_X12_bodyTold_9_17mo rfl rfl rfl) (dk_by (j := 7) rfl ck_X12_bodyTold_9_17mo rfl rfl rfl) (by decide)
theorem dX12_bodyTold_152 : decode cX12_bodyTold 152 = .ok (.ireturn, 1) := dk_0 (dk_k172 152) (dk_by (j := 8) rfl ck_X12_bodyTold_9_17mo rfl rfl rfl)
theorem dX12_bodyTold_64 : decode cX12_bodyTold 64 = .ok (.aload_n 0, 1) := dk_0 (dk_k42 64) (dk_by (j := 0) rfl ck_X12_bodyTold_4_17mo rfl rfl rfl)
theorem dX12_bodyTold_65 : decode cX12_bodyTold 65 = .ok (.getfield 28, 3) := dk_2 (dk_k180 65) (dk_by (j := 1) rfl ck_X12_bodyTold_4_17mo rfl rfl rfl) (dk_by (j := 2) rfl ck_X12_bodyTold_4_17mo rfl rfl rfl) (dk_by (j := 3) rfl ck_X12_bodyTold_4_17mo rfl rfl rfl) (by decide)
theorem dX12_bodyTold_68 : decode cX12_bodyTold 68 = .ok (.iload_n 1, 1) := dk_0 (dk_k27 68) (dk_by (j := 4) rfl ck_X12_bodyTold_4_17mo rfl rfl rfl)
theorem dX12_bodyTold_69 : decode cX12_bodyTold 69 = .ok (.iaload, 1) := dk_0 (dk_k46 69) (dk_by (j := 5) rfl ck_X12_bodyTold_4_17mo rfl rfl rfl)
theorem dX12_bodyTold_70 : decode cX12_bodyTold 70 = .ok (.ireturn, 1) := dk_0 (dk_k172 70) (dk_by (j := 6) rfl ck_X12_bodyTold_4_17mo rfl rfl rfl)
theorem dX12_bodyTold_71 : decode cX12_bodyTold 71 = .ok (.aload_n 0, 1) := dk_0 (dk_k42 71) (dk_by (j := 7) rfl ck_X12_bodyTold_4_17mo rfl rfl rfl)
theorem dX12_bodyTold_72 : decode cX12_bodyTold 72 = .ok (.getfield 34, 3) := dk_2 (dk_k180 72) (dk_by (j := 8) rfl ck_X12_bodyTold_4_17mo rfl rfl rfl) (dk_by (j := 9) rfl ck_X12_bodyTold_4_17mo rfl rfl rfl) (dk_by (j := 10) rfl ck_X12_bodyTold_4_17mo rfl rfl rfl) (by decide)
theorem dX12_bodyTold_75 : decode cX12_bodyTold 75 = .ok (.iload_n 1, 1) := dk_0 (dk_k27 75) (dk_by (j := 11) rfl ck_X12_bodyTold_4_17mo rfl rfl rfl)
theorem dX12_bodyTold_76 : decode cX12_bodyTold 76 = .ok (.iaload, 1) := dk_0 (dk_k46 76) (dk_by (j := 12) rfl ck_X12_bodyTold_4_17mo rfl rfl rfl)
theorem dX12_bodyTold_77 : decode cX12_bodyTold 77 = .ok (.ireturn, 1) := dk_0 (dk_k172 77) (dk_by (j := 13) rfl ck_X12_bodyTold_4_17mo rfl rfl rfl)
theorem dX12_bodyTold_78 : decode cX12_bodyTold 78 = .ok (.aload_n 0, 1) := dk_0 (dk_k42 78) (dk_by (j := 14) rfl ck_X12_bodyTold_4_17mo rfl rfl rfl)
theorem dX12_bodyTold_79 : decode cX12_bodyTold 79 = .ok (.getfield 31, 3) := dk_2 (dk_k180 79) (dk_by (j := 15) rfl ck_X12_bodyTold_4_17mo rfl rfl rfl) (dk_by (j := 0) rfl ck_X12_bodyTold_5_17mo rfl rfl rfl) (dk_by (j := 1) rfl ck_X12_bodyTold_5_17mo rfl rfl rfl) (by decide)
theorem dX12_bodyTold_82 : decode cX12_bodyTold 82 = .ok (.iload_n 1, 1) := dk_0 (dk_k27 82) (dk_by (j := 2) rfl ck_X12_bodyTold_5_17mo rfl rfl rfl)
theorem dX12_bodyTold_83 : decode cX12_bodyTold 83 = .ok (.iaload, 1) := dk_0 (dk_k46 83) (dk_by (j := 3) rfl ck_X12_bodyTold_5_17mo rfl rfl rfl)
theorem dX12_bodyTold_84 : decode cX12_bodyTold 84 = .ok (.ireturn, 1) := dk_0 (dk_k172 84) (dk_by (j := 4) rfl ck_X12_bodyTold_5_17mo rfl rfl rfl)
theorem dX12_bodyTold_85 : decode cX12_bodyTold 85 = .ok (.aload_n 0, 1) := dk_0 (dk_k42 85) (dk_by (j := 5) rfl ck_X12_bodyTold_5_17mo rfl rfl rfl)
theorem dX12_bodyTold_86 : decode cX12_bodyTold 86 = .ok (.getfield 37, 3) := dk_2 (dk_k180 86) (dk_by (j := 6) rfl ck_X12_bodyTold_5_17mo rfl rfl rfl) (dk_by (j := 7) rfl ck_X12_bodyTold_5_17mo rfl rfl rfl) (dk_by (j := 8) rfl ck_X12_bodyTold_5_17mo rfl rfl rfl) (by decide)
theorem dX12_bodyTold_89 : decode cX12_bodyTold 89 = .ok (.iload_n 1, 1) := dk_0 (dk_k27 89) (dk_by (j := 9) rfl ck_X12_bodyTold_5_17mo rfl rfl rfl)
theorem dX12_bodyTold_90 : decode cX12_bodyTold 90 = .ok (.iaload, 1) := dk_0 (dk_k46 90) (dk_by (j := 10) rfl ck_X12_bodyTold_5_17mo rfl rfl rfl)
theorem dX12_bodyTold_91 : decode cX12_bodyTold 91 = .ok (.ireturn, 1) := dk_0 (dk_k172 91) (dk_by (j := 11) rfl ck_X12_bodyTold_5_17mo rfl rfl rfl)
theorem dX12_bodyTold_92 : decode cX12_bodyTold 92 = .ok (.aload_n 0, 1) := dk_0 (dk_k42 92) (dk_by (j := 12) rfl ck_X12_bodyTold_5_17mo rfl rfl rfl)
theorem dX12_bodyTold_93 : decode cX12_bodyTold 93 = .ok (.getfield 40, 3) := dk_2 (dk_k180 93) (dk_by (j := 13) rfl ck_X12_bodyTold_5_17mo rfl rfl rfl) (dk_by (j := 14) rfl ck_X12_bodyTold_5_17mo rfl rfl rfl) (dk_by (j := 15) rfl ck_X12_bodyTold_5_17mo rfl rfl rfl) (by decide)
theorem dX12_bodyTold_96 : decode cX12_bodyTold 96 = .ok (.iload_n 1, 1) := dk_0 (dk_k27 96) (dk_by (j := 0) rfl ck_X12_bodyTold_6_17mo rfl rfl rfl)
theorem dX12_bodyTold_97 : decode cX12_bodyTold 97 = .ok (.iaload, 1) := dk_0 (dk_k46 97) (dk_by (j := 1) rfl ck_X12_bodyTold_6_17mo rfl rfl rfl)
theorem dX12_bodyTold_98 : decode cX12_bodyTold 98 = .ok (.ireturn, 1) := dk_0 (dk_k172 98) (dk_by (j := 2) rfl ck_X12_bodyTold_6_17mo rfl rfl rfl)
theorem dX12_bodyTold_99 : decode cX12_bodyTold 99 = .ok (.aload_n 0, 1) := dk_0 (dk_k42 99) (dk_by (j := 3) rfl ck_X12_bodyTold_6_17mo rfl rfl rfl)
theorem dX12_bodyTold_100 : decode cX12_bodyTold 100 = .ok (.getfield 43, 3) := dk_2 (dk_k180 100) (dk_by (j := 4) rfl ck_X12_bodyTold_6_17mo rfl rfl rfl) (dk_by (j := 5) rfl ck_X12_bodyTold_6_17mo rfl rfl rfl) (dk_by (j := 6) rfl ck_X12_bodyTold_6_17mo rfl rfl rfl) (by decide)
theorem dX12_bodyTold_103 : decode cX12_bodyTold 103 = .ok (.iload_n 1, 1) := dk_0 (dk_k27 103) (dk_by (j := 7) rfl ck_X12_bodyTold_6_17mo rfl rfl rfl)
theorem dX12_bodyTold_104 : decode cX12_bodyTold 104 = .ok (.iaload, 1) := dk_0 (dk_k46 104) (dk_by (j := 8) rfl ck_X12_bodyTold_6_17mo rfl rfl rfl)
theorem dX12_bodyTold_105 : decode cX12_bodyTold 105 = .ok (.ireturn, 1) := dk_0 (dk_k172 105) (dk_by (j := 9) rfl ck_X12_bodyTold_6_17mo rfl rfl rfl)
theorem dX12_bodyTold_106 : decode cX12_bodyTold 106 = .ok (.aload_n 0, 1) := dk_0 (dk_k42 106) (dk_by (j := 10) rfl ck_X12_bodyTold_6_17mo rfl rfl rfl)
theorem dX12_bodyTold_107 : decode cX12_bodyTold 107 = .ok (.iload_n 1, 1) := dk_0 (dk_k27 107) (dk_by (j := 11) rfl ck_X12_bodyTold_6_17mo rfl rfl rfl)
theorem gX12_bodyTold_X12_eats : GoodIn wsX12_bodyTold (wsV RX12 204 RX12 yX12_eats wsX12_eats) := ru_gG (ru_gV tw_6_125 tw_6_127 tw_0_29 tw_1_12 mT_X12_eats)
theorem dX12_bodyTold_108 : decode cX12_bodyTold 108 = .ok (.invokevirtual 204, 3) := dk_2 (dk_k182 108) (dk_by (j := 12) rfl ck_X12_bodyTold_6_17mo rfl rfl rfl) (dk_by (j := 13) rfl ck_X12_bodyTold_6_17mo rfl rfl rfl) (dk_by (j := 14) rfl ck_X12_bodyTold_6_17mo rfl rfl rfl) (by decide)
theorem dX12_bodyTold_111 : decode cX12_bodyTold 111 = .ok (.ireturn, 1) := dk_0 (dk_k172 111) (dk_by (j := 15) rfl ck_X12_bodyTold_6_17mo rfl rfl rfl)
theorem dX12_bodyTold_112 : decode cX12_bodyTold 112 = .ok (.aload_n 0, 1) := dk_0 (dk_k42 112) (dk_by (j := 0) rfl ck_X12_bodyTold_7_17mo rfl rfl rfl)
theorem dX12_bodyTold_113 : decode cX12_bodyTold 113 = .ok (.iload_n 1, 1) := dk_0 (dk_k27 113) (dk_by (j := 1) rfl ck_X12_bodyTold_7_17mo rfl rfl rfl)
theorem gX12_bodyTold_X12_burns : GoodIn wsX12_bodyTold (wsV RX12 220 RX12 yX12_burns wsX12_burns) := ru_gG (ru_gV tw_6_155 tw_6_157 tw_0_31 tw_1_12 mT_X12_burns)
theorem dX12_bodyTold_114 : decode cX12_bodyTold 114 = .ok (.invokevirtual 220, 3) := dk_2 (dk_k182 114) (dk_by (j := 2) rfl ck_X12_bodyTold_7_17mo rfl rfl rfl) (dk_by (j := 3) rfl ck_X12_bodyTold_7_17mo rfl rfl rfl) (dk_by (j := 4) rfl ck_X12_bodyTold_7_17mo rfl rfl rfl) (by decide)
theorem dX12_bodyTold_117 : decode cX12_bodyTold 117 = .ok (.ireturn, 1) := dk_0 (dk_k172 117) (dk_by (j := 5) rfl ck_X12_bodyTold_7_17mo rfl rfl rfl)
theorem dX12_bodyTold_118 : decode cX12_bodyTold 118 = .ok (.aload_n 0, 1) := dk_0 (dk_k42 118) (dk_by (j := 6) rfl ck_X12_bodyTold_7_17mo rfl rfl rfl)
theorem dX12_bodyTold_119 : decode cX12_bodyTold 119 = .ok (.iload_n 1, 1) := dk_0 (dk_k27 119) (dk_by (j := 7) rfl ck_X12_bodyTold_7_17mo rfl rfl rfl)
theorem dX12_bodyTold_120 : decode cX12_bodyTold 120 = .ok (.invokevirtual 204, 3) := dk_2 (dk_k182 120) (dk_by (j := 8) rfl ck_X12_bodyTold_7_17mo rfl rfl rfl) (dk_by (j := 9) rfl ck_X12_bodyTold_7_17mo rfl rfl rfl) (dk_by (j := 10) rfl ck_X12_bodyTold_7_17mo rfl rfl rfl) (by decide)
theorem dX12_bodyTold_123 : decode cX12_bodyTold 123 = .ok (.ifCond .ne 9, 3) := dk_s (dk_k154 123) (dk_by (j := 11) rfl ck_X12_bodyTold_7_17mo rfl rfl rfl) (dk_by (j := 12) rfl ck_X12_bodyTold_7_17mo rfl rfl rfl) (dk_by (j := 13) rfl ck_X12_bodyTold_7_17mo rfl rfl rfl) (by decide)
theorem dX12_bodyTold_132 : decode cX12_bodyTold 132 = .ok (.aload_n 0, 1) := dk_0 (dk_k42 132) (dk_by (j := 4) rfl ck_X12_bodyTold_8_17mo rfl rfl rfl)
theorem dX12_bodyTold_133 : decode cX12_bodyTold 133 = .ok (.getfield 201, 3) := dk_2 (dk_k180 133) (dk_by (j := 5) rfl ck_X12_bodyTold_8_17mo rfl rfl rfl) (dk_by (j := 6) rfl ck_X12_bodyTold_8_17mo rfl rfl rfl) (dk_by (j := 7) rfl ck_X12_bodyTold_8_17mo rfl rfl rfl) (by decide)
theorem dX12_bodyTold_136 : decode cX12_bodyTold 136 = .ok (.aload_n 0, 1) := dk_0 (dk_k42 136) (dk_by (j := 8) rfl ck_X12_bodyTold_8_17mo rfl rfl rfl)
theorem dX12_bodyTold_137 : decode cX12_bodyTold 137 = .ok (.getfield 40, 3) := dk_2 (dk_k180 137) (dk_by (j := 9) rfl ck_X12_bodyTold_8_17mo rfl rfl rfl) (dk_by (j := 10) rfl ck_X12_bodyTold_8_17mo rfl rfl rfl) (dk_by (j := 11) rfl ck_X12_bodyTold_8_17mo rfl rfl rfl) (by decide)
theorem dX12_bodyTold_140 : decode cX12_bodyTold 140 = .ok (.iload_n 1, 1) := dk_0 (dk_k27 140) (dk_by (j := 12) rfl ck_X12_bodyTold_8_17mo rfl rfl rfl)
theorem dX12_bodyTold_141 : decode cX12_bodyTold 141 = .ok (.iaload, 1) := dk_0 (dk_k46 141) (dk_by (j := 13) rfl ck_X12_bodyTold_8_17mo rfl rfl rfl)
theorem dX12_bodyTold_142 : decode cX12_bodyTold 142 = .ok (.aload_n 0, 1) := dk_0 (dk_k42 142) (dk_by (j := 14) rfl ck_X12_bodyTold_8_17mo rfl rfl rfl)
theorem dX12_bodyTold_143 : decode cX12_bodyTold 143 = .ok (.iload_n 1, 1) := dk_0 (dk_k27 143) (dk_by (j := 15) rfl ck_X12_bodyTold_8_17mo rfl rfl rfl)
theorem dX12_bodyTold_144 : decode cX12_bodyTold 144 = .ok (.invokevirtual 204, 3) := dk_2 (dk_k182 144) (dk_by (j := 0) rfl ck_X12_bodyTold_9_17mo rfl rfl rfl) (dk_by (j := 1) rfl ck_X12_bodyTold_9_17mo rfl rfl rfl) (dk_by (j := 2) rfl ck_X12_bodyTold_9_17mo rfl rfl rfl) (by decide)
theorem dX12_bodyTold_147 : decode cX12_bodyTold 147 = .ok (.idiv, 1) := by decide +kernel
theorem dX12_bodyTold_148 : decode cX12_bodyTold 148 = .ok (.iadd, 1) := dk_0 (dk_k96 148) (dk_by (j := 4) rfl ck_X12_bodyTold_9_17mo rfl rfl rfl)
theorem dX12_bodyTold_149 : decode cX12_bodyTold 149 = .ok (.ireturn, 1) := dk_0 (dk_k172 149) (dk_by (j := 5) rfl ck_X12_bodyTold_9_17mo rfl rfl rfl)
theorem dX12_bodyTold_126 : decode cX12_bodyTold 126 = .ok (.sipush 9999, 3) := dk_s (dk_k17 126) (dk_by (j := 14) rfl ck_X12_bodyTold_7_17mo rfl rfl rfl) (dk_by (j := 15) rfl ck_X12_bodyTold_7_17mo rfl rfl rfl) (dk_by (j := 0) rfl ck_X12_bodyTold_8_17mo rfl rfl rfl) (by decide)
theorem dX12_bodyTold_129 : decode cX12_bodyTold 129 = .ok (.goto 20, 3) := dk_s (dk_k167 129) (dk_by (j := 1) rfl ck_X12_bodyTold_8_17mo rfl rfl rfl) (dk_by (j := 2) rfl ck_X12_bodyTold_8_17mo rfl rfl rfl) (dk_by (j := 3) rfl ck_X12_bodyTold_8_17mo rfl rfl rfl) (by decide)
theorem dX12_bodyTold_8 : decode cX12_bodyTold 8 = .ok (.bipush (-2), 2) := dk_1 (dk_k16 8) (dk_by (j := 8) rfl ck_X12_bodyTold_0_17mo rfl rfl rfl) (dk_by (j := 9) rfl ck_X12_bodyTold_0_17mo rfl rfl rfl) (by decide)
theorem dX12_bodyTold_10 : decode cX12_bodyTold 10 = .ok (.ireturn, 1) := dk_0 (dk_k172 10) (dk_by (j := 10) rfl ck_X12_bodyTold_0_17mo rfl rfl rfl)
theorem gX12_patch_X12_isBody : GoodIn wsX12_patch (wsV RX12 193 RX12 yX12_isBody wsX12_isBody) := ru_gG (ru_gV tw_6_151 tw_6_153 tw_0_30 tw_1_12 mT_X12_isBody)
theorem gX12_patch_X12_within : GoodIn wsX12_patch (va_wsS RX12 186 yX12_within wsX12_within) := ru_gG (ru_gS tw_6_122 tw_6_123 tw_1_12 mT_X12_within)
theorem gX12_patch_X12_patchOf : GoodIn wsX12_patch (wsV RX12 238 RX12 yX12_patchOf wsX12_patchOf) := ru_gG (ru_gV tw_6_164 tw_6_166 tw_0_32 tw_1_12 mT_X12_patchOf)
theorem gX12_fix_X12_isBody : GoodIn wsX12_fix (wsV RX12 193 RX12 yX12_isBody wsX12_isBody) := ru_gG (ru_gV tw_6_151 tw_6_153 tw_0_30 tw_1_12 mT_X12_isBody)
theorem gX12_fix_X12_within : GoodIn wsX12_fix (va_wsS RX12 186 yX12_within wsX12_within) := ru_gG (ru_gS tw_6_122 tw_6_123 tw_1_12 mT_X12_within)
theorem gX12_fix_X12_addFix : GoodIn wsX12_fix (wsV RX12 242 RX12 yX12_addFix wsX12_addFix) := ru_gG (ru_gV tw_6_181 tw_6_183 tw_0_35 tw_1_12 mT_X12_addFix)
theorem gX12_hearer_X12_isCell : GoodIn wsX12_hearer (va_wsS RX12 217 yX12_isCell wsX12_isCell) := ru_gG (ru_gS tw_6_144 tw_6_145 tw_1_12 mT_X12_isCell)
theorem gX12_wave_X12_isWave : GoodIn wsX12_wave (va_wsS RX12 249 yX12_isWave wsX12_isWave) := ru_gG (ru_gS tw_6_193 tw_6_194 tw_1_12 mT_X12_isWave)
theorem gX12_wave_X12_within : GoodIn wsX12_wave (va_wsS RX12 186 yX12_within wsX12_within) := ru_gG (ru_gS tw_6_122 tw_6_123 tw_1_12 mT_X12_within)
theorem gX12_call_X12_isBody : GoodIn wsX12_call (wsV RX12 193 RX12 yX12_isBody wsX12_isBody) := ru_gG (ru_gV tw_6_151 tw_6_153 tw_0_30 tw_1_12 mT_X12_isBody)
theorem gX12_call_X12_isWave : GoodIn wsX12_call (va_wsS RX12 249 yX12_isWave wsX12_isWave) := ru_gG (ru_gS tw_6_193 tw_6_194 tw_1_12 mT_X12_isWave)
theorem dX12_canHear_0 : decode cX12_canHear 0 = .ok (.aload_n 0, 1) := dk_0 (dk_k42 0) (dk_by (j := 0) rfl ck_X12_canHear_0_17mo rfl rfl rfl)
theorem dX12_canHear_1 : decode cX12_canHear 1 = .ok (.iload_n 1, 1) := dk_0 (dk_k27 1) (dk_by (j := 1) rfl ck_X12_canHear_0_17mo rfl rfl rfl)
theorem gX12_canHear_X12_isCall : GoodIn wsX12_canHear (wsV RX12 255 RX12 yX12_isCall wsX12_isCall) := ru_gG (ru_gV tw_6_204 tw_6_206 tw_0_36 tw_1_12 mT_X12_isCall)
theorem dX12_canHear_2 : decode cX12_canHear 2 = .ok (.invokevirtual 255, 3) := dk_2 (dk_k182 2) (dk_by (j := 2) rfl ck_X12_canHear_0_17mo rfl rfl rfl) (dk_by (j := 3) rfl ck_X12_canHear_0_17mo rfl rfl rfl) (dk_by (j := 4) rfl ck_X12_canHear_0_17mo rfl rfl rfl) (by decide)
theorem dX12_canHear_5 : decode cX12_canHear 5 = .ok (.ifCond .eq 15, 3) := dk_s (dk_k153 5) (dk_by (j := 5) rfl ck_X12_canHear_0_17mo rfl rfl rfl) (dk_by (j := 6) rfl ck_X12_canHear_0_17mo rfl rfl rfl) (dk_by (j := 7) rfl ck_X12_canHear_0_17mo rfl rfl rfl) (by decide)
theorem dX12_canHear_8 : decode cX12_canHear 8 = .ok (.iload_n 2, 1) := dk_0 (dk_k28 8) (dk_by (j := 8) rfl ck_X12_canHear_0_17mo rfl rfl rfl)
theorem dX12_canHear_9 : decode cX12_canHear 9 = .ok (.iconst 0, 1) := dk_0 (dk_k3 9) (dk_by (j := 9) rfl ck_X12_canHear_0_17mo rfl rfl rfl)
theorem dX12_canHear_10 : decode cX12_canHear 10 = .ok (.aload_n 0, 1) := dk_0 (dk_k42 10) (dk_by (j := 10) rfl ck_X12_canHear_0_17mo rfl rfl rfl)
theorem dX12_canHear_11 : decode cX12_canHear 11 = .ok (.getfield 201, 3) := dk_2 (dk_k180 11) (dk_by (j := 11) rfl ck_X12_canHear_0_17mo rfl rfl rfl) (dk_by (j := 12) rfl ck_X12_canHear_0_17mo rfl rfl rfl) (dk_by (j := 13) rfl ck_X12_canHear_0_17mo rfl rfl rfl) (by decide)
theorem gX12_canHear_X12_within : GoodIn wsX12_canHear (va_wsS RX12 186 yX12_within wsX12_within) := ru_gG (ru_gS tw_6_122 tw_6_123 tw_1_12 mT_X12_within)
theorem dX12_canHear_14 : decode cX12_canHear 14 = .ok (.invokestatic 186, 3) := dk_2 (dk_k184 14) (dk_by (j := 14) rfl ck_X12_canHear_0_17mo rfl rfl rfl) (dk_by (j := 15) rfl ck_X12_canHear_0_17mo rfl rfl rfl) (dk_by (j := 0) rfl ck_X12_canHear_1_17mo rfl rfl rfl) (by decide)
theorem dX12_canHear_17 : decode cX12_canHear 17 = .ok (.ifCond .ne 6, 3) := dk_s (dk_k154 17) (dk_by (j := 1) rfl ck_X12_canHear_1_17mo rfl rfl rfl) (dk_by (j := 2) rfl ck_X12_canHear_1_17mo rfl rfl rfl) (dk_by (j := 3) rfl ck_X12_canHear_1_17mo rfl rfl rfl) (by decide)
theorem dX12_canHear_23 : decode cX12_canHear 23 = .ok (.aload_n 0, 1) := dk_0 (dk_k42 23) (dk_by (j := 7) rfl ck_X12_canHear_1_17mo rfl rfl rfl)
theorem dX12_canHear_24 : decode cX12_canHear 24 = .ok (.getfield 74, 3) := dk_2 (dk_k180 24) (dk_by (j := 8) rfl ck_X12_canHear_1_17mo rfl rfl rfl) (dk_by (j := 9) rfl ck_X12_canHear_1_17mo rfl rfl rfl) (dk_by (j := 10) rfl ck_X12_canHear_1_17mo rfl rfl rfl) (by decide)
theorem dX12_canHear_27 : decode cX12_canHear 27 = .ok (.iload_n 1, 1) := dk_0 (dk_k27 27) (dk_by (j := 11) rfl ck_X12_canHear_1_17mo rfl rfl rfl)
theorem dX12_canHear_28 : decode cX12_canHear 28 = .ok (.iaload, 1) := dk_0 (dk_k46 28) (dk_by (j := 12) rfl ck_X12_canHear_1_17mo rfl rfl rfl)
theorem dX12_canHear_29 : decode cX12_canHear 29 = .ok (.bipush 24, 2) := dk_1 (dk_k16 29) (dk_by (j := 13) rfl ck_X12_canHear_1_17mo rfl rfl rfl) (dk_by (j := 14) rfl ck_X12_canHear_1_17mo rfl rfl rfl) (by decide)
theorem dX12_canHear_32 : decode cX12_canHear 32 = .ok (.istore_n 3, 1) := dk_0 (dk_k62 32) (dk_by (j := 0) rfl ck_X12_canHear_2_17mo rfl rfl rfl)
theorem dX12_canHear_61 : decode cX12_canHear 61 = .ok (.aload_n 0, 1) := dk_0 (dk_k42 61) (dk_by (j := 13) rfl ck_X12_canHear_3_17mo rfl rfl rfl)
theorem dX12_canHear_62 : decode cX12_canHear 62 = .ok (.aload_n 0, 1) := dk_0 (dk_k42 62) (dk_by (j := 14) rfl ck_X12_canHear_3_17mo rfl rfl rfl)
theorem dX12_canHear_63 : decode cX12_canHear 63 = .ok (.getfield 68, 3) := dk_2 (dk_k180 63) (dk_by (j := 15) rfl ck_X12_canHear_3_17mo rfl rfl rfl) (dk_by (j := 0) rfl ck_X12_canHear_4_17mo rfl rfl rfl) (dk_by (j := 1) rfl ck_X12_canHear_4_17mo rfl rfl rfl) (by decide)
theorem dX12_canHear_66 : decode cX12_canHear 66 = .ok (.iload_n 1, 1) := dk_0 (dk_k27 66) (dk_by (j := 2) rfl ck_X12_canHear_4_17mo rfl rfl rfl)
theorem dX12_canHear_67 : decode cX12_canHear 67 = .ok (.iaload, 1) := dk_0 (dk_k46 67) (dk_by (j := 3) rfl ck_X12_canHear_4_17mo rfl rfl rfl)
theorem dX12_canHear_68 : decode cX12_canHear 68 = .ok (.aload_n 0, 1) := dk_0 (dk_k42 68) (dk_by (j := 4) rfl ck_X12_canHear_4_17mo rfl rfl rfl)
theorem dX12_canHear_69 : decode cX12_canHear 69 = .ok (.getfield 74, 3) := dk_2 (dk_k180 69) (dk_by (j := 5) rfl ck_X12_canHear_4_17mo rfl rfl rfl) (dk_by (j := 6) rfl ck_X12_canHear_4_17mo rfl rfl rfl) (dk_by (j := 7) rfl ck_X12_canHear_4_17mo rfl rfl rfl) (by decide)
theorem dX12_canHear_72 : decode cX12_canHear 72 = .ok (.iload_n 1, 1) := dk_0 (dk_k27 72) (dk_by (j := 8) rfl ck_X12_canHear_4_17mo rfl rfl rfl)
theorem dX12_canHear_73 : decode cX12_canHear 73 = .ok (.iaload, 1) := dk_0 (dk_k46 73) (dk_by (j := 9) rfl ck_X12_canHear_4_17mo rfl rfl rfl)
theorem dX12_canHear_74 : decode cX12_canHear 74 = .ok (.iload_n 2, 1) := dk_0 (dk_k28 74) (dk_by (j := 10) rfl ck_X12_canHear_4_17mo rfl rfl rfl)
theorem gX12_canHear_X12_patchOf : GoodIn wsX12_canHear (wsV RX12 238 RX12 yX12_patchOf wsX12_patchOf) := ru_gG (ru_gV tw_6_164 tw_6_166 tw_0_32 tw_1_12 mT_X12_patchOf)
theorem dX12_canHear_75 : decode cX12_canHear 75 = .ok (.invokevirtual 238, 3) := dk_2 (dk_k182 75) (dk_by (j := 11) rfl ck_X12_canHear_4_17mo rfl rfl rfl) (dk_by (j := 12) rfl ck_X12_canHear_4_17mo rfl rfl rfl) (dk_by (j := 13) rfl ck_X12_canHear_4_17mo rfl rfl rfl) (by decide)
theorem dX12_canHear_80 : decode cX12_canHear 80 = .ok (.iconst 0, 1) := dk_0 (dk_k3 80) (dk_by (j := 0) rfl ck_X12_canHear_5_17mo rfl rfl rfl)
theorem dX12_canHear_83 : decode cX12_canHear 83 = .ok (.iconst 0, 1) := dk_0 (dk_k3 83) (dk_by (j := 3) rfl ck_X12_canHear_5_17mo rfl rfl rfl)
theorem dX12_canHear_88 : decode cX12_canHear 88 = .ok (.aload_n 0, 1) := dk_0 (dk_k42 88) (dk_by (j := 8) rfl ck_X12_canHear_5_17mo rfl rfl rfl)
theorem dX12_canHear_89 : decode cX12_canHear 89 = .ok (.getfield 246, 3) := dk_2 (dk_k180 89) (dk_by (j := 9) rfl ck_X12_canHear_5_17mo rfl rfl rfl) (dk_by (j := 10) rfl ck_X12_canHear_5_17mo rfl rfl rfl) (dk_by (j := 11) rfl ck_X12_canHear_5_17mo rfl rfl rfl) (by decide)
theorem dX12_canHear_92 : decode cX12_canHear 92 = .ok (.if_icmp .ge 82, 3) := dk_s (dk_k162 92) (dk_by (j := 12) rfl ck_X12_canHear_5_17mo rfl rfl rfl) (dk_by (j := 13) rfl ck_X12_canHear_5_17mo rfl rfl rfl) (dk_by (j := 14) rfl ck_X12_canHear_5_17mo rfl rfl rfl) (by decide)
theorem dX12_canHear_176 : decode cX12_canHear 176 = .ok (.ireturn, 1) := dk_0 (dk_k172 176) (dk_by (j := 0) rfl ck_X12_canHear_11_17mo rfl rfl rfl)
theorem dX12_canHear_95 : decode cX12_canHear 95 = .ok (.iconst 0, 1) := dk_0 (dk_k3 95) (dk_by (j := 15) rfl ck_X12_canHear_5_17mo rfl rfl rfl)
theorem dX12_canHear_100 : decode cX12_canHear 100 = .ok (.bipush 64, 2) := dk_1 (dk_k16 100) (dk_by (j := 4) rfl ck_X12_canHear_6_17mo rfl rfl rfl) (dk_by (j := 5) rfl ck_X12_canHear_6_17mo rfl rfl rfl) (by decide)
theorem dX12_canHear_102 : decode cX12_canHear 102 = .ok (.if_icmp .ge 66, 3) := dk_s (dk_k162 102) (dk_by (j := 6) rfl ck_X12_canHear_6_17mo rfl rfl rfl) (dk_by (j := 7) rfl ck_X12_canHear_6_17mo rfl rfl rfl) (dk_by (j := 8) rfl ck_X12_canHear_6_17mo rfl rfl rfl) (by decide)
theorem dX12_canHear_171 : decode cX12_canHear 171 = .ok (.goto (-85), 3) := dk_s (dk_k167 171) (dk_by (j := 11) rfl ck_X12_canHear_10_17mo rfl rfl rfl) (dk_by (j := 12) rfl ck_X12_canHear_10_17mo rfl rfl rfl) (dk_by (j := 13) rfl ck_X12_canHear_10_17mo rfl rfl rfl) (by decide)
theorem dX12_canHear_112 : decode cX12_canHear 112 = .ok (.lconst 1, 1) := dk_0 (dk_k10 112) (dk_by (j := 0) rfl ck_X12_canHear_7_17mo rfl rfl rfl)
theorem dX12_canHear_113 : decode cX12_canHear 113 = .ok (.land, 1) := dk_0 (dk_k127 113) (dk_by (j := 1) rfl ck_X12_canHear_7_17mo rfl rfl rfl)
theorem dX12_canHear_114 : decode cX12_canHear 114 = .ok (.lconst 1, 1) := dk_0 (dk_k10 114) (dk_by (j := 2) rfl ck_X12_canHear_7_17mo rfl rfl rfl)
theorem dX12_canHear_115 : decode cX12_canHear 115 = .ok (.lcmp, 1) := dk_0 (dk_k148 115) (dk_by (j := 3) rfl ck_X12_canHear_7_17mo rfl rfl rfl)
theorem dX12_canHear_116 : decode cX12_canHear 116 = .ok (.ifCond .ne 42, 3) := dk_s (dk_k154 116) (dk_by (j := 4) rfl ck_X12_canHear_7_17mo rfl rfl rfl) (dk_by (j := 5) rfl ck_X12_canHear_7_17mo rfl rfl rfl) (dk_by (j := 6) rfl ck_X12_canHear_7_17mo rfl rfl rfl) (by decide)
theorem dX12_canHear_158 : decode cX12_canHear 158 = .ok (.iconst 0, 1) := dk_0 (dk_k3 158) (dk_by (j := 14) rfl ck_X12_canHear_9_17mo rfl rfl rfl)
theorem dX12_canHear_165 : decode cX12_canHear 165 = .ok (.goto (-67), 3) := dk_s (dk_k167 165) (dk_by (j := 5) rfl ck_X12_canHear_10_17mo rfl rfl rfl) (dk_by (j := 6) rfl ck_X12_canHear_10_17mo rfl rfl rfl) (dk_by (j := 7) rfl ck_X12_canHear_10_17mo rfl rfl rfl) (by decide)
theorem dX12_canHear_121 : decode cX12_canHear 121 = .ok (.aload_n 0, 1) := dk_0 (dk_k42 121) (dk_by (j := 9) rfl ck_X12_canHear_7_17mo rfl rfl rfl)
theorem dX12_canHear_122 : decode cX12_canHear 122 = .ok (.getfield 59, 3) := dk_2 (dk_k180 122) (dk_by (j := 10) rfl ck_X12_canHear_7_17mo rfl rfl rfl) (dk_by (j := 11) rfl ck_X12_canHear_7_17mo rfl rfl rfl) (dk_by (j := 12) rfl ck_X12_canHear_7_17mo rfl rfl rfl) (by decide)
theorem dX12_canHear_127 : decode cX12_canHear 127 = .ok (.iaload, 1) := dk_0 (dk_k46 127) (dk_by (j := 15) rfl ck_X12_canHear_7_17mo rfl rfl rfl)
theorem gX12_canHear_X12_apart : GoodIn wsX12_canHear (va_wsS RX12 258 yX12_apart wsX12_apart) := ru_gG (ru_gS tw_6_208 tw_6_209 tw_1_12 mT_X12_apart)
theorem dX12_canHear_128 : decode cX12_canHear 128 = .ok (.invokestatic 258, 3) := dk_2 (dk_k184 128) (dk_by (j := 0) rfl ck_X12_canHear_8_17mo rfl rfl rfl) (dk_by (j := 1) rfl ck_X12_canHear_8_17mo rfl rfl rfl) (dk_by (j := 2) rfl ck_X12_canHear_8_17mo rfl rfl rfl) (by decide)
theorem dX12_canHear_131 : decode cX12_canHear 131 = .ok (.aload_n 0, 1) := dk_0 (dk_k42 131) (dk_by (j := 3) rfl ck_X12_canHear_8_17mo rfl rfl rfl)
theorem dX12_canHear_132 : decode cX12_canHear 132 = .ok (.getfield 62, 3) := dk_2 (dk_k180 132) (dk_by (j := 4) rfl ck_X12_canHear_8_17mo rfl rfl rfl) (dk_by (j := 5) rfl ck_X12_canHear_8_17mo rfl rfl rfl) (dk_by (j := 6) rfl ck_X12_canHear_8_17mo rfl rfl rfl) (by decide)
theorem dX12_canHear_137 : decode cX12_canHear 137 = .ok (.iaload, 1) := dk_0 (dk_k46 137) (dk_by (j := 9) rfl ck_X12_canHear_8_17mo rfl rfl rfl)
theorem dX12_canHear_138 : decode cX12_canHear 138 = .ok (.aload_n 0, 1) := dk_0 (dk_k42 138) (dk_by (j := 10) rfl ck_X12_canHear_8_17mo rfl rfl rfl)
theorem dX12_canHear_139 : decode cX12_canHear 139 = .ok (.getfield 65, 3) := dk_2 (dk_k180 139) (dk_by (j := 11) rfl ck_X12_canHear_8_17mo rfl rfl rfl) (dk_by (j := 12) rfl ck_X12_canHear_8_17mo rfl rfl rfl) (dk_by (j := 13) rfl ck_X12_canHear_8_17mo rfl rfl rfl) (by decide)
theorem dX12_canHear_144 : decode cX12_canHear 144 = .ok (.iaload, 1) := dk_0 (dk_k46 144) (dk_by (j := 0) rfl ck_X12_canHear_9_17mo rfl rfl rfl)
theorem dX12_canHear_145 : decode cX12_canHear 145 = .ok (.invokestatic 186, 3) := dk_2 (dk_k184 145) (dk_by (j := 1) rfl ck_X12_canHear_9_17mo rfl rfl rfl) (dk_by (j := 2) rfl ck_X12_canHear_9_17mo rfl rfl rfl) (dk_by (j := 3) rfl ck_X12_canHear_9_17mo rfl rfl rfl) (by decide)
theorem dX12_canHear_148 : decode cX12_canHear 148 = .ok (.ifCond .eq 10, 3) := dk_s (dk_k153 148) (dk_by (j := 4) rfl ck_X12_canHear_9_17mo rfl rfl rfl) (dk_by (j := 5) rfl ck_X12_canHear_9_17mo rfl rfl rfl) (dk_by (j := 6) rfl ck_X12_canHear_9_17mo rfl rfl rfl) (by decide)
theorem dX12_canHear_151 : decode cX12_canHear 151 = .ok (.iconst 1, 1) := dk_0 (dk_k4 151) (dk_by (j := 7) rfl ck_X12_canHear_9_17mo rfl rfl rfl)
theorem dX12_canHear_155 : decode cX12_canHear 155 = .ok (.goto 4, 3) := dk_s (dk_k167 155) (dk_by (j := 11) rfl ck_X12_canHear_9_17mo rfl rfl rfl) (dk_by (j := 12) rfl ck_X12_canHear_9_17mo rfl rfl rfl) (dk_by (j := 13) rfl ck_X12_canHear_9_17mo rfl rfl rfl) (by decide)
theorem dX12_canHear_33 : decode cX12_canHear 33 = .ok (.iconst 2, 1) := dk_0 (dk_k5 33) (dk_by (j := 1) rfl ck_X12_canHear_2_17mo rfl rfl rfl)
theorem dX12_canHear_34 : decode cX12_canHear 34 = .ok (.aload_n 0, 1) := dk_0 (dk_k42 34) (dk_by (j := 2) rfl ck_X12_canHear_2_17mo rfl rfl rfl)
theorem dX12_canHear_35 : decode cX12_canHear 35 = .ok (.getfield 71, 3) := dk_2 (dk_k180 35) (dk_by (j := 3) rfl ck_X12_canHear_2_17mo rfl rfl rfl) (dk_by (j := 4) rfl ck_X12_canHear_2_17mo rfl rfl rfl) (dk_by (j := 5) rfl ck_X12_canHear_2_17mo rfl rfl rfl) (by decide)
theorem dX12_canHear_38 : decode cX12_canHear 38 = .ok (.iload_n 1, 1) := dk_0 (dk_k27 38) (dk_by (j := 6) rfl ck_X12_canHear_2_17mo rfl rfl rfl)
theorem dX12_canHear_39 : decode cX12_canHear 39 = .ok (.iaload, 1) := dk_0 (dk_k46 39) (dk_by (j := 7) rfl ck_X12_canHear_2_17mo rfl rfl rfl)
theorem dX12_canHear_41 : decode cX12_canHear 41 = .ok (.iload_n 3, 1) := dk_0 (dk_k29 41) (dk_by (j := 9) rfl ck_X12_canHear_2_17mo rfl rfl rfl)
theorem dX12_canHear_42 : decode cX12_canHear 42 = .ok (.bipush 6, 2) := dk_1 (dk_k16 42) (dk_by (j := 10) rfl ck_X12_canHear_2_17mo rfl rfl rfl) (dk_by (j := 11) rfl ck_X12_canHear_2_17mo rfl rfl rfl) (by decide)
theorem dX12_canHear_44 : decode cX12_canHear 44 = .ok (.if_icmp .lt 9, 3) := dk_s (dk_k161 44) (dk_by (j := 12) rfl ck_X12_canHear_2_17mo rfl rfl rfl) (dk_by (j := 13) rfl ck_X12_canHear_2_17mo rfl rfl rfl) (dk_by (j := 14) rfl ck_X12_canHear_2_17mo rfl rfl rfl) (by decide)
theorem dX12_canHear_53 : decode cX12_canHear 53 = .ok (.iconst 1, 1) := dk_0 (dk_k4 53) (dk_by (j := 5) rfl ck_X12_canHear_3_17mo rfl rfl rfl)
theorem dX12_canHear_54 : decode cX12_canHear 54 = .ok (.goto 4, 3) := dk_s (dk_k167 54) (dk_by (j := 6) rfl ck_X12_canHear_3_17mo rfl rfl rfl) (dk_by (j := 7) rfl ck_X12_canHear_3_17mo rfl rfl rfl) (dk_by (j := 8) rfl ck_X12_canHear_3_17mo rfl rfl rfl) (by decide)
theorem dX12_canHear_58 : decode cX12_canHear 58 = .ok (.iadd, 1) := dk_0 (dk_k96 58) (dk_by (j := 10) rfl ck_X12_canHear_3_17mo rfl rfl rfl)
theorem dX12_canHear_47 : decode cX12_canHear 47 = .ok (.iload_n 3, 1) := dk_0 (dk_k29 47) (dk_by (j := 15) rfl ck_X12_canHear_2_17mo rfl rfl rfl)
theorem dX12_canHear_48 : decode cX12_canHear 48 = .ok (.bipush 17, 2) := dk_1 (dk_k16 48) (dk_by (j := 0) rfl ck_X12_canHear_3_17mo rfl rfl rfl) (dk_by (j := 1) rfl ck_X12_canHear_3_17mo rfl rfl rfl) (by decide)
theorem dX12_canHear_50 : decode cX12_canHear 50 = .ok (.if_icmp .le 7, 3) := dk_s (dk_k164 50) (dk_by (j := 2) rfl ck_X12_canHear_3_17mo rfl rfl rfl) (dk_by (j := 3) rfl ck_X12_canHear_3_17mo rfl rfl rfl) (dk_by (j := 4) rfl ck_X12_canHear_3_17mo rfl rfl rfl) (by decide)
theorem dX12_canHear_57 : decode cX12_canHear 57 = .ok (.iconst 0, 1) := dk_0 (dk_k3 57) (dk_by (j := 9) rfl ck_X12_canHear_3_17mo rfl rfl rfl)
theorem dX12_canHear_20 : decode cX12_canHear 20 = .ok (.bipush (-2), 2) := dk_1 (dk_k16 20) (dk_by (j := 4) rfl ck_X12_canHear_1_17mo rfl rfl rfl) (dk_by (j := 5) rfl ck_X12_canHear_1_17mo rfl rfl rfl) (by decide)
theorem dX12_canHear_22 : decode cX12_canHear 22 = .ok (.ireturn, 1) := dk_0 (dk_k172 22) (dk_by (j := 6) rfl ck_X12_canHear_1_17mo rfl rfl rfl)
theorem gX12_part_X12_isCall : GoodIn wsX12_part (wsV RX12 255 RX12 yX12_isCall wsX12_isCall) := ru_gG (ru_gV tw_6_204 tw_6_206 tw_0_36 tw_1_12 mT_X12_isCall)
theorem gX12_part_X12_within : GoodIn wsX12_part (va_wsS RX12 186 yX12_within wsX12_within) := ru_gG (ru_gS tw_6_122 tw_6_123 tw_1_12 mT_X12_within)
theorem gX12_word_X12_isCall : GoodIn wsX12_word (wsV RX12 255 RX12 yX12_isCall wsX12_isCall) := ru_gG (ru_gV tw_6_204 tw_6_206 tw_0_36 tw_1_12 mT_X12_isCall)
theorem gX12_word_X12_within : GoodIn wsX12_word (va_wsS RX12 186 yX12_within wsX12_within) := ru_gG (ru_gS tw_6_122 tw_6_123 tw_1_12 mT_X12_within)
theorem gX12_word_X12_wordOf : GoodIn wsX12_word (va_wsS RX12 268 yX12_wordOf wsX12_wordOf) := ru_gG (ru_gS tw_6_223 tw_6_224 tw_1_12 mT_X12_wordOf)
theorem gX12_isTrue_X12_wordOf : GoodIn wsX12_isTrue (va_wsS RX12 268 yX12_wordOf wsX12_wordOf) := ru_gG (ru_gS tw_6_223 tw_6_224 tw_1_12 mT_X12_wordOf)
theorem gX12_flown_X12_isSeeker : GoodIn wsX12_flown (wsV RX12 275 RX12 yX12_isSeeker wsX12_isSeeker) := ru_gG (ru_gV tw_6_239 tw_7_1 tw_0_37 tw_1_12 mT_X12_isSeeker)
theorem gX12_flown_X12_isBody : GoodIn wsX12_flown (wsV RX12 193 RX12 yX12_isBody wsX12_isBody) := ru_gG (ru_gV tw_6_151 tw_6_153 tw_0_30 tw_1_12 mT_X12_isBody)
theorem gX12_flown_X12_fogIn : GoodIn wsX12_flown (wsV RX12 278 RX12 yX12_fogIn wsX12_fogIn) := ru_gG (ru_gV tw_7_3 tw_7_5 tw_0_38 tw_1_12 mT_X12_fogIn)
theorem dX12_weigh_0 : decode cX12_weigh 0 = .ok (.aload_n 0, 1) := dk_0 (dk_k42 0) (dk_by (j := 0) rfl ck_X12_weigh_0_17mo rfl rfl rfl)
theorem dX12_weigh_1 : decode cX12_weigh 1 = .ok (.iload_n 1, 1) := dk_0 (dk_k27 1) (dk_by (j := 1) rfl ck_X12_weigh_0_17mo rfl rfl rfl)
theorem dX12_weigh_2 : decode cX12_weigh 2 = .ok (.aload_n 0, 1) := dk_0 (dk_k42 2) (dk_by (j := 2) rfl ck_X12_weigh_0_17mo rfl rfl rfl)
theorem dX12_weigh_3 : decode cX12_weigh 3 = .ok (.getfield 201, 3) := dk_2 (dk_k180 3) (dk_by (j := 3) rfl ck_X12_weigh_0_17mo rfl rfl rfl) (dk_by (j := 4) rfl ck_X12_weigh_0_17mo rfl rfl rfl) (dk_by (j := 5) rfl ck_X12_weigh_0_17mo rfl rfl rfl) (by decide)
theorem dX12_weigh_6 : decode cX12_weigh 6 = .ok (.aload_n 0, 1) := dk_0 (dk_k42 6) (dk_by (j := 6) rfl ck_X12_weigh_0_17mo rfl rfl rfl)
theorem dX12_weigh_7 : decode cX12_weigh 7 = .ok (.getfield 201, 3) := dk_2 (dk_k180 7) (dk_by (j := 7) rfl ck_X12_weigh_0_17mo rfl rfl rfl) (dk_by (j := 8) rfl ck_X12_weigh_0_17mo rfl rfl rfl) (dk_by (j := 9) rfl ck_X12_weigh_0_17mo rfl rfl rfl) (by decide)
theorem gX12_weigh_X12_patchOf : GoodIn wsX12_weigh (wsV RX12 238 RX12 yX12_patchOf wsX12_patchOf) := ru_gG (ru_gV tw_6_164 tw_6_166 tw_0_32 tw_1_12 mT_X12_patchOf)
theorem dX12_weigh_10 : decode cX12_weigh 10 = .ok (.invokevirtual 238, 3) := dk_2 (dk_k182 10) (dk_by (j := 10) rfl ck_X12_weigh_0_17mo rfl rfl rfl) (dk_by (j := 11) rfl ck_X12_weigh_0_17mo rfl rfl rfl) (dk_by (j := 12) rfl ck_X12_weigh_0_17mo rfl rfl rfl) (by decide)
theorem dX12_weigh_14 : decode cX12_weigh 14 = .ok (.aload_n 0, 1) := dk_0 (dk_k42 14) (dk_by (j := 14) rfl ck_X12_weigh_0_17mo rfl rfl rfl)
theorem dX12_weigh_15 : decode cX12_weigh 15 = .ok (.lconst 0, 1) := dk_0 (dk_k9 15) (dk_by (j := 15) rfl ck_X12_weigh_0_17mo rfl rfl rfl)
theorem dX12_weigh_16 : decode cX12_weigh 16 = .ok (.putfield 281, 3) := dk_2 (dk_k181 16) (dk_by (j := 0) rfl ck_X12_weigh_1_17mo rfl rfl rfl) (dk_by (j := 1) rfl ck_X12_weigh_1_17mo rfl rfl rfl) (dk_by (j := 2) rfl ck_X12_weigh_1_17mo rfl rfl rfl) (by decide)
theorem dX12_weigh_19 : decode cX12_weigh 19 = .ok (.iconst 0, 1) := dk_0 (dk_k3 19) (dk_by (j := 3) rfl ck_X12_weigh_1_17mo rfl rfl rfl)
theorem dX12_weigh_24 : decode cX12_weigh 24 = .ok (.bipush 64, 2) := dk_1 (dk_k16 24) (dk_by (j := 8) rfl ck_X12_weigh_1_17mo rfl rfl rfl) (dk_by (j := 9) rfl ck_X12_weigh_1_17mo rfl rfl rfl) (by decide)
theorem dX12_weigh_26 : decode cX12_weigh 26 = .ok (.if_icmp .ge 137, 3) := dk_s (dk_k162 26) (dk_by (j := 10) rfl ck_X12_weigh_1_17mo rfl rfl rfl) (dk_by (j := 11) rfl ck_X12_weigh_1_17mo rfl rfl rfl) (dk_by (j := 12) rfl ck_X12_weigh_1_17mo rfl rfl rfl) (by decide)
theorem dX12_weigh_163 : decode cX12_weigh 163 = .ok (.return_, 1) := dk_0 (dk_k177 163) (dk_by (j := 3) rfl ck_X12_weigh_10_17mo rfl rfl rfl)
theorem dX12_weigh_47 : decode cX12_weigh 47 = .ok (.iconst 0, 1) := dk_0 (dk_k3 47) (dk_by (j := 15) rfl ck_X12_weigh_2_17mo rfl rfl rfl)
theorem dX12_weigh_52 : decode cX12_weigh 52 = .ok (.bipush 6, 2) := dk_1 (dk_k16 52) (dk_by (j := 4) rfl ck_X12_weigh_3_17mo rfl rfl rfl) (dk_by (j := 5) rfl ck_X12_weigh_3_17mo rfl rfl rfl) (by decide)
theorem dX12_weigh_54 : decode cX12_weigh 54 = .ok (.if_icmp .ge 83, 3) := dk_s (dk_k162 54) (dk_by (j := 6) rfl ck_X12_weigh_3_17mo rfl rfl rfl) (dk_by (j := 7) rfl ck_X12_weigh_3_17mo rfl rfl rfl) (dk_by (j := 8) rfl ck_X12_weigh_3_17mo rfl rfl rfl) (by decide)
theorem dX12_weigh_137 : decode cX12_weigh 137 = .ok (.aload_n 0, 1) := dk_0 (dk_k42 137) (dk_by (j := 9) rfl ck_X12_weigh_8_17mo rfl rfl rfl)
theorem dX12_weigh_138 : decode cX12_weigh 138 = .ok (.getfield 134, 3) := dk_2 (dk_k180 138) (dk_by (j := 10) rfl ck_X12_weigh_8_17mo rfl rfl rfl) (dk_by (j := 11) rfl ck_X12_weigh_8_17mo rfl rfl rfl) (dk_by (j := 12) rfl ck_X12_weigh_8_17mo rfl rfl rfl) (by decide)
theorem dX12_weigh_146 : decode cX12_weigh 146 = .ok (.aload_n 0, 1) := dk_0 (dk_k42 146) (dk_by (j := 2) rfl ck_X12_weigh_9_17mo rfl rfl rfl)
theorem dX12_weigh_147 : decode cX12_weigh 147 = .ok (.dup, 1) := dk_0 (dk_k89 147) (dk_by (j := 3) rfl ck_X12_weigh_9_17mo rfl rfl rfl)
theorem dX12_weigh_148 : decode cX12_weigh 148 = .ok (.getfield 281, 3) := dk_2 (dk_k180 148) (dk_by (j := 4) rfl ck_X12_weigh_9_17mo rfl rfl rfl) (dk_by (j := 5) rfl ck_X12_weigh_9_17mo rfl rfl rfl) (dk_by (j := 6) rfl ck_X12_weigh_9_17mo rfl rfl rfl) (by decide)
theorem dX12_weigh_154 : decode cX12_weigh 154 = .ok (.putfield 281, 3) := dk_2 (dk_k181 154) (dk_by (j := 10) rfl ck_X12_weigh_9_17mo rfl rfl rfl) (dk_by (j := 11) rfl ck_X12_weigh_9_17mo rfl rfl rfl) (dk_by (j := 12) rfl ck_X12_weigh_9_17mo rfl rfl rfl) (by decide)
theorem dX12_weigh_160 : decode cX12_weigh 160 = .ok (.goto (-138), 3) := dk_s (dk_k167 160) (dk_by (j := 0) rfl ck_X12_weigh_10_17mo rfl rfl rfl) (dk_by (j := 1) rfl ck_X12_weigh_10_17mo rfl rfl rfl) (dk_by (j := 2) rfl ck_X12_weigh_10_17mo rfl rfl rfl) (by decide)
theorem dX12_weigh_106 : decode cX12_weigh 106 = .ok (.ifCond .eq 19, 3) := dk_s (dk_k153 106) (dk_by (j := 10) rfl ck_X12_weigh_6_17mo rfl rfl rfl) (dk_by (j := 11) rfl ck_X12_weigh_6_17mo rfl rfl rfl) (dk_by (j := 12) rfl ck_X12_weigh_6_17mo rfl rfl rfl) (by decide)
theorem dX12_weigh_125 : decode cX12_weigh 125 = .ok (.ldc2_w 285, 3) := dk_2 (dk_k20 125) (dk_by (j := 13) rfl ck_X12_weigh_7_17mo rfl rfl rfl) (dk_by (j := 14) rfl ck_X12_weigh_7_17mo rfl rfl rfl) (dk_by (j := 15) rfl ck_X12_weigh_7_17mo rfl rfl rfl) (by decide)
theorem dX12_weigh_134 : decode cX12_weigh 134 = .ok (.goto (-84), 3) := dk_s (dk_k167 134) (dk_by (j := 6) rfl ck_X12_weigh_8_17mo rfl rfl rfl) (dk_by (j := 7) rfl ck_X12_weigh_8_17mo rfl rfl rfl) (dk_by (j := 8) rfl ck_X12_weigh_8_17mo rfl rfl rfl) (by decide)
theorem dX12_weigh_109 : decode cX12_weigh 109 = .ok (.aload_n 0, 1) := dk_0 (dk_k42 109) (dk_by (j := 13) rfl ck_X12_weigh_6_17mo rfl rfl rfl)
theorem dX12_weigh_110 : decode cX12_weigh 110 = .ok (.getfield 95, 3) := dk_2 (dk_k180 110) (dk_by (j := 14) rfl ck_X12_weigh_6_17mo rfl rfl rfl) (dk_by (j := 15) rfl ck_X12_weigh_6_17mo rfl rfl rfl) (dk_by (j := 0) rfl ck_X12_weigh_7_17mo rfl rfl rfl) (by decide)
theorem dX12_weigh_113 : decode cX12_weigh 113 = .ok (.bipush 6, 2) := dk_1 (dk_k16 113) (dk_by (j := 1) rfl ck_X12_weigh_7_17mo rfl rfl rfl) (dk_by (j := 2) rfl ck_X12_weigh_7_17mo rfl rfl rfl) (by decide)
theorem dX12_weigh_115 : decode cX12_weigh 115 = .ok (.iload_n 1, 1) := dk_0 (dk_k27 115) (dk_by (j := 3) rfl ck_X12_weigh_7_17mo rfl rfl rfl)
theorem dX12_weigh_119 : decode cX12_weigh 119 = .ok (.iadd, 1) := dk_0 (dk_k96 119) (dk_by (j := 7) rfl ck_X12_weigh_7_17mo rfl rfl rfl)
theorem dX12_weigh_120 : decode cX12_weigh 120 = .ok (.iaload, 1) := dk_0 (dk_k46 120) (dk_by (j := 8) rfl ck_X12_weigh_7_17mo rfl rfl rfl)
theorem dX12_weigh_121 : decode cX12_weigh 121 = .ok (.i2l, 1) := dk_0 (dk_k133 121) (dk_by (j := 9) rfl ck_X12_weigh_7_17mo rfl rfl rfl)
theorem dX12_weigh_122 : decode cX12_weigh 122 = .ok (.goto 6, 3) := dk_s (dk_k167 122) (dk_by (j := 10) rfl ck_X12_weigh_7_17mo rfl rfl rfl) (dk_by (j := 11) rfl ck_X12_weigh_7_17mo rfl rfl rfl) (dk_by (j := 12) rfl ck_X12_weigh_7_17mo rfl rfl rfl) (by decide)
theorem dX12_weigh_59 : decode cX12_weigh 59 = .ok (.aload_n 0, 1) := dk_0 (dk_k42 59) (dk_by (j := 11) rfl ck_X12_weigh_3_17mo rfl rfl rfl)
theorem dX12_weigh_60 : decode cX12_weigh 60 = .ok (.getfield 98, 3) := dk_2 (dk_k180 60) (dk_by (j := 12) rfl ck_X12_weigh_3_17mo rfl rfl rfl) (dk_by (j := 13) rfl ck_X12_weigh_3_17mo rfl rfl rfl) (dk_by (j := 14) rfl ck_X12_weigh_3_17mo rfl rfl rfl) (by decide)
theorem dX12_weigh_63 : decode cX12_weigh 63 = .ok (.iload_n 1, 1) := dk_0 (dk_k27 63) (dk_by (j := 15) rfl ck_X12_weigh_3_17mo rfl rfl rfl)
theorem dX12_weigh_64 : decode cX12_weigh 64 = .ok (.iaload, 1) := dk_0 (dk_k46 64) (dk_by (j := 0) rfl ck_X12_weigh_4_17mo rfl rfl rfl)
theorem dX12_weigh_65 : decode cX12_weigh 65 = .ok (.if_icmp .ge 34, 3) := dk_s (dk_k162 65) (dk_by (j := 1) rfl ck_X12_weigh_4_17mo rfl rfl rfl) (dk_by (j := 2) rfl ck_X12_weigh_4_17mo rfl rfl rfl) (dk_by (j := 3) rfl ck_X12_weigh_4_17mo rfl rfl rfl) (by decide)
theorem dX12_weigh_99 : decode cX12_weigh 99 = .ok (.iconst 0, 1) := dk_0 (dk_k3 99) (dk_by (j := 3) rfl ck_X12_weigh_6_17mo rfl rfl rfl)
theorem dX12_weigh_68 : decode cX12_weigh 68 = .ok (.aload_n 0, 1) := dk_0 (dk_k42 68) (dk_by (j := 4) rfl ck_X12_weigh_4_17mo rfl rfl rfl)
theorem dX12_weigh_69 : decode cX12_weigh 69 = .ok (.getfield 89, 3) := dk_2 (dk_k180 69) (dk_by (j := 5) rfl ck_X12_weigh_4_17mo rfl rfl rfl) (dk_by (j := 6) rfl ck_X12_weigh_4_17mo rfl rfl rfl) (dk_by (j := 7) rfl ck_X12_weigh_4_17mo rfl rfl rfl) (by decide)
theorem dX12_weigh_72 : decode cX12_weigh 72 = .ok (.aload_n 0, 1) := dk_0 (dk_k42 72) (dk_by (j := 8) rfl ck_X12_weigh_4_17mo rfl rfl rfl)
theorem dX12_weigh_73 : decode cX12_weigh 73 = .ok (.getfield 92, 3) := dk_2 (dk_k180 73) (dk_by (j := 9) rfl ck_X12_weigh_4_17mo rfl rfl rfl) (dk_by (j := 10) rfl ck_X12_weigh_4_17mo rfl rfl rfl) (dk_by (j := 11) rfl ck_X12_weigh_4_17mo rfl rfl rfl) (by decide)
theorem dX12_weigh_76 : decode cX12_weigh 76 = .ok (.bipush 6, 2) := dk_1 (dk_k16 76) (dk_by (j := 12) rfl ck_X12_weigh_4_17mo rfl rfl rfl) (dk_by (j := 13) rfl ck_X12_weigh_4_17mo rfl rfl rfl) (by decide)
theorem dX12_weigh_78 : decode cX12_weigh 78 = .ok (.iload_n 1, 1) := dk_0 (dk_k27 78) (dk_by (j := 14) rfl ck_X12_weigh_4_17mo rfl rfl rfl)
theorem dX12_weigh_82 : decode cX12_weigh 82 = .ok (.iadd, 1) := dk_0 (dk_k96 82) (dk_by (j := 2) rfl ck_X12_weigh_5_17mo rfl rfl rfl)
theorem dX12_weigh_83 : decode cX12_weigh 83 = .ok (.iaload, 1) := dk_0 (dk_k46 83) (dk_by (j := 3) rfl ck_X12_weigh_5_17mo rfl rfl rfl)
theorem dX12_weigh_88 : decode cX12_weigh 88 = .ok (.lconst 1, 1) := dk_0 (dk_k10 88) (dk_by (j := 8) rfl ck_X12_weigh_5_17mo rfl rfl rfl)
theorem dX12_weigh_89 : decode cX12_weigh 89 = .ok (.land, 1) := dk_0 (dk_k127 89) (dk_by (j := 9) rfl ck_X12_weigh_5_17mo rfl rfl rfl)
theorem dX12_weigh_90 : decode cX12_weigh 90 = .ok (.lconst 1, 1) := dk_0 (dk_k10 90) (dk_by (j := 10) rfl ck_X12_weigh_5_17mo rfl rfl rfl)
theorem dX12_weigh_91 : decode cX12_weigh 91 = .ok (.lcmp, 1) := dk_0 (dk_k148 91) (dk_by (j := 11) rfl ck_X12_weigh_5_17mo rfl rfl rfl)
theorem dX12_weigh_92 : decode cX12_weigh 92 = .ok (.ifCond .ne 7, 3) := dk_s (dk_k154 92) (dk_by (j := 12) rfl ck_X12_weigh_5_17mo rfl rfl rfl) (dk_by (j := 13) rfl ck_X12_weigh_5_17mo rfl rfl rfl) (dk_by (j := 14) rfl ck_X12_weigh_5_17mo rfl rfl rfl) (by decide)
theorem dX12_weigh_95 : decode cX12_weigh 95 = .ok (.iconst 1, 1) := dk_0 (dk_k4 95) (dk_by (j := 15) rfl ck_X12_weigh_5_17mo rfl rfl rfl)
theorem dX12_weigh_96 : decode cX12_weigh 96 = .ok (.goto 4, 3) := dk_s (dk_k167 96) (dk_by (j := 0) rfl ck_X12_weigh_6_17mo rfl rfl rfl) (dk_by (j := 1) rfl ck_X12_weigh_6_17mo rfl rfl rfl) (dk_by (j := 2) rfl ck_X12_weigh_6_17mo rfl rfl rfl) (by decide)
theorem dX12_weigh_33 : decode cX12_weigh 33 = .ok (.lconst 1, 1) := dk_0 (dk_k10 33) (dk_by (j := 1) rfl ck_X12_weigh_2_17mo rfl rfl rfl)
theorem dX12_weigh_34 : decode cX12_weigh 34 = .ok (.land, 1) := dk_0 (dk_k127 34) (dk_by (j := 2) rfl ck_X12_weigh_2_17mo rfl rfl rfl)
theorem dX12_weigh_35 : decode cX12_weigh 35 = .ok (.lconst 1, 1) := dk_0 (dk_k10 35) (dk_by (j := 3) rfl ck_X12_weigh_2_17mo rfl rfl rfl)
theorem dX12_weigh_36 : decode cX12_weigh 36 = .ok (.lcmp, 1) := dk_0 (dk_k148 36) (dk_by (j := 4) rfl ck_X12_weigh_2_17mo rfl rfl rfl)
theorem dX12_weigh_37 : decode cX12_weigh 37 = .ok (.ifCond .ne 7, 3) := dk_s (dk_k154 37) (dk_by (j := 5) rfl ck_X12_weigh_2_17mo rfl rfl rfl) (dk_by (j := 6) rfl ck_X12_weigh_2_17mo rfl rfl rfl) (dk_by (j := 7) rfl ck_X12_weigh_2_17mo rfl rfl rfl) (by decide)
theorem dX12_weigh_44 : decode cX12_weigh 44 = .ok (.lconst 0, 1) := dk_0 (dk_k9 44) (dk_by (j := 12) rfl ck_X12_weigh_2_17mo rfl rfl rfl)
theorem dX12_weigh_40 : decode cX12_weigh 40 = .ok (.lconst 1, 1) := dk_0 (dk_k10 40) (dk_by (j := 8) rfl ck_X12_weigh_2_17mo rfl rfl rfl)
theorem dX12_weigh_41 : decode cX12_weigh 41 = .ok (.goto 4, 3) := dk_s (dk_k167 41) (dk_by (j := 9) rfl ck_X12_weigh_2_17mo rfl rfl rfl) (dk_by (j := 10) rfl ck_X12_weigh_2_17mo rfl rfl rfl) (dk_by (j := 11) rfl ck_X12_weigh_2_17mo rfl rfl rfl) (by decide)
theorem gX12_share_X12_isBody : GoodIn wsX12_share (wsV RX12 193 RX12 yX12_isBody wsX12_isBody) := ru_gG (ru_gV tw_6_151 tw_6_153 tw_0_30 tw_1_12 mT_X12_isBody)
theorem gX12_share_X12_isCell : GoodIn wsX12_share (va_wsS RX12 217 yX12_isCell wsX12_isCell) := ru_gG (ru_gS tw_6_144 tw_6_145 tw_1_12 mT_X12_isCell)
theorem gX12_share_X12_within : GoodIn wsX12_share (va_wsS RX12 186 yX12_within wsX12_within) := ru_gG (ru_gS tw_6_122 tw_6_123 tw_1_12 mT_X12_within)
theorem gX12_share_X12_weigh : GoodIn wsX12_share (wsV RX12 287 RX12 yX12_weigh wsX12_weigh) := ru_gG (ru_gV tw_7_11 tw_7_13 tw_0_39 tw_1_12 mT_X12_weigh)
theorem gX12_share_X12_divisor : GoodIn wsX12_share (va_wsS RX12 291 yX12_divisor wsX12_divisor) := ru_gG (ru_gS tw_7_16 tw_7_17 tw_1_12 mT_X12_divisor)
theorem dX12_partFrom_0 : decode cX12_partFrom 0 = .ok (.iload_n 1, 1) := dk_0 (dk_k27 0) (dk_by (j := 0) rfl ck_X12_partFrom_0_17mo rfl rfl rfl)
theorem dX12_partFrom_1 : decode cX12_partFrom 1 = .ok (.iload_n 2, 1) := dk_0 (dk_k28 1) (dk_by (j := 1) rfl ck_X12_partFrom_0_17mo rfl rfl rfl)
theorem dX12_partFrom_2 : decode cX12_partFrom 2 = .ok (.if_icmp .ne 96, 3) := dk_s (dk_k160 2) (dk_by (j := 2) rfl ck_X12_partFrom_0_17mo rfl rfl rfl) (dk_by (j := 3) rfl ck_X12_partFrom_0_17mo rfl rfl rfl) (dk_by (j := 4) rfl ck_X12_partFrom_0_17mo rfl rfl rfl) (by decide)
theorem dX12_partFrom_5 : decode cX12_partFrom 5 = .ok (.lconst 0, 1) := dk_0 (dk_k9 5) (dk_by (j := 5) rfl ck_X12_partFrom_0_17mo rfl rfl rfl)
theorem dX12_partFrom_8 : decode cX12_partFrom 8 = .ok (.iconst 0, 1) := dk_0 (dk_k3 8) (dk_by (j := 8) rfl ck_X12_partFrom_0_17mo rfl rfl rfl)
theorem dX12_partFrom_13 : decode cX12_partFrom 13 = .ok (.bipush 64, 2) := dk_1 (dk_k16 13) (dk_by (j := 13) rfl ck_X12_partFrom_0_17mo rfl rfl rfl) (dk_by (j := 14) rfl ck_X12_partFrom_0_17mo rfl rfl rfl) (by decide)
theorem dX12_partFrom_15 : decode cX12_partFrom 15 = .ok (.if_icmp .ge 37, 3) := dk_s (dk_k162 15) (dk_by (j := 15) rfl ck_X12_partFrom_0_17mo rfl rfl rfl) (dk_by (j := 0) rfl ck_X12_partFrom_1_17mo rfl rfl rfl) (dk_by (j := 1) rfl ck_X12_partFrom_1_17mo rfl rfl rfl) (by decide)
theorem dX12_partFrom_54 : decode cX12_partFrom 54 = .ok (.aload_n 0, 1) := dk_0 (dk_k42 54) (dk_by (j := 6) rfl ck_X12_partFrom_3_17mo rfl rfl rfl)
theorem dX12_partFrom_55 : decode cX12_partFrom 55 = .ok (.getfield 295, 3) := dk_2 (dk_k180 55) (dk_by (j := 7) rfl ck_X12_partFrom_3_17mo rfl rfl rfl) (dk_by (j := 8) rfl ck_X12_partFrom_3_17mo rfl rfl rfl) (dk_by (j := 9) rfl ck_X12_partFrom_3_17mo rfl rfl rfl) (by decide)
theorem dX12_partFrom_58 : decode cX12_partFrom 58 = .ok (.lcmp, 1) := dk_0 (dk_k148 58) (dk_by (j := 10) rfl ck_X12_partFrom_3_17mo rfl rfl rfl)
theorem dX12_partFrom_59 : decode cX12_partFrom 59 = .ok (.ifCond .le 38, 3) := dk_s (dk_k158 59) (dk_by (j := 11) rfl ck_X12_partFrom_3_17mo rfl rfl rfl) (dk_by (j := 12) rfl ck_X12_partFrom_3_17mo rfl rfl rfl) (dk_by (j := 13) rfl ck_X12_partFrom_3_17mo rfl rfl rfl) (by decide)
theorem dX12_partFrom_97 : decode cX12_partFrom 97 = .ok (.return_, 1) := dk_0 (dk_k177 97) (dk_by (j := 1) rfl ck_X12_partFrom_6_17mo rfl rfl rfl)
theorem dX12_partFrom_62 : decode cX12_partFrom 62 = .ok (.aload_n 0, 1) := dk_0 (dk_k42 62) (dk_by (j := 14) rfl ck_X12_partFrom_3_17mo rfl rfl rfl)
theorem dX12_partFrom_65 : decode cX12_partFrom 65 = .ok (.putfield 295, 3) := dk_2 (dk_k181 65) (dk_by (j := 1) rfl ck_X12_partFrom_4_17mo rfl rfl rfl) (dk_by (j := 2) rfl ck_X12_partFrom_4_17mo rfl rfl rfl) (dk_by (j := 3) rfl ck_X12_partFrom_4_17mo rfl rfl rfl) (by decide)
theorem dX12_partFrom_68 : decode cX12_partFrom 68 = .ok (.iconst 0, 1) := dk_0 (dk_k3 68) (dk_by (j := 4) rfl ck_X12_partFrom_4_17mo rfl rfl rfl)
theorem dX12_partFrom_73 : decode cX12_partFrom 73 = .ok (.iload_n 2, 1) := dk_0 (dk_k28 73) (dk_by (j := 9) rfl ck_X12_partFrom_4_17mo rfl rfl rfl)
theorem dX12_partFrom_74 : decode cX12_partFrom 74 = .ok (.if_icmp .ge 23, 3) := dk_s (dk_k162 74) (dk_by (j := 10) rfl ck_X12_partFrom_4_17mo rfl rfl rfl) (dk_by (j := 11) rfl ck_X12_partFrom_4_17mo rfl rfl rfl) (dk_by (j := 12) rfl ck_X12_partFrom_4_17mo rfl rfl rfl) (by decide)
theorem dX12_partFrom_77 : decode cX12_partFrom 77 = .ok (.aload_n 0, 1) := dk_0 (dk_k42 77) (dk_by (j := 13) rfl ck_X12_partFrom_4_17mo rfl rfl rfl)
theorem dX12_partFrom_78 : decode cX12_partFrom 78 = .ok (.getfield 140, 3) := dk_2 (dk_k180 78) (dk_by (j := 14) rfl ck_X12_partFrom_4_17mo rfl rfl rfl) (dk_by (j := 15) rfl ck_X12_partFrom_4_17mo rfl rfl rfl) (dk_by (j := 0) rfl ck_X12_partFrom_5_17mo rfl rfl rfl) (by decide)
theorem dX12_partFrom_83 : decode cX12_partFrom 83 = .ok (.aload_n 0, 1) := dk_0 (dk_k42 83) (dk_by (j := 3) rfl ck_X12_partFrom_5_17mo rfl rfl rfl)
theorem dX12_partFrom_84 : decode cX12_partFrom 84 = .ok (.getfield 137, 3) := dk_2 (dk_k180 84) (dk_by (j := 4) rfl ck_X12_partFrom_5_17mo rfl rfl rfl) (dk_by (j := 5) rfl ck_X12_partFrom_5_17mo rfl rfl rfl) (dk_by (j := 6) rfl ck_X12_partFrom_5_17mo rfl rfl rfl) (by decide)
theorem dX12_partFrom_89 : decode cX12_partFrom 89 = .ok (.iaload, 1) := dk_0 (dk_k46 89) (dk_by (j := 9) rfl ck_X12_partFrom_5_17mo rfl rfl rfl)
theorem dX12_partFrom_90 : decode cX12_partFrom 90 = .ok (.iastore, 1) := dk_0 (dk_k79 90) (dk_by (j := 10) rfl ck_X12_partFrom_5_17mo rfl rfl rfl)
theorem dX12_partFrom_94 : decode cX12_partFrom 94 = .ok (.goto (-23), 3) := dk_s (dk_k167 94) (dk_by (j := 14) rfl ck_X12_partFrom_5_17mo rfl rfl rfl) (dk_by (j := 15) rfl ck_X12_partFrom_5_17mo rfl rfl rfl) (dk_by (j := 0) rfl ck_X12_partFrom_6_17mo rfl rfl rfl) (by decide)
theorem dX12_partFrom_25 : decode cX12_partFrom 25 = .ok (.lconst 1, 1) := dk_0 (dk_k10 25) (dk_by (j := 9) rfl ck_X12_partFrom_1_17mo rfl rfl rfl)
theorem dX12_partFrom_26 : decode cX12_partFrom 26 = .ok (.land, 1) := dk_0 (dk_k127 26) (dk_by (j := 10) rfl ck_X12_partFrom_1_17mo rfl rfl rfl)
theorem dX12_partFrom_27 : decode cX12_partFrom 27 = .ok (.lconst 1, 1) := dk_0 (dk_k10 27) (dk_by (j := 11) rfl ck_X12_partFrom_1_17mo rfl rfl rfl)
theorem dX12_partFrom_28 : decode cX12_partFrom 28 = .ok (.lcmp, 1) := dk_0 (dk_k148 28) (dk_by (j := 12) rfl ck_X12_partFrom_1_17mo rfl rfl rfl)
theorem dX12_partFrom_29 : decode cX12_partFrom 29 = .ok (.ifCond .ne 13, 3) := dk_s (dk_k154 29) (dk_by (j := 13) rfl ck_X12_partFrom_1_17mo rfl rfl rfl) (dk_by (j := 14) rfl ck_X12_partFrom_1_17mo rfl rfl rfl) (dk_by (j := 15) rfl ck_X12_partFrom_1_17mo rfl rfl rfl) (by decide)
theorem dX12_partFrom_42 : decode cX12_partFrom 42 = .ok (.lconst 0, 1) := dk_0 (dk_k9 42) (dk_by (j := 10) rfl ck_X12_partFrom_2_17mo rfl rfl rfl)
theorem dX12_partFrom_49 : decode cX12_partFrom 49 = .ok (.goto (-38), 3) := dk_s (dk_k167 49) (dk_by (j := 1) rfl ck_X12_partFrom_3_17mo rfl rfl rfl) (dk_by (j := 2) rfl ck_X12_partFrom_3_17mo rfl rfl rfl) (dk_by (j := 3) rfl ck_X12_partFrom_3_17mo rfl rfl rfl) (by decide)
theorem dX12_partFrom_32 : decode cX12_partFrom 32 = .ok (.aload_n 0, 1) := dk_0 (dk_k42 32) (dk_by (j := 0) rfl ck_X12_partFrom_2_17mo rfl rfl rfl)
theorem dX12_partFrom_33 : decode cX12_partFrom 33 = .ok (.getfield 134, 3) := dk_2 (dk_k180 33) (dk_by (j := 1) rfl ck_X12_partFrom_2_17mo rfl rfl rfl) (dk_by (j := 2) rfl ck_X12_partFrom_2_17mo rfl rfl rfl) (dk_by (j := 3) rfl ck_X12_partFrom_2_17mo rfl rfl rfl) (by decide)
theorem dX12_partFrom_39 : decode cX12_partFrom 39 = .ok (.goto 4, 3) := dk_s (dk_k167 39) (dk_by (j := 7) rfl ck_X12_partFrom_2_17mo rfl rfl rfl) (dk_by (j := 8) rfl ck_X12_partFrom_2_17mo rfl rfl rfl) (dk_by (j := 9) rfl ck_X12_partFrom_2_17mo rfl rfl rfl) (by decide)
theorem dX12_partFrom_98 : decode cX12_partFrom 98 = .ok (.iconst 0, 1) := dk_0 (dk_k3 98) (dk_by (j := 2) rfl ck_X12_partFrom_6_17mo rfl rfl rfl)
theorem dX12_partFrom_103 : decode cX12_partFrom 103 = .ok (.aload_n 0, 1) := dk_0 (dk_k42 103) (dk_by (j := 7) rfl ck_X12_partFrom_6_17mo rfl rfl rfl)
theorem dX12_partFrom_104 : decode cX12_partFrom 104 = .ok (.getfield 272, 3) := dk_2 (dk_k180 104) (dk_by (j := 8) rfl ck_X12_partFrom_6_17mo rfl rfl rfl) (dk_by (j := 9) rfl ck_X12_partFrom_6_17mo rfl rfl rfl) (dk_by (j := 10) rfl ck_X12_partFrom_6_17mo rfl rfl rfl) (by decide)
theorem dX12_partFrom_107 : decode cX12_partFrom 107 = .ok (.if_icmp .ge 53, 3) := dk_s (dk_k162 107) (dk_by (j := 11) rfl ck_X12_partFrom_6_17mo rfl rfl rfl) (dk_by (j := 12) rfl ck_X12_partFrom_6_17mo rfl rfl rfl) (dk_by (j := 13) rfl ck_X12_partFrom_6_17mo rfl rfl rfl) (by decide)
theorem dX12_partFrom_160 : decode cX12_partFrom 160 = .ok (.return_, 1) := dk_0 (dk_k177 160) (dk_by (j := 0) rfl ck_X12_partFrom_10_17mo rfl rfl rfl)
theorem dX12_partFrom_110 : decode cX12_partFrom 110 = .ok (.iload_n 3, 1) := dk_0 (dk_k29 110) (dk_by (j := 14) rfl ck_X12_partFrom_6_17mo rfl rfl rfl)
theorem dX12_partFrom_114 : decode cX12_partFrom 114 = .ok (.iconst 1, 1) := dk_0 (dk_k4 114) (dk_by (j := 2) rfl ck_X12_partFrom_7_17mo rfl rfl rfl)
theorem dX12_partFrom_115 : decode cX12_partFrom 115 = .ok (.iand, 1) := dk_0 (dk_k126 115) (dk_by (j := 3) rfl ck_X12_partFrom_7_17mo rfl rfl rfl)
theorem dX12_partFrom_116 : decode cX12_partFrom 116 = .ok (.iconst 1, 1) := dk_0 (dk_k4 116) (dk_by (j := 4) rfl ck_X12_partFrom_7_17mo rfl rfl rfl)
theorem dX12_partFrom_117 : decode cX12_partFrom 117 = .ok (.if_icmp .ne 37, 3) := dk_s (dk_k160 117) (dk_by (j := 5) rfl ck_X12_partFrom_7_17mo rfl rfl rfl) (dk_by (j := 6) rfl ck_X12_partFrom_7_17mo rfl rfl rfl) (dk_by (j := 7) rfl ck_X12_partFrom_7_17mo rfl rfl rfl) (by decide)
theorem dX12_partFrom_157 : decode cX12_partFrom 157 = .ok (.goto (-56), 3) := dk_s (dk_k167 157) (dk_by (j := 13) rfl ck_X12_partFrom_9_17mo rfl rfl rfl) (dk_by (j := 14) rfl ck_X12_partFrom_9_17mo rfl rfl rfl) (dk_by (j := 15) rfl ck_X12_partFrom_9_17mo rfl rfl rfl) (by decide)
theorem dX12_partFrom_120 : decode cX12_partFrom 120 = .ok (.aload_n 0, 1) := dk_0 (dk_k42 120) (dk_by (j := 8) rfl ck_X12_partFrom_7_17mo rfl rfl rfl)
theorem dX12_partFrom_121 : decode cX12_partFrom 121 = .ok (.getfield 137, 3) := dk_2 (dk_k180 121) (dk_by (j := 9) rfl ck_X12_partFrom_7_17mo rfl rfl rfl) (dk_by (j := 10) rfl ck_X12_partFrom_7_17mo rfl rfl rfl) (dk_by (j := 11) rfl ck_X12_partFrom_7_17mo rfl rfl rfl) (by decide)
theorem dX12_partFrom_124 : decode cX12_partFrom 124 = .ok (.iload_n 1, 1) := dk_0 (dk_k27 124) (dk_by (j := 12) rfl ck_X12_partFrom_7_17mo rfl rfl rfl)
theorem dX12_partFrom_127 : decode cX12_partFrom 127 = .ok (.iastore, 1) := dk_0 (dk_k79 127) (dk_by (j := 15) rfl ck_X12_partFrom_7_17mo rfl rfl rfl)
theorem dX12_partFrom_128 : decode cX12_partFrom 128 = .ok (.aload_n 0, 1) := dk_0 (dk_k42 128) (dk_by (j := 0) rfl ck_X12_partFrom_8_17mo rfl rfl rfl)
theorem dX12_partFrom_129 : decode cX12_partFrom 129 = .ok (.iload_n 1, 1) := dk_0 (dk_k27 129) (dk_by (j := 1) rfl ck_X12_partFrom_8_17mo rfl rfl rfl)
theorem dX12_partFrom_130 : decode cX12_partFrom 130 = .ok (.iconst 1, 1) := dk_0 (dk_k4 130) (dk_by (j := 2) rfl ck_X12_partFrom_8_17mo rfl rfl rfl)
theorem dX12_partFrom_131 : decode cX12_partFrom 131 = .ok (.iadd, 1) := dk_0 (dk_k96 131) (dk_by (j := 3) rfl ck_X12_partFrom_8_17mo rfl rfl rfl)
theorem dX12_partFrom_132 : decode cX12_partFrom 132 = .ok (.iload_n 2, 1) := dk_0 (dk_k28 132) (dk_by (j := 4) rfl ck_X12_partFrom_8_17mo rfl rfl rfl)
theorem dX12_partFrom_133 : decode cX12_partFrom 133 = .ok (.iload_n 3, 1) := dk_0 (dk_k29 133) (dk_by (j := 5) rfl ck_X12_partFrom_8_17mo rfl rfl rfl)
theorem dX12_partFrom_134 : decode cX12_partFrom 134 = .ok (.iconst 1, 1) := dk_0 (dk_k4 134) (dk_by (j := 6) rfl ck_X12_partFrom_8_17mo rfl rfl rfl)
theorem dX12_partFrom_138 : decode cX12_partFrom 138 = .ok (.iconst (-1), 1) := dk_0 (dk_k2 138) (dk_by (j := 10) rfl ck_X12_partFrom_8_17mo rfl rfl rfl)
theorem dX12_partFrom_140 : decode cX12_partFrom 140 = .ok (.iand, 1) := dk_0 (dk_k126 140) (dk_by (j := 12) rfl ck_X12_partFrom_8_17mo rfl rfl rfl)
theorem dX12_partFrom_143 : decode cX12_partFrom 143 = .ok (.aload_n 0, 1) := dk_0 (dk_k42 143) (dk_by (j := 15) rfl ck_X12_partFrom_8_17mo rfl rfl rfl)
theorem dX12_partFrom_144 : decode cX12_partFrom 144 = .ok (.getfield 89, 3) := dk_2 (dk_k180 144) (dk_by (j := 0) rfl ck_X12_partFrom_9_17mo rfl rfl rfl) (dk_by (j := 1) rfl ck_X12_partFrom_9_17mo rfl rfl rfl) (dk_by (j := 2) rfl ck_X12_partFrom_9_17mo rfl rfl rfl) (by decide)
theorem dX12_partFrom_150 : decode cX12_partFrom 150 = .ok (.lor, 1) := dk_0 (dk_k129 150) (dk_by (j := 6) rfl ck_X12_partFrom_9_17mo rfl rfl rfl)
theorem gX12_partFrom_X12_partFrom : GoodIn wsX12_partFrom (wsV RX12 298 RX12 yX12_partFrom wsX12_partFrom) := ru_gG (ru_gV tw_7_26 tw_7_28 tw_0_40 tw_1_12 mT_X12_partFrom)
theorem dX12_partFrom_151 : decode cX12_partFrom 151 = .ok (.invokevirtual 298, 3) := dk_2 (dk_k182 151) (dk_by (j := 7) rfl ck_X12_partFrom_9_17mo rfl rfl rfl) (dk_by (j := 8) rfl ck_X12_partFrom_9_17mo rfl rfl rfl) (dk_by (j := 9) rfl ck_X12_partFrom_9_17mo rfl rfl rfl) (by decide)
theorem dX12_parted_49 : decode cX12_parted 49 = .ok (.iconst 0, 1) := dk_0 (dk_k3 49) (dk_by (j := 1) rfl ck_X12_parted_3_17mo rfl rfl rfl)
theorem dX12_parted_54 : decode cX12_parted 54 = .ok (.bipush 12, 2) := dk_1 (dk_k16 54) (dk_by (j := 6) rfl ck_X12_parted_3_17mo rfl rfl rfl) (dk_by (j := 7) rfl ck_X12_parted_3_17mo rfl rfl rfl) (by decide)
theorem dX12_parted_56 : decode cX12_parted 56 = .ok (.if_icmp .ge 39, 3) := dk_s (dk_k162 56) (dk_by (j := 8) rfl ck_X12_parted_3_17mo rfl rfl rfl) (dk_by (j := 9) rfl ck_X12_parted_3_17mo rfl rfl rfl) (dk_by (j := 10) rfl ck_X12_parted_3_17mo rfl rfl rfl) (by decide)
theorem dX12_parted_97 : decode cX12_parted 97 = .ok (.ifCond .ne 6, 3) := dk_s (dk_k154 97) (dk_by (j := 1) rfl ck_X12_parted_6_17mo rfl rfl rfl) (dk_by (j := 2) rfl ck_X12_parted_6_17mo rfl rfl rfl) (dk_by (j := 3) rfl ck_X12_parted_6_17mo rfl rfl rfl) (by decide)
theorem dX12_parted_103 : decode cX12_parted 103 = .ok (.iload_n 2, 1) := dk_0 (dk_k28 103) (dk_by (j := 7) rfl ck_X12_parted_6_17mo rfl rfl rfl)
theorem gX12_parted_X12_countOf : GoodIn wsX12_parted (va_wsS RX12 302 yX12_countOf wsX12_countOf) := ru_gG (ru_gS tw_7_23 tw_7_24 tw_1_12 mT_X12_countOf)
theorem dX12_parted_104 : decode cX12_parted 104 = .ok (.invokestatic 302, 3) := dk_2 (dk_k184 104) (dk_by (j := 8) rfl ck_X12_parted_6_17mo rfl rfl rfl) (dk_by (j := 9) rfl ck_X12_parted_6_17mo rfl rfl rfl) (dk_by (j := 10) rfl ck_X12_parted_6_17mo rfl rfl rfl) (by decide)
theorem dX12_parted_109 : decode cX12_parted 109 = .ok (.iload_n 3, 1) := dk_0 (dk_k29 109) (dk_by (j := 13) rfl ck_X12_parted_6_17mo rfl rfl rfl)
theorem dX12_parted_110 : decode cX12_parted 110 = .ok (.invokestatic 302, 3) := dk_2 (dk_k184 110) (dk_by (j := 14) rfl ck_X12_parted_6_17mo rfl rfl rfl) (dk_by (j := 15) rfl ck_X12_parted_6_17mo rfl rfl rfl) (dk_by (j := 0) rfl ck_X12_parted_7_17mo rfl rfl rfl) (by decide)
theorem dX12_parted_115 : decode cX12_parted 115 = .ok (.if_icmp .ge 6, 3) := dk_s (dk_k162 115) (dk_by (j := 3) rfl ck_X12_parted_7_17mo rfl rfl rfl) (dk_by (j := 4) rfl ck_X12_parted_7_17mo rfl rfl rfl) (dk_by (j := 5) rfl ck_X12_parted_7_17mo rfl rfl rfl) (by decide)
theorem dX12_parted_123 : decode cX12_parted 123 = .ok (.iconst (-1), 1) := dk_0 (dk_k2 123) (dk_by (j := 11) rfl ck_X12_parted_7_17mo rfl rfl rfl)
theorem dX12_parted_126 : decode cX12_parted 126 = .ok (.iconst 1, 1) := dk_0 (dk_k4 126) (dk_by (j := 14) rfl ck_X12_parted_7_17mo rfl rfl rfl)
theorem dX12_parted_127 : decode cX12_parted 127 = .ok (.isub, 1) := dk_0 (dk_k100 127) (dk_by (j := 15) rfl ck_X12_parted_7_17mo rfl rfl rfl)
theorem gX12_parted_X12_within : GoodIn wsX12_parted (va_wsS RX12 186 yX12_within wsX12_within) := ru_gG (ru_gS tw_6_122 tw_6_123 tw_1_12 mT_X12_within)
theorem dX12_parted_128 : decode cX12_parted 128 = .ok (.invokestatic 186, 3) := dk_2 (dk_k184 128) (dk_by (j := 0) rfl ck_X12_parted_8_17mo rfl rfl rfl) (dk_by (j := 1) rfl ck_X12_parted_8_17mo rfl rfl rfl) (dk_by (j := 2) rfl ck_X12_parted_8_17mo rfl rfl rfl) (by decide)
theorem dX12_parted_131 : decode cX12_parted 131 = .ok (.ifCond .ne 5, 3) := dk_s (dk_k154 131) (dk_by (j := 3) rfl ck_X12_parted_8_17mo rfl rfl rfl) (dk_by (j := 4) rfl ck_X12_parted_8_17mo rfl rfl rfl) (dk_by (j := 5) rfl ck_X12_parted_8_17mo rfl rfl rfl) (by decide)
theorem dX12_parted_136 : decode cX12_parted 136 = .ok (.aload_n 0, 1) := dk_0 (dk_k42 136) (dk_by (j := 8) rfl ck_X12_parted_8_17mo rfl rfl rfl)
theorem dX12_parted_137 : decode cX12_parted 137 = .ok (.iload_n 1, 1) := dk_0 (dk_k27 137) (dk_by (j := 9) rfl ck_X12_parted_8_17mo rfl rfl rfl)
theorem gX12_parted_X12_weigh : GoodIn wsX12_parted (wsV RX12 287 RX12 yX12_weigh wsX12_weigh) := ru_gG (ru_gV tw_7_11 tw_7_13 tw_0_39 tw_1_12 mT_X12_weigh)
theorem dX12_parted_138 : decode cX12_parted 138 = .ok (.invokevirtual 287, 3) := dk_2 (dk_k182 138) (dk_by (j := 10) rfl ck_X12_parted_8_17mo rfl rfl rfl) (dk_by (j := 11) rfl ck_X12_parted_8_17mo rfl rfl rfl) (dk_by (j := 12) rfl ck_X12_parted_8_17mo rfl rfl rfl) (by decide)
theorem dX12_parted_141 : decode cX12_parted 141 = .ok (.aload_n 0, 1) := dk_0 (dk_k42 141) (dk_by (j := 13) rfl ck_X12_parted_8_17mo rfl rfl rfl)
theorem dX12_parted_142 : decode cX12_parted 142 = .ok (.ldc2_w 226, 3) := dk_2 (dk_k20 142) (dk_by (j := 14) rfl ck_X12_parted_8_17mo rfl rfl rfl) (dk_by (j := 15) rfl ck_X12_parted_8_17mo rfl rfl rfl) (dk_by (j := 0) rfl ck_X12_parted_9_17mo rfl rfl rfl) (by decide)
theorem dX12_parted_145 : decode cX12_parted 145 = .ok (.putfield 295, 3) := dk_2 (dk_k181 145) (dk_by (j := 1) rfl ck_X12_parted_9_17mo rfl rfl rfl) (dk_by (j := 2) rfl ck_X12_parted_9_17mo rfl rfl rfl) (dk_by (j := 3) rfl ck_X12_parted_9_17mo rfl rfl rfl) (by decide)
theorem dX12_parted_148 : decode cX12_parted 148 = .ok (.aload_n 0, 1) := dk_0 (dk_k42 148) (dk_by (j := 4) rfl ck_X12_parted_9_17mo rfl rfl rfl)
theorem dX12_parted_149 : decode cX12_parted 149 = .ok (.iconst 0, 1) := dk_0 (dk_k3 149) (dk_by (j := 5) rfl ck_X12_parted_9_17mo rfl rfl rfl)
theorem dX12_parted_152 : decode cX12_parted 152 = .ok (.iload_n 3, 1) := dk_0 (dk_k29 152) (dk_by (j := 8) rfl ck_X12_parted_9_17mo rfl rfl rfl)
theorem dX12_parted_153 : decode cX12_parted 153 = .ok (.lconst 0, 1) := dk_0 (dk_k9 153) (dk_by (j := 9) rfl ck_X12_parted_9_17mo rfl rfl rfl)
theorem gX12_parted_X12_partFrom : GoodIn wsX12_parted (wsV RX12 298 RX12 yX12_partFrom wsX12_partFrom) := ru_gG (ru_gV tw_7_26 tw_7_28 tw_0_40 tw_1_12 mT_X12_partFrom)
theorem dX12_parted_154 : decode cX12_parted 154 = .ok (.invokevirtual 298, 3) := dk_2 (dk_k182 154) (dk_by (j := 10) rfl ck_X12_parted_9_17mo rfl rfl rfl) (dk_by (j := 11) rfl ck_X12_parted_9_17mo rfl rfl rfl) (dk_by (j := 12) rfl ck_X12_parted_9_17mo rfl rfl rfl) (by decide)
theorem dX12_parted_159 : decode cX12_parted 159 = .ok (.ifCond .lt 13, 3) := dk_s (dk_k155 159) (dk_by (j := 15) rfl ck_X12_parted_9_17mo rfl rfl rfl) (dk_by (j := 0) rfl ck_X12_parted_10_17mo rfl rfl rfl) (dk_by (j := 1) rfl ck_X12_parted_10_17mo rfl rfl rfl) (by decide)
theorem dX12_parted_172 : decode cX12_parted 172 = .ok (.aload_n 0, 1) := dk_0 (dk_k42 172) (dk_by (j := 12) rfl ck_X12_parted_10_17mo rfl rfl rfl)
theorem dX12_parted_173 : decode cX12_parted 173 = .ok (.getfield 281, 3) := dk_2 (dk_k180 173) (dk_by (j := 13) rfl ck_X12_parted_10_17mo rfl rfl rfl) (dk_by (j := 14) rfl ck_X12_parted_10_17mo rfl rfl rfl) (dk_by (j := 15) rfl ck_X12_parted_10_17mo rfl rfl rfl) (by decide)
theorem dX12_parted_176 : decode cX12_parted 176 = .ok (.lconst 0, 1) := dk_0 (dk_k9 176) (dk_by (j := 0) rfl ck_X12_parted_11_17mo rfl rfl rfl)
theorem dX12_parted_177 : decode cX12_parted 177 = .ok (.lcmp, 1) := dk_0 (dk_k148 177) (dk_by (j := 1) rfl ck_X12_parted_11_17mo rfl rfl rfl)
theorem dX12_parted_178 : decode cX12_parted 178 = .ok (.ifCond .ne 7, 3) := dk_s (dk_k154 178) (dk_by (j := 2) rfl ck_X12_parted_11_17mo rfl rfl rfl) (dk_by (j := 3) rfl ck_X12_parted_11_17mo rfl rfl rfl) (dk_by (j := 4) rfl ck_X12_parted_11_17mo rfl rfl rfl) (by decide)
theorem dX12_parted_185 : decode cX12_parted 185 = .ok (.ldc2_w 305, 3) := dk_2 (dk_k20 185) (dk_by (j := 9) rfl ck_X12_parted_11_17mo rfl rfl rfl) (dk_by (j := 10) rfl ck_X12_parted_11_17mo rfl rfl rfl) (dk_by (j := 11) rfl ck_X12_parted_11_17mo rfl rfl rfl) (by decide)
theorem dX12_parted_188 : decode cX12_parted 188 = .ok (.aload_n 0, 1) := dk_0 (dk_k42 188) (dk_by (j := 12) rfl ck_X12_parted_11_17mo rfl rfl rfl)
theorem dX12_parted_189 : decode cX12_parted 189 = .ok (.getfield 295, 3) := dk_2 (dk_k180 189) (dk_by (j := 13) rfl ck_X12_parted_11_17mo rfl rfl rfl) (dk_by (j := 14) rfl ck_X12_parted_11_17mo rfl rfl rfl) (dk_by (j := 15) rfl ck_X12_parted_11_17mo rfl rfl rfl) (by decide)
theorem dX12_parted_193 : decode cX12_parted 193 = .ok (.aload_n 0, 1) := dk_0 (dk_k42 193) (dk_by (j := 1) rfl ck_X12_parted_12_17mo rfl rfl rfl)
theorem dX12_parted_194 : decode cX12_parted 194 = .ok (.getfield 281, 3) := dk_2 (dk_k180 194) (dk_by (j := 2) rfl ck_X12_parted_12_17mo rfl rfl rfl) (dk_by (j := 3) rfl ck_X12_parted_12_17mo rfl rfl rfl) (dk_by (j := 4) rfl ck_X12_parted_12_17mo rfl rfl rfl) (by decide)
theorem dX12_parted_199 : decode cX12_parted 199 = .ok (.ireturn, 1) := dk_0 (dk_k172 199) (dk_by (j := 7) rfl ck_X12_parted_12_17mo rfl rfl rfl)
theorem dX12_parted_181 : decode cX12_parted 181 = .ok (.iconst 0, 1) := dk_0 (dk_k3 181) (dk_by (j := 5) rfl ck_X12_parted_11_17mo rfl rfl rfl)
theorem dX12_parted_182 : decode cX12_parted 182 = .ok (.goto 17, 3) := dk_s (dk_k167 182) (dk_by (j := 6) rfl ck_X12_parted_11_17mo rfl rfl rfl) (dk_by (j := 7) rfl ck_X12_parted_11_17mo rfl rfl rfl) (dk_by (j := 8) rfl ck_X12_parted_11_17mo rfl rfl rfl) (by decide)
theorem dX12_parted_162 : decode cX12_parted 162 = .ok (.aload_n 0, 1) := dk_0 (dk_k42 162) (dk_by (j := 2) rfl ck_X12_parted_10_17mo rfl rfl rfl)
theorem dX12_parted_163 : decode cX12_parted 163 = .ok (.getfield 140, 3) := dk_2 (dk_k180 163) (dk_by (j := 3) rfl ck_X12_parted_10_17mo rfl rfl rfl) (dk_by (j := 4) rfl ck_X12_parted_10_17mo rfl rfl rfl) (dk_by (j := 5) rfl ck_X12_parted_10_17mo rfl rfl rfl) (by decide)
theorem dX12_parted_168 : decode cX12_parted 168 = .ok (.iaload, 1) := dk_0 (dk_k46 168) (dk_by (j := 8) rfl ck_X12_parted_10_17mo rfl rfl rfl)
theorem dX12_parted_169 : decode cX12_parted 169 = .ok (.goto 30, 3) := dk_s (dk_k167 169) (dk_by (j := 9) rfl ck_X12_parted_10_17mo rfl rfl rfl) (dk_by (j := 10) rfl ck_X12_parted_10_17mo rfl rfl rfl) (dk_by (j := 11) rfl ck_X12_parted_10_17mo rfl rfl rfl) (by decide)
theorem dX12_parted_134 : decode cX12_parted 134 = .ok (.iconst (-1), 1) := dk_0 (dk_k2 134) (dk_by (j := 6) rfl ck_X12_parted_8_17mo rfl rfl rfl)
theorem dX12_parted_135 : decode cX12_parted 135 = .ok (.ireturn, 1) := dk_0 (dk_k172 135) (dk_by (j := 7) rfl ck_X12_parted_8_17mo rfl rfl rfl)
theorem dX12_parted_118 : decode cX12_parted 118 = .ok (.bipush (-3), 2) := dk_1 (dk_k16 118) (dk_by (j := 6) rfl ck_X12_parted_7_17mo rfl rfl rfl) (dk_by (j := 7) rfl ck_X12_parted_7_17mo rfl rfl rfl) (by decide)
theorem dX12_parted_120 : decode cX12_parted 120 = .ok (.ireturn, 1) := dk_0 (dk_k172 120) (dk_by (j := 8) rfl ck_X12_parted_7_17mo rfl rfl rfl)
theorem dX12_parted_100 : decode cX12_parted 100 = .ok (.bipush (-2), 2) := dk_1 (dk_k16 100) (dk_by (j := 4) rfl ck_X12_parted_6_17mo rfl rfl rfl) (dk_by (j := 5) rfl ck_X12_parted_6_17mo rfl rfl rfl) (by decide)
theorem dX12_parted_102 : decode cX12_parted 102 = .ok (.ireturn, 1) := dk_0 (dk_k172 102) (dk_by (j := 6) rfl ck_X12_parted_6_17mo rfl rfl rfl)
theorem dX12_parted_61 : decode cX12_parted 61 = .ok (.ifCond .eq 25, 3) := dk_s (dk_k153 61) (dk_by (j := 13) rfl ck_X12_parted_3_17mo rfl rfl rfl) (dk_by (j := 14) rfl ck_X12_parted_3_17mo rfl rfl rfl) (dk_by (j := 15) rfl ck_X12_parted_3_17mo rfl rfl rfl) (by decide)
theorem dX12_parted_86 : decode cX12_parted 86 = .ok (.iconst 0, 1) := dk_0 (dk_k3 86) (dk_by (j := 6) rfl ck_X12_parted_5_17mo rfl rfl rfl)
theorem dX12_parted_92 : decode cX12_parted 92 = .ok (.goto (-40), 3) := dk_s (dk_k167 92) (dk_by (j := 12) rfl ck_X12_parted_5_17mo rfl rfl rfl) (dk_by (j := 13) rfl ck_X12_parted_5_17mo rfl rfl rfl) (dk_by (j := 14) rfl ck_X12_parted_5_17mo rfl rfl rfl) (by decide)
theorem dX12_parted_64 : decode cX12_parted 64 = .ok (.iload_n 2, 1) := dk_0 (dk_k28 64) (dk_by (j := 0) rfl ck_X12_parted_4_17mo rfl rfl rfl)
theorem dX12_parted_68 : decode cX12_parted 68 = .ok (.iconst 1, 1) := dk_0 (dk_k4 68) (dk_by (j := 4) rfl ck_X12_parted_4_17mo rfl rfl rfl)
theorem dX12_parted_69 : decode cX12_parted 69 = .ok (.iand, 1) := dk_0 (dk_k126 69) (dk_by (j := 5) rfl ck_X12_parted_4_17mo rfl rfl rfl)
theorem dX12_parted_70 : decode cX12_parted 70 = .ok (.ifCond .eq 12, 3) := dk_s (dk_k153 70) (dk_by (j := 6) rfl ck_X12_parted_4_17mo rfl rfl rfl) (dk_by (j := 7) rfl ck_X12_parted_4_17mo rfl rfl rfl) (dk_by (j := 8) rfl ck_X12_parted_4_17mo rfl rfl rfl) (by decide)
theorem dX12_parted_82 : decode cX12_parted 82 = .ok (.iconst 1, 1) := dk_0 (dk_k4 82) (dk_by (j := 2) rfl ck_X12_parted_5_17mo rfl rfl rfl)
theorem dX12_parted_83 : decode cX12_parted 83 = .ok (.goto 4, 3) := dk_s (dk_k167 83) (dk_by (j := 3) rfl ck_X12_parted_5_17mo rfl rfl rfl) (dk_by (j := 4) rfl ck_X12_parted_5_17mo rfl rfl rfl) (dk_by (j := 5) rfl ck_X12_parted_5_17mo rfl rfl rfl) (by decide)
theorem dX12_parted_73 : decode cX12_parted 73 = .ok (.aload_n 0, 1) := dk_0 (dk_k42 73) (dk_by (j := 9) rfl ck_X12_parted_4_17mo rfl rfl rfl)
theorem gX12_parted_X12_isSeeker : GoodIn wsX12_parted (wsV RX12 275 RX12 yX12_isSeeker wsX12_isSeeker) := ru_gG (ru_gV tw_6_239 tw_7_1 tw_0_37 tw_1_12 mT_X12_isSeeker)
theorem dX12_parted_76 : decode cX12_parted 76 = .ok (.invokevirtual 275, 3) := dk_2 (dk_k182 76) (dk_by (j := 12) rfl ck_X12_parted_4_17mo rfl rfl rfl) (dk_by (j := 13) rfl ck_X12_parted_4_17mo rfl rfl rfl) (dk_by (j := 14) rfl ck_X12_parted_4_17mo rfl rfl rfl) (by decide)
theorem dX12_parted_79 : decode cX12_parted 79 = .ok (.ifCond .eq 7, 3) := dk_s (dk_k153 79) (dk_by (j := 15) rfl ck_X12_parted_4_17mo rfl rfl rfl) (dk_by (j := 0) rfl ck_X12_parted_5_17mo rfl rfl rfl) (dk_by (j := 1) rfl ck_X12_parted_5_17mo rfl rfl rfl) (by decide)
theorem dX12_parted_0 : decode cX12_parted 0 = .ok (.aload_n 0, 1) := dk_0 (dk_k42 0) (dk_by (j := 0) rfl ck_X12_parted_0_17mo rfl rfl rfl)
theorem dX12_parted_1 : decode cX12_parted 1 = .ok (.iload_n 1, 1) := dk_0 (dk_k27 1) (dk_by (j := 1) rfl ck_X12_parted_0_17mo rfl rfl rfl)
theorem gX12_parted_X12_isBody : GoodIn wsX12_parted (wsV RX12 193 RX12 yX12_isBody wsX12_isBody) := ru_gG (ru_gV tw_6_151 tw_6_153 tw_0_30 tw_1_12 mT_X12_isBody)
theorem dX12_parted_2 : decode cX12_parted 2 = .ok (.invokevirtual 193, 3) := dk_2 (dk_k182 2) (dk_by (j := 2) rfl ck_X12_parted_0_17mo rfl rfl rfl) (dk_by (j := 3) rfl ck_X12_parted_0_17mo rfl rfl rfl) (dk_by (j := 4) rfl ck_X12_parted_0_17mo rfl rfl rfl) (by decide)
theorem dX12_parted_5 : decode cX12_parted 5 = .ok (.ifCond .eq 41, 3) := dk_s (dk_k153 5) (dk_by (j := 5) rfl ck_X12_parted_0_17mo rfl rfl rfl) (dk_by (j := 6) rfl ck_X12_parted_0_17mo rfl rfl rfl) (dk_by (j := 7) rfl ck_X12_parted_0_17mo rfl rfl rfl) (by decide)
theorem dX12_parted_8 : decode cX12_parted 8 = .ok (.iload_n 2, 1) := dk_0 (dk_k28 8) (dk_by (j := 8) rfl ck_X12_parted_0_17mo rfl rfl rfl)
theorem dX12_parted_9 : decode cX12_parted 9 = .ok (.ifCond .lt 37, 3) := dk_s (dk_k155 9) (dk_by (j := 9) rfl ck_X12_parted_0_17mo rfl rfl rfl) (dk_by (j := 10) rfl ck_X12_parted_0_17mo rfl rfl rfl) (dk_by (j := 11) rfl ck_X12_parted_0_17mo rfl rfl rfl) (by decide)
theorem dX12_parted_46 : decode cX12_parted 46 = .ok (.iconst 0, 1) := dk_0 (dk_k3 46) (dk_by (j := 14) rfl ck_X12_parted_2_17mo rfl rfl rfl)
theorem dX12_parted_12 : decode cX12_parted 12 = .ok (.iload_n 2, 1) := dk_0 (dk_k28 12) (dk_by (j := 12) rfl ck_X12_parted_0_17mo rfl rfl rfl)
theorem dX12_parted_13 : decode cX12_parted 13 = .ok (.aload_n 0, 1) := dk_0 (dk_k42 13) (dk_by (j := 13) rfl ck_X12_parted_0_17mo rfl rfl rfl)
theorem dX12_parted_14 : decode cX12_parted 14 = .ok (.getfield 190, 3) := dk_2 (dk_k180 14) (dk_by (j := 14) rfl ck_X12_parted_0_17mo rfl rfl rfl) (dk_by (j := 15) rfl ck_X12_parted_0_17mo rfl rfl rfl) (dk_by (j := 0) rfl ck_X12_parted_1_17mo rfl rfl rfl) (by decide)
theorem dX12_parted_18 : decode cX12_parted 18 = .ok (.ifCond .ne 28, 3) := dk_s (dk_k154 18) (dk_by (j := 2) rfl ck_X12_parted_1_17mo rfl rfl rfl) (dk_by (j := 3) rfl ck_X12_parted_1_17mo rfl rfl rfl) (dk_by (j := 4) rfl ck_X12_parted_1_17mo rfl rfl rfl) (by decide)
theorem dX12_parted_21 : decode cX12_parted 21 = .ok (.iload_n 2, 1) := dk_0 (dk_k28 21) (dk_by (j := 5) rfl ck_X12_parted_1_17mo rfl rfl rfl)
theorem dX12_parted_22 : decode cX12_parted 22 = .ok (.invokestatic 302, 3) := dk_2 (dk_k184 22) (dk_by (j := 6) rfl ck_X12_parted_1_17mo rfl rfl rfl) (dk_by (j := 7) rfl ck_X12_parted_1_17mo rfl rfl rfl) (dk_by (j := 8) rfl ck_X12_parted_1_17mo rfl rfl rfl) (by decide)
theorem dX12_parted_25 : decode cX12_parted 25 = .ok (.iconst 3, 1) := dk_0 (dk_k6 25) (dk_by (j := 9) rfl ck_X12_parted_1_17mo rfl rfl rfl)
theorem dX12_parted_26 : decode cX12_parted 26 = .ok (.if_icmp .gt 20, 3) := dk_s (dk_k163 26) (dk_by (j := 10) rfl ck_X12_parted_1_17mo rfl rfl rfl) (dk_by (j := 11) rfl ck_X12_parted_1_17mo rfl rfl rfl) (dk_by (j := 12) rfl ck_X12_parted_1_17mo rfl rfl rfl) (by decide)
theorem dX12_parted_29 : decode cX12_parted 29 = .ok (.iload_n 3, 1) := dk_0 (dk_k29 29) (dk_by (j := 13) rfl ck_X12_parted_1_17mo rfl rfl rfl)
theorem dX12_parted_30 : decode cX12_parted 30 = .ok (.ifCond .lt 16, 3) := dk_s (dk_k155 30) (dk_by (j := 14) rfl ck_X12_parted_1_17mo rfl rfl rfl) (dk_by (j := 15) rfl ck_X12_parted_1_17mo rfl rfl rfl) (dk_by (j := 0) rfl ck_X12_parted_2_17mo rfl rfl rfl) (by decide)
theorem dX12_parted_33 : decode cX12_parted 33 = .ok (.iload_n 3, 1) := dk_0 (dk_k29 33) (dk_by (j := 1) rfl ck_X12_parted_2_17mo rfl rfl rfl)
theorem dX12_parted_34 : decode cX12_parted 34 = .ok (.aload_n 0, 1) := dk_0 (dk_k42 34) (dk_by (j := 2) rfl ck_X12_parted_2_17mo rfl rfl rfl)
theorem dX12_parted_35 : decode cX12_parted 35 = .ok (.getfield 272, 3) := dk_2 (dk_k180 35) (dk_by (j := 3) rfl ck_X12_parted_2_17mo rfl rfl rfl) (dk_by (j := 4) rfl ck_X12_parted_2_17mo rfl rfl rfl) (dk_by (j := 5) rfl ck_X12_parted_2_17mo rfl rfl rfl) (by decide)
theorem dX12_parted_39 : decode cX12_parted 39 = .ok (.ifCond .ne 7, 3) := dk_s (dk_k154 39) (dk_by (j := 7) rfl ck_X12_parted_2_17mo rfl rfl rfl) (dk_by (j := 8) rfl ck_X12_parted_2_17mo rfl rfl rfl) (dk_by (j := 9) rfl ck_X12_parted_2_17mo rfl rfl rfl) (by decide)
theorem dX12_parted_42 : decode cX12_parted 42 = .ok (.iconst 1, 1) := dk_0 (dk_k4 42) (dk_by (j := 10) rfl ck_X12_parted_2_17mo rfl rfl rfl)
theorem dX12_parted_43 : decode cX12_parted 43 = .ok (.goto 4, 3) := dk_s (dk_k167 43) (dk_by (j := 11) rfl ck_X12_parted_2_17mo rfl rfl rfl) (dk_by (j := 12) rfl ck_X12_parted_2_17mo rfl rfl rfl) (dk_by (j := 13) rfl ck_X12_parted_2_17mo rfl rfl rfl) (by decide)
set_option maxHeartbeats 400000 in
set_option maxRecDepth 20000 in
theorem fc_X12_pass (l : Launch) (D : va_G) (ad : Nat → Nat → Nat) (C : Nat → Nat → ClassId) (nb : Nat) (M : fm_M) (hI : fm_I nb ad M) (p0 : Int32) : Met l yX12_pass wsX12_pass ({ frames := 1, cells := 0, slots := 0, locals := 22 }) (va_Pc [.ref (ad 60 0), .int p0] (fm_P D ad C nb M)) (va_Qi (fun (r : Int32) (u : fm_M) => fm_I nb ad u ∧ fm_same [60000, 114000] M u ∧ ((¬ (1 ≤ p0.toInt ∧ p0.toInt ≤ 48) ∧ r.toInt = -2 ∧ (u.1 60 0 0).toInt = (M.1 60 0 0).toInt) ∨ ((1 ≤ p0.toInt ∧ p0.toInt ≤ 48) ∧ 239 < (M.1 60 0 0).toInt + p0.toInt ∧ r.toInt = -4 ∧ (u.1 60 0 0).toInt = (M.1 60 0 0).toInt) ∨ ((1 ≤ p0.toInt ∧ p0.toInt ≤ 48) ∧ (M.1 60 0 0).toInt + p0.toInt ≤ 239 ∧ r.toInt = (M.1 60 0 0).toInt + p0.toInt ∧ (u.1 60 0 0).toInt = r.toInt))) (fun u t => fm_at D ad C nb u t.heap) (fm_A nb ad)) 0 0 (fm_A nb ad) := by
  refine Met.ofW (cc := cX12_pass) (maxL := 4) (ret := (some .int)) (by decide) rfl ?_
  intro p e s m args below meth c s₁ B hml hv
  obtain ⟨rfl, hw, hc⟩ := hv
  have hx := B.exec
  have hb := B.bytes
  have hr := B.returns
  have hts := atoms_spec (ws := wsX12_pass) B.pre
  have hown : s.vm.findClass RX12 = some m.cls := findClass_of_methodNamed B.named
  have hinX12 : ∀ w ∈ u_ws RX12 TX12 79, w ∈ wsX12_pass := fun w h => List.mem_cons_of_mem _ (iT_X12 w h)
  have hS : va_S (fm_A nb ad) s.heap s.heap [] := va_S.rf
  have hE : fm_same [60000, 114000] M M := fm_same.rf
  have hl := lv_entry ([.ref (ad 60 0), .int p0]) (n := 4) (Nat.le_of_ble_eq_true rfl)
  rw [lg_entry_eq]
  generalize (lg_sl ([.ref (ad 60 0), .int p0]) ++ List.replicate (4 - (lg_sl ([.ref (ad 60 0), .int p0])).length) Slot.unset).toArray = ls at hl ⊢
  have hl : lv_has ls 4 [(0, .ref (ad 60 0)), (1, .int p0)] := hl
  refine lv_iload_n hx hb dX12_pass_0 rfl (lv_at hl 1 rfl) ?_
  refine lv_iconst (v := 1) hx hb dX12_pass_1 (by decide) ?_
  refine lv_bipush (v := 48) hx hb dX12_pass_2 (by decide) ?_
  have zz1 := zk_1
  have zz2 := zk_48
  refine vp_callSi (va_Run.run (va_runS (As := [.int p0, .int 1, .int 48]) (rest := []) ⟨hx, hb, hml, hown, hts⟩ (fc_X12_within l p0 1 48) (va_cwS 3 hts gX12_pass_X12_within rfl rfl rfl (by decide +kernel) ⟨Nat.le_of_ble_eq_true rfl, Nat.le_of_ble_eq_true rfl⟩) ⟨fun a U g mk q => q, fun U hU hW => ⟨rfl, trivial⟩⟩ rfl rfl hl.1 rfl (lv_room (Nat.le_of_ble_eq_true rfl)) dX12_pass_4 ⟨by decide +kernel, by decide +kernel⟩)) (fun r3 hr3 => ?_)
  rcases hr3 with ⟨rfl, c4⟩ | ⟨rfl, c4⟩
  · refine fx_if_ne (tgt := 13) hx hb dX12_pass_7 (by decide) zk_1 (fun c5 => ?_) (fun c5 => by exfalso; omega)
    refine lv_aload_n hx hb dX12_pass_13 rfl (lv_at hl 0 rfl) ?_
    refine fm_getI (a := 60) (j := 0) (T := TX12) (N := 79) hx hb hts hinX12 hown hc hw hI kl_60 sh_60 rfl (by decide) rfl bd_60_0 (hts (.fieldLink RX12 201 "RedTentModel" "hour" "I") (List.mem_cons_of_mem _ tw_5_120)) (fun _ h9 => h9) dX12_pass_14 (fun x6 ex6 bx6 => ?_)
    have wx6 : x6.toInt = (M.1 60 0 0).toInt := by rw [ex6]
    refine lv_iload_n hx hb dX12_pass_17 rfl (lv_at hl 1 rfl) ?_
    refine fx_iadd hx hb dX12_pass_18 rfl rfl (by omega) (fun y7 ey7 ty7 => ?_)
    refine lv_sipush (v := 239) hx hb dX12_pass_19 (by decide) ?_
    refine fx_icmp_le (tgt := 28) hx hb dX12_pass_22 (by decide) rfl zk_239 (fun c8 => ?_) (fun c8 => ?_)
    · refine lv_aload_n hx hb dX12_pass_28 rfl (lv_at hl 0 rfl) ?_
      refine lv_dup hx hb dX12_pass_29 rfl ?_
      refine fm_getI (a := 60) (j := 0) (T := TX12) (N := 79) hx hb hts hinX12 hown hc hw hI kl_60 sh_60 rfl (by decide) rfl bd_60_0 (hts (.fieldLink RX12 201 "RedTentModel" "hour" "I") (List.mem_cons_of_mem _ tw_5_120)) (fun _ h9 => h9) dX12_pass_30 (fun x9 ex9 bx9 => ?_)
      have wx9 : x9.toInt = (M.1 60 0 0).toInt := by rw [ex9]
      obtain rfl : x6 = x9 := by rw [ex9]; exact ex6
      refine lv_iload_n hx hb dX12_pass_33 rfl (lv_at hl 1 rfl) ?_
      refine fx_iadd hx hb dX12_pass_34 rfl rfl (by omega) (fun y10 ey10 ty10 => ?_)
      refine fm_putI (a := 60) (j := 0) (T := TX12) (N := 79) hx hb hts hinX12 tyX12 tyX12_ok nmX12 hown hc hw hI hE hS kl_60 sh_60 od_60 rfl (by decide) rfl bd_60_0 (hts (.fieldLink RX12 201 "RedTentModel" "hour" "I") (List.mem_cons_of_mem _ tw_5_120)) (fun _ h9 => h9) rfl (by decide +kernel) (by omega) (by decide) (by decide) dX12_pass_35 (fun M11 H locs eM11 hw hI hE hS => ?_)
      have mM11_60_0 : (M11.1 60 0 0).toInt = y10.toInt := by rw [eM11, fm_wI_at]
      refine lv_iconst (v := 0) hx hb dX12_pass_38 (by decide) ?_
      refine lv_istore_n (lv' := [(2, .int 0), (0, .ref (ad 60 0)), (1, .int p0)]) hx hb dX12_pass_39 rfl hl (by decide) rfl (fun ls hl => ?_)
      have lp : ∀ (n_lp : Nat) (lp_2 : Int32) (M_lp : fm_M), (12 - lp_2.toInt).toNat < n_lp → (0 ≤ lp_2.toInt ∧ lp_2.toInt ≤ 12) → ((M_lp.1 60 0 0).toInt = (M.1 60 0 0).toInt + p0.toInt) → fm_I nb ad M_lp → fm_same [60000, 114000] M M_lp → ∀ (H : Heap) (locs : List Loc), fm_at D ad C nb M_lp H → va_S (fm_A nb ad) s.heap H locs → ∀ (ls : Array Slot), lv_has ls 4 [(2, .int lp_2), (0, .ref (ad 60 0)), (1, .int p0)] → W p l e (headSpec wsX12_pass ({ frames := 1, cells := 0, slots := 0, locals := 22 })).room s m ([.ref (ad 60 0), .int p0] : List Value).toArray below meth c H locs 0 0 (MQ below (va_Qi (fun (r : Int32) (u : fm_M) => fm_I nb ad u ∧ fm_same [60000, 114000] M u ∧ ((¬ (1 ≤ p0.toInt ∧ p0.toInt ≤ 48) ∧ r.toInt = -2 ∧ (u.1 60 0 0).toInt = (M.1 60 0 0).toInt) ∨ ((1 ≤ p0.toInt ∧ p0.toInt ≤ 48) ∧ 239 < (M.1 60 0 0).toInt + p0.toInt ∧ r.toInt = -4 ∧ (u.1 60 0 0).toInt = (M.1 60 0 0).toInt) ∨ ((1 ≤ p0.toInt ∧ p0.toInt ≤ 48) ∧ (M.1 60 0 0).toInt + p0.toInt ≤ 239 ∧ r.toInt = (M.1 60 0 0).toInt + p0.toInt ∧ (u.1 60 0 0).toInt = r.toInt))) (fun u t => fm_at D ad C nb u t.heap) (fm_A nb ad)) ([.ref (ad 60 0), .int p0] : List Value).toArray s 0 0 (fm_A nb ad)) (F0 m 40 ls []) := by
        intro n_lp
        induction n_lp with
        | zero => intro lp_2 M_lp hm_lp b_lp_2 hh hI hE H locs hw hS ls hl; exact absurd hm_lp (Nat.not_lt_zero _)
        | succ n_lp ih_lp =>
          intro lp_2 M_lp hm_lp b_lp_2 hh hI hE H locs hw hS ls hl
          refine lv_iload_n hx hb dX12_pass_40 rfl (lv_at hl 0 rfl) ?_
          refine lv_aload_n hx hb dX12_pass_41 rfl (lv_at hl 1 rfl) ?_
          refine fm_getI (a := 60) (j := 16) (T := TX12) (N := 79) hx hb hts hinX12 hown hc hw hI kl_60 sh_60 rfl (by decide) rfl bd_60_16 (hts (.fieldLink RX12 190 "RedTentModel" "bodies" "I") (List.mem_cons_of_mem _ tw_5_136)) (fun _ h9 => h9) dX12_pass_42 (fun x12 ex12 bx12 => ?_)
          refine fx_icmp_ge (tgt := 84) hx hb dX12_pass_45 (by decide) rfl rfl (fun c13 => ?_) (fun c13 => ?_)
          · refine lv_aload_n hx hb dX12_pass_84 rfl (lv_at hl 1 rfl) ?_
            refine fm_getI (a := 60) (j := 0) (T := TX12) (N := 79) hx hb hts hinX12 hown hc hw hI kl_60 sh_60 rfl (by decide) rfl bd_60_0 (hts (.fieldLink RX12 201 "RedTentModel" "hour" "I") (List.mem_cons_of_mem _ tw_5_120)) (fun _ h9 => h9) dX12_pass_85 (fun x14 ex14 bx14 => ?_)
            have wx14 : x14.toInt = (M_lp.1 60 0 0).toInt := by rw [ex14]
            have h9 := hI.bd (k := 0) bd_60_0
            exact W.iret (v := x14) hx hb hr (fun t ht hW => ⟨⟨x14, M_lp, rfl, ⟨hI, hE, Or.inr (Or.inr ⟨by omega, by omega, by omega, by rw [ex14]⟩)⟩, by show fm_at D ad C nb _ t.heap; rw [ht]; exact hw⟩, hS.F ht⟩) hS.2.2 dX12_pass_88
          · refine lv_aload_n hx hb dX12_pass_48 rfl (lv_at hl 1 rfl) ?_
            refine fm_getG (a := 60) (j := 14) (T := TX12) (N := 79) hx hb hts hinX12 hown hc hw kl_60 sh_60 rfl (by decide) rfl (hI.to kl_60 tg_60_14) (hts (.fieldLink RX12 40 "RedTentModel" "food" "[I") (List.mem_cons_of_mem _ tw_5_134)) (fun _ h9 => h9) dX12_pass_49 ?_
            refine lv_iload_n hx hb dX12_pass_52 rfl (lv_at hl 0 rfl) ?_
            refine fm_iald (a := 114) hx hb hc hw hI kl_114 sh_114 ty_114 bd_114 (by omega) dX12_pass_53 (fun x15 ex15 bx15 => ?_)
            refine lv_iload_n hx hb dX12_pass_54 rfl (lv_at hl 2 rfl) ?_
            refine lv_aload_n hx hb dX12_pass_55 rfl (lv_at hl 1 rfl) ?_
            refine lv_iload_n hx hb dX12_pass_56 rfl (lv_at hl 0 rfl) ?_
            refine vp_callSi (va_Run.run (va_runV (As := [.int lp_2]) (rest := [.int p0, .int x15]) ⟨hx, hb, hml, hown, hts⟩ (fc_X12_eats l D ad C nb M_lp hI lp_2 (by omega)) (cwV 1 hts gX12_pass_X12_eats rfl rfl rfl (by decide +kernel) ⟨Nat.le_of_ble_eq_true rfl, Nat.le_of_ble_eq_true rfl⟩) (fm_preV hc hw hS kl_60 sh_60 rfl) rfl rfl hl.1 rfl (lv_room (Nat.le_of_ble_eq_true rfl)) dX12_pass_57 ⟨by decide +kernel, by decide +kernel⟩)) (fun r16 hr16 => ?_)
            obtain ⟨br16, qr16⟩ := hr16
            refine fx_imulB (p1 := 48) (q1 := 41) hx hb dX12_pass_60 rfl rfl (by omega) (by omega) (by decide) (fun y17 ey17 ty17 uy17 => ?_)
            refine fx_isub hx hb dX12_pass_61 rfl rfl (by omega) (fun y18 ey18 ty18 => ?_)
            refine lv_istore_n (lv' := [(3, .int y18), (2, .int lp_2), (0, .ref (ad 60 0)), (1, .int p0)]) hx hb dX12_pass_62 rfl hl (by decide) rfl (fun ls hl => ?_)
            refine lv_aload_n hx hb dX12_pass_63 rfl (lv_at hl 2 rfl) ?_
            refine fm_getG (a := 60) (j := 14) (T := TX12) (N := 79) hx hb hts hinX12 hown hc hw kl_60 sh_60 rfl (by decide) rfl (hI.to kl_60 tg_60_14) (hts (.fieldLink RX12 40 "RedTentModel" "food" "[I") (List.mem_cons_of_mem _ tw_5_134)) (fun _ h9 => h9) dX12_pass_64 ?_
            refine lv_iload_n hx hb dX12_pass_67 rfl (lv_at hl 1 rfl) ?_
            refine lv_iload_n hx hb dX12_pass_68 rfl (lv_at hl 0 rfl) ?_
            refine fx_if_ge (tgt := 76) hx hb dX12_pass_69 (by decide) rfl (fun c19 => ?_) (fun c19 => ?_)
            · refine lv_iload_n hx hb dX12_pass_76 rfl (lv_at hl 0 rfl) ?_
              refine fm_iast (a := 114) hx hb hc hw hI hE hS kl_114 sh_114 ty_114 bd_114 (by omega) (by omega) cd_114 (by decide) dX12_pass_77 (fun M20 H locs eM20 hw hI hE hS => ?_)
              have mM20_60_0 : (M20.1 60 0 0).toInt = (M_lp.1 60 0 0).toInt := by rw [eM20, fm_wI_nj (fun z => absurd z.1 (by decide))]
              obtain ⟨y21, ey21⟩ : ∃ y : Int32, y = lp_2 + 1 := ⟨_, rfl⟩
              have ty21 : y21.toInt = lp_2.toInt + 1 := by rw [ey21, zi_add _ _ (by rw [zk_1]; omega) (by rw [zk_1]; omega), zk_1]
              refine lv_iinc (v := y21) (lv' := [(2, .int y21), (3, .int y18), (0, .ref (ad 60 0)), (1, .int p0)]) hx hb dX12_pass_78 hl (k := 1) rfl (by rw [ey21]; rfl) (by decide) rfl (fun ls hl => ?_)
              refine lv_goto (tgt := 40) hx hb dX12_pass_81 (by decide) ?_
              exact ih_lp y21 M20 (by omega) (by omega) (by omega) hI hE _ _ hw hS ls (lv_sub hl [0, 2, 3] rfl)
            · refine lv_iconst (v := 0) hx hb dX12_pass_72 (by decide) ?_
              refine lv_goto (tgt := 77) hx hb dX12_pass_73 (by decide) ?_
              refine fm_iast (a := 114) hx hb hc hw hI hE hS kl_114 sh_114 ty_114 bd_114 (by omega) (by decide) cd_114 (by decide) dX12_pass_77 (fun M22 H locs eM22 hw hI hE hS => ?_)
              have mM22_60_0 : (M22.1 60 0 0).toInt = (M_lp.1 60 0 0).toInt := by rw [eM22, fm_wI_nj (fun z => absurd z.1 (by decide))]
              obtain ⟨y23, ey23⟩ : ∃ y : Int32, y = lp_2 + 1 := ⟨_, rfl⟩
              have ty23 : y23.toInt = lp_2.toInt + 1 := by rw [ey23, zi_add _ _ (by rw [zk_1]; omega) (by rw [zk_1]; omega), zk_1]
              refine lv_iinc (v := y23) (lv' := [(2, .int y23), (3, .int y18), (0, .ref (ad 60 0)), (1, .int p0)]) hx hb dX12_pass_78 hl (k := 1) rfl (by rw [ey23]; rfl) (by decide) rfl (fun ls hl => ?_)
              refine lv_goto (tgt := 40) hx hb dX12_pass_81 (by decide) ?_
              exact ih_lp y23 M22 (by omega) (by omega) (by omega) hI hE _ _ hw hS ls (lv_sub hl [0, 2, 3] rfl)
      exact lp _ 0 M11 (Nat.lt_succ_self _) (by decide) (by omega) hI hE _ _ hw hS ls (lv_sub hl [0, 1, 2] rfl)
    · refine lv_bipush (v := (-4)) hx hb dX12_pass_25 (by decide) ?_
      have qx6 : x6.toInt = (M.1 60 0 0).toInt := by rw [ex6]
      exact W.iret (v := (-4)) hx hb hr (fun t ht hW => ⟨⟨(-4), M, rfl, ⟨hI, hE, Or.inr (Or.inl ⟨by omega, by omega, zk_m4, rfl⟩)⟩, by show fm_at D ad C nb _ t.heap; rw [ht]; exact hw⟩, hS.F ht⟩) hS.2.2 dX12_pass_27
  · refine fx_if_ne (tgt := 13) hx hb dX12_pass_7 (by decide) zk_0 (fun c24 => by exfalso; omega) (fun c24 => ?_)
    refine lv_bipush (v := (-2)) hx hb dX12_pass_10 (by decide) ?_
    exact W.iret (v := (-2)) hx hb hr (fun t ht hW => ⟨⟨(-2), M, rfl, ⟨hI, hE, Or.inl ⟨by omega, zk_m2, rfl⟩⟩, by show fm_at D ad C nb _ t.heap; rw [ht]; exact hw⟩, hS.F ht⟩) hS.2.2 dX12_pass_12
set_option maxHeartbeats 400000 in
set_option maxRecDepth 20000 in
theorem fc_X12_wind (l : Launch) (D : va_G) (ad : Nat → Nat → Nat) (C : Nat → Nat → ClassId) (nb : Nat) (M : fm_M) (hI : fm_I nb ad M) (p0 p1 p2 : Int32) : Met l yX12_wind wsX12_wind ({ frames := 2, cells := 0, slots := 0, locals := 43 }) (va_Pc [.ref (ad 60 0), .int p0, .int p1, .int p2] (fm_P D ad C nb M)) (va_Qi (fun (r : Int32) (u : fm_M) => fm_I nb ad u ∧ fm_same [60005, 102000, 103000, 104000] M u ∧ ((¬ (0 ≤ p0.toInt ∧ p0.toInt < p1.toInt ∧ p1.toInt ≤ 240 ∧ 0 ≤ p2.toInt ∧ p2.toInt ≤ 4444 ∧ p2.toInt / 100 % 10 ≤ 4 ∧ p2.toInt / 10 % 10 ≤ 4 ∧ p2.toInt % 10 ≤ 4 ∧ p2.toInt / 1000 ≤ p2.toInt / 100 % 10 ∧ p2.toInt / 10 % 10 ≤ p2.toInt % 10) ∧ r.toInt = -2 ∧ (u.1 60 0 5).toInt = (M.1 60 0 5).toInt) ∨ ((0 ≤ p0.toInt ∧ p0.toInt < p1.toInt ∧ p1.toInt ≤ 240 ∧ 0 ≤ p2.toInt ∧ p2.toInt ≤ 4444 ∧ p2.toInt / 100 % 10 ≤ 4 ∧ p2.toInt / 10 % 10 ≤ 4 ∧ p2.toInt % 10 ≤ 4 ∧ p2.toInt / 1000 ≤ p2.toInt / 100 % 10 ∧ p2.toInt / 10 % 10 ≤ p2.toInt % 10) ∧ 30 ≤ (M.1 60 0 5).toInt ∧ r.toInt = -4 ∧ (u.1 60 0 5).toInt = (M.1 60 0 5).toInt) ∨ ((0 ≤ p0.toInt ∧ p0.toInt < p1.toInt ∧ p1.toInt ≤ 240 ∧ 0 ≤ p2.toInt ∧ p2.toInt ≤ 4444 ∧ p2.toInt / 100 % 10 ≤ 4 ∧ p2.toInt / 10 % 10 ≤ 4 ∧ p2.toInt % 10 ≤ 4 ∧ p2.toInt / 1000 ≤ p2.toInt / 100 % 10 ∧ p2.toInt / 10 % 10 ≤ p2.toInt % 10) ∧ (M.1 60 0 5).toInt < 30 ∧ r.toInt = (M.1 60 0 5).toInt + 1 ∧ (u.1 60 0 5).toInt = (M.1 60 0 5).toInt + 1))) (fun u t => fm_at D ad C nb u t.heap) (fm_A nb ad)) 0 0 (fm_A nb ad) := by
  refine Met.ofW (cc := cX12_wind) (maxL := 5) (ret := (some .int)) (by decide) rfl ?_
  intro p e s m args below meth c s₁ B hml hv
  obtain ⟨rfl, hw, hc⟩ := hv
  have hx := B.exec
  have hb := B.bytes
  have hr := B.returns
  have hts := atoms_spec (ws := wsX12_wind) B.pre
  have hown : s.vm.findClass RX12 = some m.cls := findClass_of_methodNamed B.named
  have hinX12 : ∀ w ∈ u_ws RX12 TX12 79, w ∈ wsX12_wind := fun w h => List.mem_cons_of_mem _ (iT_X12 w h)
  have hS : va_S (fm_A nb ad) s.heap s.heap [] := va_S.rf
  have hE : fm_same [60005, 102000, 103000, 104000] M M := fm_same.rf
  have hl := lv_entry ([.ref (ad 60 0), .int p0, .int p1, .int p2]) (n := 5) (Nat.le_of_ble_eq_true rfl)
  rw [lg_entry_eq]
  generalize (lg_sl ([.ref (ad 60 0), .int p0, .int p1, .int p2]) ++ List.replicate (5 - (lg_sl ([.ref (ad 60 0), .int p0, .int p1, .int p2])).length) Slot.unset).toArray = ls at hl ⊢
  have hl : lv_has ls 5 [(0, .ref (ad 60 0)), (1, .int p0), (2, .int p1), (3, .int p2)] := hl
  have jt : ∀ (jt_4 : Int32), (0 ≤ jt_4.toInt ∧ jt_4.toInt ≤ 1) → ((jt_4.toInt = 1 → (0 ≤ p0.toInt ∧ p0.toInt < p1.toInt ∧ p1.toInt ≤ 240 ∧ 0 ≤ p2.toInt ∧ p2.toInt ≤ 4444 ∧ p2.toInt / 100 % 10 ≤ 4 ∧ p2.toInt / 10 % 10 ≤ 4 ∧ p2.toInt % 10 ≤ 4)) ∧ (jt_4.toInt = 0 → ¬ (0 ≤ p0.toInt ∧ p0.toInt < p1.toInt ∧ p1.toInt ≤ 240 ∧ 0 ≤ p2.toInt ∧ p2.toInt ≤ 4444 ∧ p2.toInt / 100 % 10 ≤ 4 ∧ p2.toInt / 10 % 10 ≤ 4 ∧ p2.toInt % 10 ≤ 4))) → ∀ (ls : Array Slot), lv_has ls 5 [(0, .ref (ad 60 0)), (1, .int p0), (2, .int p1), (3, .int p2), (4, .int jt_4)] → W p l e (headSpec wsX12_wind ({ frames := 2, cells := 0, slots := 0, locals := 43 })).room s m ([.ref (ad 60 0), .int p0, .int p1, .int p2] : List Value).toArray below meth c s.heap [] 0 0 (MQ below (va_Qi (fun (r : Int32) (u : fm_M) => fm_I nb ad u ∧ fm_same [60005, 102000, 103000, 104000] M u ∧ ((¬ (0 ≤ p0.toInt ∧ p0.toInt < p1.toInt ∧ p1.toInt ≤ 240 ∧ 0 ≤ p2.toInt ∧ p2.toInt ≤ 4444 ∧ p2.toInt / 100 % 10 ≤ 4 ∧ p2.toInt / 10 % 10 ≤ 4 ∧ p2.toInt % 10 ≤ 4 ∧ p2.toInt / 1000 ≤ p2.toInt / 100 % 10 ∧ p2.toInt / 10 % 10 ≤ p2.toInt % 10) ∧ r.toInt = -2 ∧ (u.1 60 0 5).toInt = (M.1 60 0 5).toInt) ∨ ((0 ≤ p0.toInt ∧ p0.toInt < p1.toInt ∧ p1.toInt ≤ 240 ∧ 0 ≤ p2.toInt ∧ p2.toInt ≤ 4444 ∧ p2.toInt / 100 % 10 ≤ 4 ∧ p2.toInt / 10 % 10 ≤ 4 ∧ p2.toInt % 10 ≤ 4 ∧ p2.toInt / 1000 ≤ p2.toInt / 100 % 10 ∧ p2.toInt / 10 % 10 ≤ p2.toInt % 10) ∧ 30 ≤ (M.1 60 0 5).toInt ∧ r.toInt = -4 ∧ (u.1 60 0 5).toInt = (M.1 60 0 5).toInt) ∨ ((0 ≤ p0.toInt ∧ p0.toInt < p1.toInt ∧ p1.toInt ≤ 240 ∧ 0 ≤ p2.toInt ∧ p2.toInt ≤ 4444 ∧ p2.toInt / 100 % 10 ≤ 4 ∧ p2.toInt / 10 % 10 ≤ 4 ∧ p2.toInt % 10 ≤ 4 ∧ p2.toInt / 1000 ≤ p2.toInt / 100 % 10 ∧ p2.toInt / 10 % 10 ≤ p2.toInt % 10) ∧ (M.1 60 0 5).toInt < 30 ∧ r.toInt = (M.1 60 0 5).toInt + 1 ∧ (u.1 60 0 5).toInt = (M.1 60 0 5).toInt + 1))) (fun u t => fm_at D ad C nb u t.heap) (fm_A nb ad)) ([.ref (ad 60 0), .int p0, .int p1, .int p2] : List Value).toArray s 0 0 (fm_A nb ad)) (F0 m 56 ls []) := by
    intro jt_4 b_jt_4 hg ls hl
    refine lv_iload hx hb dX12_wind_56 (lv_at hl 4 rfl) ?_
    refine fx_if_eq (tgt := 90) hx hb dX12_wind_58 (by decide) rfl (fun c1 => ?_) (fun c1 => ?_)
    · refine lv_bipush (v := (-2)) hx hb dX12_wind_90 (by decide) ?_
      exact W.iret (v := (-2)) hx hb hr (fun t ht hW => ⟨⟨(-2), M, rfl, ⟨hI, hE, Or.inl ⟨by omega, zk_m2, rfl⟩⟩, by show fm_at D ad C nb _ t.heap; rw [ht]; exact hw⟩, hS.F ht⟩) hS.2.2 dX12_wind_92
    · refine lv_iload_n hx hb dX12_wind_61 rfl (lv_at hl 3 rfl) ?_
      refine lv_sipush (v := 1000) hx hb dX12_wind_62 (by decide) ?_
      refine fx_idiv hx hb dX12_wind_65 rfl zk_1000 (by omega) (by omega) (fun y2 ey2 ty2 => ?_)
      refine lv_iload_n hx hb dX12_wind_66 rfl (lv_at hl 3 rfl) ?_
      refine lv_bipush (v := 100) hx hb dX12_wind_67 (by decide) ?_
      refine fx_idiv hx hb dX12_wind_69 rfl zk_100 (by omega) (by omega) (fun y3 ey3 ty3 => ?_)
      refine lv_bipush (v := 10) hx hb dX12_wind_70 (by decide) ?_
      refine fx_irem hx hb dX12_wind_72 rfl zk_10 (by omega) (by omega) (fun y4 ey4 ty4 => ?_)
      refine fx_icmp_gt (tgt := 90) hx hb dX12_wind_73 (by decide) rfl rfl (fun c5 => ?_) (fun c5 => ?_)
      · refine lv_bipush (v := (-2)) hx hb dX12_wind_90 (by decide) ?_
        exact W.iret (v := (-2)) hx hb hr (fun t ht hW => ⟨⟨(-2), M, rfl, ⟨hI, hE, Or.inl ⟨by omega, zk_m2, rfl⟩⟩, by show fm_at D ad C nb _ t.heap; rw [ht]; exact hw⟩, hS.F ht⟩) hS.2.2 dX12_wind_92
      · refine lv_iload_n hx hb dX12_wind_76 rfl (lv_at hl 3 rfl) ?_
        refine lv_bipush (v := 10) hx hb dX12_wind_77 (by decide) ?_
        refine fx_idiv hx hb dX12_wind_79 rfl zk_10 (by omega) (by omega) (fun y6 ey6 ty6 => ?_)
        refine lv_bipush (v := 10) hx hb dX12_wind_80 (by decide) ?_
        refine fx_irem hx hb dX12_wind_82 rfl zk_10 (by omega) (by omega) (fun y7 ey7 ty7 => ?_)
        refine lv_iload_n hx hb dX12_wind_83 rfl (lv_at hl 3 rfl) ?_
        refine lv_bipush (v := 10) hx hb dX12_wind_84 (by decide) ?_
        refine fx_irem hx hb dX12_wind_86 rfl zk_10 (by omega) (by omega) (fun y8 ey8 ty8 => ?_)
        refine fx_icmp_le (tgt := 93) hx hb dX12_wind_87 (by decide) rfl rfl (fun c9 => ?_) (fun c9 => ?_)
        · refine lv_aload_n hx hb dX12_wind_93 rfl (lv_at hl 0 rfl) ?_
          refine fm_getI (a := 60) (j := 5) (T := TX12) (N := 79) hx hb hts hinX12 hown hc hw hI kl_60 sh_60 rfl (by decide) rfl bd_60_5 (hts (.fieldLink RX12 211 "RedTentModel" "winds" "I") (List.mem_cons_of_mem _ tw_5_125)) (fun _ h9 => h9) dX12_wind_94 (fun x10 ex10 bx10 => ?_)
          refine lv_bipush (v := 30) hx hb dX12_wind_97 (by decide) ?_
          refine fx_icmp_ne (tgt := 105) hx hb dX12_wind_99 (by decide) rfl zk_30 (fun c11 => ?_) (fun c11 => ?_)
          · refine lv_aload_n hx hb dX12_wind_105 rfl (lv_at hl 0 rfl) ?_
            refine fm_getG (a := 60) (j := 2) (T := TX12) (N := 79) hx hb hts hinX12 hown hc hw kl_60 sh_60 rfl (by decide) rfl (hI.to kl_60 tg_60_2) (hts (.fieldLink RX12 9 "RedTentModel" "windFrom" "[I") (List.mem_cons_of_mem _ tw_5_122)) (fun _ h9 => h9) dX12_wind_106 ?_
            refine lv_aload_n hx hb dX12_wind_109 rfl (lv_at hl 0 rfl) ?_
            refine fm_getI (a := 60) (j := 5) (T := TX12) (N := 79) hx hb hts hinX12 hown hc hw hI kl_60 sh_60 rfl (by decide) rfl bd_60_5 (hts (.fieldLink RX12 211 "RedTentModel" "winds" "I") (List.mem_cons_of_mem _ tw_5_125)) (fun _ h9 => h9) dX12_wind_110 (fun x12 ex12 bx12 => ?_)
            obtain rfl : x10 = x12 := by rw [ex12]; exact ex10
            refine lv_iload_n hx hb dX12_wind_113 rfl (lv_at hl 1 rfl) ?_
            refine fm_iast (a := 102) hx hb hc hw hI hE hS kl_102 sh_102 ty_102 bd_102 (by omega) (by omega) cd_102 (by decide) dX12_wind_114 (fun M13 H locs eM13 hw hI hE hS => ?_)
            refine lv_aload_n hx hb dX12_wind_115 rfl (lv_at hl 0 rfl) ?_
            refine fm_getG (a := 60) (j := 3) (T := TX12) (N := 79) hx hb hts hinX12 hown hc hw kl_60 sh_60 rfl (by decide) rfl (hI.to kl_60 tg_60_3) (hts (.fieldLink RX12 13 "RedTentModel" "windTo" "[I") (List.mem_cons_of_mem _ tw_5_123)) (fun _ h9 => h9) dX12_wind_116 ?_
            refine lv_aload_n hx hb dX12_wind_119 rfl (lv_at hl 0 rfl) ?_
            refine fm_getI (a := 60) (j := 5) (T := TX12) (N := 79) hx hb hts hinX12 hown hc hw hI kl_60 sh_60 rfl (by decide) rfl bd_60_5 (hts (.fieldLink RX12 211 "RedTentModel" "winds" "I") (List.mem_cons_of_mem _ tw_5_125)) (fun _ h9 => h9) dX12_wind_120 (fun x14 ex14 bx14 => ?_)
            obtain rfl : x10 = x14 := by rw [ex14, eM13, fm_wI_nj (fun z => absurd z.1 (by decide))]; exact ex10
            refine lv_iload_n hx hb dX12_wind_123 rfl (lv_at hl 2 rfl) ?_
            refine fm_iast (a := 103) hx hb hc hw hI hE hS kl_103 sh_103 ty_103 bd_103 (by omega) (by omega) cd_103 (by decide) dX12_wind_124 (fun M15 H locs eM15 hw hI hE hS => ?_)
            refine lv_aload_n hx hb dX12_wind_125 rfl (lv_at hl 0 rfl) ?_
            refine fm_getG (a := 60) (j := 4) (T := TX12) (N := 79) hx hb hts hinX12 hown hc hw kl_60 sh_60 rfl (by decide) rfl (hI.to kl_60 tg_60_4) (hts (.fieldLink RX12 16 "RedTentModel" "windBy" "[I") (List.mem_cons_of_mem _ tw_5_124)) (fun _ h9 => h9) dX12_wind_126 ?_
            refine lv_aload_n hx hb dX12_wind_129 rfl (lv_at hl 0 rfl) ?_
            refine fm_getI (a := 60) (j := 5) (T := TX12) (N := 79) hx hb hts hinX12 hown hc hw hI kl_60 sh_60 rfl (by decide) rfl bd_60_5 (hts (.fieldLink RX12 211 "RedTentModel" "winds" "I") (List.mem_cons_of_mem _ tw_5_125)) (fun _ h9 => h9) dX12_wind_130 (fun x16 ex16 bx16 => ?_)
            obtain rfl : x10 = x16 := by rw [ex16, eM15, fm_wI_nj (fun z => absurd z.1 (by decide)), eM13, fm_wI_nj (fun z => absurd z.1 (by decide))]; exact ex10
            refine lv_iload_n hx hb dX12_wind_133 rfl (lv_at hl 3 rfl) ?_
            refine fm_iast (a := 104) hx hb hc hw hI hE hS kl_104 sh_104 ty_104 bd_104 (by omega) (by omega) cd_104 (by decide) dX12_wind_134 (fun M17 H locs eM17 hw hI hE hS => ?_)
            refine lv_aload_n hx hb dX12_wind_135 rfl (lv_at hl 0 rfl) ?_
            refine lv_dup hx hb dX12_wind_136 rfl ?_
            refine fm_getI (a := 60) (j := 5) (T := TX12) (N := 79) hx hb hts hinX12 hown hc hw hI kl_60 sh_60 rfl (by decide) rfl bd_60_5 (hts (.fieldLink RX12 211 "RedTentModel" "winds" "I") (List.mem_cons_of_mem _ tw_5_125)) (fun _ h9 => h9) dX12_wind_137 (fun x18 ex18 bx18 => ?_)
            obtain rfl : x10 = x18 := by rw [ex18, eM17, fm_wI_nj (fun z => absurd z.1 (by decide)), eM15, fm_wI_nj (fun z => absurd z.1 (by decide)), eM13, fm_wI_nj (fun z => absurd z.1 (by decide))]; exact ex10
            refine lv_iconst (v := 1) hx hb dX12_wind_140 (by decide) ?_
            refine fx_iadd hx hb dX12_wind_141 rfl zk_1 (by omega) (fun y19 ey19 ty19 => ?_)
            refine fm_putI (a := 60) (j := 5) (T := TX12) (N := 79) hx hb hts hinX12 tyX12 tyX12_ok nmX12 hown hc hw hI hE hS kl_60 sh_60 od_60 rfl (by decide) rfl bd_60_5 (hts (.fieldLink RX12 211 "RedTentModel" "winds" "I") (List.mem_cons_of_mem _ tw_5_125)) (fun _ h9 => h9) rfl (by decide +kernel) (by omega) (by decide) (by decide) dX12_wind_142 (fun M20 H locs eM20 hw hI hE hS => ?_)
            refine lv_aload_n hx hb dX12_wind_145 rfl (lv_at hl 0 rfl) ?_
            refine fm_getI (a := 60) (j := 5) (T := TX12) (N := 79) hx hb hts hinX12 hown hc hw hI kl_60 sh_60 rfl (by decide) rfl bd_60_5 (hts (.fieldLink RX12 211 "RedTentModel" "winds" "I") (List.mem_cons_of_mem _ tw_5_125)) (fun _ h9 => h9) dX12_wind_146 (fun x21 ex21 bx21 => ?_)
            obtain rfl : y19 = x21 := by rw [ex21, eM20, fm_wI_at]
            have qx10 : x10.toInt = (M.1 60 0 5).toInt := by rw [ex10]
            exact W.iret (v := y19) hx hb hr (fun t ht hW => ⟨⟨y19, M20, rfl, ⟨hI, hE, Or.inr (Or.inr ⟨by omega, by omega, by omega, (by first | omega | (rw [eM20, fm_wI_at]; omega))⟩)⟩, by show fm_at D ad C nb _ t.heap; rw [ht]; exact hw⟩, hS.F ht⟩) hS.2.2 dX12_wind_149
          · refine lv_bipush (v := (-4)) hx hb dX12_wind_102 (by decide) ?_
            have qx10 : x10.toInt = (M.1 60 0 5).toInt := by rw [ex10]
            exact W.iret (v := (-4)) hx hb hr (fun t ht hW => ⟨⟨(-4), M, rfl, ⟨hI, hE, Or.inr (Or.inl ⟨by omega, by omega, zk_m4, rfl⟩)⟩, by show fm_at D ad C nb _ t.heap; rw [ht]; exact hw⟩, hS.F ht⟩) hS.2.2 dX12_wind_104
        · refine lv_bipush (v := (-2)) hx hb dX12_wind_90 (by decide) ?_
          exact W.iret (v := (-2)) hx hb hr (fun t ht hW => ⟨⟨(-2), M, rfl, ⟨hI, hE, Or.inl ⟨by omega, zk_m2, rfl⟩⟩, by show fm_at D ad C nb _ t.heap; rw [ht]; exact hw⟩, hS.F ht⟩) hS.2.2 dX12_wind_92
  refine lv_iload_n hx hb dX12_wind_0 rfl (lv_at hl 1 rfl) ?_
  refine lv_iload_n hx hb dX12_wind_1 rfl (lv_at hl 2 rfl) ?_
  refine vp_callSi (va_Run.run (va_runS (As := [.int p0, .int p1]) (rest := []) ⟨hx, hb, hml, hown, hts⟩ (fc_X12_areHours l p0 p1) (va_cwS 2 hts gX12_wind_X12_areHours rfl rfl rfl (by decide +kernel) ⟨Nat.le_of_ble_eq_true rfl, Nat.le_of_ble_eq_true rfl⟩) ⟨fun a U g mk q => q, fun U hU hW => ⟨rfl, trivial⟩⟩ rfl rfl hl.1 rfl (lv_room (Nat.le_of_ble_eq_true rfl)) dX12_wind_2 ⟨by decide +kernel, by decide +kernel⟩)) (fun r22 hr22 => ?_)
  rcases hr22 with ⟨rfl, c23⟩ | ⟨rfl, c23⟩
  · refine fx_if_eq (tgt := 53) hx hb dX12_wind_5 (by decide) zk_1 (fun c24 => by exfalso; omega) (fun c24 => ?_)
    refine lv_iload_n hx hb dX12_wind_8 rfl (lv_at hl 3 rfl) ?_
    refine lv_iconst (v := 0) hx hb dX12_wind_9 (by decide) ?_
    refine lv_sipush (v := 4444) hx hb dX12_wind_10 (by decide) ?_
    have zz25 := zk_0
    have zz26 := zk_4444
    refine vp_callSi (va_Run.run (va_runS (As := [.int p2, .int 0, .int 4444]) (rest := []) ⟨hx, hb, hml, hown, hts⟩ (fc_X12_within l p2 0 4444) (va_cwS 3 hts gX12_wind_X12_within rfl rfl rfl (by decide +kernel) ⟨Nat.le_of_ble_eq_true rfl, Nat.le_of_ble_eq_true rfl⟩) ⟨fun a U g mk q => q, fun U hU hW => ⟨rfl, trivial⟩⟩ rfl rfl hl.1 rfl (lv_room (Nat.le_of_ble_eq_true rfl)) dX12_wind_13 ⟨by decide +kernel, by decide +kernel⟩)) (fun r27 hr27 => ?_)
    rcases hr27 with ⟨rfl, c28⟩ | ⟨rfl, c28⟩
    · refine fx_if_eq (tgt := 53) hx hb dX12_wind_16 (by decide) zk_1 (fun c29 => by exfalso; omega) (fun c29 => ?_)
      refine lv_iload_n hx hb dX12_wind_19 rfl (lv_at hl 3 rfl) ?_
      refine lv_bipush (v := 100) hx hb dX12_wind_20 (by decide) ?_
      refine fx_idiv hx hb dX12_wind_22 rfl zk_100 (by omega) (by omega) (fun y30 ey30 ty30 => ?_)
      refine lv_bipush (v := 10) hx hb dX12_wind_23 (by decide) ?_
      refine fx_irem hx hb dX12_wind_25 rfl zk_10 (by omega) (by omega) (fun y31 ey31 ty31 => ?_)
      refine lv_iconst (v := 4) hx hb dX12_wind_26 (by decide) ?_
      refine fx_icmp_gt (tgt := 53) hx hb dX12_wind_27 (by decide) rfl zk_4 (fun c32 => ?_) (fun c32 => ?_)
      · refine lv_iconst (v := 0) hx hb dX12_wind_53 (by decide) ?_
        refine lv_istore (lv' := [(4, .int 0), (0, .ref (ad 60 0)), (1, .int p0), (2, .int p1), (3, .int p2)]) hx hb dX12_wind_54 hl (by decide) rfl (fun ls hl => ?_)
        exact jt 0 (by decide) (by have zjt_4 := zk_0; omega) ls (lv_sub hl [1, 2, 3, 4, 0] rfl)
      · refine lv_iload_n hx hb dX12_wind_30 rfl (lv_at hl 3 rfl) ?_
        refine lv_bipush (v := 10) hx hb dX12_wind_31 (by decide) ?_
        refine fx_idiv hx hb dX12_wind_33 rfl zk_10 (by omega) (by omega) (fun y33 ey33 ty33 => ?_)
        refine lv_bipush (v := 10) hx hb dX12_wind_34 (by decide) ?_
        refine fx_irem hx hb dX12_wind_36 rfl zk_10 (by omega) (by omega) (fun y34 ey34 ty34 => ?_)
        refine lv_iconst (v := 4) hx hb dX12_wind_37 (by decide) ?_
        refine fx_icmp_gt (tgt := 53) hx hb dX12_wind_38 (by decide) rfl zk_4 (fun c35 => ?_) (fun c35 => ?_)
        · refine lv_iconst (v := 0) hx hb dX12_wind_53 (by decide) ?_
          refine lv_istore (lv' := [(4, .int 0), (0, .ref (ad 60 0)), (1, .int p0), (2, .int p1), (3, .int p2)]) hx hb dX12_wind_54 hl (by decide) rfl (fun ls hl => ?_)
          exact jt 0 (by decide) (by have zjt_4 := zk_0; omega) ls (lv_sub hl [1, 2, 3, 4, 0] rfl)
        · refine lv_iload_n hx hb dX12_wind_41 rfl (lv_at hl 3 rfl) ?_
          refine lv_bipush (v := 10) hx hb dX12_wind_42 (by decide) ?_
          refine fx_irem hx hb dX12_wind_44 rfl zk_10 (by omega) (by omega) (fun y36 ey36 ty36 => ?_)
          refine lv_iconst (v := 4) hx hb dX12_wind_45 (by decide) ?_
          refine fx_icmp_gt (tgt := 53) hx hb dX12_wind_46 (by decide) rfl zk_4 (fun c37 => ?_) (fun c37 => ?_)
          · refine lv_iconst (v := 0) hx hb dX12_wind_53 (by decide) ?_
            refine lv_istore (lv' := [(4, .int 0), (0, .ref (ad 60 0)), (1, .int p0), (2, .int p1), (3, .int p2)]) hx hb dX12_wind_54 hl (by decide) rfl (fun ls hl => ?_)
            exact jt 0 (by decide) (by have zjt_4 := zk_0; omega) ls (lv_sub hl [1, 2, 3, 4, 0] rfl)
          · refine lv_iconst (v := 1) hx hb dX12_wind_49 (by decide) ?_
            refine lv_goto (tgt := 54) hx hb dX12_wind_50 (by decide) ?_
            refine lv_istore (lv' := [(4, .int 1), (0, .ref (ad 60 0)), (1, .int p0), (2, .int p1), (3, .int p2)]) hx hb dX12_wind_54 hl (by decide) rfl (fun ls hl => ?_)
            exact jt 1 (by decide) (by have zjt_4 := zk_1; omega) ls (lv_sub hl [1, 2, 3, 4, 0] rfl)
    · refine fx_if_eq (tgt := 53) hx hb dX12_wind_16 (by decide) zk_0 (fun c38 => ?_) (fun c38 => by exfalso; omega)
      refine lv_iconst (v := 0) hx hb dX12_wind_53 (by decide) ?_
      refine lv_istore (lv' := [(4, .int 0), (0, .ref (ad 60 0)), (1, .int p0), (2, .int p1), (3, .int p2)]) hx hb dX12_wind_54 hl (by decide) rfl (fun ls hl => ?_)
      exact jt 0 (by decide) (by have zjt_4 := zk_0; omega) ls (lv_sub hl [1, 2, 3, 4, 0] rfl)
  · refine fx_if_eq (tgt := 53) hx hb dX12_wind_5 (by decide) zk_0 (fun c39 => ?_) (fun c39 => by exfalso; omega)
    refine lv_iconst (v := 0) hx hb dX12_wind_53 (by decide) ?_
    refine lv_istore (lv' := [(4, .int 0), (0, .ref (ad 60 0)), (1, .int p0), (2, .int p1), (3, .int p2)]) hx hb dX12_wind_54 hl (by decide) rfl (fun ls hl => ?_)
    exact jt 0 (by decide) (by have zjt_4 := zk_0; omega) ls (lv_sub hl [1, 2, 3, 4, 0] rfl)
set_option maxHeartbeats 400000 in
set_option maxRecDepth 20000 in
theorem fc_X12_fog (l : Launch) (D : va_G) (ad : Nat → Nat → Nat) (C : Nat → Nat → ClassId) (nb : Nat) (M : fm_M) (hI : fm_I nb ad M) (p0 p1 p2 : Int32) : Met l yX12_fog wsX12_fog ({ frames := 2, cells := 0, slots := 0, locals := 43 }) (va_Pc [.ref (ad 60 0), .int p0, .int p1, .int p2] (fm_P D ad C nb M)) (va_Qi (fun (r : Int32) (u : fm_M) => fm_I nb ad u ∧ fm_same [60009, 106000, 107000, 108000] M u ∧ ((¬ (0 ≤ p0.toInt ∧ p0.toInt < p1.toInt ∧ p1.toInt ≤ 240 ∧ 0 ≤ p2.toInt ∧ p2.toInt ≤ 16) ∧ r.toInt = -2 ∧ (u.1 60 0 9).toInt = (M.1 60 0 9).toInt) ∨ ((0 ≤ p0.toInt ∧ p0.toInt < p1.toInt ∧ p1.toInt ≤ 240 ∧ 0 ≤ p2.toInt ∧ p2.toInt ≤ 16) ∧ 30 ≤ (M.1 60 0 9).toInt ∧ r.toInt = -4 ∧ (u.1 60 0 9).toInt = (M.1 60 0 9).toInt) ∨ ((0 ≤ p0.toInt ∧ p0.toInt < p1.toInt ∧ p1.toInt ≤ 240 ∧ 0 ≤ p2.toInt ∧ p2.toInt ≤ 16) ∧ (M.1 60 0 9).toInt < 30 ∧ r.toInt = (M.1 60 0 9).toInt + 1 ∧ (u.1 60 0 9).toInt = (M.1 60 0 9).toInt + 1))) (fun u t => fm_at D ad C nb u t.heap) (fm_A nb ad)) 0 0 (fm_A nb ad) := by
  refine Met.ofW (cc := cX12_fog) (maxL := 4) (ret := (some .int)) (by decide) rfl ?_
  intro p e s m args below meth c s₁ B hml hv
  obtain ⟨rfl, hw, hc⟩ := hv
  have hx := B.exec
  have hb := B.bytes
  have hr := B.returns
  have hts := atoms_spec (ws := wsX12_fog) B.pre
  have hown : s.vm.findClass RX12 = some m.cls := findClass_of_methodNamed B.named
  have hinX12 : ∀ w ∈ u_ws RX12 TX12 79, w ∈ wsX12_fog := fun w h => List.mem_cons_of_mem _ (iT_X12 w h)
  have hS : va_S (fm_A nb ad) s.heap s.heap [] := va_S.rf
  have hE : fm_same [60009, 106000, 107000, 108000] M M := fm_same.rf
  have hl := lv_entry ([.ref (ad 60 0), .int p0, .int p1, .int p2]) (n := 4) (Nat.le_of_ble_eq_true rfl)
  rw [lg_entry_eq]
  generalize (lg_sl ([.ref (ad 60 0), .int p0, .int p1, .int p2]) ++ List.replicate (4 - (lg_sl ([.ref (ad 60 0), .int p0, .int p1, .int p2])).length) Slot.unset).toArray = ls at hl ⊢
  have hl : lv_has ls 4 [(0, .ref (ad 60 0)), (1, .int p0), (2, .int p1), (3, .int p2)] := hl
  refine lv_iload_n hx hb dX12_fog_0 rfl (lv_at hl 1 rfl) ?_
  refine lv_iload_n hx hb dX12_fog_1 rfl (lv_at hl 2 rfl) ?_
  refine vp_callSi (va_Run.run (va_runS (As := [.int p0, .int p1]) (rest := []) ⟨hx, hb, hml, hown, hts⟩ (fc_X12_areHours l p0 p1) (va_cwS 2 hts gX12_fog_X12_areHours rfl rfl rfl (by decide +kernel) ⟨Nat.le_of_ble_eq_true rfl, Nat.le_of_ble_eq_true rfl⟩) ⟨fun a U g mk q => q, fun U hU hW => ⟨rfl, trivial⟩⟩ rfl rfl hl.1 rfl (lv_room (Nat.le_of_ble_eq_true rfl)) dX12_fog_2 ⟨by decide +kernel, by decide +kernel⟩)) (fun r1 hr1 => ?_)
  rcases hr1 with ⟨rfl, c2⟩ | ⟨rfl, c2⟩
  · refine fx_if_eq (tgt := 18) hx hb dX12_fog_5 (by decide) zk_1 (fun c3 => by exfalso; omega) (fun c3 => ?_)
    refine lv_iload_n hx hb dX12_fog_8 rfl (lv_at hl 3 rfl) ?_
    refine lv_iconst (v := 0) hx hb dX12_fog_9 (by decide) ?_
    refine lv_bipush (v := 16) hx hb dX12_fog_10 (by decide) ?_
    have zz4 := zk_0
    have zz5 := zk_16
    refine vp_callSi (va_Run.run (va_runS (As := [.int p2, .int 0, .int 16]) (rest := []) ⟨hx, hb, hml, hown, hts⟩ (fc_X12_within l p2 0 16) (va_cwS 3 hts gX12_fog_X12_within rfl rfl rfl (by decide +kernel) ⟨Nat.le_of_ble_eq_true rfl, Nat.le_of_ble_eq_true rfl⟩) ⟨fun a U g mk q => q, fun U hU hW => ⟨rfl, trivial⟩⟩ rfl rfl hl.1 rfl (lv_room (Nat.le_of_ble_eq_true rfl)) dX12_fog_12 ⟨by decide +kernel, by decide +kernel⟩)) (fun r6 hr6 => ?_)
    rcases hr6 with ⟨rfl, c7⟩ | ⟨rfl, c7⟩
    · refine fx_if_ne (tgt := 21) hx hb dX12_fog_15 (by decide) zk_1 (fun c8 => ?_) (fun c8 => by exfalso; omega)
      refine lv_aload_n hx hb dX12_fog_21 rfl (lv_at hl 0 rfl) ?_
      refine fm_getI (a := 60) (j := 9) (T := TX12) (N := 79) hx hb hts hinX12 hown hc hw hI kl_60 sh_60 rfl (by decide) rfl bd_60_9 (hts (.fieldLink RX12 214 "RedTentModel" "fogs" "I") (List.mem_cons_of_mem _ tw_5_129)) (fun _ h9 => h9) dX12_fog_22 (fun x9 ex9 bx9 => ?_)
      refine lv_bipush (v := 30) hx hb dX12_fog_25 (by decide) ?_
      refine fx_icmp_ne (tgt := 33) hx hb dX12_fog_27 (by decide) rfl zk_30 (fun c10 => ?_) (fun c10 => ?_)
      · refine lv_aload_n hx hb dX12_fog_33 rfl (lv_at hl 0 rfl) ?_
        refine fm_getG (a := 60) (j := 6) (T := TX12) (N := 79) hx hb hts hinX12 hown hc hw kl_60 sh_60 rfl (by decide) rfl (hI.to kl_60 tg_60_6) (hts (.fieldLink RX12 19 "RedTentModel" "fogFrom" "[I") (List.mem_cons_of_mem _ tw_5_126)) (fun _ h9 => h9) dX12_fog_34 ?_
        refine lv_aload_n hx hb dX12_fog_37 rfl (lv_at hl 0 rfl) ?_
        refine fm_getI (a := 60) (j := 9) (T := TX12) (N := 79) hx hb hts hinX12 hown hc hw hI kl_60 sh_60 rfl (by decide) rfl bd_60_9 (hts (.fieldLink RX12 214 "RedTentModel" "fogs" "I") (List.mem_cons_of_mem _ tw_5_129)) (fun _ h9 => h9) dX12_fog_38 (fun x11 ex11 bx11 => ?_)
        obtain rfl : x9 = x11 := by rw [ex11]; exact ex9
        refine lv_iload_n hx hb dX12_fog_41 rfl (lv_at hl 1 rfl) ?_
        refine fm_iast (a := 106) hx hb hc hw hI hE hS kl_106 sh_106 ty_106 bd_106 (by omega) (by omega) cd_106 (by decide) dX12_fog_42 (fun M12 H locs eM12 hw hI hE hS => ?_)
        refine lv_aload_n hx hb dX12_fog_43 rfl (lv_at hl 0 rfl) ?_
        refine fm_getG (a := 60) (j := 7) (T := TX12) (N := 79) hx hb hts hinX12 hown hc hw kl_60 sh_60 rfl (by decide) rfl (hI.to kl_60 tg_60_7) (hts (.fieldLink RX12 22 "RedTentModel" "fogTo" "[I") (List.mem_cons_of_mem _ tw_5_127)) (fun _ h9 => h9) dX12_fog_44 ?_
        refine lv_aload_n hx hb dX12_fog_47 rfl (lv_at hl 0 rfl) ?_
        refine fm_getI (a := 60) (j := 9) (T := TX12) (N := 79) hx hb hts hinX12 hown hc hw hI kl_60 sh_60 rfl (by decide) rfl bd_60_9 (hts (.fieldLink RX12 214 "RedTentModel" "fogs" "I") (List.mem_cons_of_mem _ tw_5_129)) (fun _ h9 => h9) dX12_fog_48 (fun x13 ex13 bx13 => ?_)
        obtain rfl : x9 = x13 := by rw [ex13, eM12, fm_wI_nj (fun z => absurd z.1 (by decide))]; exact ex9
        refine lv_iload_n hx hb dX12_fog_51 rfl (lv_at hl 2 rfl) ?_
        refine fm_iast (a := 107) hx hb hc hw hI hE hS kl_107 sh_107 ty_107 bd_107 (by omega) (by omega) cd_107 (by decide) dX12_fog_52 (fun M14 H locs eM14 hw hI hE hS => ?_)
        refine lv_aload_n hx hb dX12_fog_53 rfl (lv_at hl 0 rfl) ?_
        refine fm_getG (a := 60) (j := 8) (T := TX12) (N := 79) hx hb hts hinX12 hown hc hw kl_60 sh_60 rfl (by decide) rfl (hI.to kl_60 tg_60_8) (hts (.fieldLink RX12 25 "RedTentModel" "fogIs" "[I") (List.mem_cons_of_mem _ tw_5_128)) (fun _ h9 => h9) dX12_fog_54 ?_
        refine lv_aload_n hx hb dX12_fog_57 rfl (lv_at hl 0 rfl) ?_
        refine fm_getI (a := 60) (j := 9) (T := TX12) (N := 79) hx hb hts hinX12 hown hc hw hI kl_60 sh_60 rfl (by decide) rfl bd_60_9 (hts (.fieldLink RX12 214 "RedTentModel" "fogs" "I") (List.mem_cons_of_mem _ tw_5_129)) (fun _ h9 => h9) dX12_fog_58 (fun x15 ex15 bx15 => ?_)
        obtain rfl : x9 = x15 := by rw [ex15, eM14, fm_wI_nj (fun z => absurd z.1 (by decide)), eM12, fm_wI_nj (fun z => absurd z.1 (by decide))]; exact ex9
        refine lv_iload_n hx hb dX12_fog_61 rfl (lv_at hl 3 rfl) ?_
        refine fm_iast (a := 108) hx hb hc hw hI hE hS kl_108 sh_108 ty_108 bd_108 (by omega) (by omega) cd_108 (by decide) dX12_fog_62 (fun M16 H locs eM16 hw hI hE hS => ?_)
        refine lv_aload_n hx hb dX12_fog_63 rfl (lv_at hl 0 rfl) ?_
        refine lv_dup hx hb dX12_fog_64 rfl ?_
        refine fm_getI (a := 60) (j := 9) (T := TX12) (N := 79) hx hb hts hinX12 hown hc hw hI kl_60 sh_60 rfl (by decide) rfl bd_60_9 (hts (.fieldLink RX12 214 "RedTentModel" "fogs" "I") (List.mem_cons_of_mem _ tw_5_129)) (fun _ h9 => h9) dX12_fog_65 (fun x17 ex17 bx17 => ?_)
        obtain rfl : x9 = x17 := by rw [ex17, eM16, fm_wI_nj (fun z => absurd z.1 (by decide)), eM14, fm_wI_nj (fun z => absurd z.1 (by decide)), eM12, fm_wI_nj (fun z => absurd z.1 (by decide))]; exact ex9
        refine lv_iconst (v := 1) hx hb dX12_fog_68 (by decide) ?_
        refine fx_iadd hx hb dX12_fog_69 rfl zk_1 (by omega) (fun y18 ey18 ty18 => ?_)
        refine fm_putI (a := 60) (j := 9) (T := TX12) (N := 79) hx hb hts hinX12 tyX12 tyX12_ok nmX12 hown hc hw hI hE hS kl_60 sh_60 od_60 rfl (by decide) rfl bd_60_9 (hts (.fieldLink RX12 214 "RedTentModel" "fogs" "I") (List.mem_cons_of_mem _ tw_5_129)) (fun _ h9 => h9) rfl (by decide +kernel) (by omega) (by decide) (by decide) dX12_fog_70 (fun M19 H locs eM19 hw hI hE hS => ?_)
        refine lv_aload_n hx hb dX12_fog_73 rfl (lv_at hl 0 rfl) ?_
        refine fm_getI (a := 60) (j := 9) (T := TX12) (N := 79) hx hb hts hinX12 hown hc hw hI kl_60 sh_60 rfl (by decide) rfl bd_60_9 (hts (.fieldLink RX12 214 "RedTentModel" "fogs" "I") (List.mem_cons_of_mem _ tw_5_129)) (fun _ h9 => h9) dX12_fog_74 (fun x20 ex20 bx20 => ?_)
        obtain rfl : y18 = x20 := by rw [ex20, eM19, fm_wI_at]
        have qx9 : x9.toInt = (M.1 60 0 9).toInt := by rw [ex9]
        exact W.iret (v := y18) hx hb hr (fun t ht hW => ⟨⟨y18, M19, rfl, ⟨hI, hE, Or.inr (Or.inr ⟨by omega, by omega, by omega, (by first | omega | (rw [eM19, fm_wI_at]; omega))⟩)⟩, by show fm_at D ad C nb _ t.heap; rw [ht]; exact hw⟩, hS.F ht⟩) hS.2.2 dX12_fog_77
      · refine lv_bipush (v := (-4)) hx hb dX12_fog_30 (by decide) ?_
        have qx9 : x9.toInt = (M.1 60 0 9).toInt := by rw [ex9]
        exact W.iret (v := (-4)) hx hb hr (fun t ht hW => ⟨⟨(-4), M, rfl, ⟨hI, hE, Or.inr (Or.inl ⟨by omega, by omega, zk_m4, rfl⟩)⟩, by show fm_at D ad C nb _ t.heap; rw [ht]; exact hw⟩, hS.F ht⟩) hS.2.2 dX12_fog_32
    · refine fx_if_ne (tgt := 21) hx hb dX12_fog_15 (by decide) zk_0 (fun c21 => by exfalso; omega) (fun c21 => ?_)
      refine lv_bipush (v := (-2)) hx hb dX12_fog_18 (by decide) ?_
      exact W.iret (v := (-2)) hx hb hr (fun t ht hW => ⟨⟨(-2), M, rfl, ⟨hI, hE, Or.inl ⟨by omega, zk_m2, rfl⟩⟩, by show fm_at D ad C nb _ t.heap; rw [ht]; exact hw⟩, hS.F ht⟩) hS.2.2 dX12_fog_20
  · refine fx_if_eq (tgt := 18) hx hb dX12_fog_5 (by decide) zk_0 (fun c22 => ?_) (fun c22 => by exfalso; omega)
    refine lv_bipush (v := (-2)) hx hb dX12_fog_18 (by decide) ?_
    exact W.iret (v := (-2)) hx hb hr (fun t ht hW => ⟨⟨(-2), M, rfl, ⟨hI, hE, Or.inl ⟨by omega, zk_m2, rfl⟩⟩, by show fm_at D ad C nb _ t.heap; rw [ht]; exact hw⟩, hS.F ht⟩) hS.2.2 dX12_fog_20
set_option maxHeartbeats 400000 in
set_option maxRecDepth 20000 in
theorem fc_X12_body (l : Launch) (D : va_G) (ad : Nat → Nat → Nat) (C : Nat → Nat → ClassId) (nb : Nat) (M : fm_M) (hI : fm_I nb ad M) (p0 p1 p2 p3 p4 : Int32) : Met l yX12_body wsX12_body ({ frames := 2, cells := 0, slots := 0, locals := 42 }) (va_Pc [.ref (ad 60 0), .int p0, .int p1, .int p2, .int p3, .int p4] (fm_P D ad C nb M)) (va_Qi (fun (r : Int32) (u : fm_M) => fm_I nb ad u ∧ fm_same [60016, 110000, 111000, 112000, 113000, 114000, 115000] M u ∧ ((¬ (0 ≤ p0.toInt ∧ p0.toInt ≤ 5 ∧ 0 ≤ p1.toInt ∧ p1.toInt ≤ 63 ∧ 0 ≤ p2.toInt ∧ p2.toInt ≤ 20 ∧ 0 ≤ p3.toInt ∧ p3.toInt ≤ 9999 ∧ 0 ≤ p4.toInt ∧ p4.toInt ≤ 999) ∧ r.toInt = -2 ∧ (u.1 60 0 16).toInt = (M.1 60 0 16).toInt ∧ u = M) ∨ ((0 ≤ p0.toInt ∧ p0.toInt ≤ 5 ∧ 0 ≤ p1.toInt ∧ p1.toInt ≤ 63 ∧ 0 ≤ p2.toInt ∧ p2.toInt ≤ 20 ∧ 0 ≤ p3.toInt ∧ p3.toInt ≤ 9999 ∧ 0 ≤ p4.toInt ∧ p4.toInt ≤ 999) ∧ 12 ≤ (M.1 60 0 16).toInt ∧ r.toInt = -4 ∧ (u.1 60 0 16).toInt = (M.1 60 0 16).toInt ∧ u = M) ∨ ((0 ≤ p0.toInt ∧ p0.toInt ≤ 5 ∧ 0 ≤ p1.toInt ∧ p1.toInt ≤ 63 ∧ 0 ≤ p2.toInt ∧ p2.toInt ≤ 20 ∧ 0 ≤ p3.toInt ∧ p3.toInt ≤ 9999 ∧ 0 ≤ p4.toInt ∧ p4.toInt ≤ 999) ∧ (M.1 60 0 16).toInt < 12 ∧ r.toInt = (M.1 60 0 16).toInt ∧ (u.1 60 0 16).toInt = (M.1 60 0 16).toInt + 1 ∧ (∀ j : Nat, u.1 110 0 j = if j = (M.1 60 0 16).toNatClampNeg then p0 else M.1 110 0 j) ∧ (∀ j : Nat, u.1 111 0 j = if j = (M.1 60 0 16).toNatClampNeg then M.1 60 0 0 else M.1 111 0 j) ∧ (∀ j : Nat, u.1 112 0 j = if j = (M.1 60 0 16).toNatClampNeg then p1 else M.1 112 0 j) ∧ (∀ j : Nat, u.1 113 0 j = if j = (M.1 60 0 16).toNatClampNeg then p2 else M.1 113 0 j) ∧ (∀ j : Nat, u.1 114 0 j = if j = (M.1 60 0 16).toNatClampNeg then p3 else M.1 114 0 j) ∧ (∀ j : Nat, u.1 115 0 j = if j = (M.1 60 0 16).toNatClampNeg then p4 else M.1 115 0 j)))) (fun u t => fm_at D ad C nb u t.heap) (fm_A nb ad)) 0 0 (fm_A nb ad) := by
  refine Met.ofW (cc := cX12_body) (maxL := 6) (ret := (some .int)) (by decide) rfl ?_
  intro p e s m args below meth c s₁ B hml hv
  obtain ⟨rfl, hw, hc⟩ := hv
  have hx := B.exec
  have hb := B.bytes
  have hr := B.returns
  have hts := atoms_spec (ws := wsX12_body) B.pre
  have hown : s.vm.findClass RX12 = some m.cls := findClass_of_methodNamed B.named
  have hinX12 : ∀ w ∈ u_ws RX12 TX12 79, w ∈ wsX12_body := fun w h => List.mem_cons_of_mem _ (iT_X12 w h)
  have hS : va_S (fm_A nb ad) s.heap s.heap [] := va_S.rf
  have hE : fm_same [60016, 110000, 111000, 112000, 113000, 114000, 115000] M M := fm_same.rf
  have hl := lv_entry ([.ref (ad 60 0), .int p0, .int p1, .int p2, .int p3, .int p4]) (n := 6) (Nat.le_of_ble_eq_true rfl)
  rw [lg_entry_eq]
  generalize (lg_sl ([.ref (ad 60 0), .int p0, .int p1, .int p2, .int p3, .int p4]) ++ List.replicate (6 - (lg_sl ([.ref (ad 60 0), .int p0, .int p1, .int p2, .int p3, .int p4])).length) Slot.unset).toArray = ls at hl ⊢
  have hl : lv_has ls 6 [(0, .ref (ad 60 0)), (1, .int p0), (2, .int p1), (3, .int p2), (4, .int p3), (5, .int p4)] := hl
  refine lv_iload_n hx hb dX12_body_0 rfl (lv_at hl 1 rfl) ?_
  refine lv_iconst (v := 0) hx hb dX12_body_1 (by decide) ?_
  refine lv_iconst (v := 5) hx hb dX12_body_2 (by decide) ?_
  have zz1 := zk_0
  have zz2 := zk_5
  refine vp_callSi (va_Run.run (va_runS (As := [.int p0, .int 0, .int 5]) (rest := []) ⟨hx, hb, hml, hown, hts⟩ (fc_X12_within l p0 0 5) (va_cwS 3 hts gX12_body_X12_within rfl rfl rfl (by decide +kernel) ⟨Nat.le_of_ble_eq_true rfl, Nat.le_of_ble_eq_true rfl⟩) ⟨fun a U g mk q => q, fun U hU hW => ⟨rfl, trivial⟩⟩ rfl rfl hl.1 rfl (lv_room (Nat.le_of_ble_eq_true rfl)) dX12_body_3 ⟨by decide +kernel, by decide +kernel⟩)) (fun r3 hr3 => ?_)
  rcases hr3 with ⟨rfl, c4⟩ | ⟨rfl, c4⟩
  · refine fx_if_eq (tgt := 50) hx hb dX12_body_6 (by decide) zk_1 (fun c5 => by exfalso; omega) (fun c5 => ?_)
    refine lv_iload_n hx hb dX12_body_9 rfl (lv_at hl 2 rfl) ?_
    refine vp_callSi (va_Run.run (va_runS (As := [.int p1]) (rest := []) ⟨hx, hb, hml, hown, hts⟩ (fc_X12_isCell l p1) (va_cwS 1 hts gX12_body_X12_isCell rfl rfl rfl (by decide +kernel) ⟨Nat.le_of_ble_eq_true rfl, Nat.le_of_ble_eq_true rfl⟩) ⟨fun a U g mk q => q, fun U hU hW => ⟨rfl, trivial⟩⟩ rfl rfl hl.1 rfl (lv_room (Nat.le_of_ble_eq_true rfl)) dX12_body_10 ⟨by decide +kernel, by decide +kernel⟩)) (fun r6 hr6 => ?_)
    rcases hr6 with ⟨rfl, c7⟩ | ⟨rfl, c7⟩
    · refine fx_if_eq (tgt := 50) hx hb dX12_body_13 (by decide) zk_1 (fun c8 => by exfalso; omega) (fun c8 => ?_)
      refine lv_iload_n hx hb dX12_body_16 rfl (lv_at hl 3 rfl) ?_
      refine lv_iconst (v := 0) hx hb dX12_body_17 (by decide) ?_
      refine lv_bipush (v := 20) hx hb dX12_body_18 (by decide) ?_
      have zz9 := zk_0
      have zz10 := zk_20
      refine vp_callSi (va_Run.run (va_runS (As := [.int p2, .int 0, .int 20]) (rest := []) ⟨hx, hb, hml, hown, hts⟩ (fc_X12_within l p2 0 20) (va_cwS 3 hts gX12_body_X12_within rfl rfl rfl (by decide +kernel) ⟨Nat.le_of_ble_eq_true rfl, Nat.le_of_ble_eq_true rfl⟩) ⟨fun a U g mk q => q, fun U hU hW => ⟨rfl, trivial⟩⟩ rfl rfl hl.1 rfl (lv_room (Nat.le_of_ble_eq_true rfl)) dX12_body_20 ⟨by decide +kernel, by decide +kernel⟩)) (fun r11 hr11 => ?_)
      rcases hr11 with ⟨rfl, c12⟩ | ⟨rfl, c12⟩
      · refine fx_if_eq (tgt := 50) hx hb dX12_body_23 (by decide) zk_1 (fun c13 => by exfalso; omega) (fun c13 => ?_)
        refine lv_iload hx hb dX12_body_26 (lv_at hl 4 rfl) ?_
        refine lv_iconst (v := 0) hx hb dX12_body_28 (by decide) ?_
        refine lv_sipush (v := 9999) hx hb dX12_body_29 (by decide) ?_
        have zz14 := zk_0
        have zz15 := zk_9999
        refine vp_callSi (va_Run.run (va_runS (As := [.int p3, .int 0, .int 9999]) (rest := []) ⟨hx, hb, hml, hown, hts⟩ (fc_X12_within l p3 0 9999) (va_cwS 3 hts gX12_body_X12_within rfl rfl rfl (by decide +kernel) ⟨Nat.le_of_ble_eq_true rfl, Nat.le_of_ble_eq_true rfl⟩) ⟨fun a U g mk q => q, fun U hU hW => ⟨rfl, trivial⟩⟩ rfl rfl hl.1 rfl (lv_room (Nat.le_of_ble_eq_true rfl)) dX12_body_32 ⟨by decide +kernel, by decide +kernel⟩)) (fun r16 hr16 => ?_)
        rcases hr16 with ⟨rfl, c17⟩ | ⟨rfl, c17⟩
        · refine fx_if_eq (tgt := 50) hx hb dX12_body_35 (by decide) zk_1 (fun c18 => by exfalso; omega) (fun c18 => ?_)
          refine lv_iload hx hb dX12_body_38 (lv_at hl 5 rfl) ?_
          refine lv_iconst (v := 0) hx hb dX12_body_40 (by decide) ?_
          refine lv_sipush (v := 999) hx hb dX12_body_41 (by decide) ?_
          have zz19 := zk_0
          have zz20 := zk_999
          refine vp_callSi (va_Run.run (va_runS (As := [.int p4, .int 0, .int 999]) (rest := []) ⟨hx, hb, hml, hown, hts⟩ (fc_X12_within l p4 0 999) (va_cwS 3 hts gX12_body_X12_within rfl rfl rfl (by decide +kernel) ⟨Nat.le_of_ble_eq_true rfl, Nat.le_of_ble_eq_true rfl⟩) ⟨fun a U g mk q => q, fun U hU hW => ⟨rfl, trivial⟩⟩ rfl rfl hl.1 rfl (lv_room (Nat.le_of_ble_eq_true rfl)) dX12_body_44 ⟨by decide +kernel, by decide +kernel⟩)) (fun r21 hr21 => ?_)
          rcases hr21 with ⟨rfl, c22⟩ | ⟨rfl, c22⟩
          · refine fx_if_ne (tgt := 53) hx hb dX12_body_47 (by decide) zk_1 (fun c23 => ?_) (fun c23 => by exfalso; omega)
            refine lv_aload_n hx hb dX12_body_53 rfl (lv_at hl 0 rfl) ?_
            refine fm_getI (a := 60) (j := 16) (T := TX12) (N := 79) hx hb hts hinX12 hown hc hw hI kl_60 sh_60 rfl (by decide) rfl bd_60_16 (hts (.fieldLink RX12 190 "RedTentModel" "bodies" "I") (List.mem_cons_of_mem _ tw_5_136)) (fun _ h9 => h9) dX12_body_54 (fun x24 ex24 bx24 => ?_)
            refine lv_bipush (v := 12) hx hb dX12_body_57 (by decide) ?_
            refine fx_icmp_ne (tgt := 65) hx hb dX12_body_59 (by decide) rfl zk_12 (fun c25 => ?_) (fun c25 => ?_)
            · refine lv_aload_n hx hb dX12_body_65 rfl (lv_at hl 0 rfl) ?_
              refine fm_getG (a := 60) (j := 10) (T := TX12) (N := 79) hx hb hts hinX12 hown hc hw kl_60 sh_60 rfl (by decide) rfl (hI.to kl_60 tg_60_10) (hts (.fieldLink RX12 28 "RedTentModel" "kind" "[I") (List.mem_cons_of_mem _ tw_5_130)) (fun _ h9 => h9) dX12_body_66 ?_
              refine lv_aload_n hx hb dX12_body_69 rfl (lv_at hl 0 rfl) ?_
              refine fm_getI (a := 60) (j := 16) (T := TX12) (N := 79) hx hb hts hinX12 hown hc hw hI kl_60 sh_60 rfl (by decide) rfl bd_60_16 (hts (.fieldLink RX12 190 "RedTentModel" "bodies" "I") (List.mem_cons_of_mem _ tw_5_136)) (fun _ h9 => h9) dX12_body_70 (fun x26 ex26 bx26 => ?_)
              obtain rfl : x24 = x26 := by rw [ex26]; exact ex24
              refine lv_iload_n hx hb dX12_body_73 rfl (lv_at hl 1 rfl) ?_
              refine fm_iast (a := 110) hx hb hc hw hI hE hS kl_110 sh_110 ty_110 bd_110 (by omega) (by omega) cd_110 (by decide) dX12_body_74 (fun M27 H locs eM27 hw hI hE hS => ?_)
              refine lv_aload_n hx hb dX12_body_75 rfl (lv_at hl 0 rfl) ?_
              refine fm_getG (a := 60) (j := 12) (T := TX12) (N := 79) hx hb hts hinX12 hown hc hw kl_60 sh_60 rfl (by decide) rfl (hI.to kl_60 tg_60_12) (hts (.fieldLink RX12 34 "RedTentModel" "cellOf" "[I") (List.mem_cons_of_mem _ tw_5_132)) (fun _ h9 => h9) dX12_body_76 ?_
              refine lv_aload_n hx hb dX12_body_79 rfl (lv_at hl 0 rfl) ?_
              refine fm_getI (a := 60) (j := 16) (T := TX12) (N := 79) hx hb hts hinX12 hown hc hw hI kl_60 sh_60 rfl (by decide) rfl bd_60_16 (hts (.fieldLink RX12 190 "RedTentModel" "bodies" "I") (List.mem_cons_of_mem _ tw_5_136)) (fun _ h9 => h9) dX12_body_80 (fun x28 ex28 bx28 => ?_)
              obtain rfl : x24 = x28 := by rw [ex28, eM27, fm_wI_nj (fun z => absurd z.1 (by decide))]; exact ex24
              refine lv_iload_n hx hb dX12_body_83 rfl (lv_at hl 2 rfl) ?_
              refine fm_iast (a := 112) hx hb hc hw hI hE hS kl_112 sh_112 ty_112 bd_112 (by omega) (by omega) cd_112 (by decide) dX12_body_84 (fun M29 H locs eM29 hw hI hE hS => ?_)
              refine lv_aload_n hx hb dX12_body_85 rfl (lv_at hl 0 rfl) ?_
              refine fm_getG (a := 60) (j := 11) (T := TX12) (N := 79) hx hb hts hinX12 hown hc hw kl_60 sh_60 rfl (by decide) rfl (hI.to kl_60 tg_60_11) (hts (.fieldLink RX12 31 "RedTentModel" "began" "[I") (List.mem_cons_of_mem _ tw_5_131)) (fun _ h9 => h9) dX12_body_86 ?_
              refine lv_aload_n hx hb dX12_body_89 rfl (lv_at hl 0 rfl) ?_
              refine fm_getI (a := 60) (j := 16) (T := TX12) (N := 79) hx hb hts hinX12 hown hc hw hI kl_60 sh_60 rfl (by decide) rfl bd_60_16 (hts (.fieldLink RX12 190 "RedTentModel" "bodies" "I") (List.mem_cons_of_mem _ tw_5_136)) (fun _ h9 => h9) dX12_body_90 (fun x30 ex30 bx30 => ?_)
              obtain rfl : x24 = x30 := by rw [ex30, eM29, fm_wI_nj (fun z => absurd z.1 (by decide)), eM27, fm_wI_nj (fun z => absurd z.1 (by decide))]; exact ex24
              refine lv_aload_n hx hb dX12_body_93 rfl (lv_at hl 0 rfl) ?_
              refine fm_getI (a := 60) (j := 0) (T := TX12) (N := 79) hx hb hts hinX12 hown hc hw hI kl_60 sh_60 rfl (by decide) rfl bd_60_0 (hts (.fieldLink RX12 201 "RedTentModel" "hour" "I") (List.mem_cons_of_mem _ tw_5_120)) (fun _ h9 => h9) dX12_body_94 (fun x31 ex31 bx31 => ?_)
              refine fm_iast (a := 111) hx hb hc hw hI hE hS kl_111 sh_111 ty_111 bd_111 (by omega) (by omega) cd_111 (by decide) dX12_body_97 (fun M32 H locs eM32 hw hI hE hS => ?_)
              refine lv_aload_n hx hb dX12_body_98 rfl (lv_at hl 0 rfl) ?_
              refine fm_getG (a := 60) (j := 13) (T := TX12) (N := 79) hx hb hts hinX12 hown hc hw kl_60 sh_60 rfl (by decide) rfl (hI.to kl_60 tg_60_13) (hts (.fieldLink RX12 37 "RedTentModel" "menOf" "[I") (List.mem_cons_of_mem _ tw_5_133)) (fun _ h9 => h9) dX12_body_99 ?_
              refine lv_aload_n hx hb dX12_body_102 rfl (lv_at hl 0 rfl) ?_
              refine fm_getI (a := 60) (j := 16) (T := TX12) (N := 79) hx hb hts hinX12 hown hc hw hI kl_60 sh_60 rfl (by decide) rfl bd_60_16 (hts (.fieldLink RX12 190 "RedTentModel" "bodies" "I") (List.mem_cons_of_mem _ tw_5_136)) (fun _ h9 => h9) dX12_body_103 (fun x33 ex33 bx33 => ?_)
              obtain rfl : x24 = x33 := by rw [ex33, eM32, fm_wI_nj (fun z => absurd z.1 (by decide)), eM29, fm_wI_nj (fun z => absurd z.1 (by decide)), eM27, fm_wI_nj (fun z => absurd z.1 (by decide))]; exact ex24
              refine lv_iload_n hx hb dX12_body_106 rfl (lv_at hl 3 rfl) ?_
              refine fm_iast (a := 113) hx hb hc hw hI hE hS kl_113 sh_113 ty_113 bd_113 (by omega) (by omega) cd_113 (by decide) dX12_body_107 (fun M34 H locs eM34 hw hI hE hS => ?_)
              refine lv_aload_n hx hb dX12_body_108 rfl (lv_at hl 0 rfl) ?_
              refine fm_getG (a := 60) (j := 14) (T := TX12) (N := 79) hx hb hts hinX12 hown hc hw kl_60 sh_60 rfl (by decide) rfl (hI.to kl_60 tg_60_14) (hts (.fieldLink RX12 40 "RedTentModel" "food" "[I") (List.mem_cons_of_mem _ tw_5_134)) (fun _ h9 => h9) dX12_body_109 ?_
              refine lv_aload_n hx hb dX12_body_112 rfl (lv_at hl 0 rfl) ?_
              refine fm_getI (a := 60) (j := 16) (T := TX12) (N := 79) hx hb hts hinX12 hown hc hw hI kl_60 sh_60 rfl (by decide) rfl bd_60_16 (hts (.fieldLink RX12 190 "RedTentModel" "bodies" "I") (List.mem_cons_of_mem _ tw_5_136)) (fun _ h9 => h9) dX12_body_113 (fun x35 ex35 bx35 => ?_)
              obtain rfl : x24 = x35 := by rw [ex35, eM34, fm_wI_nj (fun z => absurd z.1 (by decide)), eM32, fm_wI_nj (fun z => absurd z.1 (by decide)), eM29, fm_wI_nj (fun z => absurd z.1 (by decide)), eM27, fm_wI_nj (fun z => absurd z.1 (by decide))]; exact ex24
              refine lv_iload hx hb dX12_body_116 (lv_at hl 4 rfl) ?_
              refine fm_iast (a := 114) hx hb hc hw hI hE hS kl_114 sh_114 ty_114 bd_114 (by omega) (by omega) cd_114 (by decide) dX12_body_118 (fun M36 H locs eM36 hw hI hE hS => ?_)
              refine lv_aload_n hx hb dX12_body_119 rfl (lv_at hl 0 rfl) ?_
              refine fm_getG (a := 60) (j := 15) (T := TX12) (N := 79) hx hb hts hinX12 hown hc hw kl_60 sh_60 rfl (by decide) rfl (hI.to kl_60 tg_60_15) (hts (.fieldLink RX12 43 "RedTentModel" "fuel" "[I") (List.mem_cons_of_mem _ tw_5_135)) (fun _ h9 => h9) dX12_body_120 ?_
              refine lv_aload_n hx hb dX12_body_123 rfl (lv_at hl 0 rfl) ?_
              refine fm_getI (a := 60) (j := 16) (T := TX12) (N := 79) hx hb hts hinX12 hown hc hw hI kl_60 sh_60 rfl (by decide) rfl bd_60_16 (hts (.fieldLink RX12 190 "RedTentModel" "bodies" "I") (List.mem_cons_of_mem _ tw_5_136)) (fun _ h9 => h9) dX12_body_124 (fun x37 ex37 bx37 => ?_)
              obtain rfl : x24 = x37 := by rw [ex37, eM36, fm_wI_nj (fun z => absurd z.1 (by decide)), eM34, fm_wI_nj (fun z => absurd z.1 (by decide)), eM32, fm_wI_nj (fun z => absurd z.1 (by decide)), eM29, fm_wI_nj (fun z => absurd z.1 (by decide)), eM27, fm_wI_nj (fun z => absurd z.1 (by decide))]; exact ex24
              refine lv_iload hx hb dX12_body_127 (lv_at hl 5 rfl) ?_
              refine fm_iast (a := 115) hx hb hc hw hI hE hS kl_115 sh_115 ty_115 bd_115 (by omega) (by omega) cd_115 (by decide) dX12_body_129 (fun M38 H locs eM38 hw hI hE hS => ?_)
              refine lv_aload_n hx hb dX12_body_130 rfl (lv_at hl 0 rfl) ?_
              refine lv_dup hx hb dX12_body_131 rfl ?_
              refine fm_getI (a := 60) (j := 16) (T := TX12) (N := 79) hx hb hts hinX12 hown hc hw hI kl_60 sh_60 rfl (by decide) rfl bd_60_16 (hts (.fieldLink RX12 190 "RedTentModel" "bodies" "I") (List.mem_cons_of_mem _ tw_5_136)) (fun _ h9 => h9) dX12_body_132 (fun x39 ex39 bx39 => ?_)
              obtain rfl : x24 = x39 := by rw [ex39, eM38, fm_wI_nj (fun z => absurd z.1 (by decide)), eM36, fm_wI_nj (fun z => absurd z.1 (by decide)), eM34, fm_wI_nj (fun z => absurd z.1 (by decide)), eM32, fm_wI_nj (fun z => absurd z.1 (by decide)), eM29, fm_wI_nj (fun z => absurd z.1 (by decide)), eM27, fm_wI_nj (fun z => absurd z.1 (by decide))]; exact ex24
              refine lv_iconst (v := 1) hx hb dX12_body_135 (by decide) ?_
              refine fx_iadd hx hb dX12_body_136 rfl zk_1 (by omega) (fun y40 ey40 ty40 => ?_)
              refine fm_putI (a := 60) (j := 16) (T := TX12) (N := 79) hx hb hts hinX12 tyX12 tyX12_ok nmX12 hown hc hw hI hE hS kl_60 sh_60 od_60 rfl (by decide) rfl bd_60_16 (hts (.fieldLink RX12 190 "RedTentModel" "bodies" "I") (List.mem_cons_of_mem _ tw_5_136)) (fun _ h9 => h9) rfl (by decide +kernel) (by omega) (by decide) (by decide) dX12_body_137 (fun M41 H locs eM41 hw hI hE hS => ?_)
              refine lv_aload_n hx hb dX12_body_140 rfl (lv_at hl 0 rfl) ?_
              refine fm_getI (a := 60) (j := 16) (T := TX12) (N := 79) hx hb hts hinX12 hown hc hw hI kl_60 sh_60 rfl (by decide) rfl bd_60_16 (hts (.fieldLink RX12 190 "RedTentModel" "bodies" "I") (List.mem_cons_of_mem _ tw_5_136)) (fun _ h9 => h9) dX12_body_141 (fun x42 ex42 bx42 => ?_)
              obtain rfl : y40 = x42 := by rw [ex42, eM41, fm_wI_at]
              refine lv_iconst (v := 1) hx hb dX12_body_144 (by decide) ?_
              refine fx_isub hx hb dX12_body_145 rfl zk_1 (by omega) (fun y43 ey43 ty43 => ?_)
              have qx31 : x31.toInt = (M.1 60 0 0).toInt := by rw [ex31, eM29, fm_wI_nj (fun z => absurd z.1 (by decide)), eM27, fm_wI_nj (fun z => absurd z.1 (by decide))]
              have qx24 : x24.toInt = (M.1 60 0 16).toInt := by rw [ex24]
              exact W.iret (v := y43) hx hb hr (fun t ht hW => ⟨⟨y43, M41, rfl, ⟨hI, hE, Or.inr (Or.inr ⟨by omega, by omega, by omega, (by first | omega | (rw [eM41, fm_wI_at]; omega)), fun j => by rw [eM41, fm_wI_nj (fun z => absurd z.1 (by decide)), eM38, fm_wI_nj (fun z => absurd z.1 (by decide)), eM36, fm_wI_nj (fun z => absurd z.1 (by decide)), eM34, fm_wI_nj (fun z => absurd z.1 (by decide)), eM32, fm_wI_nj (fun z => absurd z.1 (by decide)), eM29, fm_wI_nj (fun z => absurd z.1 (by decide)), eM27, fm_wI_ar, ex24], fun j => by rw [eM41, fm_wI_nj (fun z => absurd z.1 (by decide)), eM38, fm_wI_nj (fun z => absurd z.1 (by decide)), eM36, fm_wI_nj (fun z => absurd z.1 (by decide)), eM34, fm_wI_nj (fun z => absurd z.1 (by decide)), eM32, fm_wI_ar, eM29, fm_wI_nj (fun z => absurd z.1 (by decide)), eM27, fm_wI_nj (fun z => absurd z.1 (by decide)), ex24, ex31, eM29, fm_wI_nj (fun z => absurd z.1 (by decide)), eM27, fm_wI_nj (fun z => absurd z.1 (by decide))], fun j => by rw [eM41, fm_wI_nj (fun z => absurd z.1 (by decide)), eM38, fm_wI_nj (fun z => absurd z.1 (by decide)), eM36, fm_wI_nj (fun z => absurd z.1 (by decide)), eM34, fm_wI_nj (fun z => absurd z.1 (by decide)), eM32, fm_wI_nj (fun z => absurd z.1 (by decide)), eM29, fm_wI_ar, eM27, fm_wI_nj (fun z => absurd z.1 (by decide)), ex24], fun j => by rw [eM41, fm_wI_nj (fun z => absurd z.1 (by decide)), eM38, fm_wI_nj (fun z => absurd z.1 (by decide)), eM36, fm_wI_nj (fun z => absurd z.1 (by decide)), eM34, fm_wI_ar, eM32, fm_wI_nj (fun z => absurd z.1 (by decide)), eM29, fm_wI_nj (fun z => absurd z.1 (by decide)), eM27, fm_wI_nj (fun z => absurd z.1 (by decide)), ex24], fun j => by rw [eM41, fm_wI_nj (fun z => absurd z.1 (by decide)), eM38, fm_wI_nj (fun z => absurd z.1 (by decide)), eM36, fm_wI_ar, eM34, fm_wI_nj (fun z => absurd z.1 (by decide)), eM32, fm_wI_nj (fun z => absurd z.1 (by decide)), eM29, fm_wI_nj (fun z => absurd z.1 (by decide)), eM27, fm_wI_nj (fun z => absurd z.1 (by decide)), ex24], fun j => by rw [eM41, fm_wI_nj (fun z => absurd z.1 (by decide)), eM38, fm_wI_ar, eM36, fm_wI_nj (fun z => absurd z.1 (by decide)), eM34, fm_wI_nj (fun z => absurd z.1 (by decide)), eM32, fm_wI_nj (fun z => absurd z.1 (by decide)), eM29, fm_wI_nj (fun z => absurd z.1 (by decide)), eM27, fm_wI_nj (fun z => absurd z.1 (by decide)), ex24]⟩)⟩, by show fm_at D ad C nb _ t.heap; rw [ht]; exact hw⟩, hS.F ht⟩) hS.2.2 dX12_body_146
            · refine lv_bipush (v := (-4)) hx hb dX12_body_62 (by decide) ?_
              have qx24 : x24.toInt = (M.1 60 0 16).toInt := by rw [ex24]
              exact W.iret (v := (-4)) hx hb hr (fun t ht hW => ⟨⟨(-4), M, rfl, ⟨hI, hE, Or.inr (Or.inl ⟨by omega, by omega, zk_m4, rfl, rfl⟩)⟩, by show fm_at D ad C nb _ t.heap; rw [ht]; exact hw⟩, hS.F ht⟩) hS.2.2 dX12_body_64
          · refine fx_if_ne (tgt := 53) hx hb dX12_body_47 (by decide) zk_0 (fun c44 => by exfalso; omega) (fun c44 => ?_)
            refine lv_bipush (v := (-2)) hx hb dX12_body_50 (by decide) ?_
            exact W.iret (v := (-2)) hx hb hr (fun t ht hW => ⟨⟨(-2), M, rfl, ⟨hI, hE, Or.inl ⟨by omega, zk_m2, rfl, rfl⟩⟩, by show fm_at D ad C nb _ t.heap; rw [ht]; exact hw⟩, hS.F ht⟩) hS.2.2 dX12_body_52
        · refine fx_if_eq (tgt := 50) hx hb dX12_body_35 (by decide) zk_0 (fun c45 => ?_) (fun c45 => by exfalso; omega)
          refine lv_bipush (v := (-2)) hx hb dX12_body_50 (by decide) ?_
          exact W.iret (v := (-2)) hx hb hr (fun t ht hW => ⟨⟨(-2), M, rfl, ⟨hI, hE, Or.inl ⟨by omega, zk_m2, rfl, rfl⟩⟩, by show fm_at D ad C nb _ t.heap; rw [ht]; exact hw⟩, hS.F ht⟩) hS.2.2 dX12_body_52
      · refine fx_if_eq (tgt := 50) hx hb dX12_body_23 (by decide) zk_0 (fun c46 => ?_) (fun c46 => by exfalso; omega)
        refine lv_bipush (v := (-2)) hx hb dX12_body_50 (by decide) ?_
        exact W.iret (v := (-2)) hx hb hr (fun t ht hW => ⟨⟨(-2), M, rfl, ⟨hI, hE, Or.inl ⟨by omega, zk_m2, rfl, rfl⟩⟩, by show fm_at D ad C nb _ t.heap; rw [ht]; exact hw⟩, hS.F ht⟩) hS.2.2 dX12_body_52
    · refine fx_if_eq (tgt := 50) hx hb dX12_body_13 (by decide) zk_0 (fun c47 => ?_) (fun c47 => by exfalso; omega)
      refine lv_bipush (v := (-2)) hx hb dX12_body_50 (by decide) ?_
      exact W.iret (v := (-2)) hx hb hr (fun t ht hW => ⟨⟨(-2), M, rfl, ⟨hI, hE, Or.inl ⟨by omega, zk_m2, rfl, rfl⟩⟩, by show fm_at D ad C nb _ t.heap; rw [ht]; exact hw⟩, hS.F ht⟩) hS.2.2 dX12_body_52
  · refine fx_if_eq (tgt := 50) hx hb dX12_body_6 (by decide) zk_0 (fun c48 => ?_) (fun c48 => by exfalso; omega)
    refine lv_bipush (v := (-2)) hx hb dX12_body_50 (by decide) ?_
    exact W.iret (v := (-2)) hx hb hr (fun t ht hW => ⟨⟨(-2), M, rfl, ⟨hI, hE, Or.inl ⟨by omega, zk_m2, rfl, rfl⟩⟩, by show fm_at D ad C nb _ t.heap; rw [ht]; exact hw⟩, hS.F ht⟩) hS.2.2 dX12_body_52
set_option maxHeartbeats 400000 in
set_option maxRecDepth 20000 in
theorem fc_X12_bodyTold (l : Launch) (D : va_G) (ad : Nat → Nat → Nat) (C : Nat → Nat → ClassId) (nb : Nat) (M : fm_M) (hI : fm_I nb ad M) (p0 p1 : Int32) : Met l yX12_bodyTold wsX12_bodyTold ({ frames := 1, cells := 0, slots := 0, locals := 22 }) (va_Pc [.ref (ad 60 0), .int p0, .int p1] (fm_P D ad C nb M)) (vp_Si (fun r : Int32 => True)) 0 0 (fun _ => False) := by
  refine Met.ofW (cc := cX12_bodyTold) (maxL := 3) (ret := (some .int)) (by decide) rfl ?_
  intro p e s m args below meth c s₁ B hml hv
  obtain ⟨rfl, hw, hc⟩ := hv
  have hx := B.exec
  have hb := B.bytes
  have hr := B.returns
  have hts := atoms_spec (ws := wsX12_bodyTold) B.pre
  have hown : s.vm.findClass RX12 = some m.cls := findClass_of_methodNamed B.named
  have hinX12 : ∀ w ∈ u_ws RX12 TX12 79, w ∈ wsX12_bodyTold := fun w h => List.mem_cons_of_mem _ (iT_X12 w h)
  have hS : va_S (fm_A nb ad) s.heap s.heap [] := va_S.rf
  have hl := lv_entry ([.ref (ad 60 0), .int p0, .int p1]) (n := 3) (Nat.le_of_ble_eq_true rfl)
  rw [lg_entry_eq]
  generalize (lg_sl ([.ref (ad 60 0), .int p0, .int p1]) ++ List.replicate (3 - (lg_sl ([.ref (ad 60 0), .int p0, .int p1])).length) Slot.unset).toArray = ls at hl ⊢
  have hl : lv_has ls 3 [(0, .ref (ad 60 0)), (1, .int p0), (2, .int p1)] := hl
  refine lv_aload_n hx hb dX12_bodyTold_0 rfl (lv_at hl 0 rfl) ?_
  refine lv_iload_n hx hb dX12_bodyTold_1 rfl (lv_at hl 1 rfl) ?_
  refine vp_callSi (va_Run.run (va_runV (As := [.int p0]) (rest := []) ⟨hx, hb, hml, hown, hts⟩ (fc_X12_isBody l D ad C nb M hI p0) (cwV 1 hts gX12_bodyTold_X12_isBody rfl rfl rfl (by decide +kernel) ⟨Nat.le_of_ble_eq_true rfl, Nat.le_of_ble_eq_true rfl⟩) (fm_preV hc hw hS kl_60 sh_60 rfl) rfl rfl hl.1 rfl (lv_room (Nat.le_of_ble_eq_true rfl)) dX12_bodyTold_2 ⟨by decide +kernel, by decide +kernel⟩)) (fun r1 hr1 => ?_)
  have bqq2 := hI.bd (k := 0) bd_60_16
  rcases hr1 with ⟨rfl, c3⟩ | ⟨rfl, c3⟩
  · refine fx_if_ne (tgt := 11) hx hb dX12_bodyTold_5 (by decide) zk_1 (fun c4 => ?_) (fun c4 => by exfalso; omega)
    refine lv_iload_n hx hb dX12_bodyTold_11 rfl (lv_at hl 2 rfl) ?_
    rcases (show p1.toInt < 0 ∨ 8 < p1.toInt ∨ p1 = 0 ∨ p1 = 1 ∨ p1 = 2 ∨ p1 = 3 ∨ p1 = 4 ∨ p1 = 5 ∨ p1 = 6 ∨ p1 = 7 ∨ p1 = 8 by simp only [fa_eq, Int32.reduceToInt]; omega) with c5 | c5 | c5 | c5 | c5 | c5 | c5 | c5 | c5 | c5 | c5
    · refine lv_tableOut (tgt := 150) hx hb dX12_bodyTold_12 (Or.inl c5) (by decide) ?_
      refine lv_bipush (v := (-2)) hx hb dX12_bodyTold_150 (by decide) ?_
      exact W.iret (v := (-2)) hx hb hr (fun t ht hW => ⟨(-2), rfl, trivial, ht⟩) (fun _ h => absurd h List.not_mem_nil) dX12_bodyTold_152
    · refine lv_tableOut (tgt := 150) hx hb dX12_bodyTold_12 (Or.inr c5) (by decide) ?_
      refine lv_bipush (v := (-2)) hx hb dX12_bodyTold_150 (by decide) ?_
      exact W.iret (v := (-2)) hx hb hr (fun t ht hW => ⟨(-2), rfl, trivial, ht⟩) (fun _ h => absurd h List.not_mem_nil) dX12_bodyTold_152
    · refine lv_tableIn (off := 52) (tgt := 64) hx hb dX12_bodyTold_12 (by rw [c5]; decide) (by rw [c5]; decide) (by rw [c5]; decide) (by decide) ?_
      have zc5 : p1.toInt = 0 := by rw [c5]; rfl
      refine lv_aload_n hx hb dX12_bodyTold_64 rfl (lv_at hl 0 rfl) ?_
      refine fm_getG (a := 60) (j := 10) (T := TX12) (N := 79) hx hb hts hinX12 hown hc hw kl_60 sh_60 rfl (by decide) rfl (hI.to kl_60 tg_60_10) (hts (.fieldLink RX12 28 "RedTentModel" "kind" "[I") (List.mem_cons_of_mem _ tw_5_130)) (fun _ h9 => h9) dX12_bodyTold_65 ?_
      refine lv_iload_n hx hb dX12_bodyTold_68 rfl (lv_at hl 1 rfl) ?_
      refine fm_iald (a := 110) hx hb hc hw hI kl_110 sh_110 ty_110 bd_110 (by omega) dX12_bodyTold_69 (fun x6 ex6 bx6 => ?_)
      exact W.iret (v := x6) hx hb hr (fun t ht hW => ⟨x6, rfl, trivial, ht⟩) (fun _ h => absurd h List.not_mem_nil) dX12_bodyTold_70
    · refine lv_tableIn (off := 59) (tgt := 71) hx hb dX12_bodyTold_12 (by rw [c5]; decide) (by rw [c5]; decide) (by rw [c5]; decide) (by decide) ?_
      have zc5 : p1.toInt = 1 := by rw [c5]; rfl
      refine lv_aload_n hx hb dX12_bodyTold_71 rfl (lv_at hl 0 rfl) ?_
      refine fm_getG (a := 60) (j := 12) (T := TX12) (N := 79) hx hb hts hinX12 hown hc hw kl_60 sh_60 rfl (by decide) rfl (hI.to kl_60 tg_60_12) (hts (.fieldLink RX12 34 "RedTentModel" "cellOf" "[I") (List.mem_cons_of_mem _ tw_5_132)) (fun _ h9 => h9) dX12_bodyTold_72 ?_
      refine lv_iload_n hx hb dX12_bodyTold_75 rfl (lv_at hl 1 rfl) ?_
      refine fm_iald (a := 112) hx hb hc hw hI kl_112 sh_112 ty_112 bd_112 (by omega) dX12_bodyTold_76 (fun x7 ex7 bx7 => ?_)
      exact W.iret (v := x7) hx hb hr (fun t ht hW => ⟨x7, rfl, trivial, ht⟩) (fun _ h => absurd h List.not_mem_nil) dX12_bodyTold_77
    · refine lv_tableIn (off := 66) (tgt := 78) hx hb dX12_bodyTold_12 (by rw [c5]; decide) (by rw [c5]; decide) (by rw [c5]; decide) (by decide) ?_
      have zc5 : p1.toInt = 2 := by rw [c5]; rfl
      refine lv_aload_n hx hb dX12_bodyTold_78 rfl (lv_at hl 0 rfl) ?_
      refine fm_getG (a := 60) (j := 11) (T := TX12) (N := 79) hx hb hts hinX12 hown hc hw kl_60 sh_60 rfl (by decide) rfl (hI.to kl_60 tg_60_11) (hts (.fieldLink RX12 31 "RedTentModel" "began" "[I") (List.mem_cons_of_mem _ tw_5_131)) (fun _ h9 => h9) dX12_bodyTold_79 ?_
      refine lv_iload_n hx hb dX12_bodyTold_82 rfl (lv_at hl 1 rfl) ?_
      refine fm_iald (a := 111) hx hb hc hw hI kl_111 sh_111 ty_111 bd_111 (by omega) dX12_bodyTold_83 (fun x8 ex8 bx8 => ?_)
      exact W.iret (v := x8) hx hb hr (fun t ht hW => ⟨x8, rfl, trivial, ht⟩) (fun _ h => absurd h List.not_mem_nil) dX12_bodyTold_84
    · refine lv_tableIn (off := 73) (tgt := 85) hx hb dX12_bodyTold_12 (by rw [c5]; decide) (by rw [c5]; decide) (by rw [c5]; decide) (by decide) ?_
      have zc5 : p1.toInt = 3 := by rw [c5]; rfl
      refine lv_aload_n hx hb dX12_bodyTold_85 rfl (lv_at hl 0 rfl) ?_
      refine fm_getG (a := 60) (j := 13) (T := TX12) (N := 79) hx hb hts hinX12 hown hc hw kl_60 sh_60 rfl (by decide) rfl (hI.to kl_60 tg_60_13) (hts (.fieldLink RX12 37 "RedTentModel" "menOf" "[I") (List.mem_cons_of_mem _ tw_5_133)) (fun _ h9 => h9) dX12_bodyTold_86 ?_
      refine lv_iload_n hx hb dX12_bodyTold_89 rfl (lv_at hl 1 rfl) ?_
      refine fm_iald (a := 113) hx hb hc hw hI kl_113 sh_113 ty_113 bd_113 (by omega) dX12_bodyTold_90 (fun x9 ex9 bx9 => ?_)
      exact W.iret (v := x9) hx hb hr (fun t ht hW => ⟨x9, rfl, trivial, ht⟩) (fun _ h => absurd h List.not_mem_nil) dX12_bodyTold_91
    · refine lv_tableIn (off := 80) (tgt := 92) hx hb dX12_bodyTold_12 (by rw [c5]; decide) (by rw [c5]; decide) (by rw [c5]; decide) (by decide) ?_
      have zc5 : p1.toInt = 4 := by rw [c5]; rfl
      refine lv_aload_n hx hb dX12_bodyTold_92 rfl (lv_at hl 0 rfl) ?_
      refine fm_getG (a := 60) (j := 14) (T := TX12) (N := 79) hx hb hts hinX12 hown hc hw kl_60 sh_60 rfl (by decide) rfl (hI.to kl_60 tg_60_14) (hts (.fieldLink RX12 40 "RedTentModel" "food" "[I") (List.mem_cons_of_mem _ tw_5_134)) (fun _ h9 => h9) dX12_bodyTold_93 ?_
      refine lv_iload_n hx hb dX12_bodyTold_96 rfl (lv_at hl 1 rfl) ?_
      refine fm_iald (a := 114) hx hb hc hw hI kl_114 sh_114 ty_114 bd_114 (by omega) dX12_bodyTold_97 (fun x10 ex10 bx10 => ?_)
      exact W.iret (v := x10) hx hb hr (fun t ht hW => ⟨x10, rfl, trivial, ht⟩) (fun _ h => absurd h List.not_mem_nil) dX12_bodyTold_98
    · refine lv_tableIn (off := 87) (tgt := 99) hx hb dX12_bodyTold_12 (by rw [c5]; decide) (by rw [c5]; decide) (by rw [c5]; decide) (by decide) ?_
      have zc5 : p1.toInt = 5 := by rw [c5]; rfl
      refine lv_aload_n hx hb dX12_bodyTold_99 rfl (lv_at hl 0 rfl) ?_
      refine fm_getG (a := 60) (j := 15) (T := TX12) (N := 79) hx hb hts hinX12 hown hc hw kl_60 sh_60 rfl (by decide) rfl (hI.to kl_60 tg_60_15) (hts (.fieldLink RX12 43 "RedTentModel" "fuel" "[I") (List.mem_cons_of_mem _ tw_5_135)) (fun _ h9 => h9) dX12_bodyTold_100 ?_
      refine lv_iload_n hx hb dX12_bodyTold_103 rfl (lv_at hl 1 rfl) ?_
      refine fm_iald (a := 115) hx hb hc hw hI kl_115 sh_115 ty_115 bd_115 (by omega) dX12_bodyTold_104 (fun x11 ex11 bx11 => ?_)
      exact W.iret (v := x11) hx hb hr (fun t ht hW => ⟨x11, rfl, trivial, ht⟩) (fun _ h => absurd h List.not_mem_nil) dX12_bodyTold_105
    · refine lv_tableIn (off := 94) (tgt := 106) hx hb dX12_bodyTold_12 (by rw [c5]; decide) (by rw [c5]; decide) (by rw [c5]; decide) (by decide) ?_
      have zc5 : p1.toInt = 6 := by rw [c5]; rfl
      refine lv_aload_n hx hb dX12_bodyTold_106 rfl (lv_at hl 0 rfl) ?_
      refine lv_iload_n hx hb dX12_bodyTold_107 rfl (lv_at hl 1 rfl) ?_
      refine vp_callSi (va_Run.run (va_runV (As := [.int p0]) (rest := []) ⟨hx, hb, hml, hown, hts⟩ (fc_X12_eats l D ad C nb M hI p0 (by omega)) (cwV 1 hts gX12_bodyTold_X12_eats rfl rfl rfl (by decide +kernel) ⟨Nat.le_of_ble_eq_true rfl, Nat.le_of_ble_eq_true rfl⟩) (fm_preV hc hw hS kl_60 sh_60 rfl) rfl rfl hl.1 rfl (lv_room (Nat.le_of_ble_eq_true rfl)) dX12_bodyTold_108 ⟨by decide +kernel, by decide +kernel⟩)) (fun r12 hr12 => ?_)
      obtain ⟨br12, qr12⟩ := hr12
      exact W.iret (v := r12) hx hb hr (fun t ht hW => ⟨r12, rfl, trivial, ht⟩) (fun _ h => absurd h List.not_mem_nil) dX12_bodyTold_111
    · refine lv_tableIn (off := 100) (tgt := 112) hx hb dX12_bodyTold_12 (by rw [c5]; decide) (by rw [c5]; decide) (by rw [c5]; decide) (by decide) ?_
      have zc5 : p1.toInt = 7 := by rw [c5]; rfl
      refine lv_aload_n hx hb dX12_bodyTold_112 rfl (lv_at hl 0 rfl) ?_
      refine lv_iload_n hx hb dX12_bodyTold_113 rfl (lv_at hl 1 rfl) ?_
      refine vp_callSi (va_Run.run (va_runV (As := [.int p0]) (rest := []) ⟨hx, hb, hml, hown, hts⟩ (fc_X12_burns l D ad C nb M hI p0 (by omega)) (cwV 1 hts gX12_bodyTold_X12_burns rfl rfl rfl (by decide +kernel) ⟨Nat.le_of_ble_eq_true rfl, Nat.le_of_ble_eq_true rfl⟩) (fm_preV hc hw hS kl_60 sh_60 rfl) rfl rfl hl.1 rfl (lv_room (Nat.le_of_ble_eq_true rfl)) dX12_bodyTold_114 ⟨by decide +kernel, by decide +kernel⟩)) (fun r13 hr13 => ?_)
      exact W.iret (v := r13) hx hb hr (fun t ht hW => ⟨r13, rfl, trivial, ht⟩) (fun _ h => absurd h List.not_mem_nil) dX12_bodyTold_117
    · refine lv_tableIn (off := 106) (tgt := 118) hx hb dX12_bodyTold_12 (by rw [c5]; decide) (by rw [c5]; decide) (by rw [c5]; decide) (by decide) ?_
      have zc5 : p1.toInt = 8 := by rw [c5]; rfl
      refine lv_aload_n hx hb dX12_bodyTold_118 rfl (lv_at hl 0 rfl) ?_
      refine lv_iload_n hx hb dX12_bodyTold_119 rfl (lv_at hl 1 rfl) ?_
      refine vp_callSi (va_Run.run (va_runV (As := [.int p0]) (rest := []) ⟨hx, hb, hml, hown, hts⟩ (fc_X12_eats l D ad C nb M hI p0 (by omega)) (cwV 1 hts gX12_bodyTold_X12_eats rfl rfl rfl (by decide +kernel) ⟨Nat.le_of_ble_eq_true rfl, Nat.le_of_ble_eq_true rfl⟩) (fm_preV hc hw hS kl_60 sh_60 rfl) rfl rfl hl.1 rfl (lv_room (Nat.le_of_ble_eq_true rfl)) dX12_bodyTold_120 ⟨by decide +kernel, by decide +kernel⟩)) (fun r14 hr14 => ?_)
      obtain ⟨br14, qr14⟩ := hr14
      refine fx_if_ne (tgt := 132) hx hb dX12_bodyTold_123 (by decide) rfl (fun c15 => ?_) (fun c15 => ?_)
      · refine lv_aload_n hx hb dX12_bodyTold_132 rfl (lv_at hl 0 rfl) ?_
        refine fm_getI (a := 60) (j := 0) (T := TX12) (N := 79) hx hb hts hinX12 hown hc hw hI kl_60 sh_60 rfl (by decide) rfl bd_60_0 (hts (.fieldLink RX12 201 "RedTentModel" "hour" "I") (List.mem_cons_of_mem _ tw_5_120)) (fun _ h9 => h9) dX12_bodyTold_133 (fun x16 ex16 bx16 => ?_)
        refine lv_aload_n hx hb dX12_bodyTold_136 rfl (lv_at hl 0 rfl) ?_
        refine fm_getG (a := 60) (j := 14) (T := TX12) (N := 79) hx hb hts hinX12 hown hc hw kl_60 sh_60 rfl (by decide) rfl (hI.to kl_60 tg_60_14) (hts (.fieldLink RX12 40 "RedTentModel" "food" "[I") (List.mem_cons_of_mem _ tw_5_134)) (fun _ h9 => h9) dX12_bodyTold_137 ?_
        refine lv_iload_n hx hb dX12_bodyTold_140 rfl (lv_at hl 1 rfl) ?_
        refine fm_iald (a := 114) hx hb hc hw hI kl_114 sh_114 ty_114 bd_114 (by omega) dX12_bodyTold_141 (fun x17 ex17 bx17 => ?_)
        refine lv_aload_n hx hb dX12_bodyTold_142 rfl (lv_at hl 0 rfl) ?_
        refine lv_iload_n hx hb dX12_bodyTold_143 rfl (lv_at hl 1 rfl) ?_
        refine vp_callSi (va_Run.run (va_runV (As := [.int p0]) (rest := [.int x17, .int x16]) ⟨hx, hb, hml, hown, hts⟩ (fc_X12_eats l D ad C nb M hI p0 (by omega)) (cwV 1 hts gX12_bodyTold_X12_eats rfl rfl rfl (by decide +kernel) ⟨Nat.le_of_ble_eq_true rfl, Nat.le_of_ble_eq_true rfl⟩) (fm_preV hc hw hS kl_60 sh_60 rfl) rfl rfl hl.1 rfl (lv_room (Nat.le_of_ble_eq_true rfl)) dX12_bodyTold_144 ⟨by decide +kernel, by decide +kernel⟩)) (fun r18 hr18 => ?_)
        obtain ⟨br18, qr18⟩ := hr18
        refine fx_idivU hx hb dX12_bodyTold_147 (by omega) (fun y19 ey19 => ?_)
        refine fx_iaddU hx hb dX12_bodyTold_148 (fun y20 ey20 => ?_)
        exact W.iret (v := y20) hx hb hr (fun t ht hW => ⟨y20, rfl, trivial, ht⟩) (fun _ h => absurd h List.not_mem_nil) dX12_bodyTold_149
      · refine lv_sipush (v := 9999) hx hb dX12_bodyTold_126 (by decide) ?_
        refine lv_goto (tgt := 149) hx hb dX12_bodyTold_129 (by decide) ?_
        exact W.iret (v := 9999) hx hb hr (fun t ht hW => ⟨9999, rfl, trivial, ht⟩) (fun _ h => absurd h List.not_mem_nil) dX12_bodyTold_149
  · refine fx_if_ne (tgt := 11) hx hb dX12_bodyTold_5 (by decide) zk_0 (fun c21 => by exfalso; omega) (fun c21 => ?_)
    refine lv_bipush (v := (-2)) hx hb dX12_bodyTold_8 (by decide) ?_
    exact W.iret (v := (-2)) hx hb hr (fun t ht hW => ⟨(-2), rfl, trivial, ht⟩) (fun _ h => absurd h List.not_mem_nil) dX12_bodyTold_10
set_option maxHeartbeats 400000 in
set_option maxRecDepth 20000 in
theorem fc_X12_patch (l : Launch) (D : va_G) (ad : Nat → Nat → Nat) (C : Nat → Nat → ClassId) (nb : Nat) (M : fm_M) (hI : fm_I nb ad M) (p0 p1 p2 : Int32) : Met l yX12_patch wsX12_patch ({ frames := 3, cells := 0, slots := 0, locals := 84 }) (va_Pc [.ref (ad 60 0), .int p0, .int p1, .int p2] (fm_P D ad C nb M)) (vp_Sl (fun r : Int64 => True)) 0 0 (fun _ => False) := by
  refine Met.ofW (cc := cX12_patch) (maxL := 4) (ret := (some .long)) (by decide) rfl ?_
  intro p e s m args below meth c s₁ B hml hv
  obtain ⟨rfl, hw, hc⟩ := hv
  have hx := B.exec
  have hb := B.bytes
  have hr := B.returns
  have hts := atoms_spec (ws := wsX12_patch) B.pre
  have hown : s.vm.findClass RX12 = some m.cls := findClass_of_methodNamed B.named
  have hinX12 : ∀ w ∈ u_ws RX12 TX12 79, w ∈ wsX12_patch := fun w h => List.mem_cons_of_mem _ (iT_X12 w h)
  have hS : va_S (fm_A nb ad) s.heap s.heap [] := va_S.rf
  have hl := lv_entry ([.ref (ad 60 0), .int p0, .int p1, .int p2]) (n := 4) (Nat.le_of_ble_eq_true rfl)
  rw [lg_entry_eq]
  generalize (lg_sl ([.ref (ad 60 0), .int p0, .int p1, .int p2]) ++ List.replicate (4 - (lg_sl ([.ref (ad 60 0), .int p0, .int p1, .int p2])).length) Slot.unset).toArray = ls at hl ⊢
  have hl : lv_has ls 4 [(0, .ref (ad 60 0)), (1, .int p0), (2, .int p1), (3, .int p2)] := hl
  refine lv_aload_n hx hb dX12_patch_0 rfl (lv_at hl 0 rfl) ?_
  refine lv_iload_n hx hb dX12_patch_1 rfl (lv_at hl 1 rfl) ?_
  refine vp_callSi (va_Run.run (va_runV (As := [.int p0]) (rest := []) ⟨hx, hb, hml, hown, hts⟩ (fc_X12_isBody l D ad C nb M hI p0) (cwV 1 hts gX12_patch_X12_isBody rfl rfl rfl (by decide +kernel) ⟨Nat.le_of_ble_eq_true rfl, Nat.le_of_ble_eq_true rfl⟩) (fm_preV hc hw hS kl_60 sh_60 rfl) rfl rfl hl.1 rfl (lv_room (Nat.le_of_ble_eq_true rfl)) dX12_patch_2 ⟨by decide +kernel, by decide +kernel⟩)) (fun r1 hr1 => ?_)
  have bqq2 := hI.bd (k := 0) bd_60_16
  rcases hr1 with ⟨rfl, c3⟩ | ⟨rfl, c3⟩
  · refine fx_if_eq (tgt := 48) hx hb dX12_patch_5 (by decide) zk_1 (fun c4 => by exfalso; omega) (fun c4 => ?_)
    refine lv_iload_n hx hb dX12_patch_8 rfl (lv_at hl 2 rfl) ?_
    refine lv_aload_n hx hb dX12_patch_9 rfl (lv_at hl 0 rfl) ?_
    refine fm_getG (a := 60) (j := 11) (T := TX12) (N := 79) hx hb hts hinX12 hown hc hw kl_60 sh_60 rfl (by decide) rfl (hI.to kl_60 tg_60_11) (hts (.fieldLink RX12 31 "RedTentModel" "began" "[I") (List.mem_cons_of_mem _ tw_5_131)) (fun _ h9 => h9) dX12_patch_10 ?_
    refine lv_aload_n hx hb dX12_patch_13 rfl (lv_at hl 0 rfl) ?_
    refine lv_iload_n hx hb dX12_patch_14 rfl (lv_at hl 1 rfl) ?_
    refine vp_callSi (va_Run.run (va_runV (As := [.int p0]) (rest := [.ref (ad 111 0), .int p1]) ⟨hx, hb, hml, hown, hts⟩ (fc_X12_isBody l D ad C nb M hI p0) (cwV 1 hts gX12_patch_X12_isBody rfl rfl rfl (by decide +kernel) ⟨Nat.le_of_ble_eq_true rfl, Nat.le_of_ble_eq_true rfl⟩) (fm_preV hc hw hS kl_60 sh_60 rfl) rfl rfl hl.1 rfl (lv_room (Nat.le_of_ble_eq_true rfl)) dX12_patch_15 ⟨by decide +kernel, by decide +kernel⟩)) (fun r5 hr5 => ?_)
    have bqq6 := hI.bd (k := 0) bd_60_16
    rcases hr5 with ⟨rfl, c7⟩ | ⟨rfl, c7⟩
    · refine fx_if_eq (tgt := 25) hx hb dX12_patch_18 (by decide) zk_1 (fun c8 => by exfalso; omega) (fun c8 => ?_)
      refine lv_iload_n hx hb dX12_patch_21 rfl (lv_at hl 1 rfl) ?_
      refine lv_goto (tgt := 26) hx hb dX12_patch_22 (by decide) ?_
      refine fm_iald (a := 111) hx hb hc hw hI kl_111 sh_111 ty_111 bd_111 (by omega) dX12_patch_26 (fun x9 ex9 bx9 => ?_)
      refine lv_sipush (v := 239) hx hb dX12_patch_27 (by decide) ?_
      have zz10 := zk_239
      refine vp_callSi (va_Run.run (va_runS (As := [.int p1, .int x9, .int 239]) (rest := []) ⟨hx, hb, hml, hown, hts⟩ (fc_X12_within l p1 x9 239) (va_cwS 3 hts gX12_patch_X12_within rfl rfl rfl (by decide +kernel) ⟨Nat.le_of_ble_eq_true rfl, Nat.le_of_ble_eq_true rfl⟩) ⟨fun a U g mk q => q, fun U hU hW => ⟨rfl, trivial⟩⟩ rfl rfl hl.1 rfl (lv_room (Nat.le_of_ble_eq_true rfl)) dX12_patch_30 ⟨by decide +kernel, by decide +kernel⟩)) (fun r11 hr11 => ?_)
      rcases hr11 with ⟨rfl, c12⟩ | ⟨rfl, c12⟩
      · refine fx_if_eq (tgt := 48) hx hb dX12_patch_33 (by decide) zk_1 (fun c13 => by exfalso; omega) (fun c13 => ?_)
        refine lv_iload_n hx hb dX12_patch_36 rfl (lv_at hl 3 rfl) ?_
        refine lv_iconst (v := 0) hx hb dX12_patch_37 (by decide) ?_
        refine lv_aload_n hx hb dX12_patch_38 rfl (lv_at hl 0 rfl) ?_
        refine fm_getI (a := 60) (j := 0) (T := TX12) (N := 79) hx hb hts hinX12 hown hc hw hI kl_60 sh_60 rfl (by decide) rfl bd_60_0 (hts (.fieldLink RX12 201 "RedTentModel" "hour" "I") (List.mem_cons_of_mem _ tw_5_120)) (fun _ h9 => h9) dX12_patch_39 (fun x14 ex14 bx14 => ?_)
        have zz15 := zk_0
        refine vp_callSi (va_Run.run (va_runS (As := [.int p2, .int 0, .int x14]) (rest := []) ⟨hx, hb, hml, hown, hts⟩ (fc_X12_within l p2 0 x14) (va_cwS 3 hts gX12_patch_X12_within rfl rfl rfl (by decide +kernel) ⟨Nat.le_of_ble_eq_true rfl, Nat.le_of_ble_eq_true rfl⟩) ⟨fun a U g mk q => q, fun U hU hW => ⟨rfl, trivial⟩⟩ rfl rfl hl.1 rfl (lv_room (Nat.le_of_ble_eq_true rfl)) dX12_patch_42 ⟨by decide +kernel, by decide +kernel⟩)) (fun r16 hr16 => ?_)
        rcases hr16 with ⟨rfl, c17⟩ | ⟨rfl, c17⟩
        · refine fx_if_ne (tgt := 52) hx hb dX12_patch_45 (by decide) zk_1 (fun c18 => ?_) (fun c18 => by exfalso; omega)
          refine lv_aload_n hx hb dX12_patch_52 rfl (lv_at hl 0 rfl) ?_
          refine lv_iload_n hx hb dX12_patch_53 rfl (lv_at hl 1 rfl) ?_
          refine lv_iload_n hx hb dX12_patch_54 rfl (lv_at hl 2 rfl) ?_
          refine lv_iload_n hx hb dX12_patch_55 rfl (lv_at hl 3 rfl) ?_
          refine vp_callSl (va_Run.run (va_runV (As := [.int p0, .int p1, .int p2]) (rest := []) ⟨hx, hb, hml, hown, hts⟩ (fc_X12_patchOf l D ad C nb M hI p0 p1 p2 (by omega) (by omega)) (cwV 3 hts gX12_patch_X12_patchOf rfl rfl rfl (by decide +kernel) ⟨Nat.le_of_ble_eq_true rfl, Nat.le_of_ble_eq_true rfl⟩) (fm_preV hc hw hS kl_60 sh_60 rfl) rfl rfl hl.1 rfl (lv_room (Nat.le_of_ble_eq_true rfl)) dX12_patch_56 ⟨by decide +kernel, by decide +kernel⟩)) (fun r19 hr19 => ?_)
          exact W.lret (v := r19) hx hb hr (fun t ht hW => ⟨r19, rfl, trivial, ht⟩) (fun _ h => absurd h List.not_mem_nil) dX12_patch_59
        · refine fx_if_ne (tgt := 52) hx hb dX12_patch_45 (by decide) zk_0 (fun c20 => by exfalso; omega) (fun c20 => ?_)
          refine lv_ldc2 (v := (-4611686018427387904)) hx hb hown (hts (.constantLong RX12 236 (-4611686018427387904)) (List.mem_cons_of_mem _ tw_6_163)) dX12_patch_48 ?_
          exact W.lret (v := (-4611686018427387904)) hx hb hr (fun t ht hW => ⟨(-4611686018427387904), rfl, trivial, ht⟩) (fun _ h => absurd h List.not_mem_nil) dX12_patch_51
      · refine fx_if_eq (tgt := 48) hx hb dX12_patch_33 (by decide) zk_0 (fun c21 => ?_) (fun c21 => by exfalso; omega)
        refine lv_ldc2 (v := (-4611686018427387904)) hx hb hown (hts (.constantLong RX12 236 (-4611686018427387904)) (List.mem_cons_of_mem _ tw_6_163)) dX12_patch_48 ?_
        exact W.lret (v := (-4611686018427387904)) hx hb hr (fun t ht hW => ⟨(-4611686018427387904), rfl, trivial, ht⟩) (fun _ h => absurd h List.not_mem_nil) dX12_patch_51
    · refine fx_if_eq (tgt := 25) hx hb dX12_patch_18 (by decide) zk_0 (fun c22 => ?_) (fun c22 => by exfalso; omega)
      refine lv_iconst (v := 0) hx hb dX12_patch_25 (by decide) ?_
      refine fm_iald (a := 111) hx hb hc hw hI kl_111 sh_111 ty_111 bd_111 (by decide) dX12_patch_26 (fun x23 ex23 bx23 => ?_)
      refine lv_sipush (v := 239) hx hb dX12_patch_27 (by decide) ?_
      have zz24 := zk_239
      refine vp_callSi (va_Run.run (va_runS (As := [.int p1, .int x23, .int 239]) (rest := []) ⟨hx, hb, hml, hown, hts⟩ (fc_X12_within l p1 x23 239) (va_cwS 3 hts gX12_patch_X12_within rfl rfl rfl (by decide +kernel) ⟨Nat.le_of_ble_eq_true rfl, Nat.le_of_ble_eq_true rfl⟩) ⟨fun a U g mk q => q, fun U hU hW => ⟨rfl, trivial⟩⟩ rfl rfl hl.1 rfl (lv_room (Nat.le_of_ble_eq_true rfl)) dX12_patch_30 ⟨by decide +kernel, by decide +kernel⟩)) (fun r25 hr25 => ?_)
      rcases hr25 with ⟨rfl, c26⟩ | ⟨rfl, c26⟩
      · refine fx_if_eq (tgt := 48) hx hb dX12_patch_33 (by decide) zk_1 (fun c27 => by exfalso; omega) (fun c27 => ?_)
        refine lv_iload_n hx hb dX12_patch_36 rfl (lv_at hl 3 rfl) ?_
        refine lv_iconst (v := 0) hx hb dX12_patch_37 (by decide) ?_
        refine lv_aload_n hx hb dX12_patch_38 rfl (lv_at hl 0 rfl) ?_
        refine fm_getI (a := 60) (j := 0) (T := TX12) (N := 79) hx hb hts hinX12 hown hc hw hI kl_60 sh_60 rfl (by decide) rfl bd_60_0 (hts (.fieldLink RX12 201 "RedTentModel" "hour" "I") (List.mem_cons_of_mem _ tw_5_120)) (fun _ h9 => h9) dX12_patch_39 (fun x28 ex28 bx28 => ?_)
        have zz29 := zk_0
        refine vp_callSi (va_Run.run (va_runS (As := [.int p2, .int 0, .int x28]) (rest := []) ⟨hx, hb, hml, hown, hts⟩ (fc_X12_within l p2 0 x28) (va_cwS 3 hts gX12_patch_X12_within rfl rfl rfl (by decide +kernel) ⟨Nat.le_of_ble_eq_true rfl, Nat.le_of_ble_eq_true rfl⟩) ⟨fun a U g mk q => q, fun U hU hW => ⟨rfl, trivial⟩⟩ rfl rfl hl.1 rfl (lv_room (Nat.le_of_ble_eq_true rfl)) dX12_patch_42 ⟨by decide +kernel, by decide +kernel⟩)) (fun r30 hr30 => ?_)
        rcases hr30 with ⟨rfl, c31⟩ | ⟨rfl, c31⟩
        · refine fx_if_ne (tgt := 52) hx hb dX12_patch_45 (by decide) zk_1 (fun c32 => ?_) (fun c32 => by exfalso; omega)
          refine lv_aload_n hx hb dX12_patch_52 rfl (lv_at hl 0 rfl) ?_
          refine lv_iload_n hx hb dX12_patch_53 rfl (lv_at hl 1 rfl) ?_
          refine lv_iload_n hx hb dX12_patch_54 rfl (lv_at hl 2 rfl) ?_
          refine lv_iload_n hx hb dX12_patch_55 rfl (lv_at hl 3 rfl) ?_
          refine vp_callSl (va_Run.run (va_runV (As := [.int p0, .int p1, .int p2]) (rest := []) ⟨hx, hb, hml, hown, hts⟩ (fc_X12_patchOf l D ad C nb M hI p0 p1 p2 (by omega) (by omega)) (cwV 3 hts gX12_patch_X12_patchOf rfl rfl rfl (by decide +kernel) ⟨Nat.le_of_ble_eq_true rfl, Nat.le_of_ble_eq_true rfl⟩) (fm_preV hc hw hS kl_60 sh_60 rfl) rfl rfl hl.1 rfl (lv_room (Nat.le_of_ble_eq_true rfl)) dX12_patch_56 ⟨by decide +kernel, by decide +kernel⟩)) (fun r33 hr33 => ?_)
          exact W.lret (v := r33) hx hb hr (fun t ht hW => ⟨r33, rfl, trivial, ht⟩) (fun _ h => absurd h List.not_mem_nil) dX12_patch_59
        · refine fx_if_ne (tgt := 52) hx hb dX12_patch_45 (by decide) zk_0 (fun c34 => by exfalso; omega) (fun c34 => ?_)
          refine lv_ldc2 (v := (-4611686018427387904)) hx hb hown (hts (.constantLong RX12 236 (-4611686018427387904)) (List.mem_cons_of_mem _ tw_6_163)) dX12_patch_48 ?_
          exact W.lret (v := (-4611686018427387904)) hx hb hr (fun t ht hW => ⟨(-4611686018427387904), rfl, trivial, ht⟩) (fun _ h => absurd h List.not_mem_nil) dX12_patch_51
      · refine fx_if_eq (tgt := 48) hx hb dX12_patch_33 (by decide) zk_0 (fun c35 => ?_) (fun c35 => by exfalso; omega)
        refine lv_ldc2 (v := (-4611686018427387904)) hx hb hown (hts (.constantLong RX12 236 (-4611686018427387904)) (List.mem_cons_of_mem _ tw_6_163)) dX12_patch_48 ?_
        exact W.lret (v := (-4611686018427387904)) hx hb hr (fun t ht hW => ⟨(-4611686018427387904), rfl, trivial, ht⟩) (fun _ h => absurd h List.not_mem_nil) dX12_patch_51
  · refine fx_if_eq (tgt := 48) hx hb dX12_patch_5 (by decide) zk_0 (fun c36 => ?_) (fun c36 => by exfalso; omega)
    refine lv_ldc2 (v := (-4611686018427387904)) hx hb hown (hts (.constantLong RX12 236 (-4611686018427387904)) (List.mem_cons_of_mem _ tw_6_163)) dX12_patch_48 ?_
    exact W.lret (v := (-4611686018427387904)) hx hb hr (fun t ht hW => ⟨(-4611686018427387904), rfl, trivial, ht⟩) (fun _ h => absurd h List.not_mem_nil) dX12_patch_51
set_option maxHeartbeats 400000 in
set_option maxRecDepth 20000 in
theorem fc_X12_addFix (l : Launch) (D : va_G) (ad : Nat → Nat → Nat) (C : Nat → Nat → ClassId) (nb : Nat) (M : fm_M) (hI : fm_I nb ad M) (p0 p1 : Int32) (p2 : Int64) (b_p0 : 0 ≤ p0.toInt ∧ p0.toInt ≤ 11) (b_p1 : 0 ≤ p1.toInt ∧ p1.toInt ≤ 239) : Met l yX12_addFix wsX12_addFix ({ frames := 0, cells := 0, slots := 0, locals := 0 }) (va_Pc [.ref (ad 60 0), .int p0, .int p1, .long p2] (fm_P D ad C nb M)) (va_Qi (fun (r : Int32) (u : fm_M) => fm_I nb ad u ∧ fm_same [60021, 117000, 118000, 119000, 120000] M u ∧ ((-4) ≤ r.toInt ∧ r.toInt ≤ 40)) (fun u t => fm_at D ad C nb u t.heap) (fm_A nb ad)) 0 0 (fm_A nb ad) := by
  refine Met.ofW (cc := cX12_addFix) (maxL := 5) (ret := (some .int)) (by decide) rfl ?_
  intro p e s m args below meth c s₁ B hml hv
  obtain ⟨rfl, hw, hc⟩ := hv
  have hx := B.exec
  have hb := B.bytes
  have hr := B.returns
  have hts := atoms_spec (ws := wsX12_addFix) B.pre
  have hown : s.vm.findClass RX12 = some m.cls := findClass_of_methodNamed B.named
  have hinX12 : ∀ w ∈ u_ws RX12 TX12 79, w ∈ wsX12_addFix := fun w h => List.mem_cons_of_mem _ (iT_X12 w h)
  have hS : va_S (fm_A nb ad) s.heap s.heap [] := va_S.rf
  have hE : fm_same [60021, 117000, 118000, 119000, 120000] M M := fm_same.rf
  have hl := lv_entry ([.ref (ad 60 0), .int p0, .int p1, .long p2]) (n := 5) (Nat.le_of_ble_eq_true rfl)
  rw [lg_entry_eq]
  generalize (lg_sl ([.ref (ad 60 0), .int p0, .int p1, .long p2]) ++ List.replicate (5 - (lg_sl ([.ref (ad 60 0), .int p0, .int p1, .long p2])).length) Slot.unset).toArray = ls at hl ⊢
  have hl : lv_has ls 5 [(0, .ref (ad 60 0)), (1, .int p0), (2, .int p1), (3, .long p2)] := hl
  refine lv_aload_n hx hb dX12_addFix_0 rfl (lv_at hl 0 rfl) ?_
  refine fm_getI (a := 60) (j := 21) (T := TX12) (N := 79) hx hb hts hinX12 hown hc hw hI kl_60 sh_60 rfl (by decide) rfl bd_60_21 (hts (.fieldLink RX12 223 "RedTentModel" "fixings" "I") (List.mem_cons_of_mem _ tw_5_141)) (fun _ h9 => h9) dX12_addFix_1 (fun x1 ex1 bx1 => ?_)
  refine lv_bipush (v := 40) hx hb dX12_addFix_4 (by decide) ?_
  refine fx_icmp_ne (tgt := 12) hx hb dX12_addFix_6 (by decide) rfl zk_40 (fun c2 => ?_) (fun c2 => ?_)
  · refine lv_aload_n hx hb dX12_addFix_12 rfl (lv_at hl 0 rfl) ?_
    refine fm_getG (a := 60) (j := 17) (T := TX12) (N := 79) hx hb hts hinX12 hown hc hw kl_60 sh_60 rfl (by decide) rfl (hI.to kl_60 tg_60_17) (hts (.fieldLink RX12 46 "RedTentModel" "fixBody" "[I") (List.mem_cons_of_mem _ tw_5_137)) (fun _ h9 => h9) dX12_addFix_13 ?_
    refine lv_aload_n hx hb dX12_addFix_16 rfl (lv_at hl 0 rfl) ?_
    refine fm_getI (a := 60) (j := 21) (T := TX12) (N := 79) hx hb hts hinX12 hown hc hw hI kl_60 sh_60 rfl (by decide) rfl bd_60_21 (hts (.fieldLink RX12 223 "RedTentModel" "fixings" "I") (List.mem_cons_of_mem _ tw_5_141)) (fun _ h9 => h9) dX12_addFix_17 (fun x3 ex3 bx3 => ?_)
    obtain rfl : x1 = x3 := by rw [ex3]; exact ex1
    refine lv_iload_n hx hb dX12_addFix_20 rfl (lv_at hl 1 rfl) ?_
    refine fm_iast (a := 117) hx hb hc hw hI hE hS kl_117 sh_117 ty_117 bd_117 (by omega) (by omega) cd_117 (by decide) dX12_addFix_21 (fun M4 H locs eM4 hw hI hE hS => ?_)
    refine lv_aload_n hx hb dX12_addFix_22 rfl (lv_at hl 0 rfl) ?_
    refine fm_getG (a := 60) (j := 18) (T := TX12) (N := 79) hx hb hts hinX12 hown hc hw kl_60 sh_60 rfl (by decide) rfl (hI.to kl_60 tg_60_18) (hts (.fieldLink RX12 49 "RedTentModel" "fixHour" "[I") (List.mem_cons_of_mem _ tw_5_138)) (fun _ h9 => h9) dX12_addFix_23 ?_
    refine lv_aload_n hx hb dX12_addFix_26 rfl (lv_at hl 0 rfl) ?_
    refine fm_getI (a := 60) (j := 21) (T := TX12) (N := 79) hx hb hts hinX12 hown hc hw hI kl_60 sh_60 rfl (by decide) rfl bd_60_21 (hts (.fieldLink RX12 223 "RedTentModel" "fixings" "I") (List.mem_cons_of_mem _ tw_5_141)) (fun _ h9 => h9) dX12_addFix_27 (fun x5 ex5 bx5 => ?_)
    obtain rfl : x1 = x5 := by rw [ex5, eM4, fm_wI_nj (fun z => absurd z.1 (by decide))]; exact ex1
    refine lv_iload_n hx hb dX12_addFix_30 rfl (lv_at hl 2 rfl) ?_
    refine fm_iast (a := 118) hx hb hc hw hI hE hS kl_118 sh_118 ty_118 bd_118 (by omega) (by omega) cd_118 (by decide) dX12_addFix_31 (fun M6 H locs eM6 hw hI hE hS => ?_)
    refine lv_aload_n hx hb dX12_addFix_32 rfl (lv_at hl 0 rfl) ?_
    refine fm_getG (a := 60) (j := 19) (T := TX12) (N := 79) hx hb hts hinX12 hown hc hw kl_60 sh_60 rfl (by decide) rfl (hI.to kl_60 tg_60_19) (hts (.fieldLink RX12 52 "RedTentModel" "fixCells" "[J") (List.mem_cons_of_mem _ tw_5_139)) (fun _ h9 => h9) dX12_addFix_33 ?_
    refine lv_aload_n hx hb dX12_addFix_36 rfl (lv_at hl 0 rfl) ?_
    refine fm_getI (a := 60) (j := 21) (T := TX12) (N := 79) hx hb hts hinX12 hown hc hw hI kl_60 sh_60 rfl (by decide) rfl bd_60_21 (hts (.fieldLink RX12 223 "RedTentModel" "fixings" "I") (List.mem_cons_of_mem _ tw_5_141)) (fun _ h9 => h9) dX12_addFix_37 (fun x7 ex7 bx7 => ?_)
    obtain rfl : x1 = x7 := by rw [ex7, eM6, fm_wI_nj (fun z => absurd z.1 (by decide)), eM4, fm_wI_nj (fun z => absurd z.1 (by decide))]; exact ex1
    refine lv_lload_n hx hb dX12_addFix_40 rfl (lv_at hl 3 rfl) ?_
    refine fm_last (a := 119) hx hb hc hw hI hE hS kl_119 sh_119 ty_119 (by omega) cd_119 (by decide) dX12_addFix_41 (fun M8 H locs eM8 hw hI hE hS => ?_)
    refine lv_aload_n hx hb dX12_addFix_42 rfl (lv_at hl 0 rfl) ?_
    refine fm_getG (a := 60) (j := 20) (T := TX12) (N := 79) hx hb hts hinX12 hown hc hw kl_60 sh_60 rfl (by decide) rfl (hI.to kl_60 tg_60_20) (hts (.fieldLink RX12 56 "RedTentModel" "fixTold" "[I") (List.mem_cons_of_mem _ tw_5_140)) (fun _ h9 => h9) dX12_addFix_43 ?_
    refine lv_aload_n hx hb dX12_addFix_46 rfl (lv_at hl 0 rfl) ?_
    refine fm_getI (a := 60) (j := 21) (T := TX12) (N := 79) hx hb hts hinX12 hown hc hw hI kl_60 sh_60 rfl (by decide) rfl bd_60_21 (hts (.fieldLink RX12 223 "RedTentModel" "fixings" "I") (List.mem_cons_of_mem _ tw_5_141)) (fun _ h9 => h9) dX12_addFix_47 (fun x9 ex9 bx9 => ?_)
    obtain rfl : x1 = x9 := by rw [ex9, eM8, fm_wL_1, eM6, fm_wI_nj (fun z => absurd z.1 (by decide)), eM4, fm_wI_nj (fun z => absurd z.1 (by decide))]; exact ex1
    refine lv_aload_n hx hb dX12_addFix_50 rfl (lv_at hl 0 rfl) ?_
    refine fm_getI (a := 60) (j := 0) (T := TX12) (N := 79) hx hb hts hinX12 hown hc hw hI kl_60 sh_60 rfl (by decide) rfl bd_60_0 (hts (.fieldLink RX12 201 "RedTentModel" "hour" "I") (List.mem_cons_of_mem _ tw_5_120)) (fun _ h9 => h9) dX12_addFix_51 (fun x10 ex10 bx10 => ?_)
    refine fm_iast (a := 120) hx hb hc hw hI hE hS kl_120 sh_120 ty_120 bd_120 (by omega) (by omega) cd_120 (by decide) dX12_addFix_54 (fun M11 H locs eM11 hw hI hE hS => ?_)
    refine lv_aload_n hx hb dX12_addFix_55 rfl (lv_at hl 0 rfl) ?_
    refine lv_dup hx hb dX12_addFix_56 rfl ?_
    refine fm_getI (a := 60) (j := 21) (T := TX12) (N := 79) hx hb hts hinX12 hown hc hw hI kl_60 sh_60 rfl (by decide) rfl bd_60_21 (hts (.fieldLink RX12 223 "RedTentModel" "fixings" "I") (List.mem_cons_of_mem _ tw_5_141)) (fun _ h9 => h9) dX12_addFix_57 (fun x12 ex12 bx12 => ?_)
    obtain rfl : x1 = x12 := by rw [ex12, eM11, fm_wI_nj (fun z => absurd z.1 (by decide)), eM8, fm_wL_1, eM6, fm_wI_nj (fun z => absurd z.1 (by decide)), eM4, fm_wI_nj (fun z => absurd z.1 (by decide))]; exact ex1
    refine lv_iconst (v := 1) hx hb dX12_addFix_60 (by decide) ?_
    refine fx_iadd hx hb dX12_addFix_61 rfl zk_1 (by omega) (fun y13 ey13 ty13 => ?_)
    refine fm_putI (a := 60) (j := 21) (T := TX12) (N := 79) hx hb hts hinX12 tyX12 tyX12_ok nmX12 hown hc hw hI hE hS kl_60 sh_60 od_60 rfl (by decide) rfl bd_60_21 (hts (.fieldLink RX12 223 "RedTentModel" "fixings" "I") (List.mem_cons_of_mem _ tw_5_141)) (fun _ h9 => h9) rfl (by decide +kernel) (by omega) (by decide) (by decide) dX12_addFix_62 (fun M14 H locs eM14 hw hI hE hS => ?_)
    refine lv_aload_n hx hb dX12_addFix_65 rfl (lv_at hl 0 rfl) ?_
    refine fm_getI (a := 60) (j := 21) (T := TX12) (N := 79) hx hb hts hinX12 hown hc hw hI kl_60 sh_60 rfl (by decide) rfl bd_60_21 (hts (.fieldLink RX12 223 "RedTentModel" "fixings" "I") (List.mem_cons_of_mem _ tw_5_141)) (fun _ h9 => h9) dX12_addFix_66 (fun x15 ex15 bx15 => ?_)
    obtain rfl : y13 = x15 := by rw [ex15, eM14, fm_wI_at]
    exact W.iret (v := y13) hx hb hr (fun t ht hW => ⟨⟨y13, M14, rfl, ⟨hI, hE, (by omega)⟩, by show fm_at D ad C nb _ t.heap; rw [ht]; exact hw⟩, hS.F ht⟩) hS.2.2 dX12_addFix_69
  · refine lv_bipush (v := (-4)) hx hb dX12_addFix_9 (by decide) ?_
    exact W.iret (v := (-4)) hx hb hr (fun t ht hW => ⟨⟨(-4), M, rfl, ⟨hI, hE, (by decide)⟩, by show fm_at D ad C nb _ t.heap; rw [ht]; exact hw⟩, hS.F ht⟩) hS.2.2 dX12_addFix_11
set_option maxHeartbeats 400000 in
set_option maxRecDepth 20000 in
theorem fc_X12_fix (l : Launch) (D : va_G) (ad : Nat → Nat → Nat) (C : Nat → Nat → ClassId) (nb : Nat) (M : fm_M) (hI : fm_I nb ad M) (p0 p1 : Int32) (p2 : Int64) : Met l yX12_fix wsX12_fix ({ frames := 1, cells := 0, slots := 0, locals := 24 }) (va_Pc [.ref (ad 60 0), .int p0, .int p1, .long p2] (fm_P D ad C nb M)) (va_Qi (fun (r : Int32) (u : fm_M) => fm_I nb ad u ∧ fm_same [60021, 117000, 118000, 119000, 120000] M u ∧ True) (fun u t => fm_at D ad C nb u t.heap) (fm_A nb ad)) 0 0 (fm_A nb ad) := by
  refine Met.ofW (cc := cX12_fix) (maxL := 5) (ret := (some .int)) (by decide) rfl ?_
  intro p e s m args below meth c s₁ B hml hv
  obtain ⟨rfl, hw, hc⟩ := hv
  have hx := B.exec
  have hb := B.bytes
  have hr := B.returns
  have hts := atoms_spec (ws := wsX12_fix) B.pre
  have hown : s.vm.findClass RX12 = some m.cls := findClass_of_methodNamed B.named
  have hinX12 : ∀ w ∈ u_ws RX12 TX12 79, w ∈ wsX12_fix := fun w h => List.mem_cons_of_mem _ (iT_X12 w h)
  have hS : va_S (fm_A nb ad) s.heap s.heap [] := va_S.rf
  have hE : fm_same [60021, 117000, 118000, 119000, 120000] M M := fm_same.rf
  have hl := lv_entry ([.ref (ad 60 0), .int p0, .int p1, .long p2]) (n := 5) (Nat.le_of_ble_eq_true rfl)
  rw [lg_entry_eq]
  generalize (lg_sl ([.ref (ad 60 0), .int p0, .int p1, .long p2]) ++ List.replicate (5 - (lg_sl ([.ref (ad 60 0), .int p0, .int p1, .long p2])).length) Slot.unset).toArray = ls at hl ⊢
  have hl : lv_has ls 5 [(0, .ref (ad 60 0)), (1, .int p0), (2, .int p1), (3, .long p2)] := hl
  refine lv_aload_n hx hb dX12_fix_0 rfl (lv_at hl 0 rfl) ?_
  refine lv_iload_n hx hb dX12_fix_1 rfl (lv_at hl 1 rfl) ?_
  refine vp_callSi (va_Run.run (va_runV (As := [.int p0]) (rest := []) ⟨hx, hb, hml, hown, hts⟩ (fc_X12_isBody l D ad C nb M hI p0) (cwV 1 hts gX12_fix_X12_isBody rfl rfl rfl (by decide +kernel) ⟨Nat.le_of_ble_eq_true rfl, Nat.le_of_ble_eq_true rfl⟩) (fm_preV hc hw hS kl_60 sh_60 rfl) rfl rfl hl.1 rfl (lv_room (Nat.le_of_ble_eq_true rfl)) dX12_fix_2 ⟨by decide +kernel, by decide +kernel⟩)) (fun r1 hr1 => ?_)
  have bqq2 := hI.bd (k := 0) bd_60_16
  rcases hr1 with ⟨rfl, c3⟩ | ⟨rfl, c3⟩
  · refine fx_if_eq (tgt := 35) hx hb dX12_fix_5 (by decide) zk_1 (fun c4 => by exfalso; omega) (fun c4 => ?_)
    refine lv_iload_n hx hb dX12_fix_8 rfl (lv_at hl 2 rfl) ?_
    refine lv_aload_n hx hb dX12_fix_9 rfl (lv_at hl 0 rfl) ?_
    refine fm_getG (a := 60) (j := 11) (T := TX12) (N := 79) hx hb hts hinX12 hown hc hw kl_60 sh_60 rfl (by decide) rfl (hI.to kl_60 tg_60_11) (hts (.fieldLink RX12 31 "RedTentModel" "began" "[I") (List.mem_cons_of_mem _ tw_5_131)) (fun _ h9 => h9) dX12_fix_10 ?_
    refine lv_iload_n hx hb dX12_fix_13 rfl (lv_at hl 1 rfl) ?_
    refine fm_iald (a := 111) hx hb hc hw hI kl_111 sh_111 ty_111 bd_111 (by omega) dX12_fix_14 (fun x5 ex5 bx5 => ?_)
    refine lv_aload_n hx hb dX12_fix_15 rfl (lv_at hl 0 rfl) ?_
    refine fm_getI (a := 60) (j := 0) (T := TX12) (N := 79) hx hb hts hinX12 hown hc hw hI kl_60 sh_60 rfl (by decide) rfl bd_60_0 (hts (.fieldLink RX12 201 "RedTentModel" "hour" "I") (List.mem_cons_of_mem _ tw_5_120)) (fun _ h9 => h9) dX12_fix_16 (fun x6 ex6 bx6 => ?_)
    refine vp_callSi (va_Run.run (va_runS (As := [.int p1, .int x5, .int x6]) (rest := []) ⟨hx, hb, hml, hown, hts⟩ (fc_X12_within l p1 x5 x6) (va_cwS 3 hts gX12_fix_X12_within rfl rfl rfl (by decide +kernel) ⟨Nat.le_of_ble_eq_true rfl, Nat.le_of_ble_eq_true rfl⟩) ⟨fun a U g mk q => q, fun U hU hW => ⟨rfl, trivial⟩⟩ rfl rfl hl.1 rfl (lv_room (Nat.le_of_ble_eq_true rfl)) dX12_fix_19 ⟨by decide +kernel, by decide +kernel⟩)) (fun r7 hr7 => ?_)
    rcases hr7 with ⟨rfl, c8⟩ | ⟨rfl, c8⟩
    · refine fx_if_eq (tgt := 35) hx hb dX12_fix_22 (by decide) zk_1 (fun c9 => by exfalso; omega) (fun c9 => ?_)
      refine lv_aload_n hx hb dX12_fix_25 rfl (lv_at hl 0 rfl) ?_
      refine lv_iload_n hx hb dX12_fix_26 rfl (lv_at hl 1 rfl) ?_
      refine lv_iload_n hx hb dX12_fix_27 rfl (lv_at hl 2 rfl) ?_
      refine lv_lload_n hx hb dX12_fix_28 rfl (lv_at hl 3 rfl) ?_
      refine fm_ci (va_runV (As := [.int p0, .int p1, .long p2]) (rest := []) ⟨hx, hb, hml, hown, hts⟩ (fc_X12_addFix l D ad C nb M hI p0 p1 p2 (by omega) (by omega)) (cwV 3 hts gX12_fix_X12_addFix rfl rfl rfl (by decide +kernel) ⟨Nat.le_of_ble_eq_true rfl, Nat.le_of_ble_eq_true rfl⟩) (fm_preV hc hw hS kl_60 sh_60 rfl) rfl rfl hl.1 rfl (lv_room (Nat.le_of_ble_eq_true rfl)) dX12_fix_29 ⟨by decide +kernel, by decide +kernel⟩) hS hc (fun r10 M11 H locs hr10 hw hS => ?_)
      obtain ⟨hI, hEM11, hr10⟩ := hr10
      have hE := hE.tr hEM11 (by decide)
      refine lv_goto (tgt := 37) hx hb dX12_fix_32 (by decide) ?_
      exact W.iret (v := r10) hx hb hr (fun t ht hW => ⟨⟨r10, M11, rfl, ⟨hI, hE, trivial⟩, by show fm_at D ad C nb _ t.heap; rw [ht]; exact hw⟩, hS.F ht⟩) hS.2.2 dX12_fix_37
    · refine fx_if_eq (tgt := 35) hx hb dX12_fix_22 (by decide) zk_0 (fun c12 => ?_) (fun c12 => by exfalso; omega)
      refine lv_bipush (v := (-2)) hx hb dX12_fix_35 (by decide) ?_
      exact W.iret (v := (-2)) hx hb hr (fun t ht hW => ⟨⟨(-2), M, rfl, ⟨hI, hE, trivial⟩, by show fm_at D ad C nb _ t.heap; rw [ht]; exact hw⟩, hS.F ht⟩) hS.2.2 dX12_fix_37
  · refine fx_if_eq (tgt := 35) hx hb dX12_fix_5 (by decide) zk_0 (fun c13 => ?_) (fun c13 => by exfalso; omega)
    refine lv_bipush (v := (-2)) hx hb dX12_fix_35 (by decide) ?_
    exact W.iret (v := (-2)) hx hb hr (fun t ht hW => ⟨⟨(-2), M, rfl, ⟨hI, hE, trivial⟩, by show fm_at D ad C nb _ t.heap; rw [ht]; exact hw⟩, hS.F ht⟩) hS.2.2 dX12_fix_37
set_option maxHeartbeats 400000 in
set_option maxRecDepth 20000 in
theorem fc_X12_hearer (l : Launch) (D : va_G) (ad : Nat → Nat → Nat) (C : Nat → Nat → ClassId) (nb : Nat) (M : fm_M) (hI : fm_I nb ad M) (p0 : Int32) : Met l yX12_hearer wsX12_hearer ({ frames := 2, cells := 0, slots := 0, locals := 42 }) (va_Pc [.ref (ad 60 0), .int p0] (fm_P D ad C nb M)) (va_Qi (fun (r : Int32) (u : fm_M) => fm_I nb ad u ∧ fm_same [60023, 122000] M u ∧ ((¬ (0 ≤ p0.toInt ∧ p0.toInt ≤ 63) ∧ r.toInt = -2 ∧ (u.1 60 0 23).toInt = (M.1 60 0 23).toInt) ∨ ((0 ≤ p0.toInt ∧ p0.toInt ≤ 63) ∧ 6 ≤ (M.1 60 0 23).toInt ∧ r.toInt = -4 ∧ (u.1 60 0 23).toInt = (M.1 60 0 23).toInt) ∨ ((0 ≤ p0.toInt ∧ p0.toInt ≤ 63) ∧ (M.1 60 0 23).toInt < 6 ∧ r.toInt = (M.1 60 0 23).toInt ∧ (u.1 60 0 23).toInt = (M.1 60 0 23).toInt + 1))) (fun u t => fm_at D ad C nb u t.heap) (fm_A nb ad)) 0 0 (fm_A nb ad) := by
  refine Met.ofW (cc := cX12_hearer) (maxL := 2) (ret := (some .int)) (by decide) rfl ?_
  intro p e s m args below meth c s₁ B hml hv
  obtain ⟨rfl, hw, hc⟩ := hv
  have hx := B.exec
  have hb := B.bytes
  have hr := B.returns
  have hts := atoms_spec (ws := wsX12_hearer) B.pre
  have hown : s.vm.findClass RX12 = some m.cls := findClass_of_methodNamed B.named
  have hinX12 : ∀ w ∈ u_ws RX12 TX12 79, w ∈ wsX12_hearer := fun w h => List.mem_cons_of_mem _ (iT_X12 w h)
  have hS : va_S (fm_A nb ad) s.heap s.heap [] := va_S.rf
  have hE : fm_same [60023, 122000] M M := fm_same.rf
  have hl := lv_entry ([.ref (ad 60 0), .int p0]) (n := 2) (Nat.le_of_ble_eq_true rfl)
  rw [lg_entry_eq]
  generalize (lg_sl ([.ref (ad 60 0), .int p0]) ++ List.replicate (2 - (lg_sl ([.ref (ad 60 0), .int p0])).length) Slot.unset).toArray = ls at hl ⊢
  have hl : lv_has ls 2 [(0, .ref (ad 60 0)), (1, .int p0)] := hl
  refine lv_iload_n hx hb dX12_hearer_0 rfl (lv_at hl 1 rfl) ?_
  refine vp_callSi (va_Run.run (va_runS (As := [.int p0]) (rest := []) ⟨hx, hb, hml, hown, hts⟩ (fc_X12_isCell l p0) (va_cwS 1 hts gX12_hearer_X12_isCell rfl rfl rfl (by decide +kernel) ⟨Nat.le_of_ble_eq_true rfl, Nat.le_of_ble_eq_true rfl⟩) ⟨fun a U g mk q => q, fun U hU hW => ⟨rfl, trivial⟩⟩ rfl rfl hl.1 rfl (lv_room (Nat.le_of_ble_eq_true rfl)) dX12_hearer_1 ⟨by decide +kernel, by decide +kernel⟩)) (fun r1 hr1 => ?_)
  rcases hr1 with ⟨rfl, c2⟩ | ⟨rfl, c2⟩
  · refine fx_if_ne (tgt := 10) hx hb dX12_hearer_4 (by decide) zk_1 (fun c3 => ?_) (fun c3 => by exfalso; omega)
    refine lv_aload_n hx hb dX12_hearer_10 rfl (lv_at hl 0 rfl) ?_
    refine fm_getI (a := 60) (j := 23) (T := TX12) (N := 79) hx hb hts hinX12 hown hc hw hI kl_60 sh_60 rfl (by decide) rfl bd_60_23 (hts (.fieldLink RX12 246 "RedTentModel" "hearers" "I") (List.mem_cons_of_mem _ tw_5_143)) (fun _ h9 => h9) dX12_hearer_11 (fun x4 ex4 bx4 => ?_)
    refine lv_bipush (v := 6) hx hb dX12_hearer_14 (by decide) ?_
    refine fx_icmp_ne (tgt := 22) hx hb dX12_hearer_16 (by decide) rfl zk_6 (fun c5 => ?_) (fun c5 => ?_)
    · refine lv_aload_n hx hb dX12_hearer_22 rfl (lv_at hl 0 rfl) ?_
      refine fm_getG (a := 60) (j := 22) (T := TX12) (N := 79) hx hb hts hinX12 hown hc hw kl_60 sh_60 rfl (by decide) rfl (hI.to kl_60 tg_60_22) (hts (.fieldLink RX12 59 "RedTentModel" "hearerCell" "[I") (List.mem_cons_of_mem _ tw_5_142)) (fun _ h9 => h9) dX12_hearer_23 ?_
      refine lv_aload_n hx hb dX12_hearer_26 rfl (lv_at hl 0 rfl) ?_
      refine fm_getI (a := 60) (j := 23) (T := TX12) (N := 79) hx hb hts hinX12 hown hc hw hI kl_60 sh_60 rfl (by decide) rfl bd_60_23 (hts (.fieldLink RX12 246 "RedTentModel" "hearers" "I") (List.mem_cons_of_mem _ tw_5_143)) (fun _ h9 => h9) dX12_hearer_27 (fun x6 ex6 bx6 => ?_)
      obtain rfl : x4 = x6 := by rw [ex6]; exact ex4
      refine lv_iload_n hx hb dX12_hearer_30 rfl (lv_at hl 1 rfl) ?_
      refine fm_iast (a := 122) hx hb hc hw hI hE hS kl_122 sh_122 ty_122 bd_122 (by omega) (by omega) cd_122 (by decide) dX12_hearer_31 (fun M7 H locs eM7 hw hI hE hS => ?_)
      refine lv_aload_n hx hb dX12_hearer_32 rfl (lv_at hl 0 rfl) ?_
      refine lv_dup hx hb dX12_hearer_33 rfl ?_
      refine fm_getI (a := 60) (j := 23) (T := TX12) (N := 79) hx hb hts hinX12 hown hc hw hI kl_60 sh_60 rfl (by decide) rfl bd_60_23 (hts (.fieldLink RX12 246 "RedTentModel" "hearers" "I") (List.mem_cons_of_mem _ tw_5_143)) (fun _ h9 => h9) dX12_hearer_34 (fun x8 ex8 bx8 => ?_)
      obtain rfl : x4 = x8 := by rw [ex8, eM7, fm_wI_nj (fun z => absurd z.1 (by decide))]; exact ex4
      refine lv_iconst (v := 1) hx hb dX12_hearer_37 (by decide) ?_
      refine fx_iadd hx hb dX12_hearer_38 rfl zk_1 (by omega) (fun y9 ey9 ty9 => ?_)
      refine fm_putI (a := 60) (j := 23) (T := TX12) (N := 79) hx hb hts hinX12 tyX12 tyX12_ok nmX12 hown hc hw hI hE hS kl_60 sh_60 od_60 rfl (by decide) rfl bd_60_23 (hts (.fieldLink RX12 246 "RedTentModel" "hearers" "I") (List.mem_cons_of_mem _ tw_5_143)) (fun _ h9 => h9) rfl (by decide +kernel) (by omega) (by decide) (by decide) dX12_hearer_39 (fun M10 H locs eM10 hw hI hE hS => ?_)
      refine lv_aload_n hx hb dX12_hearer_42 rfl (lv_at hl 0 rfl) ?_
      refine fm_getI (a := 60) (j := 23) (T := TX12) (N := 79) hx hb hts hinX12 hown hc hw hI kl_60 sh_60 rfl (by decide) rfl bd_60_23 (hts (.fieldLink RX12 246 "RedTentModel" "hearers" "I") (List.mem_cons_of_mem _ tw_5_143)) (fun _ h9 => h9) dX12_hearer_43 (fun x11 ex11 bx11 => ?_)
      obtain rfl : y9 = x11 := by rw [ex11, eM10, fm_wI_at]
      refine lv_iconst (v := 1) hx hb dX12_hearer_46 (by decide) ?_
      refine fx_isub hx hb dX12_hearer_47 rfl zk_1 (by omega) (fun y12 ey12 ty12 => ?_)
      have qx4 : x4.toInt = (M.1 60 0 23).toInt := by rw [ex4]
      exact W.iret (v := y12) hx hb hr (fun t ht hW => ⟨⟨y12, M10, rfl, ⟨hI, hE, Or.inr (Or.inr ⟨by omega, by omega, by omega, (by first | omega | (rw [eM10, fm_wI_at]; omega))⟩)⟩, by show fm_at D ad C nb _ t.heap; rw [ht]; exact hw⟩, hS.F ht⟩) hS.2.2 dX12_hearer_48
    · refine lv_bipush (v := (-4)) hx hb dX12_hearer_19 (by decide) ?_
      have qx4 : x4.toInt = (M.1 60 0 23).toInt := by rw [ex4]
      exact W.iret (v := (-4)) hx hb hr (fun t ht hW => ⟨⟨(-4), M, rfl, ⟨hI, hE, Or.inr (Or.inl ⟨by omega, by omega, zk_m4, rfl⟩)⟩, by show fm_at D ad C nb _ t.heap; rw [ht]; exact hw⟩, hS.F ht⟩) hS.2.2 dX12_hearer_21
  · refine fx_if_ne (tgt := 10) hx hb dX12_hearer_4 (by decide) zk_0 (fun c13 => by exfalso; omega) (fun c13 => ?_)
    refine lv_bipush (v := (-2)) hx hb dX12_hearer_7 (by decide) ?_
    exact W.iret (v := (-2)) hx hb hr (fun t ht hW => ⟨⟨(-2), M, rfl, ⟨hI, hE, Or.inl ⟨by omega, zk_m2, rfl⟩⟩, by show fm_at D ad C nb _ t.heap; rw [ht]; exact hw⟩, hS.F ht⟩) hS.2.2 dX12_hearer_9
set_option maxHeartbeats 400000 in
set_option maxRecDepth 20000 in
theorem fc_X12_wave (l : Launch) (D : va_G) (ad : Nat → Nat → Nat) (C : Nat → Nat → ClassId) (nb : Nat) (M : fm_M) (hI : fm_I nb ad M) (p0 p1 p2 p3 : Int32) : Met l yX12_wave wsX12_wave ({ frames := 2, cells := 0, slots := 0, locals := 42 }) (va_Pc [.ref (ad 60 0), .int p0, .int p1, .int p2, .int p3] (fm_P D ad C nb M)) (va_Qi (fun (r : Int32) (u : fm_M) => fm_I nb ad u ∧ fm_same [124000, 125000] M u ∧ ((¬ (0 ≤ p0.toInt ∧ p0.toInt ≤ 3 ∧ 0 ≤ p1.toInt ∧ p1.toInt ≤ 1 ∧ 0 ≤ p2.toInt ∧ p2.toInt ≤ p3.toInt ∧ p3.toInt ≤ 9) ∧ r.toInt = -2 ∧ (∀ j : Nat, u.1 124 0 j = M.1 124 0 j) ∧ (∀ j : Nat, u.1 125 0 j = M.1 125 0 j)) ∨ ((0 ≤ p0.toInt ∧ p0.toInt ≤ 3 ∧ 0 ≤ p1.toInt ∧ p1.toInt ≤ 1 ∧ 0 ≤ p2.toInt ∧ p2.toInt ≤ p3.toInt ∧ p3.toInt ≤ 9) ∧ r.toInt = 10 * (M.1 124 0 (2 * p0.toInt + p1.toInt).toNat).toInt + (M.1 125 0 (2 * p0.toInt + p1.toInt).toNat).toInt ∧ (∀ j : Nat, u.1 124 0 j = if j = (2 * p0.toInt + p1.toInt).toNat then p2 else M.1 124 0 j) ∧ (∀ j : Nat, u.1 125 0 j = if j = (2 * p0.toInt + p1.toInt).toNat then p3 else M.1 125 0 j)))) (fun u t => fm_at D ad C nb u t.heap) (fm_A nb ad)) 0 0 (fm_A nb ad) := by
  refine Met.ofW (cc := cX12_wave) (maxL := 7) (ret := (some .int)) (by decide) rfl ?_
  intro p e s m args below meth c s₁ B hml hv
  obtain ⟨rfl, hw, hc⟩ := hv
  have hx := B.exec
  have hb := B.bytes
  have hr := B.returns
  have hts := atoms_spec (ws := wsX12_wave) B.pre
  have hown : s.vm.findClass RX12 = some m.cls := findClass_of_methodNamed B.named
  have hinX12 : ∀ w ∈ u_ws RX12 TX12 79, w ∈ wsX12_wave := fun w h => List.mem_cons_of_mem _ (iT_X12 w h)
  have hS : va_S (fm_A nb ad) s.heap s.heap [] := va_S.rf
  have hE : fm_same [124000, 125000] M M := fm_same.rf
  have hl := lv_entry ([.ref (ad 60 0), .int p0, .int p1, .int p2, .int p3]) (n := 7) (Nat.le_of_ble_eq_true rfl)
  rw [lg_entry_eq]
  generalize (lg_sl ([.ref (ad 60 0), .int p0, .int p1, .int p2, .int p3]) ++ List.replicate (7 - (lg_sl ([.ref (ad 60 0), .int p0, .int p1, .int p2, .int p3])).length) Slot.unset).toArray = ls at hl ⊢
  have hl : lv_has ls 7 [(0, .ref (ad 60 0)), (1, .int p0), (2, .int p1), (3, .int p2), (4, .int p3)] := hl
  refine lv_iload_n hx hb dX12_wave_0 rfl (lv_at hl 1 rfl) ?_
  refine vp_callSi (va_Run.run (va_runS (As := [.int p0]) (rest := []) ⟨hx, hb, hml, hown, hts⟩ (fc_X12_isWave l p0) (va_cwS 1 hts gX12_wave_X12_isWave rfl rfl rfl (by decide +kernel) ⟨Nat.le_of_ble_eq_true rfl, Nat.le_of_ble_eq_true rfl⟩) ⟨fun a U g mk q => q, fun U hU hW => ⟨rfl, trivial⟩⟩ rfl rfl hl.1 rfl (lv_room (Nat.le_of_ble_eq_true rfl)) dX12_wave_1 ⟨by decide +kernel, by decide +kernel⟩)) (fun r1 hr1 => ?_)
  rcases hr1 with ⟨rfl, c2⟩ | ⟨rfl, c2⟩
  · refine fx_if_eq (tgt := 37) hx hb dX12_wave_4 (by decide) zk_1 (fun c3 => by exfalso; omega) (fun c3 => ?_)
    refine lv_iload_n hx hb dX12_wave_7 rfl (lv_at hl 2 rfl) ?_
    refine lv_iconst (v := 0) hx hb dX12_wave_8 (by decide) ?_
    refine lv_iconst (v := 1) hx hb dX12_wave_9 (by decide) ?_
    have zz4 := zk_0
    have zz5 := zk_1
    refine vp_callSi (va_Run.run (va_runS (As := [.int p1, .int 0, .int 1]) (rest := []) ⟨hx, hb, hml, hown, hts⟩ (fc_X12_within l p1 0 1) (va_cwS 3 hts gX12_wave_X12_within rfl rfl rfl (by decide +kernel) ⟨Nat.le_of_ble_eq_true rfl, Nat.le_of_ble_eq_true rfl⟩) ⟨fun a U g mk q => q, fun U hU hW => ⟨rfl, trivial⟩⟩ rfl rfl hl.1 rfl (lv_room (Nat.le_of_ble_eq_true rfl)) dX12_wave_10 ⟨by decide +kernel, by decide +kernel⟩)) (fun r6 hr6 => ?_)
    rcases hr6 with ⟨rfl, c7⟩ | ⟨rfl, c7⟩
    · refine fx_if_eq (tgt := 37) hx hb dX12_wave_13 (by decide) zk_1 (fun c8 => by exfalso; omega) (fun c8 => ?_)
      refine lv_iload_n hx hb dX12_wave_16 rfl (lv_at hl 3 rfl) ?_
      refine lv_iconst (v := 0) hx hb dX12_wave_17 (by decide) ?_
      refine lv_bipush (v := 9) hx hb dX12_wave_18 (by decide) ?_
      have zz9 := zk_0
      have zz10 := zk_9
      refine vp_callSi (va_Run.run (va_runS (As := [.int p2, .int 0, .int 9]) (rest := []) ⟨hx, hb, hml, hown, hts⟩ (fc_X12_within l p2 0 9) (va_cwS 3 hts gX12_wave_X12_within rfl rfl rfl (by decide +kernel) ⟨Nat.le_of_ble_eq_true rfl, Nat.le_of_ble_eq_true rfl⟩) ⟨fun a U g mk q => q, fun U hU hW => ⟨rfl, trivial⟩⟩ rfl rfl hl.1 rfl (lv_room (Nat.le_of_ble_eq_true rfl)) dX12_wave_20 ⟨by decide +kernel, by decide +kernel⟩)) (fun r11 hr11 => ?_)
      rcases hr11 with ⟨rfl, c12⟩ | ⟨rfl, c12⟩
      · refine fx_if_eq (tgt := 37) hx hb dX12_wave_23 (by decide) zk_1 (fun c13 => by exfalso; omega) (fun c13 => ?_)
        refine lv_iload hx hb dX12_wave_26 (lv_at hl 4 rfl) ?_
        refine lv_iload_n hx hb dX12_wave_28 rfl (lv_at hl 3 rfl) ?_
        refine lv_bipush (v := 9) hx hb dX12_wave_29 (by decide) ?_
        have zz14 := zk_9
        refine vp_callSi (va_Run.run (va_runS (As := [.int p3, .int p2, .int 9]) (rest := []) ⟨hx, hb, hml, hown, hts⟩ (fc_X12_within l p3 p2 9) (va_cwS 3 hts gX12_wave_X12_within rfl rfl rfl (by decide +kernel) ⟨Nat.le_of_ble_eq_true rfl, Nat.le_of_ble_eq_true rfl⟩) ⟨fun a U g mk q => q, fun U hU hW => ⟨rfl, trivial⟩⟩ rfl rfl hl.1 rfl (lv_room (Nat.le_of_ble_eq_true rfl)) dX12_wave_31 ⟨by decide +kernel, by decide +kernel⟩)) (fun r15 hr15 => ?_)
        rcases hr15 with ⟨rfl, c16⟩ | ⟨rfl, c16⟩
        · refine fx_if_ne (tgt := 40) hx hb dX12_wave_34 (by decide) zk_1 (fun c17 => ?_) (fun c17 => by exfalso; omega)
          refine lv_iconst (v := 2) hx hb dX12_wave_40 (by decide) ?_
          refine lv_iload_n hx hb dX12_wave_41 rfl (lv_at hl 1 rfl) ?_
          refine fx_imul hx hb dX12_wave_42 zk_2 rfl (by omega) (fun y18 ey18 ty18 => ?_)
          refine lv_iload_n hx hb dX12_wave_43 rfl (lv_at hl 2 rfl) ?_
          refine fx_iadd hx hb dX12_wave_44 rfl rfl (by omega) (fun y19 ey19 ty19 => ?_)
          refine lv_istore (lv' := [(5, .int y19), (0, .ref (ad 60 0)), (1, .int p0), (2, .int p1), (3, .int p2), (4, .int p3)]) hx hb dX12_wave_45 hl (by decide) rfl (fun ls hl => ?_)
          refine lv_bipush (v := 10) hx hb dX12_wave_47 (by decide) ?_
          refine lv_aload_n hx hb dX12_wave_49 rfl (lv_at hl 1 rfl) ?_
          refine fm_getG (a := 60) (j := 24) (T := TX12) (N := 79) hx hb hts hinX12 hown hc hw kl_60 sh_60 rfl (by decide) rfl (hI.to kl_60 tg_60_24) (hts (.fieldLink RX12 62 "RedTentModel" "waveFrom" "[I") (List.mem_cons_of_mem _ tw_5_144)) (fun _ h9 => h9) dX12_wave_50 ?_
          refine lv_iload hx hb dX12_wave_53 (lv_at hl 0 rfl) ?_
          refine fm_iald (a := 124) hx hb hc hw hI kl_124 sh_124 ty_124 bd_124 (by omega) dX12_wave_55 (fun x20 ex20 bx20 => ?_)
          refine fx_imul hx hb dX12_wave_56 zk_10 rfl (by omega) (fun y21 ey21 ty21 => ?_)
          refine lv_aload_n hx hb dX12_wave_57 rfl (lv_at hl 1 rfl) ?_
          refine fm_getG (a := 60) (j := 25) (T := TX12) (N := 79) hx hb hts hinX12 hown hc hw kl_60 sh_60 rfl (by decide) rfl (hI.to kl_60 tg_60_25) (hts (.fieldLink RX12 65 "RedTentModel" "waveTo" "[I") (List.mem_cons_of_mem _ tw_5_145)) (fun _ h9 => h9) dX12_wave_58 ?_
          refine lv_iload hx hb dX12_wave_61 (lv_at hl 0 rfl) ?_
          refine fm_iald (a := 125) hx hb hc hw hI kl_125 sh_125 ty_125 bd_125 (by omega) dX12_wave_63 (fun x22 ex22 bx22 => ?_)
          refine fx_iadd hx hb dX12_wave_64 rfl rfl (by omega) (fun y23 ey23 ty23 => ?_)
          refine lv_istore (lv' := [(6, .int y23), (5, .int y19), (0, .ref (ad 60 0)), (1, .int p0), (2, .int p1), (3, .int p2), (4, .int p3)]) hx hb dX12_wave_65 hl (by decide) rfl (fun ls hl => ?_)
          refine lv_aload_n hx hb dX12_wave_67 rfl (lv_at hl 2 rfl) ?_
          refine fm_getG (a := 60) (j := 24) (T := TX12) (N := 79) hx hb hts hinX12 hown hc hw kl_60 sh_60 rfl (by decide) rfl (hI.to kl_60 tg_60_24) (hts (.fieldLink RX12 62 "RedTentModel" "waveFrom" "[I") (List.mem_cons_of_mem _ tw_5_144)) (fun _ h9 => h9) dX12_wave_68 ?_
          refine lv_iload hx hb dX12_wave_71 (lv_at hl 1 rfl) ?_
          refine lv_iload_n hx hb dX12_wave_73 rfl (lv_at hl 5 rfl) ?_
          refine fm_iast (a := 124) hx hb hc hw hI hE hS kl_124 sh_124 ty_124 bd_124 (by omega) (by omega) cd_124 (by decide) dX12_wave_74 (fun M24 H locs eM24 hw hI hE hS => ?_)
          refine lv_aload_n hx hb dX12_wave_75 rfl (lv_at hl 2 rfl) ?_
          refine fm_getG (a := 60) (j := 25) (T := TX12) (N := 79) hx hb hts hinX12 hown hc hw kl_60 sh_60 rfl (by decide) rfl (hI.to kl_60 tg_60_25) (hts (.fieldLink RX12 65 "RedTentModel" "waveTo" "[I") (List.mem_cons_of_mem _ tw_5_145)) (fun _ h9 => h9) dX12_wave_76 ?_
          refine lv_iload hx hb dX12_wave_79 (lv_at hl 1 rfl) ?_
          refine lv_iload hx hb dX12_wave_81 (lv_at hl 6 rfl) ?_
          refine fm_iast (a := 125) hx hb hc hw hI hE hS kl_125 sh_125 ty_125 bd_125 (by omega) (by omega) cd_125 (by decide) dX12_wave_83 (fun M25 H locs eM25 hw hI hE hS => ?_)
          refine lv_iload hx hb dX12_wave_84 (lv_at hl 0 rfl) ?_
          have k9 : y19.toNatClampNeg = (2 * p0.toInt + p1.toInt).toNat := by rw [Int32.toNatClampNeg]; omega
          have g1 : x20.toInt = (M.1 124 0 (2 * p0.toInt + p1.toInt).toNat).toInt := by rw [ex20, k9]
          have g2 : x22.toInt = (M.1 125 0 (2 * p0.toInt + p1.toInt).toNat).toInt := by rw [ex22, k9]
          exact W.iret (v := y23) hx hb hr (fun t ht hW => ⟨⟨y23, M25, rfl, ⟨hI, hE, Or.inr ⟨by omega, by omega, fun j => by rw [eM25, fm_wI_nj (fun z => absurd z.1 (by decide)), eM24, fm_wI_ar, k9], fun j => by rw [eM25, fm_wI_ar, eM24, fm_wI_nj (fun z => absurd z.1 (by decide)), k9]⟩⟩, by show fm_at D ad C nb _ t.heap; rw [ht]; exact hw⟩, hS.F ht⟩) hS.2.2 dX12_wave_86
        · refine fx_if_ne (tgt := 40) hx hb dX12_wave_34 (by decide) zk_0 (fun c26 => by exfalso; omega) (fun c26 => ?_)
          refine lv_bipush (v := (-2)) hx hb dX12_wave_37 (by decide) ?_
          exact W.iret (v := (-2)) hx hb hr (fun t ht hW => ⟨⟨(-2), M, rfl, ⟨hI, hE, Or.inl ⟨by omega, zk_m2, fun _ => rfl, fun _ => rfl⟩⟩, by show fm_at D ad C nb _ t.heap; rw [ht]; exact hw⟩, hS.F ht⟩) hS.2.2 dX12_wave_39
      · refine fx_if_eq (tgt := 37) hx hb dX12_wave_23 (by decide) zk_0 (fun c27 => ?_) (fun c27 => by exfalso; omega)
        refine lv_bipush (v := (-2)) hx hb dX12_wave_37 (by decide) ?_
        exact W.iret (v := (-2)) hx hb hr (fun t ht hW => ⟨⟨(-2), M, rfl, ⟨hI, hE, Or.inl ⟨by omega, zk_m2, fun _ => rfl, fun _ => rfl⟩⟩, by show fm_at D ad C nb _ t.heap; rw [ht]; exact hw⟩, hS.F ht⟩) hS.2.2 dX12_wave_39
    · refine fx_if_eq (tgt := 37) hx hb dX12_wave_13 (by decide) zk_0 (fun c28 => ?_) (fun c28 => by exfalso; omega)
      refine lv_bipush (v := (-2)) hx hb dX12_wave_37 (by decide) ?_
      exact W.iret (v := (-2)) hx hb hr (fun t ht hW => ⟨⟨(-2), M, rfl, ⟨hI, hE, Or.inl ⟨by omega, zk_m2, fun _ => rfl, fun _ => rfl⟩⟩, by show fm_at D ad C nb _ t.heap; rw [ht]; exact hw⟩, hS.F ht⟩) hS.2.2 dX12_wave_39
  · refine fx_if_eq (tgt := 37) hx hb dX12_wave_4 (by decide) zk_0 (fun c29 => ?_) (fun c29 => by exfalso; omega)
    refine lv_bipush (v := (-2)) hx hb dX12_wave_37 (by decide) ?_
    exact W.iret (v := (-2)) hx hb hr (fun t ht hW => ⟨⟨(-2), M, rfl, ⟨hI, hE, Or.inl ⟨by omega, zk_m2, fun _ => rfl, fun _ => rfl⟩⟩, by show fm_at D ad C nb _ t.heap; rw [ht]; exact hw⟩, hS.F ht⟩) hS.2.2 dX12_wave_39
set_option maxHeartbeats 400000 in
set_option maxRecDepth 20000 in
theorem fc_X12_call (l : Launch) (D : va_G) (ad : Nat → Nat → Nat) (C : Nat → Nat → ClassId) (nb : Nat) (M : fm_M) (hI : fm_I nb ad M) (p0 p1 : Int32) (p2 : Int64) : Met l yX12_call wsX12_call ({ frames := 2, cells := 0, slots := 0, locals := 42 }) (va_Pc [.ref (ad 60 0), .int p0, .int p1, .long p2] (fm_P D ad C nb M)) (va_Qi (fun (r : Int32) (u : fm_M) => fm_I nb ad u ∧ fm_same [60030, 126000, 127000, 128000, 129000] M u ∧ ((¬ (0 ≤ p0.toInt ∧ p0.toInt < (M.1 60 0 16).toInt ∧ 0 ≤ p1.toInt ∧ p1.toInt ≤ 3) ∧ r.toInt = -2 ∧ (u.1 60 0 30).toInt = (M.1 60 0 30).toInt) ∨ ((0 ≤ p0.toInt ∧ p0.toInt < (M.1 60 0 16).toInt ∧ 0 ≤ p1.toInt ∧ p1.toInt ≤ 3) ∧ 20 ≤ (M.1 60 0 30).toInt ∧ r.toInt = -4 ∧ (u.1 60 0 30).toInt = (M.1 60 0 30).toInt) ∨ ((0 ≤ p0.toInt ∧ p0.toInt < (M.1 60 0 16).toInt ∧ 0 ≤ p1.toInt ∧ p1.toInt ≤ 3) ∧ (M.1 60 0 30).toInt < 20 ∧ r.toInt = (M.1 60 0 30).toInt ∧ (u.1 60 0 30).toInt = (M.1 60 0 30).toInt + 1))) (fun u t => fm_at D ad C nb u t.heap) (fm_A nb ad)) 0 0 (fm_A nb ad) := by
  refine Met.ofW (cc := cX12_call) (maxL := 5) (ret := (some .int)) (by decide) rfl ?_
  intro p e s m args below meth c s₁ B hml hv
  obtain ⟨rfl, hw, hc⟩ := hv
  have hx := B.exec
  have hb := B.bytes
  have hr := B.returns
  have hts := atoms_spec (ws := wsX12_call) B.pre
  have hown : s.vm.findClass RX12 = some m.cls := findClass_of_methodNamed B.named
  have hinX12 : ∀ w ∈ u_ws RX12 TX12 79, w ∈ wsX12_call := fun w h => List.mem_cons_of_mem _ (iT_X12 w h)
  have hS : va_S (fm_A nb ad) s.heap s.heap [] := va_S.rf
  have hE : fm_same [60030, 126000, 127000, 128000, 129000] M M := fm_same.rf
  have hl := lv_entry ([.ref (ad 60 0), .int p0, .int p1, .long p2]) (n := 5) (Nat.le_of_ble_eq_true rfl)
  rw [lg_entry_eq]
  generalize (lg_sl ([.ref (ad 60 0), .int p0, .int p1, .long p2]) ++ List.replicate (5 - (lg_sl ([.ref (ad 60 0), .int p0, .int p1, .long p2])).length) Slot.unset).toArray = ls at hl ⊢
  have hl : lv_has ls 5 [(0, .ref (ad 60 0)), (1, .int p0), (2, .int p1), (3, .long p2)] := hl
  refine lv_aload_n hx hb dX12_call_0 rfl (lv_at hl 0 rfl) ?_
  refine lv_iload_n hx hb dX12_call_1 rfl (lv_at hl 1 rfl) ?_
  refine vp_callSi (va_Run.run (va_runV (As := [.int p0]) (rest := []) ⟨hx, hb, hml, hown, hts⟩ (fc_X12_isBody l D ad C nb M hI p0) (cwV 1 hts gX12_call_X12_isBody rfl rfl rfl (by decide +kernel) ⟨Nat.le_of_ble_eq_true rfl, Nat.le_of_ble_eq_true rfl⟩) (fm_preV hc hw hS kl_60 sh_60 rfl) rfl rfl hl.1 rfl (lv_room (Nat.le_of_ble_eq_true rfl)) dX12_call_2 ⟨by decide +kernel, by decide +kernel⟩)) (fun r1 hr1 => ?_)
  have bqq2 := hI.bd (k := 0) bd_60_16
  rcases hr1 with ⟨rfl, c3⟩ | ⟨rfl, c3⟩
  · refine fx_if_eq (tgt := 15) hx hb dX12_call_5 (by decide) zk_1 (fun c4 => by exfalso; omega) (fun c4 => ?_)
    refine lv_iload_n hx hb dX12_call_8 rfl (lv_at hl 2 rfl) ?_
    refine vp_callSi (va_Run.run (va_runS (As := [.int p1]) (rest := []) ⟨hx, hb, hml, hown, hts⟩ (fc_X12_isWave l p1) (va_cwS 1 hts gX12_call_X12_isWave rfl rfl rfl (by decide +kernel) ⟨Nat.le_of_ble_eq_true rfl, Nat.le_of_ble_eq_true rfl⟩) ⟨fun a U g mk q => q, fun U hU hW => ⟨rfl, trivial⟩⟩ rfl rfl hl.1 rfl (lv_room (Nat.le_of_ble_eq_true rfl)) dX12_call_9 ⟨by decide +kernel, by decide +kernel⟩)) (fun r5 hr5 => ?_)
    rcases hr5 with ⟨rfl, c6⟩ | ⟨rfl, c6⟩
    · refine fx_if_ne (tgt := 18) hx hb dX12_call_12 (by decide) zk_1 (fun c7 => ?_) (fun c7 => by exfalso; omega)
      refine lv_aload_n hx hb dX12_call_18 rfl (lv_at hl 0 rfl) ?_
      refine fm_getI (a := 60) (j := 30) (T := TX12) (N := 79) hx hb hts hinX12 hown hc hw hI kl_60 sh_60 rfl (by decide) rfl bd_60_30 (hts (.fieldLink RX12 252 "RedTentModel" "calls" "I") (List.mem_cons_of_mem _ tw_5_150)) (fun _ h9 => h9) dX12_call_19 (fun x8 ex8 bx8 => ?_)
      refine lv_bipush (v := 20) hx hb dX12_call_22 (by decide) ?_
      refine fx_icmp_ne (tgt := 30) hx hb dX12_call_24 (by decide) rfl zk_20 (fun c9 => ?_) (fun c9 => ?_)
      · refine lv_aload_n hx hb dX12_call_30 rfl (lv_at hl 0 rfl) ?_
        refine fm_getG (a := 60) (j := 26) (T := TX12) (N := 79) hx hb hts hinX12 hown hc hw kl_60 sh_60 rfl (by decide) rfl (hI.to kl_60 tg_60_26) (hts (.fieldLink RX12 68 "RedTentModel" "callBody" "[I") (List.mem_cons_of_mem _ tw_5_146)) (fun _ h9 => h9) dX12_call_31 ?_
        refine lv_aload_n hx hb dX12_call_34 rfl (lv_at hl 0 rfl) ?_
        refine fm_getI (a := 60) (j := 30) (T := TX12) (N := 79) hx hb hts hinX12 hown hc hw hI kl_60 sh_60 rfl (by decide) rfl bd_60_30 (hts (.fieldLink RX12 252 "RedTentModel" "calls" "I") (List.mem_cons_of_mem _ tw_5_150)) (fun _ h9 => h9) dX12_call_35 (fun x10 ex10 bx10 => ?_)
        obtain rfl : x8 = x10 := by rw [ex10]; exact ex8
        refine lv_iload_n hx hb dX12_call_38 rfl (lv_at hl 1 rfl) ?_
        refine fm_iast (a := 126) hx hb hc hw hI hE hS kl_126 sh_126 ty_126 bd_126 (by omega) (by omega) cd_126 (by decide) dX12_call_39 (fun M11 H locs eM11 hw hI hE hS => ?_)
        refine lv_aload_n hx hb dX12_call_40 rfl (lv_at hl 0 rfl) ?_
        refine fm_getG (a := 60) (j := 27) (T := TX12) (N := 79) hx hb hts hinX12 hown hc hw kl_60 sh_60 rfl (by decide) rfl (hI.to kl_60 tg_60_27) (hts (.fieldLink RX12 71 "RedTentModel" "callWave" "[I") (List.mem_cons_of_mem _ tw_5_147)) (fun _ h9 => h9) dX12_call_41 ?_
        refine lv_aload_n hx hb dX12_call_44 rfl (lv_at hl 0 rfl) ?_
        refine fm_getI (a := 60) (j := 30) (T := TX12) (N := 79) hx hb hts hinX12 hown hc hw hI kl_60 sh_60 rfl (by decide) rfl bd_60_30 (hts (.fieldLink RX12 252 "RedTentModel" "calls" "I") (List.mem_cons_of_mem _ tw_5_150)) (fun _ h9 => h9) dX12_call_45 (fun x12 ex12 bx12 => ?_)
        obtain rfl : x8 = x12 := by rw [ex12, eM11, fm_wI_nj (fun z => absurd z.1 (by decide))]; exact ex8
        refine lv_iload_n hx hb dX12_call_48 rfl (lv_at hl 2 rfl) ?_
        refine fm_iast (a := 127) hx hb hc hw hI hE hS kl_127 sh_127 ty_127 bd_127 (by omega) (by omega) cd_127 (by decide) dX12_call_49 (fun M13 H locs eM13 hw hI hE hS => ?_)
        refine lv_aload_n hx hb dX12_call_50 rfl (lv_at hl 0 rfl) ?_
        refine fm_getG (a := 60) (j := 28) (T := TX12) (N := 79) hx hb hts hinX12 hown hc hw kl_60 sh_60 rfl (by decide) rfl (hI.to kl_60 tg_60_28) (hts (.fieldLink RX12 74 "RedTentModel" "callHour" "[I") (List.mem_cons_of_mem _ tw_5_148)) (fun _ h9 => h9) dX12_call_51 ?_
        refine lv_aload_n hx hb dX12_call_54 rfl (lv_at hl 0 rfl) ?_
        refine fm_getI (a := 60) (j := 30) (T := TX12) (N := 79) hx hb hts hinX12 hown hc hw hI kl_60 sh_60 rfl (by decide) rfl bd_60_30 (hts (.fieldLink RX12 252 "RedTentModel" "calls" "I") (List.mem_cons_of_mem _ tw_5_150)) (fun _ h9 => h9) dX12_call_55 (fun x14 ex14 bx14 => ?_)
        obtain rfl : x8 = x14 := by rw [ex14, eM13, fm_wI_nj (fun z => absurd z.1 (by decide)), eM11, fm_wI_nj (fun z => absurd z.1 (by decide))]; exact ex8
        refine lv_aload_n hx hb dX12_call_58 rfl (lv_at hl 0 rfl) ?_
        refine fm_getI (a := 60) (j := 0) (T := TX12) (N := 79) hx hb hts hinX12 hown hc hw hI kl_60 sh_60 rfl (by decide) rfl bd_60_0 (hts (.fieldLink RX12 201 "RedTentModel" "hour" "I") (List.mem_cons_of_mem _ tw_5_120)) (fun _ h9 => h9) dX12_call_59 (fun x15 ex15 bx15 => ?_)
        refine fm_iast (a := 128) hx hb hc hw hI hE hS kl_128 sh_128 ty_128 bd_128 (by omega) (by omega) cd_128 (by decide) dX12_call_62 (fun M16 H locs eM16 hw hI hE hS => ?_)
        refine lv_aload_n hx hb dX12_call_63 rfl (lv_at hl 0 rfl) ?_
        refine fm_getG (a := 60) (j := 29) (T := TX12) (N := 79) hx hb hts hinX12 hown hc hw kl_60 sh_60 rfl (by decide) rfl (hI.to kl_60 tg_60_29) (hts (.fieldLink RX12 77 "RedTentModel" "callWords" "[J") (List.mem_cons_of_mem _ tw_5_149)) (fun _ h9 => h9) dX12_call_64 ?_
        refine lv_aload_n hx hb dX12_call_67 rfl (lv_at hl 0 rfl) ?_
        refine fm_getI (a := 60) (j := 30) (T := TX12) (N := 79) hx hb hts hinX12 hown hc hw hI kl_60 sh_60 rfl (by decide) rfl bd_60_30 (hts (.fieldLink RX12 252 "RedTentModel" "calls" "I") (List.mem_cons_of_mem _ tw_5_150)) (fun _ h9 => h9) dX12_call_68 (fun x17 ex17 bx17 => ?_)
        obtain rfl : x8 = x17 := by rw [ex17, eM16, fm_wI_nj (fun z => absurd z.1 (by decide)), eM13, fm_wI_nj (fun z => absurd z.1 (by decide)), eM11, fm_wI_nj (fun z => absurd z.1 (by decide))]; exact ex8
        refine lv_lload_n hx hb dX12_call_71 rfl (lv_at hl 3 rfl) ?_
        refine fm_last (a := 129) hx hb hc hw hI hE hS kl_129 sh_129 ty_129 (by omega) cd_129 (by decide) dX12_call_72 (fun M18 H locs eM18 hw hI hE hS => ?_)
        refine lv_aload_n hx hb dX12_call_73 rfl (lv_at hl 0 rfl) ?_
        refine lv_dup hx hb dX12_call_74 rfl ?_
        refine fm_getI (a := 60) (j := 30) (T := TX12) (N := 79) hx hb hts hinX12 hown hc hw hI kl_60 sh_60 rfl (by decide) rfl bd_60_30 (hts (.fieldLink RX12 252 "RedTentModel" "calls" "I") (List.mem_cons_of_mem _ tw_5_150)) (fun _ h9 => h9) dX12_call_75 (fun x19 ex19 bx19 => ?_)
        obtain rfl : x8 = x19 := by rw [ex19, eM18, fm_wL_1, eM16, fm_wI_nj (fun z => absurd z.1 (by decide)), eM13, fm_wI_nj (fun z => absurd z.1 (by decide)), eM11, fm_wI_nj (fun z => absurd z.1 (by decide))]; exact ex8
        refine lv_iconst (v := 1) hx hb dX12_call_78 (by decide) ?_
        refine fx_iadd hx hb dX12_call_79 rfl zk_1 (by omega) (fun y20 ey20 ty20 => ?_)
        refine fm_putI (a := 60) (j := 30) (T := TX12) (N := 79) hx hb hts hinX12 tyX12 tyX12_ok nmX12 hown hc hw hI hE hS kl_60 sh_60 od_60 rfl (by decide) rfl bd_60_30 (hts (.fieldLink RX12 252 "RedTentModel" "calls" "I") (List.mem_cons_of_mem _ tw_5_150)) (fun _ h9 => h9) rfl (by decide +kernel) (by omega) (by decide) (by decide) dX12_call_80 (fun M21 H locs eM21 hw hI hE hS => ?_)
        refine lv_aload_n hx hb dX12_call_83 rfl (lv_at hl 0 rfl) ?_
        refine fm_getI (a := 60) (j := 30) (T := TX12) (N := 79) hx hb hts hinX12 hown hc hw hI kl_60 sh_60 rfl (by decide) rfl bd_60_30 (hts (.fieldLink RX12 252 "RedTentModel" "calls" "I") (List.mem_cons_of_mem _ tw_5_150)) (fun _ h9 => h9) dX12_call_84 (fun x22 ex22 bx22 => ?_)
        obtain rfl : y20 = x22 := by rw [ex22, eM21, fm_wI_at]
        refine lv_iconst (v := 1) hx hb dX12_call_87 (by decide) ?_
        refine fx_isub hx hb dX12_call_88 rfl zk_1 (by omega) (fun y23 ey23 ty23 => ?_)
        have qx8 : x8.toInt = (M.1 60 0 30).toInt := by rw [ex8]
        exact W.iret (v := y23) hx hb hr (fun t ht hW => ⟨⟨y23, M21, rfl, ⟨hI, hE, Or.inr (Or.inr ⟨by omega, by omega, by omega, (by first | omega | (rw [eM21, fm_wI_at]; omega))⟩)⟩, by show fm_at D ad C nb _ t.heap; rw [ht]; exact hw⟩, hS.F ht⟩) hS.2.2 dX12_call_89
      · refine lv_bipush (v := (-4)) hx hb dX12_call_27 (by decide) ?_
        have qx8 : x8.toInt = (M.1 60 0 30).toInt := by rw [ex8]
        exact W.iret (v := (-4)) hx hb hr (fun t ht hW => ⟨⟨(-4), M, rfl, ⟨hI, hE, Or.inr (Or.inl ⟨by omega, by omega, zk_m4, rfl⟩)⟩, by show fm_at D ad C nb _ t.heap; rw [ht]; exact hw⟩, hS.F ht⟩) hS.2.2 dX12_call_29
    · refine fx_if_ne (tgt := 18) hx hb dX12_call_12 (by decide) zk_0 (fun c24 => by exfalso; omega) (fun c24 => ?_)
      refine lv_bipush (v := (-2)) hx hb dX12_call_15 (by decide) ?_
      exact W.iret (v := (-2)) hx hb hr (fun t ht hW => ⟨⟨(-2), M, rfl, ⟨hI, hE, Or.inl ⟨by omega, zk_m2, rfl⟩⟩, by show fm_at D ad C nb _ t.heap; rw [ht]; exact hw⟩, hS.F ht⟩) hS.2.2 dX12_call_17
  · refine fx_if_eq (tgt := 15) hx hb dX12_call_5 (by decide) zk_0 (fun c25 => ?_) (fun c25 => by exfalso; omega)
    refine lv_bipush (v := (-2)) hx hb dX12_call_15 (by decide) ?_
    exact W.iret (v := (-2)) hx hb hr (fun t ht hW => ⟨⟨(-2), M, rfl, ⟨hI, hE, Or.inl ⟨by omega, zk_m2, rfl⟩⟩, by show fm_at D ad C nb _ t.heap; rw [ht]; exact hw⟩, hS.F ht⟩) hS.2.2 dX12_call_17
set_option maxHeartbeats 400000 in
set_option maxRecDepth 20000 in
theorem fc_X12_canHear (l : Launch) (D : va_G) (ad : Nat → Nat → Nat) (C : Nat → Nat → ClassId) (nb : Nat) (M : fm_M) (hI : fm_I nb ad M) (p0 p1 : Int32) : Met l yX12_canHear wsX12_canHear ({ frames := 3, cells := 0, slots := 0, locals := 84 }) (va_Pc [.ref (ad 60 0), .int p0, .int p1] (fm_P D ad C nb M)) (vp_Si (fun r : Int32 => True)) 0 0 (fun _ => False) := by
  refine Met.ofW (cc := cX12_canHear) (maxL := 10) (ret := (some .int)) (by decide) rfl ?_
  intro p e s m args below meth c s₁ B hml hv
  obtain ⟨rfl, hw, hc⟩ := hv
  have hx := B.exec
  have hb := B.bytes
  have hr := B.returns
  have hts := atoms_spec (ws := wsX12_canHear) B.pre
  have hown : s.vm.findClass RX12 = some m.cls := findClass_of_methodNamed B.named
  have hinX12 : ∀ w ∈ u_ws RX12 TX12 79, w ∈ wsX12_canHear := fun w h => List.mem_cons_of_mem _ (iT_X12 w h)
  have hS : va_S (fm_A nb ad) s.heap s.heap [] := va_S.rf
  have hl := lv_entry ([.ref (ad 60 0), .int p0, .int p1]) (n := 10) (Nat.le_of_ble_eq_true rfl)
  rw [lg_entry_eq]
  generalize (lg_sl ([.ref (ad 60 0), .int p0, .int p1]) ++ List.replicate (10 - (lg_sl ([.ref (ad 60 0), .int p0, .int p1])).length) Slot.unset).toArray = ls at hl ⊢
  have hl : lv_has ls 10 [(0, .ref (ad 60 0)), (1, .int p0), (2, .int p1)] := hl
  refine lv_aload_n hx hb dX12_canHear_0 rfl (lv_at hl 0 rfl) ?_
  refine lv_iload_n hx hb dX12_canHear_1 rfl (lv_at hl 1 rfl) ?_
  refine vp_callSi (va_Run.run (va_runV (As := [.int p0]) (rest := []) ⟨hx, hb, hml, hown, hts⟩ (fc_X12_isCall l D ad C nb M hI p0) (cwV 1 hts gX12_canHear_X12_isCall rfl rfl rfl (by decide +kernel) ⟨Nat.le_of_ble_eq_true rfl, Nat.le_of_ble_eq_true rfl⟩) (fm_preV hc hw hS kl_60 sh_60 rfl) rfl rfl hl.1 rfl (lv_room (Nat.le_of_ble_eq_true rfl)) dX12_canHear_2 ⟨by decide +kernel, by decide +kernel⟩)) (fun r1 hr1 => ?_)
  have bqq2 := hI.bd (k := 0) bd_60_30
  rcases hr1 with ⟨rfl, c3⟩ | ⟨rfl, c3⟩
  · refine fx_if_eq (tgt := 20) hx hb dX12_canHear_5 (by decide) zk_1 (fun c4 => by exfalso; omega) (fun c4 => ?_)
    refine lv_iload_n hx hb dX12_canHear_8 rfl (lv_at hl 2 rfl) ?_
    refine lv_iconst (v := 0) hx hb dX12_canHear_9 (by decide) ?_
    refine lv_aload_n hx hb dX12_canHear_10 rfl (lv_at hl 0 rfl) ?_
    refine fm_getI (a := 60) (j := 0) (T := TX12) (N := 79) hx hb hts hinX12 hown hc hw hI kl_60 sh_60 rfl (by decide) rfl bd_60_0 (hts (.fieldLink RX12 201 "RedTentModel" "hour" "I") (List.mem_cons_of_mem _ tw_5_120)) (fun _ h9 => h9) dX12_canHear_11 (fun x5 ex5 bx5 => ?_)
    have zz6 := zk_0
    refine vp_callSi (va_Run.run (va_runS (As := [.int p1, .int 0, .int x5]) (rest := []) ⟨hx, hb, hml, hown, hts⟩ (fc_X12_within l p1 0 x5) (va_cwS 3 hts gX12_canHear_X12_within rfl rfl rfl (by decide +kernel) ⟨Nat.le_of_ble_eq_true rfl, Nat.le_of_ble_eq_true rfl⟩) ⟨fun a U g mk q => q, fun U hU hW => ⟨rfl, trivial⟩⟩ rfl rfl hl.1 rfl (lv_room (Nat.le_of_ble_eq_true rfl)) dX12_canHear_14 ⟨by decide +kernel, by decide +kernel⟩)) (fun r7 hr7 => ?_)
    rcases hr7 with ⟨rfl, c8⟩ | ⟨rfl, c8⟩
    · refine fx_if_ne (tgt := 23) hx hb dX12_canHear_17 (by decide) zk_1 (fun c9 => ?_) (fun c9 => by exfalso; omega)
      refine lv_aload_n hx hb dX12_canHear_23 rfl (lv_at hl 0 rfl) ?_
      refine fm_getG (a := 60) (j := 28) (T := TX12) (N := 79) hx hb hts hinX12 hown hc hw kl_60 sh_60 rfl (by decide) rfl (hI.to kl_60 tg_60_28) (hts (.fieldLink RX12 74 "RedTentModel" "callHour" "[I") (List.mem_cons_of_mem _ tw_5_148)) (fun _ h9 => h9) dX12_canHear_24 ?_
      refine lv_iload_n hx hb dX12_canHear_27 rfl (lv_at hl 1 rfl) ?_
      refine fm_iald (a := 128) hx hb hc hw hI kl_128 sh_128 ty_128 bd_128 (by omega) dX12_canHear_28 (fun x10 ex10 bx10 => ?_)
      refine lv_bipush (v := 24) hx hb dX12_canHear_29 (by decide) ?_
      refine fx_irem hx hb dX12_canHear_31 rfl zk_24 (by omega) (by omega) (fun y11 ey11 ty11 => ?_)
      refine lv_istore_n (lv' := [(3, .int y11), (0, .ref (ad 60 0)), (1, .int p0), (2, .int p1)]) hx hb dX12_canHear_32 rfl hl (by decide) rfl (fun ls hl => ?_)
      have jt : ∀ (jt_4 : Int32), (0 ≤ jt_4.toInt ∧ jt_4.toInt ≤ 7) → ∀ (ls : Array Slot), lv_has ls 10 [(3, .int y11), (0, .ref (ad 60 0)), (1, .int p0), (2, .int p1), (4, .int jt_4)] → W p l e (headSpec wsX12_canHear ({ frames := 3, cells := 0, slots := 0, locals := 84 })).room s m ([.ref (ad 60 0), .int p0, .int p1] : List Value).toArray below meth c s.heap [] 0 0 (MQ below (vp_Si (fun r : Int32 => True)) ([.ref (ad 60 0), .int p0, .int p1] : List Value).toArray s 0 0 (fun _ => False)) (F0 m 61 ls []) := by
        intro jt_4 b_jt_4 ls hl
        refine lv_aload_n hx hb dX12_canHear_61 rfl (lv_at hl 1 rfl) ?_
        refine lv_aload_n hx hb dX12_canHear_62 rfl (lv_at hl 1 rfl) ?_
        refine fm_getG (a := 60) (j := 26) (T := TX12) (N := 79) hx hb hts hinX12 hown hc hw kl_60 sh_60 rfl (by decide) rfl (hI.to kl_60 tg_60_26) (hts (.fieldLink RX12 68 "RedTentModel" "callBody" "[I") (List.mem_cons_of_mem _ tw_5_146)) (fun _ h9 => h9) dX12_canHear_63 ?_
        refine lv_iload_n hx hb dX12_canHear_66 rfl (lv_at hl 2 rfl) ?_
        refine fm_iald (a := 126) hx hb hc hw hI kl_126 sh_126 ty_126 bd_126 (by omega) dX12_canHear_67 (fun x12 ex12 bx12 => ?_)
        refine lv_aload_n hx hb dX12_canHear_68 rfl (lv_at hl 1 rfl) ?_
        refine fm_getG (a := 60) (j := 28) (T := TX12) (N := 79) hx hb hts hinX12 hown hc hw kl_60 sh_60 rfl (by decide) rfl (hI.to kl_60 tg_60_28) (hts (.fieldLink RX12 74 "RedTentModel" "callHour" "[I") (List.mem_cons_of_mem _ tw_5_148)) (fun _ h9 => h9) dX12_canHear_69 ?_
        refine lv_iload_n hx hb dX12_canHear_72 rfl (lv_at hl 2 rfl) ?_
        refine fm_iald (a := 128) hx hb hc hw hI kl_128 sh_128 ty_128 bd_128 (by omega) dX12_canHear_73 (fun x13 ex13 bx13 => ?_)
        obtain rfl : x10 = x13 := by rw [ex13]; exact ex10
        refine lv_iload_n hx hb dX12_canHear_74 rfl (lv_at hl 3 rfl) ?_
        refine vp_callSl (va_Run.run (va_runV (As := [.int x12, .int x10, .int p1]) (rest := []) ⟨hx, hb, hml, hown, hts⟩ (fc_X12_patchOf l D ad C nb M hI x12 x10 p1 (by omega) (by omega)) (cwV 3 hts gX12_canHear_X12_patchOf rfl rfl rfl (by decide +kernel) ⟨Nat.le_of_ble_eq_true rfl, Nat.le_of_ble_eq_true rfl⟩) (fm_preV hc hw hS kl_60 sh_60 rfl) rfl rfl hl.1 rfl (lv_room (Nat.le_of_ble_eq_true rfl)) dX12_canHear_75 ⟨by decide +kernel, by decide +kernel⟩)) (fun r14 hr14 => ?_)
        refine lv_lstore (lv' := [(5, .long r14), (3, .int y11), (0, .ref (ad 60 0)), (1, .int p0), (2, .int p1), (4, .int jt_4)]) hx hb dX12_canHear_78 hl (by decide) rfl (fun ls hl => ?_)
        refine lv_iconst (v := 0) hx hb dX12_canHear_80 (by decide) ?_
        refine lv_istore (lv' := [(7, .int 0), (5, .long r14), (3, .int y11), (0, .ref (ad 60 0)), (1, .int p0), (2, .int p1), (4, .int jt_4)]) hx hb dX12_canHear_81 hl (by decide) rfl (fun ls hl => ?_)
        refine lv_iconst (v := 0) hx hb dX12_canHear_83 (by decide) ?_
        refine lv_istore (lv' := [(8, .int 0), (7, .int 0), (5, .long r14), (3, .int y11), (0, .ref (ad 60 0)), (1, .int p0), (2, .int p1), (4, .int jt_4)]) hx hb dX12_canHear_84 hl (by decide) rfl (fun ls hl => ?_)
        have lq : ∀ (n_lq : Nat) (lq_8 : Int32) (lq_7 : Int32), (6 - lq_8.toInt).toNat < n_lq → (0 ≤ lq_8.toInt ∧ lq_8.toInt ≤ 6) → ∀ (ls : Array Slot), lv_has ls 10 [(8, .int lq_8), (7, .int lq_7), (5, .long r14), (3, .int y11), (0, .ref (ad 60 0)), (1, .int p0), (2, .int p1), (4, .int jt_4)] → W p l e (headSpec wsX12_canHear ({ frames := 3, cells := 0, slots := 0, locals := 84 })).room s m ([.ref (ad 60 0), .int p0, .int p1] : List Value).toArray below meth c s.heap [] 0 0 (MQ below (vp_Si (fun r : Int32 => True)) ([.ref (ad 60 0), .int p0, .int p1] : List Value).toArray s 0 0 (fun _ => False)) (F0 m 86 ls []) := by
          intro n_lq
          induction n_lq with
          | zero => intro lq_8 lq_7 hm_lq b_lq_8 ls hl; exact absurd hm_lq (Nat.not_lt_zero _)
          | succ n_lq ih_lq =>
            intro lq_8 lq_7 hm_lq b_lq_8 ls hl
            refine lv_iload hx hb dX12_canHear_86 (lv_at hl 0 rfl) ?_
            refine lv_aload_n hx hb dX12_canHear_88 rfl (lv_at hl 4 rfl) ?_
            refine fm_getI (a := 60) (j := 23) (T := TX12) (N := 79) hx hb hts hinX12 hown hc hw hI kl_60 sh_60 rfl (by decide) rfl bd_60_23 (hts (.fieldLink RX12 246 "RedTentModel" "hearers" "I") (List.mem_cons_of_mem _ tw_5_143)) (fun _ h9 => h9) dX12_canHear_89 (fun x15 ex15 bx15 => ?_)
            refine fx_icmp_ge (tgt := 174) hx hb dX12_canHear_92 (by decide) rfl rfl (fun c16 => ?_) (fun c16 => ?_)
            · refine lv_iload hx hb dX12_canHear_174 (lv_at hl 1 rfl) ?_
              exact W.iret (v := lq_7) hx hb hr (fun t ht hW => ⟨lq_7, rfl, trivial, ht⟩) (fun _ h => absurd h List.not_mem_nil) dX12_canHear_176
            · refine lv_iconst (v := 0) hx hb dX12_canHear_95 (by decide) ?_
              refine lv_istore (lv' := [(9, .int 0), (8, .int lq_8), (7, .int lq_7), (5, .long r14), (3, .int y11), (0, .ref (ad 60 0)), (1, .int p0), (2, .int p1), (4, .int jt_4)]) hx hb dX12_canHear_96 hl (by decide) rfl (fun ls hl => ?_)
              have lp : ∀ (n_lp : Nat) (lp_9 : Int32) (lp_7 : Int32), (64 - lp_9.toInt).toNat < n_lp → (0 ≤ lp_9.toInt ∧ lp_9.toInt ≤ 64) → ∀ (ls : Array Slot), lv_has ls 10 [(9, .int lp_9), (8, .int lq_8), (7, .int lp_7), (5, .long r14), (3, .int y11), (0, .ref (ad 60 0)), (1, .int p0), (2, .int p1), (4, .int jt_4)] → W p l e (headSpec wsX12_canHear ({ frames := 3, cells := 0, slots := 0, locals := 84 })).room s m ([.ref (ad 60 0), .int p0, .int p1] : List Value).toArray below meth c s.heap [] 0 0 (MQ below (vp_Si (fun r : Int32 => True)) ([.ref (ad 60 0), .int p0, .int p1] : List Value).toArray s 0 0 (fun _ => False)) (F0 m 98 ls []) := by
                intro n_lp
                induction n_lp with
                | zero => intro lp_9 lp_7 hm_lp b_lp_9 ls hl; exact absurd hm_lp (Nat.not_lt_zero _)
                | succ n_lp ih_lp =>
                  intro lp_9 lp_7 hm_lp b_lp_9 ls hl
                  refine lv_iload hx hb dX12_canHear_98 (lv_at hl 0 rfl) ?_
                  refine lv_bipush (v := 64) hx hb dX12_canHear_100 (by decide) ?_
                  refine fx_icmp_ge (tgt := 168) hx hb dX12_canHear_102 (by decide) rfl zk_64 (fun c17 => ?_) (fun c17 => ?_)
                  · obtain ⟨y18, ey18⟩ : ∃ y : Int32, y = lq_8 + 1 := ⟨_, rfl⟩
                    have ty18 : y18.toInt = lq_8.toInt + 1 := by rw [ey18, zi_add _ _ (by rw [zk_1]; omega) (by rw [zk_1]; omega), zk_1]
                    refine lv_iinc (v := y18) (lv' := [(8, .int y18), (9, .int lp_9), (7, .int lp_7), (5, .long r14), (3, .int y11), (0, .ref (ad 60 0)), (1, .int p0), (2, .int p1), (4, .int jt_4)]) hx hb dX12_canHear_168 hl (k := 1) rfl (by rw [ey18]; rfl) (by decide) rfl (fun ls hl => ?_)
                    refine lv_goto (tgt := 86) hx hb dX12_canHear_171 (by decide) ?_
                    exact ih_lq y18 lp_7 (by omega) (by omega) ls (lv_sub hl [0, 2, 3, 4, 5, 6, 7, 8] rfl)
                  · refine lv_iload hx hb dX12_canHear_105 (lv_at hl 2 rfl) ?_
                    refine lv_lload hx hb dX12_canHear_107 (lv_at hl 3 rfl) ?_
                    refine lv_iload hx hb dX12_canHear_109 (lv_at hl 0 rfl) ?_
                    refine lv_lushr (v := (r14.toUInt64 >>> (lp_9.toInt64.toUInt64 &&& Int64.toUInt64 63)).toInt64) hx hb dX12_canHear_111 rfl ?_
                    refine lv_topl (fun y19 ey19 => ?_)
                    refine lv_lconst (v := 1) hx hb dX12_canHear_112 (by decide) ?_
                    refine lv_land hx hb dX12_canHear_113 ?_
                    refine lv_topl (fun y20 ey20 => ?_)
                    refine lv_lconst (v := 1) hx hb dX12_canHear_114 (by decide) ?_
                    refine W.lcmp hx hb dX12_canHear_115 ?_
                    refine fx_lif_ne (tgt := 158) hx hb dX12_canHear_116 (by decide) (fun c21 => ?_) (fun c21 => ?_)
                    · refine lv_iconst (v := 0) hx hb dX12_canHear_158 (by decide) ?_
                      refine lv_ior hx hb dX12_canHear_159 ?_
                      refine lv_topi (fun y22 ey22 => ?_)
                      refine lv_istore (lv' := [(7, .int y22), (9, .int lp_9), (8, .int lq_8), (5, .long r14), (3, .int y11), (0, .ref (ad 60 0)), (1, .int p0), (2, .int p1), (4, .int jt_4)]) hx hb dX12_canHear_160 hl (by decide) rfl (fun ls hl => ?_)
                      obtain ⟨y23, ey23⟩ : ∃ y : Int32, y = lp_9 + 1 := ⟨_, rfl⟩
                      have ty23 : y23.toInt = lp_9.toInt + 1 := by rw [ey23, zi_add _ _ (by rw [zk_1]; omega) (by rw [zk_1]; omega), zk_1]
                      refine lv_iinc (v := y23) (lv' := [(9, .int y23), (7, .int y22), (8, .int lq_8), (5, .long r14), (3, .int y11), (0, .ref (ad 60 0)), (1, .int p0), (2, .int p1), (4, .int jt_4)]) hx hb dX12_canHear_162 hl (k := 1) rfl (by rw [ey23]; rfl) (by decide) rfl (fun ls hl => ?_)
                      refine lv_goto (tgt := 98) hx hb dX12_canHear_165 (by decide) ?_
                      exact ih_lp y23 y22 (by omega) (by omega) ls (lv_sub hl [0, 2, 1, 3, 4, 5, 6, 7, 8] rfl)
                    · refine lv_iload hx hb dX12_canHear_119 (lv_at hl 0 rfl) ?_
                      refine lv_aload_n hx hb dX12_canHear_121 rfl (lv_at hl 5 rfl) ?_
                      refine fm_getG (a := 60) (j := 22) (T := TX12) (N := 79) hx hb hts hinX12 hown hc hw kl_60 sh_60 rfl (by decide) rfl (hI.to kl_60 tg_60_22) (hts (.fieldLink RX12 59 "RedTentModel" "hearerCell" "[I") (List.mem_cons_of_mem _ tw_5_142)) (fun _ h9 => h9) dX12_canHear_122 ?_
                      refine lv_iload hx hb dX12_canHear_125 (lv_at hl 1 rfl) ?_
                      refine fm_iald (a := 122) hx hb hc hw hI kl_122 sh_122 ty_122 bd_122 (by omega) dX12_canHear_127 (fun x24 ex24 bx24 => ?_)
                      refine vp_callSi (va_Run.run (va_runS (As := [.int lp_9, .int x24]) (rest := [.int lp_7]) ⟨hx, hb, hml, hown, hts⟩ (fc_X12_apart l lp_9 x24 (by omega) (by omega)) (va_cwS 2 hts gX12_canHear_X12_apart rfl rfl rfl (by decide +kernel) ⟨Nat.le_of_ble_eq_true rfl, Nat.le_of_ble_eq_true rfl⟩) ⟨fun a U g mk q => q, fun U hU hW => ⟨rfl, trivial⟩⟩ rfl rfl hl.1 rfl (lv_room (Nat.le_of_ble_eq_true rfl)) dX12_canHear_128 ⟨by decide +kernel, by decide +kernel⟩)) (fun r25 hr25 => ?_)
                      refine lv_aload_n hx hb dX12_canHear_131 rfl (lv_at hl 5 rfl) ?_
                      refine fm_getG (a := 60) (j := 24) (T := TX12) (N := 79) hx hb hts hinX12 hown hc hw kl_60 sh_60 rfl (by decide) rfl (hI.to kl_60 tg_60_24) (hts (.fieldLink RX12 62 "RedTentModel" "waveFrom" "[I") (List.mem_cons_of_mem _ tw_5_144)) (fun _ h9 => h9) dX12_canHear_132 ?_
                      refine lv_iload hx hb dX12_canHear_135 (lv_at hl 8 rfl) ?_
                      refine fm_iald (a := 124) hx hb hc hw hI kl_124 sh_124 ty_124 bd_124 (by omega) dX12_canHear_137 (fun x26 ex26 bx26 => ?_)
                      refine lv_aload_n hx hb dX12_canHear_138 rfl (lv_at hl 5 rfl) ?_
                      refine fm_getG (a := 60) (j := 25) (T := TX12) (N := 79) hx hb hts hinX12 hown hc hw kl_60 sh_60 rfl (by decide) rfl (hI.to kl_60 tg_60_25) (hts (.fieldLink RX12 65 "RedTentModel" "waveTo" "[I") (List.mem_cons_of_mem _ tw_5_145)) (fun _ h9 => h9) dX12_canHear_139 ?_
                      refine lv_iload hx hb dX12_canHear_142 (lv_at hl 8 rfl) ?_
                      refine fm_iald (a := 125) hx hb hc hw hI kl_125 sh_125 ty_125 bd_125 (by omega) dX12_canHear_144 (fun x27 ex27 bx27 => ?_)
                      refine vp_callSi (va_Run.run (va_runS (As := [.int r25, .int x26, .int x27]) (rest := [.int lp_7]) ⟨hx, hb, hml, hown, hts⟩ (fc_X12_within l r25 x26 x27) (va_cwS 3 hts gX12_canHear_X12_within rfl rfl rfl (by decide +kernel) ⟨Nat.le_of_ble_eq_true rfl, Nat.le_of_ble_eq_true rfl⟩) ⟨fun a U g mk q => q, fun U hU hW => ⟨rfl, trivial⟩⟩ rfl rfl hl.1 rfl (lv_room (Nat.le_of_ble_eq_true rfl)) dX12_canHear_145 ⟨by decide +kernel, by decide +kernel⟩)) (fun r28 hr28 => ?_)
                      rcases hr28 with ⟨rfl, c29⟩ | ⟨rfl, c29⟩
                      · refine fx_if_eq (tgt := 158) hx hb dX12_canHear_148 (by decide) zk_1 (fun c30 => by exfalso; omega) (fun c30 => ?_)
                        refine lv_iconst (v := 1) hx hb dX12_canHear_151 (by decide) ?_
                        refine lv_iload hx hb dX12_canHear_152 (lv_at hl 1 rfl) ?_
                        refine lv_ishl hx hb dX12_canHear_154 ?_
                        refine lv_topi (fun y31 ey31 => ?_)
                        refine lv_goto (tgt := 159) hx hb dX12_canHear_155 (by decide) ?_
                        refine lv_ior hx hb dX12_canHear_159 ?_
                        refine lv_topi (fun y32 ey32 => ?_)
                        refine lv_istore (lv' := [(7, .int y32), (9, .int lp_9), (8, .int lq_8), (5, .long r14), (3, .int y11), (0, .ref (ad 60 0)), (1, .int p0), (2, .int p1), (4, .int jt_4)]) hx hb dX12_canHear_160 hl (by decide) rfl (fun ls hl => ?_)
                        obtain ⟨y33, ey33⟩ : ∃ y : Int32, y = lp_9 + 1 := ⟨_, rfl⟩
                        have ty33 : y33.toInt = lp_9.toInt + 1 := by rw [ey33, zi_add _ _ (by rw [zk_1]; omega) (by rw [zk_1]; omega), zk_1]
                        refine lv_iinc (v := y33) (lv' := [(9, .int y33), (7, .int y32), (8, .int lq_8), (5, .long r14), (3, .int y11), (0, .ref (ad 60 0)), (1, .int p0), (2, .int p1), (4, .int jt_4)]) hx hb dX12_canHear_162 hl (k := 1) rfl (by rw [ey33]; rfl) (by decide) rfl (fun ls hl => ?_)
                        refine lv_goto (tgt := 98) hx hb dX12_canHear_165 (by decide) ?_
                        exact ih_lp y33 y32 (by omega) (by omega) ls (lv_sub hl [0, 2, 1, 3, 4, 5, 6, 7, 8] rfl)
                      · refine fx_if_eq (tgt := 158) hx hb dX12_canHear_148 (by decide) zk_0 (fun c34 => ?_) (fun c34 => by exfalso; omega)
                        refine lv_iconst (v := 0) hx hb dX12_canHear_158 (by decide) ?_
                        refine lv_ior hx hb dX12_canHear_159 ?_
                        refine lv_topi (fun y35 ey35 => ?_)
                        refine lv_istore (lv' := [(7, .int y35), (9, .int lp_9), (8, .int lq_8), (5, .long r14), (3, .int y11), (0, .ref (ad 60 0)), (1, .int p0), (2, .int p1), (4, .int jt_4)]) hx hb dX12_canHear_160 hl (by decide) rfl (fun ls hl => ?_)
                        obtain ⟨y36, ey36⟩ : ∃ y : Int32, y = lp_9 + 1 := ⟨_, rfl⟩
                        have ty36 : y36.toInt = lp_9.toInt + 1 := by rw [ey36, zi_add _ _ (by rw [zk_1]; omega) (by rw [zk_1]; omega), zk_1]
                        refine lv_iinc (v := y36) (lv' := [(9, .int y36), (7, .int y35), (8, .int lq_8), (5, .long r14), (3, .int y11), (0, .ref (ad 60 0)), (1, .int p0), (2, .int p1), (4, .int jt_4)]) hx hb dX12_canHear_162 hl (k := 1) rfl (by rw [ey36]; rfl) (by decide) rfl (fun ls hl => ?_)
                        refine lv_goto (tgt := 98) hx hb dX12_canHear_165 (by decide) ?_
                        exact ih_lp y36 y35 (by omega) (by omega) ls (lv_sub hl [0, 2, 1, 3, 4, 5, 6, 7, 8] rfl)
              exact lp _ 0 lq_7 (Nat.lt_succ_self _) (by decide) ls (lv_sub hl [0, 1, 2, 3, 4, 5, 6, 7, 8] rfl)
        exact lq _ 0 0 (Nat.lt_succ_self _) (by decide) ls (lv_sub hl [0, 1, 2, 3, 4, 5, 6, 7] rfl)
      refine lv_iconst (v := 2) hx hb dX12_canHear_33 (by decide) ?_
      refine lv_aload_n hx hb dX12_canHear_34 rfl (lv_at hl 1 rfl) ?_
      refine fm_getG (a := 60) (j := 27) (T := TX12) (N := 79) hx hb hts hinX12 hown hc hw kl_60 sh_60 rfl (by decide) rfl (hI.to kl_60 tg_60_27) (hts (.fieldLink RX12 71 "RedTentModel" "callWave" "[I") (List.mem_cons_of_mem _ tw_5_147)) (fun _ h9 => h9) dX12_canHear_35 ?_
      refine lv_iload_n hx hb dX12_canHear_38 rfl (lv_at hl 2 rfl) ?_
      refine fm_iald (a := 127) hx hb hc hw hI kl_127 sh_127 ty_127 bd_127 (by omega) dX12_canHear_39 (fun x37 ex37 bx37 => ?_)
      refine fx_imul hx hb dX12_canHear_40 zk_2 rfl (by omega) (fun y38 ey38 ty38 => ?_)
      refine lv_iload_n hx hb dX12_canHear_41 rfl (lv_at hl 0 rfl) ?_
      refine lv_bipush (v := 6) hx hb dX12_canHear_42 (by decide) ?_
      refine fx_icmp_lt (tgt := 53) hx hb dX12_canHear_44 (by decide) rfl zk_6 (fun c39 => ?_) (fun c39 => ?_)
      · refine lv_iconst (v := 1) hx hb dX12_canHear_53 (by decide) ?_
        refine lv_goto (tgt := 58) hx hb dX12_canHear_54 (by decide) ?_
        refine fx_iadd hx hb dX12_canHear_58 rfl zk_1 (by omega) (fun y40 ey40 ty40 => ?_)
        refine lv_istore (lv' := [(4, .int y40), (3, .int y11), (0, .ref (ad 60 0)), (1, .int p0), (2, .int p1)]) hx hb dX12_canHear_59 hl (by decide) rfl (fun ls hl => ?_)
        exact jt y40 (by omega) ls (lv_sub hl [1, 2, 3, 4, 0] rfl)
      · refine lv_iload_n hx hb dX12_canHear_47 rfl (lv_at hl 0 rfl) ?_
        refine lv_bipush (v := 17) hx hb dX12_canHear_48 (by decide) ?_
        refine fx_icmp_le (tgt := 57) hx hb dX12_canHear_50 (by decide) rfl zk_17 (fun c41 => ?_) (fun c41 => ?_)
        · refine lv_iconst (v := 0) hx hb dX12_canHear_57 (by decide) ?_
          refine fx_iadd hx hb dX12_canHear_58 rfl zk_0 (by omega) (fun y42 ey42 ty42 => ?_)
          refine lv_istore (lv' := [(4, .int y42), (3, .int y11), (0, .ref (ad 60 0)), (1, .int p0), (2, .int p1)]) hx hb dX12_canHear_59 hl (by decide) rfl (fun ls hl => ?_)
          exact jt y42 (by omega) ls (lv_sub hl [1, 2, 3, 4, 0] rfl)
        · refine lv_iconst (v := 1) hx hb dX12_canHear_53 (by decide) ?_
          refine lv_goto (tgt := 58) hx hb dX12_canHear_54 (by decide) ?_
          refine fx_iadd hx hb dX12_canHear_58 rfl zk_1 (by omega) (fun y43 ey43 ty43 => ?_)
          refine lv_istore (lv' := [(4, .int y43), (3, .int y11), (0, .ref (ad 60 0)), (1, .int p0), (2, .int p1)]) hx hb dX12_canHear_59 hl (by decide) rfl (fun ls hl => ?_)
          exact jt y43 (by omega) ls (lv_sub hl [1, 2, 3, 4, 0] rfl)
    · refine fx_if_ne (tgt := 23) hx hb dX12_canHear_17 (by decide) zk_0 (fun c44 => by exfalso; omega) (fun c44 => ?_)
      refine lv_bipush (v := (-2)) hx hb dX12_canHear_20 (by decide) ?_
      exact W.iret (v := (-2)) hx hb hr (fun t ht hW => ⟨(-2), rfl, trivial, ht⟩) (fun _ h => absurd h List.not_mem_nil) dX12_canHear_22
  · refine fx_if_eq (tgt := 20) hx hb dX12_canHear_5 (by decide) zk_0 (fun c45 => ?_) (fun c45 => by exfalso; omega)
    refine lv_bipush (v := (-2)) hx hb dX12_canHear_20 (by decide) ?_
    exact W.iret (v := (-2)) hx hb hr (fun t ht hW => ⟨(-2), rfl, trivial, ht⟩) (fun _ h => absurd h List.not_mem_nil) dX12_canHear_22
set_option maxHeartbeats 400000 in
set_option maxRecDepth 20000 in
theorem fc_X12_part (l : Launch) (D : va_G) (ad : Nat → Nat → Nat) (C : Nat → Nat → ClassId) (nb : Nat) (M : fm_M) (hI : fm_I nb ad M) (p0 p1 p2 : Int32) (p3 : Int64) : Met l yX12_part wsX12_part ({ frames := 1, cells := 0, slots := 0, locals := 22 }) (va_Pc [.ref (ad 60 0), .int p0, .int p1, .int p2, .long p3] (fm_P D ad C nb M)) (va_Qi (fun (r : Int32) (u : fm_M) => fm_I nb ad u ∧ fm_same [60034, 131000, 132000, 133000] M u ∧ ((¬ (0 ≤ p0.toInt ∧ p0.toInt < (M.1 60 0 23).toInt ∧ 0 ≤ p1.toInt ∧ p1.toInt < (M.1 60 0 30).toInt ∧ 0 ≤ p2.toInt ∧ p2.toInt ≤ 65535) ∧ r.toInt = -2 ∧ (u.1 60 0 34).toInt = (M.1 60 0 34).toInt) ∨ ((0 ≤ p0.toInt ∧ p0.toInt < (M.1 60 0 23).toInt ∧ 0 ≤ p1.toInt ∧ p1.toInt < (M.1 60 0 30).toInt ∧ 0 ≤ p2.toInt ∧ p2.toInt ≤ 65535) ∧ 40 ≤ (M.1 60 0 34).toInt ∧ r.toInt = -4 ∧ (u.1 60 0 34).toInt = (M.1 60 0 34).toInt) ∨ ((0 ≤ p0.toInt ∧ p0.toInt < (M.1 60 0 23).toInt ∧ 0 ≤ p1.toInt ∧ p1.toInt < (M.1 60 0 30).toInt ∧ 0 ≤ p2.toInt ∧ p2.toInt ≤ 65535) ∧ (M.1 60 0 34).toInt < 40 ∧ r.toInt = (M.1 60 0 34).toInt + 1 ∧ (u.1 60 0 34).toInt = (M.1 60 0 34).toInt + 1))) (fun u t => fm_at D ad C nb u t.heap) (fm_A nb ad)) 0 0 (fm_A nb ad) := by
  refine Met.ofW (cc := cX12_part) (maxL := 6) (ret := (some .int)) (by decide) rfl ?_
  intro p e s m args below meth c s₁ B hml hv
  obtain ⟨rfl, hw, hc⟩ := hv
  have hx := B.exec
  have hb := B.bytes
  have hr := B.returns
  have hts := atoms_spec (ws := wsX12_part) B.pre
  have hown : s.vm.findClass RX12 = some m.cls := findClass_of_methodNamed B.named
  have hinX12 : ∀ w ∈ u_ws RX12 TX12 79, w ∈ wsX12_part := fun w h => List.mem_cons_of_mem _ (iT_X12 w h)
  have hS : va_S (fm_A nb ad) s.heap s.heap [] := va_S.rf
  have hE : fm_same [60034, 131000, 132000, 133000] M M := fm_same.rf
  have hl := lv_entry ([.ref (ad 60 0), .int p0, .int p1, .int p2, .long p3]) (n := 6) (Nat.le_of_ble_eq_true rfl)
  rw [lg_entry_eq]
  generalize (lg_sl ([.ref (ad 60 0), .int p0, .int p1, .int p2, .long p3]) ++ List.replicate (6 - (lg_sl ([.ref (ad 60 0), .int p0, .int p1, .int p2, .long p3])).length) Slot.unset).toArray = ls at hl ⊢
  have hl : lv_has ls 6 [(0, .ref (ad 60 0)), (1, .int p0), (2, .int p1), (3, .int p2), (4, .long p3)] := hl
  refine lv_iload_n hx hb dX12_part_0 rfl (lv_at hl 1 rfl) ?_
  refine fx_if_lt (tgt := 31) hx hb dX12_part_1 (by decide) rfl (fun c1 => ?_) (fun c1 => ?_)
  · refine lv_bipush (v := (-2)) hx hb dX12_part_31 (by decide) ?_
    exact W.iret (v := (-2)) hx hb hr (fun t ht hW => ⟨⟨(-2), M, rfl, ⟨hI, hE, Or.inl ⟨by omega, zk_m2, rfl⟩⟩, by show fm_at D ad C nb _ t.heap; rw [ht]; exact hw⟩, hS.F ht⟩) hS.2.2 dX12_part_33
  · refine lv_iload_n hx hb dX12_part_4 rfl (lv_at hl 1 rfl) ?_
    refine lv_aload_n hx hb dX12_part_5 rfl (lv_at hl 0 rfl) ?_
    refine fm_getI (a := 60) (j := 23) (T := TX12) (N := 79) hx hb hts hinX12 hown hc hw hI kl_60 sh_60 rfl (by decide) rfl bd_60_23 (hts (.fieldLink RX12 246 "RedTentModel" "hearers" "I") (List.mem_cons_of_mem _ tw_5_143)) (fun _ h9 => h9) dX12_part_6 (fun x2 ex2 bx2 => ?_)
    refine fx_icmp_ge (tgt := 31) hx hb dX12_part_9 (by decide) rfl rfl (fun c3 => ?_) (fun c3 => ?_)
    · refine lv_bipush (v := (-2)) hx hb dX12_part_31 (by decide) ?_
      have qx2 : x2.toInt = (M.1 60 0 23).toInt := by rw [ex2]
      exact W.iret (v := (-2)) hx hb hr (fun t ht hW => ⟨⟨(-2), M, rfl, ⟨hI, hE, Or.inl ⟨by omega, zk_m2, rfl⟩⟩, by show fm_at D ad C nb _ t.heap; rw [ht]; exact hw⟩, hS.F ht⟩) hS.2.2 dX12_part_33
    · refine lv_aload_n hx hb dX12_part_12 rfl (lv_at hl 0 rfl) ?_
      refine lv_iload_n hx hb dX12_part_13 rfl (lv_at hl 2 rfl) ?_
      refine vp_callSi (va_Run.run (va_runV (As := [.int p1]) (rest := []) ⟨hx, hb, hml, hown, hts⟩ (fc_X12_isCall l D ad C nb M hI p1) (cwV 1 hts gX12_part_X12_isCall rfl rfl rfl (by decide +kernel) ⟨Nat.le_of_ble_eq_true rfl, Nat.le_of_ble_eq_true rfl⟩) (fm_preV hc hw hS kl_60 sh_60 rfl) rfl rfl hl.1 rfl (lv_room (Nat.le_of_ble_eq_true rfl)) dX12_part_14 ⟨by decide +kernel, by decide +kernel⟩)) (fun r4 hr4 => ?_)
      have bqq5 := hI.bd (k := 0) bd_60_30
      rcases hr4 with ⟨rfl, c6⟩ | ⟨rfl, c6⟩
      · refine fx_if_eq (tgt := 31) hx hb dX12_part_17 (by decide) zk_1 (fun c7 => by exfalso; omega) (fun c7 => ?_)
        refine lv_iload_n hx hb dX12_part_20 rfl (lv_at hl 3 rfl) ?_
        refine lv_iconst (v := 0) hx hb dX12_part_21 (by decide) ?_
        refine fx_ldcwI (v := 65535) hx hb hown (hts (.constant RX12 262 (65535)) (List.mem_cons_of_mem _ tw_6_218)) dX12_part_22 ?_
        have zz8 := zk_0
        have zz9 := zk_65535
        refine vp_callSi (va_Run.run (va_runS (As := [.int p2, .int 0, .int 65535]) (rest := []) ⟨hx, hb, hml, hown, hts⟩ (fc_X12_within l p2 0 65535) (va_cwS 3 hts gX12_part_X12_within rfl rfl rfl (by decide +kernel) ⟨Nat.le_of_ble_eq_true rfl, Nat.le_of_ble_eq_true rfl⟩) ⟨fun a U g mk q => q, fun U hU hW => ⟨rfl, trivial⟩⟩ rfl rfl hl.1 rfl (lv_room (Nat.le_of_ble_eq_true rfl)) dX12_part_25 ⟨by decide +kernel, by decide +kernel⟩)) (fun r10 hr10 => ?_)
        rcases hr10 with ⟨rfl, c11⟩ | ⟨rfl, c11⟩
        · refine fx_if_ne (tgt := 34) hx hb dX12_part_28 (by decide) zk_1 (fun c12 => ?_) (fun c12 => by exfalso; omega)
          refine lv_aload_n hx hb dX12_part_34 rfl (lv_at hl 0 rfl) ?_
          refine fm_getI (a := 60) (j := 34) (T := TX12) (N := 79) hx hb hts hinX12 hown hc hw hI kl_60 sh_60 rfl (by decide) rfl bd_60_34 (hts (.fieldLink RX12 263 "RedTentModel" "parts" "I") (List.mem_cons_of_mem _ tw_5_154)) (fun _ h9 => h9) dX12_part_35 (fun x13 ex13 bx13 => ?_)
          refine lv_bipush (v := 40) hx hb dX12_part_38 (by decide) ?_
          refine fx_icmp_ne (tgt := 46) hx hb dX12_part_40 (by decide) rfl zk_40 (fun c14 => ?_) (fun c14 => ?_)
          · refine lv_aload_n hx hb dX12_part_46 rfl (lv_at hl 0 rfl) ?_
            refine fm_getG (a := 60) (j := 31) (T := TX12) (N := 79) hx hb hts hinX12 hown hc hw kl_60 sh_60 rfl (by decide) rfl (hI.to kl_60 tg_60_31) (hts (.fieldLink RX12 80 "RedTentModel" "partCall" "[I") (List.mem_cons_of_mem _ tw_5_151)) (fun _ h9 => h9) dX12_part_47 ?_
            refine lv_aload_n hx hb dX12_part_50 rfl (lv_at hl 0 rfl) ?_
            refine fm_getI (a := 60) (j := 34) (T := TX12) (N := 79) hx hb hts hinX12 hown hc hw hI kl_60 sh_60 rfl (by decide) rfl bd_60_34 (hts (.fieldLink RX12 263 "RedTentModel" "parts" "I") (List.mem_cons_of_mem _ tw_5_154)) (fun _ h9 => h9) dX12_part_51 (fun x15 ex15 bx15 => ?_)
            obtain rfl : x13 = x15 := by rw [ex15]; exact ex13
            refine lv_iload_n hx hb dX12_part_54 rfl (lv_at hl 2 rfl) ?_
            refine fm_iast (a := 131) hx hb hc hw hI hE hS kl_131 sh_131 ty_131 bd_131 (by omega) (by omega) cd_131 (by decide) dX12_part_55 (fun M16 H locs eM16 hw hI hE hS => ?_)
            refine lv_aload_n hx hb dX12_part_56 rfl (lv_at hl 0 rfl) ?_
            refine fm_getG (a := 60) (j := 32) (T := TX12) (N := 79) hx hb hts hinX12 hown hc hw kl_60 sh_60 rfl (by decide) rfl (hI.to kl_60 tg_60_32) (hts (.fieldLink RX12 83 "RedTentModel" "partHeard" "[I") (List.mem_cons_of_mem _ tw_5_152)) (fun _ h9 => h9) dX12_part_57 ?_
            refine lv_aload_n hx hb dX12_part_60 rfl (lv_at hl 0 rfl) ?_
            refine fm_getI (a := 60) (j := 34) (T := TX12) (N := 79) hx hb hts hinX12 hown hc hw hI kl_60 sh_60 rfl (by decide) rfl bd_60_34 (hts (.fieldLink RX12 263 "RedTentModel" "parts" "I") (List.mem_cons_of_mem _ tw_5_154)) (fun _ h9 => h9) dX12_part_61 (fun x17 ex17 bx17 => ?_)
            obtain rfl : x13 = x17 := by rw [ex17, eM16, fm_wI_nj (fun z => absurd z.1 (by decide))]; exact ex13
            refine lv_iload_n hx hb dX12_part_64 rfl (lv_at hl 3 rfl) ?_
            refine fm_iast (a := 132) hx hb hc hw hI hE hS kl_132 sh_132 ty_132 bd_132 (by omega) (by omega) cd_132 (by decide) dX12_part_65 (fun M18 H locs eM18 hw hI hE hS => ?_)
            refine lv_aload_n hx hb dX12_part_66 rfl (lv_at hl 0 rfl) ?_
            refine fm_getG (a := 60) (j := 33) (T := TX12) (N := 79) hx hb hts hinX12 hown hc hw kl_60 sh_60 rfl (by decide) rfl (hI.to kl_60 tg_60_33) (hts (.fieldLink RX12 86 "RedTentModel" "partWords" "[J") (List.mem_cons_of_mem _ tw_5_153)) (fun _ h9 => h9) dX12_part_67 ?_
            refine lv_aload_n hx hb dX12_part_70 rfl (lv_at hl 0 rfl) ?_
            refine fm_getI (a := 60) (j := 34) (T := TX12) (N := 79) hx hb hts hinX12 hown hc hw hI kl_60 sh_60 rfl (by decide) rfl bd_60_34 (hts (.fieldLink RX12 263 "RedTentModel" "parts" "I") (List.mem_cons_of_mem _ tw_5_154)) (fun _ h9 => h9) dX12_part_71 (fun x19 ex19 bx19 => ?_)
            obtain rfl : x13 = x19 := by rw [ex19, eM18, fm_wI_nj (fun z => absurd z.1 (by decide)), eM16, fm_wI_nj (fun z => absurd z.1 (by decide))]; exact ex13
            refine lv_lload hx hb dX12_part_74 (lv_at hl 4 rfl) ?_
            refine fm_last (a := 133) hx hb hc hw hI hE hS kl_133 sh_133 ty_133 (by omega) cd_133 (by decide) dX12_part_76 (fun M20 H locs eM20 hw hI hE hS => ?_)
            refine lv_aload_n hx hb dX12_part_77 rfl (lv_at hl 0 rfl) ?_
            refine lv_dup hx hb dX12_part_78 rfl ?_
            refine fm_getI (a := 60) (j := 34) (T := TX12) (N := 79) hx hb hts hinX12 hown hc hw hI kl_60 sh_60 rfl (by decide) rfl bd_60_34 (hts (.fieldLink RX12 263 "RedTentModel" "parts" "I") (List.mem_cons_of_mem _ tw_5_154)) (fun _ h9 => h9) dX12_part_79 (fun x21 ex21 bx21 => ?_)
            obtain rfl : x13 = x21 := by rw [ex21, eM20, fm_wL_1, eM18, fm_wI_nj (fun z => absurd z.1 (by decide)), eM16, fm_wI_nj (fun z => absurd z.1 (by decide))]; exact ex13
            refine lv_iconst (v := 1) hx hb dX12_part_82 (by decide) ?_
            refine fx_iadd hx hb dX12_part_83 rfl zk_1 (by omega) (fun y22 ey22 ty22 => ?_)
            refine fm_putI (a := 60) (j := 34) (T := TX12) (N := 79) hx hb hts hinX12 tyX12 tyX12_ok nmX12 hown hc hw hI hE hS kl_60 sh_60 od_60 rfl (by decide) rfl bd_60_34 (hts (.fieldLink RX12 263 "RedTentModel" "parts" "I") (List.mem_cons_of_mem _ tw_5_154)) (fun _ h9 => h9) rfl (by decide +kernel) (by omega) (by decide) (by decide) dX12_part_84 (fun M23 H locs eM23 hw hI hE hS => ?_)
            refine lv_aload_n hx hb dX12_part_87 rfl (lv_at hl 0 rfl) ?_
            refine fm_getI (a := 60) (j := 34) (T := TX12) (N := 79) hx hb hts hinX12 hown hc hw hI kl_60 sh_60 rfl (by decide) rfl bd_60_34 (hts (.fieldLink RX12 263 "RedTentModel" "parts" "I") (List.mem_cons_of_mem _ tw_5_154)) (fun _ h9 => h9) dX12_part_88 (fun x24 ex24 bx24 => ?_)
            obtain rfl : y22 = x24 := by rw [ex24, eM23, fm_wI_at]
            have qx2 : x2.toInt = (M.1 60 0 23).toInt := by rw [ex2]
            have qx13 : x13.toInt = (M.1 60 0 34).toInt := by rw [ex13]
            exact W.iret (v := y22) hx hb hr (fun t ht hW => ⟨⟨y22, M23, rfl, ⟨hI, hE, Or.inr (Or.inr ⟨by omega, by omega, by omega, (by first | omega | (rw [eM23, fm_wI_at]; omega))⟩)⟩, by show fm_at D ad C nb _ t.heap; rw [ht]; exact hw⟩, hS.F ht⟩) hS.2.2 dX12_part_91
          · refine lv_bipush (v := (-4)) hx hb dX12_part_43 (by decide) ?_
            have qx2 : x2.toInt = (M.1 60 0 23).toInt := by rw [ex2]
            have qx13 : x13.toInt = (M.1 60 0 34).toInt := by rw [ex13]
            exact W.iret (v := (-4)) hx hb hr (fun t ht hW => ⟨⟨(-4), M, rfl, ⟨hI, hE, Or.inr (Or.inl ⟨by omega, by omega, zk_m4, rfl⟩)⟩, by show fm_at D ad C nb _ t.heap; rw [ht]; exact hw⟩, hS.F ht⟩) hS.2.2 dX12_part_45
        · refine fx_if_ne (tgt := 34) hx hb dX12_part_28 (by decide) zk_0 (fun c25 => by exfalso; omega) (fun c25 => ?_)
          refine lv_bipush (v := (-2)) hx hb dX12_part_31 (by decide) ?_
          have qx2 : x2.toInt = (M.1 60 0 23).toInt := by rw [ex2]
          exact W.iret (v := (-2)) hx hb hr (fun t ht hW => ⟨⟨(-2), M, rfl, ⟨hI, hE, Or.inl ⟨by omega, zk_m2, rfl⟩⟩, by show fm_at D ad C nb _ t.heap; rw [ht]; exact hw⟩, hS.F ht⟩) hS.2.2 dX12_part_33
      · refine fx_if_eq (tgt := 31) hx hb dX12_part_17 (by decide) zk_0 (fun c26 => ?_) (fun c26 => by exfalso; omega)
        refine lv_bipush (v := (-2)) hx hb dX12_part_31 (by decide) ?_
        have qx2 : x2.toInt = (M.1 60 0 23).toInt := by rw [ex2]
        exact W.iret (v := (-2)) hx hb hr (fun t ht hW => ⟨⟨(-2), M, rfl, ⟨hI, hE, Or.inl ⟨by omega, zk_m2, rfl⟩⟩, by show fm_at D ad C nb _ t.heap; rw [ht]; exact hw⟩, hS.F ht⟩) hS.2.2 dX12_part_33
set_option maxHeartbeats 400000 in
set_option maxRecDepth 20000 in
theorem fc_X12_word (l : Launch) (D : va_G) (ad : Nat → Nat → Nat) (C : Nat → Nat → ClassId) (nb : Nat) (M : fm_M) (hI : fm_I nb ad M) (p0 p1 : Int32) : Met l yX12_word wsX12_word ({ frames := 1, cells := 0, slots := 0, locals := 22 }) (va_Pc [.ref (ad 60 0), .int p0, .int p1] (fm_P D ad C nb M)) (vp_Si (fun r : Int32 => True)) 0 0 (fun _ => False) := by
  refine Met.ofW (cc := cX12_word) (maxL := 6) (ret := (some .int)) (by decide) rfl ?_
  intro p e s m args below meth c s₁ B hml hv
  obtain ⟨rfl, hw, hc⟩ := hv
  have hx := B.exec
  have hb := B.bytes
  have hr := B.returns
  have hts := atoms_spec (ws := wsX12_word) B.pre
  have hown : s.vm.findClass RX12 = some m.cls := findClass_of_methodNamed B.named
  have hinX12 : ∀ w ∈ u_ws RX12 TX12 79, w ∈ wsX12_word := fun w h => List.mem_cons_of_mem _ (iT_X12 w h)
  have hS : va_S (fm_A nb ad) s.heap s.heap [] := va_S.rf
  have hl := lv_entry ([.ref (ad 60 0), .int p0, .int p1]) (n := 6) (Nat.le_of_ble_eq_true rfl)
  rw [lg_entry_eq]
  generalize (lg_sl ([.ref (ad 60 0), .int p0, .int p1]) ++ List.replicate (6 - (lg_sl ([.ref (ad 60 0), .int p0, .int p1])).length) Slot.unset).toArray = ls at hl ⊢
  have hl : lv_has ls 6 [(0, .ref (ad 60 0)), (1, .int p0), (2, .int p1)] := hl
  refine lv_aload_n hx hb dX12_word_0 rfl (lv_at hl 0 rfl) ?_
  refine lv_iload_n hx hb dX12_word_1 rfl (lv_at hl 1 rfl) ?_
  refine vp_callSi (va_Run.run (va_runV (As := [.int p0]) (rest := []) ⟨hx, hb, hml, hown, hts⟩ (fc_X12_isCall l D ad C nb M hI p0) (cwV 1 hts gX12_word_X12_isCall rfl rfl rfl (by decide +kernel) ⟨Nat.le_of_ble_eq_true rfl, Nat.le_of_ble_eq_true rfl⟩) (fm_preV hc hw hS kl_60 sh_60 rfl) rfl rfl hl.1 rfl (lv_room (Nat.le_of_ble_eq_true rfl)) dX12_word_2 ⟨by decide +kernel, by decide +kernel⟩)) (fun r1 hr1 => ?_)
  have bqq2 := hI.bd (k := 0) bd_60_30
  rcases hr1 with ⟨rfl, c3⟩ | ⟨rfl, c3⟩
  · refine fx_if_eq (tgt := 18) hx hb dX12_word_5 (by decide) zk_1 (fun c4 => by exfalso; omega) (fun c4 => ?_)
    refine lv_iload_n hx hb dX12_word_8 rfl (lv_at hl 2 rfl) ?_
    refine lv_iconst (v := 0) hx hb dX12_word_9 (by decide) ?_
    refine lv_bipush (v := 15) hx hb dX12_word_10 (by decide) ?_
    have zz5 := zk_0
    have zz6 := zk_15
    refine vp_callSi (va_Run.run (va_runS (As := [.int p1, .int 0, .int 15]) (rest := []) ⟨hx, hb, hml, hown, hts⟩ (fc_X12_within l p1 0 15) (va_cwS 3 hts gX12_word_X12_within rfl rfl rfl (by decide +kernel) ⟨Nat.le_of_ble_eq_true rfl, Nat.le_of_ble_eq_true rfl⟩) ⟨fun a U g mk q => q, fun U hU hW => ⟨rfl, trivial⟩⟩ rfl rfl hl.1 rfl (lv_room (Nat.le_of_ble_eq_true rfl)) dX12_word_12 ⟨by decide +kernel, by decide +kernel⟩)) (fun r7 hr7 => ?_)
    rcases hr7 with ⟨rfl, c8⟩ | ⟨rfl, c8⟩
    · refine fx_if_ne (tgt := 21) hx hb dX12_word_15 (by decide) zk_1 (fun c9 => ?_) (fun c9 => by exfalso; omega)
      refine lv_iconst (v := (-1)) hx hb dX12_word_21 (by decide) ?_
      refine lv_istore_n (lv' := [(3, .int (-1)), (0, .ref (ad 60 0)), (1, .int p0), (2, .int p1)]) hx hb dX12_word_22 rfl hl (by decide) rfl (fun ls hl => ?_)
      refine lv_iconst (v := 0) hx hb dX12_word_23 (by decide) ?_
      refine lv_istore (lv' := [(4, .int 0), (3, .int (-1)), (0, .ref (ad 60 0)), (1, .int p0), (2, .int p1)]) hx hb dX12_word_24 hl (by decide) rfl (fun ls hl => ?_)
      have lp : ∀ (n_lp : Nat) (lp_4 : Int32) (lp_3 : Int32), (40 - lp_4.toInt).toNat < n_lp → (0 ≤ lp_4.toInt ∧ lp_4.toInt ≤ 40) → ∀ (ls : Array Slot), lv_has ls 6 [(4, .int lp_4), (3, .int lp_3), (0, .ref (ad 60 0)), (1, .int p0), (2, .int p1)] → W p l e (headSpec wsX12_word ({ frames := 1, cells := 0, slots := 0, locals := 22 })).room s m ([.ref (ad 60 0), .int p0, .int p1] : List Value).toArray below meth c s.heap [] 0 0 (MQ below (vp_Si (fun r : Int32 => True)) ([.ref (ad 60 0), .int p0, .int p1] : List Value).toArray s 0 0 (fun _ => False)) (F0 m 26 ls []) := by
        intro n_lp
        induction n_lp with
        | zero => intro lp_4 lp_3 hm_lp b_lp_4 ls hl; exact absurd hm_lp (Nat.not_lt_zero _)
        | succ n_lp ih_lp =>
          intro lp_4 lp_3 hm_lp b_lp_4 ls hl
          refine lv_iload hx hb dX12_word_26 (lv_at hl 0 rfl) ?_
          refine lv_aload_n hx hb dX12_word_28 rfl (lv_at hl 2 rfl) ?_
          refine fm_getI (a := 60) (j := 34) (T := TX12) (N := 79) hx hb hts hinX12 hown hc hw hI kl_60 sh_60 rfl (by decide) rfl bd_60_34 (hts (.fieldLink RX12 263 "RedTentModel" "parts" "I") (List.mem_cons_of_mem _ tw_5_154)) (fun _ h9 => h9) dX12_word_29 (fun x10 ex10 bx10 => ?_)
          refine fx_icmp_ge (tgt := 99) hx hb dX12_word_32 (by decide) rfl rfl (fun c11 => ?_) (fun c11 => ?_)
          · refine lv_iload_n hx hb dX12_word_99 rfl (lv_at hl 1 rfl) ?_
            exact W.iret (v := lp_3) hx hb hr (fun t ht hW => ⟨lp_3, rfl, trivial, ht⟩) (fun _ h => absurd h List.not_mem_nil) dX12_word_100
          · refine lv_aload_n hx hb dX12_word_35 rfl (lv_at hl 2 rfl) ?_
            refine fm_getG (a := 60) (j := 31) (T := TX12) (N := 79) hx hb hts hinX12 hown hc hw kl_60 sh_60 rfl (by decide) rfl (hI.to kl_60 tg_60_31) (hts (.fieldLink RX12 80 "RedTentModel" "partCall" "[I") (List.mem_cons_of_mem _ tw_5_151)) (fun _ h9 => h9) dX12_word_36 ?_
            refine lv_iload hx hb dX12_word_39 (lv_at hl 0 rfl) ?_
            refine fm_iald (a := 131) hx hb hc hw hI kl_131 sh_131 ty_131 bd_131 (by omega) dX12_word_41 (fun x12 ex12 bx12 => ?_)
            refine lv_iload_n hx hb dX12_word_42 rfl (lv_at hl 3 rfl) ?_
            refine fx_icmp_ne (tgt := 93) hx hb dX12_word_43 (by decide) rfl rfl (fun c13 => ?_) (fun c13 => ?_)
            · obtain ⟨y14, ey14⟩ : ∃ y : Int32, y = lp_4 + 1 := ⟨_, rfl⟩
              have ty14 : y14.toInt = lp_4.toInt + 1 := by rw [ey14, zi_add _ _ (by rw [zk_1]; omega) (by rw [zk_1]; omega), zk_1]
              refine lv_iinc (v := y14) (lv' := [(4, .int y14), (3, .int lp_3), (0, .ref (ad 60 0)), (1, .int p0), (2, .int p1)]) hx hb dX12_word_93 hl (k := 0) rfl (by rw [ey14]; rfl) (by decide) rfl (fun ls hl => ?_)
              refine lv_goto (tgt := 26) hx hb dX12_word_96 (by decide) ?_
              exact ih_lp y14 lp_3 (by omega) (by omega) ls (lv_sub hl [0, 1, 2, 3, 4] rfl)
            · refine lv_aload_n hx hb dX12_word_46 rfl (lv_at hl 2 rfl) ?_
              refine fm_getG (a := 60) (j := 32) (T := TX12) (N := 79) hx hb hts hinX12 hown hc hw kl_60 sh_60 rfl (by decide) rfl (hI.to kl_60 tg_60_32) (hts (.fieldLink RX12 83 "RedTentModel" "partHeard" "[I") (List.mem_cons_of_mem _ tw_5_152)) (fun _ h9 => h9) dX12_word_47 ?_
              refine lv_iload hx hb dX12_word_50 (lv_at hl 0 rfl) ?_
              refine fm_iald (a := 132) hx hb hc hw hI kl_132 sh_132 ty_132 bd_132 (by omega) dX12_word_52 (fun x15 ex15 bx15 => ?_)
              refine lv_iload_n hx hb dX12_word_53 rfl (lv_at hl 4 rfl) ?_
              refine lv_ishr hx hb dX12_word_54 ?_
              refine lv_topi (fun y16 ey16 => ?_)
              refine lv_iconst (v := 1) hx hb dX12_word_55 (by decide) ?_
              refine fx_iand1 hx hb dX12_word_56 (fun y17 ey17 by17 => ?_)
              refine lv_iconst (v := 1) hx hb dX12_word_57 (by decide) ?_
              refine fx_icmp_ne (tgt := 93) hx hb dX12_word_58 (by decide) rfl zk_1 (fun c18 => ?_) (fun c18 => ?_)
              · obtain ⟨y19, ey19⟩ : ∃ y : Int32, y = lp_4 + 1 := ⟨_, rfl⟩
                have ty19 : y19.toInt = lp_4.toInt + 1 := by rw [ey19, zi_add _ _ (by rw [zk_1]; omega) (by rw [zk_1]; omega), zk_1]
                refine lv_iinc (v := y19) (lv' := [(4, .int y19), (3, .int lp_3), (0, .ref (ad 60 0)), (1, .int p0), (2, .int p1)]) hx hb dX12_word_93 hl (k := 0) rfl (by rw [ey19]; rfl) (by decide) rfl (fun ls hl => ?_)
                refine lv_goto (tgt := 26) hx hb dX12_word_96 (by decide) ?_
                exact ih_lp y19 lp_3 (by omega) (by omega) ls (lv_sub hl [0, 1, 2, 3, 4] rfl)
              · refine lv_aload_n hx hb dX12_word_61 rfl (lv_at hl 2 rfl) ?_
                refine fm_getG (a := 60) (j := 33) (T := TX12) (N := 79) hx hb hts hinX12 hown hc hw kl_60 sh_60 rfl (by decide) rfl (hI.to kl_60 tg_60_33) (hts (.fieldLink RX12 86 "RedTentModel" "partWords" "[J") (List.mem_cons_of_mem _ tw_5_153)) (fun _ h9 => h9) dX12_word_62 ?_
                refine lv_iload hx hb dX12_word_65 (lv_at hl 0 rfl) ?_
                refine fm_lald (a := 133) hx hb hc hw kl_133 sh_133 ty_133 (by omega) dX12_word_67 (fun x20 ex20 => ?_)
                refine lv_iload_n hx hb dX12_word_68 rfl (lv_at hl 4 rfl) ?_
                refine vp_callSi (va_Run.run (va_runS (As := [.long x20, .int p1]) (rest := []) ⟨hx, hb, hml, hown, hts⟩ (fc_X12_wordOf l x20 p1) (va_cwS 2 hts gX12_word_X12_wordOf rfl rfl rfl (by decide +kernel) ⟨Nat.le_of_ble_eq_true rfl, Nat.le_of_ble_eq_true rfl⟩) ⟨fun a U g mk q => q, fun U hU hW => ⟨rfl, trivial⟩⟩ rfl rfl hl.1 rfl (lv_room (Nat.le_of_ble_eq_true rfl)) dX12_word_69 ⟨by decide +kernel, by decide +kernel⟩)) (fun r21 hr21 => ?_)
                refine lv_istore (lv' := [(5, .int r21), (4, .int lp_4), (3, .int lp_3), (0, .ref (ad 60 0)), (1, .int p0), (2, .int p1)]) hx hb dX12_word_72 hl (by decide) rfl (fun ls hl => ?_)
                refine lv_iload_n hx hb dX12_word_74 rfl (lv_at hl 2 rfl) ?_
                refine lv_iconst (v := (-1)) hx hb dX12_word_75 (by decide) ?_
                refine fx_icmp_eq (tgt := 85) hx hb dX12_word_76 (by decide) rfl zk_m1 (fun c22 => ?_) (fun c22 => ?_)
                · refine lv_iload hx hb dX12_word_85 (lv_at hl 0 rfl) ?_
                  refine lv_goto (tgt := 92) hx hb dX12_word_87 (by decide) ?_
                  refine lv_istore_n (lv' := [(3, .int r21), (5, .int r21), (4, .int lp_4), (0, .ref (ad 60 0)), (1, .int p0), (2, .int p1)]) hx hb dX12_word_92 rfl hl (by decide) rfl (fun ls hl => ?_)
                  obtain ⟨y23, ey23⟩ : ∃ y : Int32, y = lp_4 + 1 := ⟨_, rfl⟩
                  have ty23 : y23.toInt = lp_4.toInt + 1 := by rw [ey23, zi_add _ _ (by rw [zk_1]; omega) (by rw [zk_1]; omega), zk_1]
                  refine lv_iinc (v := y23) (lv' := [(4, .int y23), (3, .int r21), (5, .int r21), (0, .ref (ad 60 0)), (1, .int p0), (2, .int p1)]) hx hb dX12_word_93 hl (k := 2) rfl (by rw [ey23]; rfl) (by decide) rfl (fun ls hl => ?_)
                  refine lv_goto (tgt := 26) hx hb dX12_word_96 (by decide) ?_
                  exact ih_lp y23 r21 (by omega) (by omega) ls (lv_sub hl [0, 1, 3, 4, 5] rfl)
                · refine lv_iload_n hx hb dX12_word_79 rfl (lv_at hl 2 rfl) ?_
                  refine lv_iload hx hb dX12_word_80 (lv_at hl 0 rfl) ?_
                  refine fx_icmp_ne (tgt := 90) hx hb dX12_word_82 (by decide) rfl rfl (fun c24 => ?_) (fun c24 => ?_)
                  · refine lv_bipush (v := (-2)) hx hb dX12_word_90 (by decide) ?_
                    refine lv_istore_n (lv' := [(3, .int (-2)), (5, .int r21), (4, .int lp_4), (0, .ref (ad 60 0)), (1, .int p0), (2, .int p1)]) hx hb dX12_word_92 rfl hl (by decide) rfl (fun ls hl => ?_)
                    obtain ⟨y25, ey25⟩ : ∃ y : Int32, y = lp_4 + 1 := ⟨_, rfl⟩
                    have ty25 : y25.toInt = lp_4.toInt + 1 := by rw [ey25, zi_add _ _ (by rw [zk_1]; omega) (by rw [zk_1]; omega), zk_1]
                    refine lv_iinc (v := y25) (lv' := [(4, .int y25), (3, .int (-2)), (5, .int r21), (0, .ref (ad 60 0)), (1, .int p0), (2, .int p1)]) hx hb dX12_word_93 hl (k := 2) rfl (by rw [ey25]; rfl) (by decide) rfl (fun ls hl => ?_)
                    refine lv_goto (tgt := 26) hx hb dX12_word_96 (by decide) ?_
                    exact ih_lp y25 (-2) (by omega) (by omega) ls (lv_sub hl [0, 1, 3, 4, 5] rfl)
                  · refine lv_iload hx hb dX12_word_85 (lv_at hl 0 rfl) ?_
                    refine lv_goto (tgt := 92) hx hb dX12_word_87 (by decide) ?_
                    refine lv_istore_n (lv' := [(3, .int r21), (5, .int r21), (4, .int lp_4), (0, .ref (ad 60 0)), (1, .int p0), (2, .int p1)]) hx hb dX12_word_92 rfl hl (by decide) rfl (fun ls hl => ?_)
                    obtain ⟨y26, ey26⟩ : ∃ y : Int32, y = lp_4 + 1 := ⟨_, rfl⟩
                    have ty26 : y26.toInt = lp_4.toInt + 1 := by rw [ey26, zi_add _ _ (by rw [zk_1]; omega) (by rw [zk_1]; omega), zk_1]
                    refine lv_iinc (v := y26) (lv' := [(4, .int y26), (3, .int r21), (5, .int r21), (0, .ref (ad 60 0)), (1, .int p0), (2, .int p1)]) hx hb dX12_word_93 hl (k := 2) rfl (by rw [ey26]; rfl) (by decide) rfl (fun ls hl => ?_)
                    refine lv_goto (tgt := 26) hx hb dX12_word_96 (by decide) ?_
                    exact ih_lp y26 r21 (by omega) (by omega) ls (lv_sub hl [0, 1, 3, 4, 5] rfl)
      exact lp _ 0 (-1) (Nat.lt_succ_self _) (by decide) ls (lv_sub hl [0, 1, 2, 3, 4] rfl)
    · refine fx_if_ne (tgt := 21) hx hb dX12_word_15 (by decide) zk_0 (fun c27 => by exfalso; omega) (fun c27 => ?_)
      refine lv_bipush (v := (-3)) hx hb dX12_word_18 (by decide) ?_
      exact W.iret (v := (-3)) hx hb hr (fun t ht hW => ⟨(-3), rfl, trivial, ht⟩) (fun _ h => absurd h List.not_mem_nil) dX12_word_20
  · refine fx_if_eq (tgt := 18) hx hb dX12_word_5 (by decide) zk_0 (fun c28 => ?_) (fun c28 => by exfalso; omega)
    refine lv_bipush (v := (-3)) hx hb dX12_word_18 (by decide) ?_
    exact W.iret (v := (-3)) hx hb hr (fun t ht hW => ⟨(-3), rfl, trivial, ht⟩) (fun _ h => absurd h List.not_mem_nil) dX12_word_20
set_option maxHeartbeats 400000 in
set_option maxRecDepth 20000 in
theorem fc_X12_isTrue (l : Launch) (D : va_G) (ad : Nat → Nat → Nat) (C : Nat → Nat → ClassId) (nb : Nat) (M : fm_M) (hI : fm_I nb ad M) (p0 : Int32) : Met l yX12_isTrue wsX12_isTrue ({ frames := 1, cells := 0, slots := 0, locals := 22 }) (va_Pc [.ref (ad 60 0), .int p0] (fm_P D ad C nb M)) (vp_Si (fun r : Int32 => True)) 0 0 (fun _ => False) := by
  refine Met.ofW (cc := cX12_isTrue) (maxL := 5) (ret := (some .int)) (by decide) rfl ?_
  intro p e s m args below meth c s₁ B hml hv
  obtain ⟨rfl, hw, hc⟩ := hv
  have hx := B.exec
  have hb := B.bytes
  have hr := B.returns
  have hts := atoms_spec (ws := wsX12_isTrue) B.pre
  have hown : s.vm.findClass RX12 = some m.cls := findClass_of_methodNamed B.named
  have hinX12 : ∀ w ∈ u_ws RX12 TX12 79, w ∈ wsX12_isTrue := fun w h => List.mem_cons_of_mem _ (iT_X12 w h)
  have hS : va_S (fm_A nb ad) s.heap s.heap [] := va_S.rf
  have hl := lv_entry ([.ref (ad 60 0), .int p0]) (n := 5) (Nat.le_of_ble_eq_true rfl)
  rw [lg_entry_eq]
  generalize (lg_sl ([.ref (ad 60 0), .int p0]) ++ List.replicate (5 - (lg_sl ([.ref (ad 60 0), .int p0])).length) Slot.unset).toArray = ls at hl ⊢
  have hl : lv_has ls 5 [(0, .ref (ad 60 0)), (1, .int p0)] := hl
  refine lv_iload_n hx hb dX12_isTrue_0 rfl (lv_at hl 1 rfl) ?_
  refine fx_if_lt (tgt := 12) hx hb dX12_isTrue_1 (by decide) rfl (fun c1 => ?_) (fun c1 => ?_)
  · refine lv_bipush (v := (-2)) hx hb dX12_isTrue_12 (by decide) ?_
    exact W.iret (v := (-2)) hx hb hr (fun t ht hW => ⟨(-2), rfl, trivial, ht⟩) (fun _ h => absurd h List.not_mem_nil) dX12_isTrue_14
  · refine lv_iload_n hx hb dX12_isTrue_4 rfl (lv_at hl 1 rfl) ?_
    refine lv_aload_n hx hb dX12_isTrue_5 rfl (lv_at hl 0 rfl) ?_
    refine fm_getI (a := 60) (j := 34) (T := TX12) (N := 79) hx hb hts hinX12 hown hc hw hI kl_60 sh_60 rfl (by decide) rfl bd_60_34 (hts (.fieldLink RX12 263 "RedTentModel" "parts" "I") (List.mem_cons_of_mem _ tw_5_154)) (fun _ h9 => h9) dX12_isTrue_6 (fun x2 ex2 bx2 => ?_)
    refine fx_icmp_lt (tgt := 15) hx hb dX12_isTrue_9 (by decide) rfl rfl (fun c3 => ?_) (fun c3 => ?_)
    · refine lv_iconst (v := 1) hx hb dX12_isTrue_15 (by decide) ?_
      refine lv_istore_n (lv' := [(2, .int 1), (0, .ref (ad 60 0)), (1, .int p0)]) hx hb dX12_isTrue_16 rfl hl (by decide) rfl (fun ls hl => ?_)
      refine lv_iconst (v := 0) hx hb dX12_isTrue_17 (by decide) ?_
      refine lv_istore_n (lv' := [(3, .int 0), (2, .int 1), (0, .ref (ad 60 0)), (1, .int p0)]) hx hb dX12_isTrue_18 rfl hl (by decide) rfl (fun ls hl => ?_)
      have lp : ∀ (n_lp : Nat) (lp_3 : Int32) (lp_2 : Int32), (16 - lp_3.toInt).toNat < n_lp → (0 ≤ lp_3.toInt ∧ lp_3.toInt ≤ 16) → (0 ≤ lp_2.toInt ∧ lp_2.toInt ≤ 1) → ∀ (ls : Array Slot), lv_has ls 5 [(3, .int lp_3), (2, .int lp_2), (0, .ref (ad 60 0)), (1, .int p0)] → W p l e (headSpec wsX12_isTrue ({ frames := 1, cells := 0, slots := 0, locals := 22 })).room s m ([.ref (ad 60 0), .int p0] : List Value).toArray below meth c s.heap [] 0 0 (MQ below (vp_Si (fun r : Int32 => True)) ([.ref (ad 60 0), .int p0] : List Value).toArray s 0 0 (fun _ => False)) (F0 m 19 ls []) := by
        intro n_lp
        induction n_lp with
        | zero => intro lp_3 lp_2 hm_lp b_lp_3 b_lp_2 ls hl; exact absurd hm_lp (Nat.not_lt_zero _)
        | succ n_lp ih_lp =>
          intro lp_3 lp_2 hm_lp b_lp_3 b_lp_2 ls hl
          refine lv_iload_n hx hb dX12_isTrue_19 rfl (lv_at hl 0 rfl) ?_
          refine lv_bipush (v := 16) hx hb dX12_isTrue_20 (by decide) ?_
          refine fx_icmp_ge (tgt := 95) hx hb dX12_isTrue_22 (by decide) rfl zk_16 (fun c4 => ?_) (fun c4 => ?_)
          · refine lv_iload_n hx hb dX12_isTrue_95 rfl (lv_at hl 1 rfl) ?_
            refine fx_if_eq (tgt := 103) hx hb dX12_isTrue_96 (by decide) rfl (fun c5 => ?_) (fun c5 => ?_)
            · refine lv_iconst (v := 0) hx hb dX12_isTrue_103 (by decide) ?_
              exact W.iret (v := 0) hx hb hr (fun t ht hW => ⟨0, rfl, trivial, ht⟩) (fun _ h => absurd h List.not_mem_nil) dX12_isTrue_104
            · refine lv_iconst (v := 1) hx hb dX12_isTrue_99 (by decide) ?_
              refine lv_goto (tgt := 104) hx hb dX12_isTrue_100 (by decide) ?_
              exact W.iret (v := 1) hx hb hr (fun t ht hW => ⟨1, rfl, trivial, ht⟩) (fun _ h => absurd h List.not_mem_nil) dX12_isTrue_104
          · have jt : ∀ (jt_4 : Int32), (0 ≤ jt_4.toInt ∧ jt_4.toInt ≤ 1) → ∀ (ls : Array Slot), lv_has ls 5 [(3, .int lp_3), (2, .int lp_2), (0, .ref (ad 60 0)), (1, .int p0), (4, .int jt_4)] → W p l e (headSpec wsX12_isTrue ({ frames := 1, cells := 0, slots := 0, locals := 22 })).room s m ([.ref (ad 60 0), .int p0] : List Value).toArray below meth c s.heap [] 0 0 (MQ below (vp_Si (fun r : Int32 => True)) ([.ref (ad 60 0), .int p0] : List Value).toArray s 0 0 (fun _ => False)) (F0 m 46 ls []) := by
              intro jt_4 b_jt_4 ls hl
              refine lv_iload_n hx hb dX12_isTrue_46 rfl (lv_at hl 1 rfl) ?_
              refine fx_if_eq (tgt := 87) hx hb dX12_isTrue_47 (by decide) rfl (fun c6 => ?_) (fun c6 => ?_)
              · refine lv_iconst (v := 0) hx hb dX12_isTrue_87 (by decide) ?_
                refine lv_istore_n (lv' := [(2, .int 0), (3, .int lp_3), (0, .ref (ad 60 0)), (1, .int p0), (4, .int jt_4)]) hx hb dX12_isTrue_88 rfl hl (by decide) rfl (fun ls hl => ?_)
                obtain ⟨y7, ey7⟩ : ∃ y : Int32, y = lp_3 + 1 := ⟨_, rfl⟩
                have ty7 : y7.toInt = lp_3.toInt + 1 := by rw [ey7, zi_add _ _ (by rw [zk_1]; omega) (by rw [zk_1]; omega), zk_1]
                refine lv_iinc (v := y7) (lv' := [(3, .int y7), (2, .int 0), (0, .ref (ad 60 0)), (1, .int p0), (4, .int jt_4)]) hx hb dX12_isTrue_89 hl (k := 1) rfl (by rw [ey7]; rfl) (by decide) rfl (fun ls hl => ?_)
                refine lv_goto (tgt := 19) hx hb dX12_isTrue_92 (by decide) ?_
                exact ih_lp y7 0 (by omega) (by omega) (by decide) ls (lv_sub hl [0, 1, 2, 3] rfl)
              · refine lv_iload hx hb dX12_isTrue_50 (lv_at hl 4 rfl) ?_
                refine fx_if_eq (tgt := 83) hx hb dX12_isTrue_52 (by decide) rfl (fun c8 => ?_) (fun c8 => ?_)
                · refine lv_iconst (v := 1) hx hb dX12_isTrue_83 (by decide) ?_
                  refine lv_goto (tgt := 88) hx hb dX12_isTrue_84 (by decide) ?_
                  refine lv_istore_n (lv' := [(2, .int 1), (3, .int lp_3), (0, .ref (ad 60 0)), (1, .int p0), (4, .int jt_4)]) hx hb dX12_isTrue_88 rfl hl (by decide) rfl (fun ls hl => ?_)
                  obtain ⟨y9, ey9⟩ : ∃ y : Int32, y = lp_3 + 1 := ⟨_, rfl⟩
                  have ty9 : y9.toInt = lp_3.toInt + 1 := by rw [ey9, zi_add _ _ (by rw [zk_1]; omega) (by rw [zk_1]; omega), zk_1]
                  refine lv_iinc (v := y9) (lv' := [(3, .int y9), (2, .int 1), (0, .ref (ad 60 0)), (1, .int p0), (4, .int jt_4)]) hx hb dX12_isTrue_89 hl (k := 1) rfl (by rw [ey9]; rfl) (by decide) rfl (fun ls hl => ?_)
                  refine lv_goto (tgt := 19) hx hb dX12_isTrue_92 (by decide) ?_
                  exact ih_lp y9 1 (by omega) (by omega) (by decide) ls (lv_sub hl [0, 1, 2, 3] rfl)
                · refine lv_aload_n hx hb dX12_isTrue_55 rfl (lv_at hl 2 rfl) ?_
                  refine fm_getG (a := 60) (j := 33) (T := TX12) (N := 79) hx hb hts hinX12 hown hc hw kl_60 sh_60 rfl (by decide) rfl (hI.to kl_60 tg_60_33) (hts (.fieldLink RX12 86 "RedTentModel" "partWords" "[J") (List.mem_cons_of_mem _ tw_5_153)) (fun _ h9 => h9) dX12_isTrue_56 ?_
                  refine lv_iload_n hx hb dX12_isTrue_59 rfl (lv_at hl 3 rfl) ?_
                  refine fm_lald (a := 133) hx hb hc hw kl_133 sh_133 ty_133 (by omega) dX12_isTrue_60 (fun x10 ex10 => ?_)
                  refine lv_iload_n hx hb dX12_isTrue_61 rfl (lv_at hl 0 rfl) ?_
                  refine vp_callSi (va_Run.run (va_runS (As := [.long x10, .int lp_3]) (rest := []) ⟨hx, hb, hml, hown, hts⟩ (fc_X12_wordOf l x10 lp_3) (va_cwS 2 hts gX12_isTrue_X12_wordOf rfl rfl rfl (by decide +kernel) ⟨Nat.le_of_ble_eq_true rfl, Nat.le_of_ble_eq_true rfl⟩) ⟨fun a U g mk q => q, fun U hU hW => ⟨rfl, trivial⟩⟩ rfl rfl hl.1 rfl (lv_room (Nat.le_of_ble_eq_true rfl)) dX12_isTrue_62 ⟨by decide +kernel, by decide +kernel⟩)) (fun r11 hr11 => ?_)
                  refine lv_aload_n hx hb dX12_isTrue_65 rfl (lv_at hl 2 rfl) ?_
                  refine fm_getG (a := 60) (j := 29) (T := TX12) (N := 79) hx hb hts hinX12 hown hc hw kl_60 sh_60 rfl (by decide) rfl (hI.to kl_60 tg_60_29) (hts (.fieldLink RX12 77 "RedTentModel" "callWords" "[J") (List.mem_cons_of_mem _ tw_5_149)) (fun _ h9 => h9) dX12_isTrue_66 ?_
                  refine lv_aload_n hx hb dX12_isTrue_69 rfl (lv_at hl 2 rfl) ?_
                  refine fm_getG (a := 60) (j := 31) (T := TX12) (N := 79) hx hb hts hinX12 hown hc hw kl_60 sh_60 rfl (by decide) rfl (hI.to kl_60 tg_60_31) (hts (.fieldLink RX12 80 "RedTentModel" "partCall" "[I") (List.mem_cons_of_mem _ tw_5_151)) (fun _ h9 => h9) dX12_isTrue_70 ?_
                  refine lv_iload_n hx hb dX12_isTrue_73 rfl (lv_at hl 3 rfl) ?_
                  refine fm_iald (a := 131) hx hb hc hw hI kl_131 sh_131 ty_131 bd_131 (by omega) dX12_isTrue_74 (fun x12 ex12 bx12 => ?_)
                  refine fm_lald (a := 129) hx hb hc hw kl_129 sh_129 ty_129 (by omega) dX12_isTrue_75 (fun x13 ex13 => ?_)
                  refine lv_iload_n hx hb dX12_isTrue_76 rfl (lv_at hl 0 rfl) ?_
                  refine vp_callSi (va_Run.run (va_runS (As := [.long x13, .int lp_3]) (rest := [.int r11]) ⟨hx, hb, hml, hown, hts⟩ (fc_X12_wordOf l x13 lp_3) (va_cwS 2 hts gX12_isTrue_X12_wordOf rfl rfl rfl (by decide +kernel) ⟨Nat.le_of_ble_eq_true rfl, Nat.le_of_ble_eq_true rfl⟩) ⟨fun a U g mk q => q, fun U hU hW => ⟨rfl, trivial⟩⟩ rfl rfl hl.1 rfl (lv_room (Nat.le_of_ble_eq_true rfl)) dX12_isTrue_77 ⟨by decide +kernel, by decide +kernel⟩)) (fun r14 hr14 => ?_)
                  refine fx_icmp_ne (tgt := 87) hx hb dX12_isTrue_80 (by decide) rfl rfl (fun c15 => ?_) (fun c15 => ?_)
                  · refine lv_iconst (v := 0) hx hb dX12_isTrue_87 (by decide) ?_
                    refine lv_istore_n (lv' := [(2, .int 0), (3, .int lp_3), (0, .ref (ad 60 0)), (1, .int p0), (4, .int jt_4)]) hx hb dX12_isTrue_88 rfl hl (by decide) rfl (fun ls hl => ?_)
                    obtain ⟨y16, ey16⟩ : ∃ y : Int32, y = lp_3 + 1 := ⟨_, rfl⟩
                    have ty16 : y16.toInt = lp_3.toInt + 1 := by rw [ey16, zi_add _ _ (by rw [zk_1]; omega) (by rw [zk_1]; omega), zk_1]
                    refine lv_iinc (v := y16) (lv' := [(3, .int y16), (2, .int 0), (0, .ref (ad 60 0)), (1, .int p0), (4, .int jt_4)]) hx hb dX12_isTrue_89 hl (k := 1) rfl (by rw [ey16]; rfl) (by decide) rfl (fun ls hl => ?_)
                    refine lv_goto (tgt := 19) hx hb dX12_isTrue_92 (by decide) ?_
                    exact ih_lp y16 0 (by omega) (by omega) (by decide) ls (lv_sub hl [0, 1, 2, 3] rfl)
                  · refine lv_iconst (v := 1) hx hb dX12_isTrue_83 (by decide) ?_
                    refine lv_goto (tgt := 88) hx hb dX12_isTrue_84 (by decide) ?_
                    refine lv_istore_n (lv' := [(2, .int 1), (3, .int lp_3), (0, .ref (ad 60 0)), (1, .int p0), (4, .int jt_4)]) hx hb dX12_isTrue_88 rfl hl (by decide) rfl (fun ls hl => ?_)
                    obtain ⟨y17, ey17⟩ : ∃ y : Int32, y = lp_3 + 1 := ⟨_, rfl⟩
                    have ty17 : y17.toInt = lp_3.toInt + 1 := by rw [ey17, zi_add _ _ (by rw [zk_1]; omega) (by rw [zk_1]; omega), zk_1]
                    refine lv_iinc (v := y17) (lv' := [(3, .int y17), (2, .int 1), (0, .ref (ad 60 0)), (1, .int p0), (4, .int jt_4)]) hx hb dX12_isTrue_89 hl (k := 1) rfl (by rw [ey17]; rfl) (by decide) rfl (fun ls hl => ?_)
                    refine lv_goto (tgt := 19) hx hb dX12_isTrue_92 (by decide) ?_
                    exact ih_lp y17 1 (by omega) (by omega) (by decide) ls (lv_sub hl [0, 1, 2, 3] rfl)
            refine lv_aload_n hx hb dX12_isTrue_25 rfl (lv_at hl 2 rfl) ?_
            refine fm_getG (a := 60) (j := 32) (T := TX12) (N := 79) hx hb hts hinX12 hown hc hw kl_60 sh_60 rfl (by decide) rfl (hI.to kl_60 tg_60_32) (hts (.fieldLink RX12 83 "RedTentModel" "partHeard" "[I") (List.mem_cons_of_mem _ tw_5_152)) (fun _ h9 => h9) dX12_isTrue_26 ?_
            refine lv_iload_n hx hb dX12_isTrue_29 rfl (lv_at hl 3 rfl) ?_
            refine fm_iald (a := 132) hx hb hc hw hI kl_132 sh_132 ty_132 bd_132 (by omega) dX12_isTrue_30 (fun x18 ex18 bx18 => ?_)
            refine lv_iload_n hx hb dX12_isTrue_31 rfl (lv_at hl 0 rfl) ?_
            refine lv_ishr hx hb dX12_isTrue_32 ?_
            refine lv_topi (fun y19 ey19 => ?_)
            refine lv_iconst (v := 1) hx hb dX12_isTrue_33 (by decide) ?_
            refine fx_iand1 hx hb dX12_isTrue_34 (fun y20 ey20 by20 => ?_)
            refine lv_iconst (v := 1) hx hb dX12_isTrue_35 (by decide) ?_
            refine fx_icmp_ne (tgt := 43) hx hb dX12_isTrue_36 (by decide) rfl zk_1 (fun c21 => ?_) (fun c21 => ?_)
            · refine lv_iconst (v := 0) hx hb dX12_isTrue_43 (by decide) ?_
              refine lv_istore (lv' := [(4, .int 0), (3, .int lp_3), (2, .int lp_2), (0, .ref (ad 60 0)), (1, .int p0)]) hx hb dX12_isTrue_44 hl (by decide) rfl (fun ls hl => ?_)
              exact jt 0 (by decide) ls (lv_sub hl [1, 2, 3, 4, 0] rfl)
            · refine lv_iconst (v := 1) hx hb dX12_isTrue_39 (by decide) ?_
              refine lv_goto (tgt := 44) hx hb dX12_isTrue_40 (by decide) ?_
              refine lv_istore (lv' := [(4, .int 1), (3, .int lp_3), (2, .int lp_2), (0, .ref (ad 60 0)), (1, .int p0)]) hx hb dX12_isTrue_44 hl (by decide) rfl (fun ls hl => ?_)
              exact jt 1 (by decide) ls (lv_sub hl [1, 2, 3, 4, 0] rfl)
      exact lp _ 0 1 (Nat.lt_succ_self _) (by decide) (by decide) ls (lv_sub hl [0, 1, 2, 3] rfl)
    · refine lv_bipush (v := (-2)) hx hb dX12_isTrue_12 (by decide) ?_
      exact W.iret (v := (-2)) hx hb hr (fun t ht hW => ⟨(-2), rfl, trivial, ht⟩) (fun _ h => absurd h List.not_mem_nil) dX12_isTrue_14
set_option maxHeartbeats 400000 in
set_option maxRecDepth 20000 in
theorem fc_X12_lane (l : Launch) (D : va_G) (ad : Nat → Nat → Nat) (C : Nat → Nat → ClassId) (nb : Nat) (M : fm_M) (hI : fm_I nb ad M) (p0 : Int64) : Met l yX12_lane wsX12_lane ({ frames := 0, cells := 0, slots := 0, locals := 0 }) (va_Pc [.ref (ad 60 0), .long p0] (fm_P D ad C nb M)) (va_Qi (fun (r : Int32) (u : fm_M) => fm_I nb ad u ∧ fm_same [60036, 135000] M u ∧ ((¬ (¬ p0 = 0) ∧ r.toInt = -2 ∧ (u.1 60 0 36).toInt = (M.1 60 0 36).toInt) ∨ ((¬ p0 = 0) ∧ 16 ≤ (M.1 60 0 36).toInt ∧ r.toInt = -4 ∧ (u.1 60 0 36).toInt = (M.1 60 0 36).toInt) ∨ ((¬ p0 = 0) ∧ (M.1 60 0 36).toInt < 16 ∧ r.toInt = (M.1 60 0 36).toInt ∧ (u.1 60 0 36).toInt = (M.1 60 0 36).toInt + 1))) (fun u t => fm_at D ad C nb u t.heap) (fm_A nb ad)) 0 0 (fm_A nb ad) := by
  refine Met.ofW (cc := cX12_lane) (maxL := 3) (ret := (some .int)) (by decide) rfl ?_
  intro p e s m args below meth c s₁ B hml hv
  obtain ⟨rfl, hw, hc⟩ := hv
  have hx := B.exec
  have hb := B.bytes
  have hr := B.returns
  have hts := atoms_spec (ws := wsX12_lane) B.pre
  have hown : s.vm.findClass RX12 = some m.cls := findClass_of_methodNamed B.named
  have hinX12 : ∀ w ∈ u_ws RX12 TX12 79, w ∈ wsX12_lane := fun w h => List.mem_cons_of_mem _ (iT_X12 w h)
  have hS : va_S (fm_A nb ad) s.heap s.heap [] := va_S.rf
  have hE : fm_same [60036, 135000] M M := fm_same.rf
  have hl := lv_entry ([.ref (ad 60 0), .long p0]) (n := 3) (Nat.le_of_ble_eq_true rfl)
  rw [lg_entry_eq]
  generalize (lg_sl ([.ref (ad 60 0), .long p0]) ++ List.replicate (3 - (lg_sl ([.ref (ad 60 0), .long p0])).length) Slot.unset).toArray = ls at hl ⊢
  have hl : lv_has ls 3 [(0, .ref (ad 60 0)), (1, .long p0)] := hl
  refine lv_lload_n hx hb dX12_lane_0 rfl (lv_at hl 1 rfl) ?_
  refine lv_lconst (v := 0) hx hb dX12_lane_1 (by decide) ?_
  refine W.lcmp hx hb dX12_lane_2 ?_
  refine fx_lif_ne (tgt := 9) hx hb dX12_lane_3 (by decide) (fun c1 => ?_) (fun c1 => ?_)
  · refine lv_aload_n hx hb dX12_lane_9 rfl (lv_at hl 0 rfl) ?_
    refine fm_getI (a := 60) (j := 36) (T := TX12) (N := 79) hx hb hts hinX12 hown hc hw hI kl_60 sh_60 rfl (by decide) rfl bd_60_36 (hts (.fieldLink RX12 272 "RedTentModel" "laneMany" "I") (List.mem_cons_of_mem _ tw_5_156)) (fun _ h9 => h9) dX12_lane_10 (fun x2 ex2 bx2 => ?_)
    refine lv_bipush (v := 16) hx hb dX12_lane_13 (by decide) ?_
    refine fx_icmp_ne (tgt := 21) hx hb dX12_lane_15 (by decide) rfl zk_16 (fun c3 => ?_) (fun c3 => ?_)
    · refine lv_aload_n hx hb dX12_lane_21 rfl (lv_at hl 0 rfl) ?_
      refine fm_getG (a := 60) (j := 35) (T := TX12) (N := 79) hx hb hts hinX12 hown hc hw kl_60 sh_60 rfl (by decide) rfl (hI.to kl_60 tg_60_35) (hts (.fieldLink RX12 89 "RedTentModel" "lanes" "[J") (List.mem_cons_of_mem _ tw_5_155)) (fun _ h9 => h9) dX12_lane_22 ?_
      refine lv_aload_n hx hb dX12_lane_25 rfl (lv_at hl 0 rfl) ?_
      refine fm_getI (a := 60) (j := 36) (T := TX12) (N := 79) hx hb hts hinX12 hown hc hw hI kl_60 sh_60 rfl (by decide) rfl bd_60_36 (hts (.fieldLink RX12 272 "RedTentModel" "laneMany" "I") (List.mem_cons_of_mem _ tw_5_156)) (fun _ h9 => h9) dX12_lane_26 (fun x4 ex4 bx4 => ?_)
      obtain rfl : x2 = x4 := by rw [ex4]; exact ex2
      refine lv_lload_n hx hb dX12_lane_29 rfl (lv_at hl 1 rfl) ?_
      refine fm_last (a := 135) hx hb hc hw hI hE hS kl_135 sh_135 ty_135 (by omega) cd_135 (by decide) dX12_lane_30 (fun M5 H locs eM5 hw hI hE hS => ?_)
      refine lv_aload_n hx hb dX12_lane_31 rfl (lv_at hl 0 rfl) ?_
      refine lv_dup hx hb dX12_lane_32 rfl ?_
      refine fm_getI (a := 60) (j := 36) (T := TX12) (N := 79) hx hb hts hinX12 hown hc hw hI kl_60 sh_60 rfl (by decide) rfl bd_60_36 (hts (.fieldLink RX12 272 "RedTentModel" "laneMany" "I") (List.mem_cons_of_mem _ tw_5_156)) (fun _ h9 => h9) dX12_lane_33 (fun x6 ex6 bx6 => ?_)
      obtain rfl : x2 = x6 := by rw [ex6, eM5, fm_wL_1]; exact ex2
      refine lv_iconst (v := 1) hx hb dX12_lane_36 (by decide) ?_
      refine fx_iadd hx hb dX12_lane_37 rfl zk_1 (by omega) (fun y7 ey7 ty7 => ?_)
      refine fm_putI (a := 60) (j := 36) (T := TX12) (N := 79) hx hb hts hinX12 tyX12 tyX12_ok nmX12 hown hc hw hI hE hS kl_60 sh_60 od_60 rfl (by decide) rfl bd_60_36 (hts (.fieldLink RX12 272 "RedTentModel" "laneMany" "I") (List.mem_cons_of_mem _ tw_5_156)) (fun _ h9 => h9) rfl (by decide +kernel) (by omega) (by decide) (by decide) dX12_lane_38 (fun M8 H locs eM8 hw hI hE hS => ?_)
      refine lv_aload_n hx hb dX12_lane_41 rfl (lv_at hl 0 rfl) ?_
      refine fm_getI (a := 60) (j := 36) (T := TX12) (N := 79) hx hb hts hinX12 hown hc hw hI kl_60 sh_60 rfl (by decide) rfl bd_60_36 (hts (.fieldLink RX12 272 "RedTentModel" "laneMany" "I") (List.mem_cons_of_mem _ tw_5_156)) (fun _ h9 => h9) dX12_lane_42 (fun x9 ex9 bx9 => ?_)
      obtain rfl : y7 = x9 := by rw [ex9, eM8, fm_wI_at]
      refine lv_iconst (v := 1) hx hb dX12_lane_45 (by decide) ?_
      refine fx_isub hx hb dX12_lane_46 rfl zk_1 (by omega) (fun y10 ey10 ty10 => ?_)
      have qx2 : x2.toInt = (M.1 60 0 36).toInt := by rw [ex2]
      exact W.iret (v := y10) hx hb hr (fun t ht hW => ⟨⟨y10, M8, rfl, ⟨hI, hE, Or.inr (Or.inr ⟨by first | assumption | (intro h9; exact h9 ‹_›), by omega, by omega, (by first | omega | (rw [eM8, fm_wI_at]; omega))⟩)⟩, by show fm_at D ad C nb _ t.heap; rw [ht]; exact hw⟩, hS.F ht⟩) hS.2.2 dX12_lane_47
    · refine lv_bipush (v := (-4)) hx hb dX12_lane_18 (by decide) ?_
      have qx2 : x2.toInt = (M.1 60 0 36).toInt := by rw [ex2]
      exact W.iret (v := (-4)) hx hb hr (fun t ht hW => ⟨⟨(-4), M, rfl, ⟨hI, hE, Or.inr (Or.inl ⟨by first | assumption | (intro h9; exact h9 ‹_›), by omega, zk_m4, rfl⟩)⟩, by show fm_at D ad C nb _ t.heap; rw [ht]; exact hw⟩, hS.F ht⟩) hS.2.2 dX12_lane_20
  · refine lv_bipush (v := (-2)) hx hb dX12_lane_6 (by decide) ?_
    exact W.iret (v := (-2)) hx hb hr (fun t ht hW => ⟨⟨(-2), M, rfl, ⟨hI, hE, Or.inl ⟨by first | assumption | (intro h9; exact h9 ‹_›), zk_m2, rfl⟩⟩, by show fm_at D ad C nb _ t.heap; rw [ht]; exact hw⟩, hS.F ht⟩) hS.2.2 dX12_lane_8
set_option maxHeartbeats 400000 in
set_option maxRecDepth 20000 in
theorem fc_X12_flown (l : Launch) (D : va_G) (ad : Nat → Nat → Nat) (C : Nat → Nat → ClassId) (nb : Nat) (M : fm_M) (hI : fm_I nb ad M) (p0 p1 p2 : Int32) : Met l yX12_flown wsX12_flown ({ frames := 2, cells := 0, slots := 0, locals := 42 }) (va_Pc [.ref (ad 60 0), .int p0, .int p1, .int p2] (fm_P D ad C nb M)) (va_Qi (fun (r : Int32) (u : fm_M) => fm_I nb ad u ∧ fm_same [137000, 138000, 139000] M u ∧ ((¬ (0 ≤ p0.toInt ∧ p0.toInt < (M.1 60 0 16).toInt ∧ ((M.1 110 0 p0.toNatClampNeg).toInt = 2 ∨ (M.1 110 0 p0.toNatClampNeg).toInt = 5) ∧ 0 ≤ p1.toInt ∧ p1.toInt < (M.1 60 0 16).toInt ∧ 0 ≤ p2.toInt ∧ p2.toInt < (M.1 60 0 36).toInt) ∧ r.toInt = -2 ∧ (∀ j : Nat, u.1 139 0 j = M.1 139 0 j)) ∨ ((0 ≤ p0.toInt ∧ p0.toInt < (M.1 60 0 16).toInt ∧ ((M.1 110 0 p0.toNatClampNeg).toInt = 2 ∨ (M.1 110 0 p0.toNatClampNeg).toInt = 5) ∧ 0 ≤ p1.toInt ∧ p1.toInt < (M.1 60 0 16).toInt ∧ 0 ≤ p2.toInt ∧ p2.toInt < (M.1 60 0 36).toInt) ∧ 6 ≤ (M.1 139 0 p1.toNatClampNeg).toInt ∧ r.toInt = -4 ∧ (∀ j : Nat, u.1 139 0 j = M.1 139 0 j)) ∨ ((0 ≤ p0.toInt ∧ p0.toInt < (M.1 60 0 16).toInt ∧ ((M.1 110 0 p0.toNatClampNeg).toInt = 2 ∨ (M.1 110 0 p0.toNatClampNeg).toInt = 5) ∧ 0 ≤ p1.toInt ∧ p1.toInt < (M.1 60 0 16).toInt ∧ 0 ≤ p2.toInt ∧ p2.toInt < (M.1 60 0 36).toInt) ∧ (M.1 139 0 p1.toNatClampNeg).toInt < 6 ∧ r.toInt = (M.1 139 0 p1.toNatClampNeg).toInt + 1 ∧ (∀ j : Nat, u.1 139 0 j = if j = p1.toNatClampNeg then r else M.1 139 0 j)))) (fun u t => fm_at D ad C nb u t.heap) (fm_A nb ad)) 0 0 (fm_A nb ad) := by
  refine Met.ofW (cc := cX12_flown) (maxL := 4) (ret := (some .int)) (by decide) rfl ?_
  intro p e s m args below meth c s₁ B hml hv
  obtain ⟨rfl, hw, hc⟩ := hv
  have hx := B.exec
  have hb := B.bytes
  have hr := B.returns
  have hts := atoms_spec (ws := wsX12_flown) B.pre
  have hown : s.vm.findClass RX12 = some m.cls := findClass_of_methodNamed B.named
  have hinX12 : ∀ w ∈ u_ws RX12 TX12 79, w ∈ wsX12_flown := fun w h => List.mem_cons_of_mem _ (iT_X12 w h)
  have hS : va_S (fm_A nb ad) s.heap s.heap [] := va_S.rf
  have hE : fm_same [137000, 138000, 139000] M M := fm_same.rf
  have hl := lv_entry ([.ref (ad 60 0), .int p0, .int p1, .int p2]) (n := 4) (Nat.le_of_ble_eq_true rfl)
  rw [lg_entry_eq]
  generalize (lg_sl ([.ref (ad 60 0), .int p0, .int p1, .int p2]) ++ List.replicate (4 - (lg_sl ([.ref (ad 60 0), .int p0, .int p1, .int p2])).length) Slot.unset).toArray = ls at hl ⊢
  have hl : lv_has ls 4 [(0, .ref (ad 60 0)), (1, .int p0), (2, .int p1), (3, .int p2)] := hl
  refine lv_aload_n hx hb dX12_flown_0 rfl (lv_at hl 0 rfl) ?_
  refine lv_iload_n hx hb dX12_flown_1 rfl (lv_at hl 1 rfl) ?_
  refine vp_callSi (va_Run.run (va_runV (As := [.int p0]) (rest := []) ⟨hx, hb, hml, hown, hts⟩ (fc_X12_isSeeker l D ad C nb M hI p0) (cwV 1 hts gX12_flown_X12_isSeeker rfl rfl rfl (by decide +kernel) ⟨Nat.le_of_ble_eq_true rfl, Nat.le_of_ble_eq_true rfl⟩) (fm_preV hc hw hS kl_60 sh_60 rfl) rfl rfl hl.1 rfl (lv_room (Nat.le_of_ble_eq_true rfl)) dX12_flown_2 ⟨by decide +kernel, by decide +kernel⟩)) (fun r1 hr1 => ?_)
  have bqq2 := hI.bd (k := 0) bd_60_16
  rcases hr1 with ⟨rfl, c3⟩ | ⟨rfl, c3⟩
  · refine fx_if_eq (tgt := 28) hx hb dX12_flown_5 (by decide) zk_1 (fun c4 => by exfalso; omega) (fun c4 => ?_)
    refine lv_aload_n hx hb dX12_flown_8 rfl (lv_at hl 0 rfl) ?_
    refine lv_iload_n hx hb dX12_flown_9 rfl (lv_at hl 2 rfl) ?_
    refine vp_callSi (va_Run.run (va_runV (As := [.int p1]) (rest := []) ⟨hx, hb, hml, hown, hts⟩ (fc_X12_isBody l D ad C nb M hI p1) (cwV 1 hts gX12_flown_X12_isBody rfl rfl rfl (by decide +kernel) ⟨Nat.le_of_ble_eq_true rfl, Nat.le_of_ble_eq_true rfl⟩) (fm_preV hc hw hS kl_60 sh_60 rfl) rfl rfl hl.1 rfl (lv_room (Nat.le_of_ble_eq_true rfl)) dX12_flown_10 ⟨by decide +kernel, by decide +kernel⟩)) (fun r5 hr5 => ?_)
    have bqq6 := hI.bd (k := 0) bd_60_16
    rcases hr5 with ⟨rfl, c7⟩ | ⟨rfl, c7⟩
    · refine fx_if_eq (tgt := 28) hx hb dX12_flown_13 (by decide) zk_1 (fun c8 => by exfalso; omega) (fun c8 => ?_)
      refine lv_iload_n hx hb dX12_flown_16 rfl (lv_at hl 3 rfl) ?_
      refine fx_if_lt (tgt := 28) hx hb dX12_flown_17 (by decide) rfl (fun c9 => ?_) (fun c9 => ?_)
      · refine lv_bipush (v := (-2)) hx hb dX12_flown_28 (by decide) ?_
        exact W.iret (v := (-2)) hx hb hr (fun t ht hW => ⟨⟨(-2), M, rfl, ⟨hI, hE, Or.inl ⟨by omega, zk_m2, fun _ => rfl⟩⟩, by show fm_at D ad C nb _ t.heap; rw [ht]; exact hw⟩, hS.F ht⟩) hS.2.2 dX12_flown_30
      · refine lv_iload_n hx hb dX12_flown_20 rfl (lv_at hl 3 rfl) ?_
        refine lv_aload_n hx hb dX12_flown_21 rfl (lv_at hl 0 rfl) ?_
        refine fm_getI (a := 60) (j := 36) (T := TX12) (N := 79) hx hb hts hinX12 hown hc hw hI kl_60 sh_60 rfl (by decide) rfl bd_60_36 (hts (.fieldLink RX12 272 "RedTentModel" "laneMany" "I") (List.mem_cons_of_mem _ tw_5_156)) (fun _ h9 => h9) dX12_flown_22 (fun x10 ex10 bx10 => ?_)
        refine fx_icmp_lt (tgt := 31) hx hb dX12_flown_25 (by decide) rfl rfl (fun c11 => ?_) (fun c11 => ?_)
        · refine lv_aload_n hx hb dX12_flown_31 rfl (lv_at hl 0 rfl) ?_
          refine fm_getG (a := 60) (j := 39) (T := TX12) (N := 79) hx hb hts hinX12 hown hc hw kl_60 sh_60 rfl (by decide) rfl (hI.to kl_60 tg_60_39) (hts (.fieldLink RX12 98 "RedTentModel" "flownMany" "[I") (List.mem_cons_of_mem _ tw_5_159)) (fun _ h9 => h9) dX12_flown_32 ?_
          refine lv_iload_n hx hb dX12_flown_35 rfl (lv_at hl 2 rfl) ?_
          refine fm_iald (a := 139) hx hb hc hw hI kl_139 sh_139 ty_139 bd_139 (by omega) dX12_flown_36 (fun x12 ex12 bx12 => ?_)
          refine lv_bipush (v := 6) hx hb dX12_flown_37 (by decide) ?_
          refine fx_icmp_ne (tgt := 45) hx hb dX12_flown_39 (by decide) rfl zk_6 (fun c13 => ?_) (fun c13 => ?_)
          · refine lv_aload_n hx hb dX12_flown_45 rfl (lv_at hl 0 rfl) ?_
            refine fm_getG (a := 60) (j := 37) (T := TX12) (N := 79) hx hb hts hinX12 hown hc hw kl_60 sh_60 rfl (by decide) rfl (hI.to kl_60 tg_60_37) (hts (.fieldLink RX12 92 "RedTentModel" "flownLane" "[I") (List.mem_cons_of_mem _ tw_5_157)) (fun _ h9 => h9) dX12_flown_46 ?_
            refine lv_bipush (v := 6) hx hb dX12_flown_49 (by decide) ?_
            refine lv_iload_n hx hb dX12_flown_51 rfl (lv_at hl 2 rfl) ?_
            refine fx_imul hx hb dX12_flown_52 zk_6 rfl (by omega) (fun y14 ey14 ty14 => ?_)
            refine lv_aload_n hx hb dX12_flown_53 rfl (lv_at hl 0 rfl) ?_
            refine fm_getG (a := 60) (j := 39) (T := TX12) (N := 79) hx hb hts hinX12 hown hc hw kl_60 sh_60 rfl (by decide) rfl (hI.to kl_60 tg_60_39) (hts (.fieldLink RX12 98 "RedTentModel" "flownMany" "[I") (List.mem_cons_of_mem _ tw_5_159)) (fun _ h9 => h9) dX12_flown_54 ?_
            refine lv_iload_n hx hb dX12_flown_57 rfl (lv_at hl 2 rfl) ?_
            refine fm_iald (a := 139) hx hb hc hw hI kl_139 sh_139 ty_139 bd_139 (by omega) dX12_flown_58 (fun x15 ex15 bx15 => ?_)
            obtain rfl : x12 = x15 := by rw [ex15]; exact ex12
            refine fx_iadd hx hb dX12_flown_59 rfl rfl (by omega) (fun y16 ey16 ty16 => ?_)
            refine lv_iload_n hx hb dX12_flown_60 rfl (lv_at hl 3 rfl) ?_
            refine fm_iast (a := 137) hx hb hc hw hI hE hS kl_137 sh_137 ty_137 bd_137 (by omega) (by omega) cd_137 (by decide) dX12_flown_61 (fun M17 H locs eM17 hw hI hE hS => ?_)
            refine lv_aload_n hx hb dX12_flown_62 rfl (lv_at hl 0 rfl) ?_
            refine fm_getG (a := 60) (j := 38) (T := TX12) (N := 79) hx hb hts hinX12 hown hc hw kl_60 sh_60 rfl (by decide) rfl (hI.to kl_60 tg_60_38) (hts (.fieldLink RX12 95 "RedTentModel" "flownFog" "[I") (List.mem_cons_of_mem _ tw_5_158)) (fun _ h9 => h9) dX12_flown_63 ?_
            refine lv_bipush (v := 6) hx hb dX12_flown_66 (by decide) ?_
            refine lv_iload_n hx hb dX12_flown_68 rfl (lv_at hl 2 rfl) ?_
            refine fx_imul hx hb dX12_flown_69 zk_6 rfl (by omega) (fun y18 ey18 ty18 => ?_)
            refine lv_aload_n hx hb dX12_flown_70 rfl (lv_at hl 0 rfl) ?_
            refine fm_getG (a := 60) (j := 39) (T := TX12) (N := 79) hx hb hts hinX12 hown hc hw kl_60 sh_60 rfl (by decide) rfl (hI.to kl_60 tg_60_39) (hts (.fieldLink RX12 98 "RedTentModel" "flownMany" "[I") (List.mem_cons_of_mem _ tw_5_159)) (fun _ h9 => h9) dX12_flown_71 ?_
            refine lv_iload_n hx hb dX12_flown_74 rfl (lv_at hl 2 rfl) ?_
            refine fm_iald (a := 139) hx hb hc hw hI kl_139 sh_139 ty_139 bd_139 (by omega) dX12_flown_75 (fun x19 ex19 bx19 => ?_)
            obtain rfl : x12 = x19 := by rw [ex19, eM17, fm_wI_nj (fun z => absurd z.1 (by decide))]; exact ex12
            refine fx_iadd hx hb dX12_flown_76 rfl rfl (by omega) (fun y20 ey20 ty20 => ?_)
            refine lv_aload_n hx hb dX12_flown_77 rfl (lv_at hl 0 rfl) ?_
            refine lv_aload_n hx hb dX12_flown_78 rfl (lv_at hl 0 rfl) ?_
            refine fm_getI (a := 60) (j := 0) (T := TX12) (N := 79) hx hb hts hinX12 hown hc hw hI kl_60 sh_60 rfl (by decide) rfl bd_60_0 (hts (.fieldLink RX12 201 "RedTentModel" "hour" "I") (List.mem_cons_of_mem _ tw_5_120)) (fun _ h9 => h9) dX12_flown_79 (fun x21 ex21 bx21 => ?_)
            refine vp_callSi (va_Run.run (va_runV (As := [.int x21]) (rest := [.int y20, .ref (ad 138 0)]) ⟨hx, hb, hml, hown, hts⟩ (fc_X12_fogIn l D ad C nb M17 hI x21) (cwV 1 hts gX12_flown_X12_fogIn rfl rfl rfl (by decide +kernel) ⟨Nat.le_of_ble_eq_true rfl, Nat.le_of_ble_eq_true rfl⟩) (fm_preV hc hw hS kl_60 sh_60 rfl) rfl rfl hl.1 rfl (lv_room (Nat.le_of_ble_eq_true rfl)) dX12_flown_82 ⟨by decide +kernel, by decide +kernel⟩)) (fun r22 hr22 => ?_)
            refine fm_iast (a := 138) hx hb hc hw hI hE hS kl_138 sh_138 ty_138 bd_138 (by omega) (by omega) cd_138 (by decide) dX12_flown_85 (fun M23 H locs eM23 hw hI hE hS => ?_)
            refine lv_aload_n hx hb dX12_flown_86 rfl (lv_at hl 0 rfl) ?_
            refine fm_getG (a := 60) (j := 39) (T := TX12) (N := 79) hx hb hts hinX12 hown hc hw kl_60 sh_60 rfl (by decide) rfl (hI.to kl_60 tg_60_39) (hts (.fieldLink RX12 98 "RedTentModel" "flownMany" "[I") (List.mem_cons_of_mem _ tw_5_159)) (fun _ h9 => h9) dX12_flown_87 ?_
            refine lv_iload_n hx hb dX12_flown_90 rfl (lv_at hl 2 rfl) ?_
            refine lv_dup2_11 hx hb dX12_flown_91 rfl rfl ?_
            refine fm_iald (a := 139) hx hb hc hw hI kl_139 sh_139 ty_139 bd_139 (by omega) dX12_flown_92 (fun x24 ex24 bx24 => ?_)
            obtain rfl : x12 = x24 := by rw [ex24, eM23, fm_wI_nj (fun z => absurd z.1 (by decide)), eM17, fm_wI_nj (fun z => absurd z.1 (by decide))]; exact ex12
            refine lv_iconst (v := 1) hx hb dX12_flown_93 (by decide) ?_
            refine fx_iadd hx hb dX12_flown_94 rfl zk_1 (by omega) (fun y25 ey25 ty25 => ?_)
            refine fm_iast (a := 139) hx hb hc hw hI hE hS kl_139 sh_139 ty_139 bd_139 (by omega) (by omega) cd_139 (by decide) dX12_flown_95 (fun M26 H locs eM26 hw hI hE hS => ?_)
            refine lv_aload_n hx hb dX12_flown_96 rfl (lv_at hl 0 rfl) ?_
            refine fm_getG (a := 60) (j := 39) (T := TX12) (N := 79) hx hb hts hinX12 hown hc hw kl_60 sh_60 rfl (by decide) rfl (hI.to kl_60 tg_60_39) (hts (.fieldLink RX12 98 "RedTentModel" "flownMany" "[I") (List.mem_cons_of_mem _ tw_5_159)) (fun _ h9 => h9) dX12_flown_97 ?_
            refine lv_iload_n hx hb dX12_flown_100 rfl (lv_at hl 2 rfl) ?_
            refine fm_iald (a := 139) hx hb hc hw hI kl_139 sh_139 ty_139 bd_139 (by omega) dX12_flown_101 (fun x27 ex27 bx27 => ?_)
            have qx10 : x10.toInt = (M.1 60 0 36).toInt := by rw [ex10]
            have qx12 : x12.toInt = (M.1 139 0 p1.toNatClampNeg).toInt := by rw [ex12]
            have k9 : x27 = y25 := by rw [ex27, eM26, fm_wI_at]
            exact W.iret (v := x27) hx hb hr (fun t ht hW => ⟨⟨x27, M26, rfl, ⟨hI, hE, Or.inr (Or.inr ⟨by omega, by omega, by rw [k9]; omega, fun j => by rw [k9, eM26, fm_wI_ar, eM23, fm_wI_nj (fun z => absurd z.1 (by decide)), eM17, fm_wI_nj (fun z => absurd z.1 (by decide))]⟩)⟩, by show fm_at D ad C nb _ t.heap; rw [ht]; exact hw⟩, hS.F ht⟩) hS.2.2 dX12_flown_102
          · refine lv_bipush (v := (-4)) hx hb dX12_flown_42 (by decide) ?_
            have qx10 : x10.toInt = (M.1 60 0 36).toInt := by rw [ex10]
            have qx12 : x12.toInt = (M.1 139 0 p1.toNatClampNeg).toInt := by rw [ex12]
            exact W.iret (v := (-4)) hx hb hr (fun t ht hW => ⟨⟨(-4), M, rfl, ⟨hI, hE, Or.inr (Or.inl ⟨by omega, by omega, zk_m4, fun _ => rfl⟩)⟩, by show fm_at D ad C nb _ t.heap; rw [ht]; exact hw⟩, hS.F ht⟩) hS.2.2 dX12_flown_44
        · refine lv_bipush (v := (-2)) hx hb dX12_flown_28 (by decide) ?_
          have qx10 : x10.toInt = (M.1 60 0 36).toInt := by rw [ex10]
          exact W.iret (v := (-2)) hx hb hr (fun t ht hW => ⟨⟨(-2), M, rfl, ⟨hI, hE, Or.inl ⟨by omega, zk_m2, fun _ => rfl⟩⟩, by show fm_at D ad C nb _ t.heap; rw [ht]; exact hw⟩, hS.F ht⟩) hS.2.2 dX12_flown_30
    · refine fx_if_eq (tgt := 28) hx hb dX12_flown_13 (by decide) zk_0 (fun c28 => ?_) (fun c28 => by exfalso; omega)
      refine lv_bipush (v := (-2)) hx hb dX12_flown_28 (by decide) ?_
      exact W.iret (v := (-2)) hx hb hr (fun t ht hW => ⟨⟨(-2), M, rfl, ⟨hI, hE, Or.inl ⟨by omega, zk_m2, fun _ => rfl⟩⟩, by show fm_at D ad C nb _ t.heap; rw [ht]; exact hw⟩, hS.F ht⟩) hS.2.2 dX12_flown_30
  · refine fx_if_eq (tgt := 28) hx hb dX12_flown_5 (by decide) zk_0 (fun c29 => ?_) (fun c29 => by exfalso; omega)
    refine lv_bipush (v := (-2)) hx hb dX12_flown_28 (by decide) ?_
    exact W.iret (v := (-2)) hx hb hr (fun t ht hW => ⟨⟨(-2), M, rfl, ⟨hI, hE, Or.inl ⟨by omega, zk_m2, fun _ => rfl⟩⟩, by show fm_at D ad C nb _ t.heap; rw [ht]; exact hw⟩, hS.F ht⟩) hS.2.2 dX12_flown_30
set_option maxHeartbeats 400000 in
set_option maxRecDepth 20000 in
theorem fc_X12_weigh (l : Launch) (D : va_G) (ad : Nat → Nat → Nat) (C : Nat → Nat → ClassId) (nb : Nat) (M : fm_M) (hI : fm_I nb ad M) (p0 : Int32) (b_p0 : 0 ≤ p0.toInt ∧ p0.toInt ≤ 11) : Met l yX12_weigh wsX12_weigh ({ frames := 3, cells := 0, slots := 0, locals := 84 }) (va_Pc [.ref (ad 60 0), .int p0] (fm_P D ad C nb M)) (va_Qv (fun (u : fm_M) => fm_I nb ad u ∧ fm_same [60058, 157000] M u ∧ True) (fun u t => fm_at D ad C nb u t.heap) (fm_A nb ad)) 0 0 (fm_A nb ad) := by
  refine Met.ofW (cc := cX12_weigh) (maxL := 9) (ret := none) (by decide) rfl ?_
  intro p e s m args below meth c s₁ B hml hv
  obtain ⟨rfl, hw, hc⟩ := hv
  have hx := B.exec
  have hb := B.bytes
  have hr := B.returns
  have hts := atoms_spec (ws := wsX12_weigh) B.pre
  have hown : s.vm.findClass RX12 = some m.cls := findClass_of_methodNamed B.named
  have hinX12 : ∀ w ∈ u_ws RX12 TX12 79, w ∈ wsX12_weigh := fun w h => List.mem_cons_of_mem _ (iT_X12 w h)
  have hS : va_S (fm_A nb ad) s.heap s.heap [] := va_S.rf
  have hE : fm_same [60058, 157000] M M := fm_same.rf
  have hl := lv_entry ([.ref (ad 60 0), .int p0]) (n := 9) (Nat.le_of_ble_eq_true rfl)
  rw [lg_entry_eq]
  generalize (lg_sl ([.ref (ad 60 0), .int p0]) ++ List.replicate (9 - (lg_sl ([.ref (ad 60 0), .int p0])).length) Slot.unset).toArray = ls at hl ⊢
  have hl : lv_has ls 9 [(0, .ref (ad 60 0)), (1, .int p0)] := hl
  refine lv_aload_n hx hb dX12_weigh_0 rfl (lv_at hl 0 rfl) ?_
  refine lv_iload_n hx hb dX12_weigh_1 rfl (lv_at hl 1 rfl) ?_
  refine lv_aload_n hx hb dX12_weigh_2 rfl (lv_at hl 0 rfl) ?_
  refine fm_getI (a := 60) (j := 0) (T := TX12) (N := 79) hx hb hts hinX12 hown hc hw hI kl_60 sh_60 rfl (by decide) rfl bd_60_0 (hts (.fieldLink RX12 201 "RedTentModel" "hour" "I") (List.mem_cons_of_mem _ tw_5_120)) (fun _ h9 => h9) dX12_weigh_3 (fun x1 ex1 bx1 => ?_)
  refine lv_aload_n hx hb dX12_weigh_6 rfl (lv_at hl 0 rfl) ?_
  refine fm_getI (a := 60) (j := 0) (T := TX12) (N := 79) hx hb hts hinX12 hown hc hw hI kl_60 sh_60 rfl (by decide) rfl bd_60_0 (hts (.fieldLink RX12 201 "RedTentModel" "hour" "I") (List.mem_cons_of_mem _ tw_5_120)) (fun _ h9 => h9) dX12_weigh_7 (fun x2 ex2 bx2 => ?_)
  obtain rfl : x1 = x2 := by rw [ex2]; exact ex1
  refine vp_callSl (va_Run.run (va_runV (As := [.int p0, .int x1, .int x1]) (rest := []) ⟨hx, hb, hml, hown, hts⟩ (fc_X12_patchOf l D ad C nb M hI p0 x1 x1 (by omega) (by omega)) (cwV 3 hts gX12_weigh_X12_patchOf rfl rfl rfl (by decide +kernel) ⟨Nat.le_of_ble_eq_true rfl, Nat.le_of_ble_eq_true rfl⟩) (fm_preV hc hw hS kl_60 sh_60 rfl) rfl rfl hl.1 rfl (lv_room (Nat.le_of_ble_eq_true rfl)) dX12_weigh_10 ⟨by decide +kernel, by decide +kernel⟩)) (fun r3 hr3 => ?_)
  refine lv_lstore_n (lv' := [(2, .long r3), (0, .ref (ad 60 0)), (1, .int p0)]) hx hb dX12_weigh_13 rfl hl (by decide) rfl (fun ls hl => ?_)
  refine lv_aload_n hx hb dX12_weigh_14 rfl (lv_at hl 1 rfl) ?_
  refine lv_lconst (v := 0) hx hb dX12_weigh_15 (by decide) ?_
  refine fm_putL (a := 60) (j := 58) (T := TX12) (N := 79) hx hb hts hinX12 tyX12 tyX12_ok nmX12 hown hc hw hI hE hS kl_60 sh_60 od_60 rfl (by decide) rfl (hts (.fieldLink RX12 281 "RedTentModel" "allWeigh" "J") (List.mem_cons_of_mem _ tw_5_178)) (fun _ h9 => h9) rfl (by decide +kernel) (by decide) dX12_weigh_16 (fun M4 H locs eM4 hw hI hE hS => ?_)
  refine lv_iconst (v := 0) hx hb dX12_weigh_19 (by decide) ?_
  refine lv_istore (lv' := [(4, .int 0), (2, .long r3), (0, .ref (ad 60 0)), (1, .int p0)]) hx hb dX12_weigh_20 hl (by decide) rfl (fun ls hl => ?_)
  have lq : ∀ (n_lq : Nat) (lq_4 : Int32) (M_lq : fm_M), (64 - lq_4.toInt).toNat < n_lq → (0 ≤ lq_4.toInt ∧ lq_4.toInt ≤ 64) → fm_I nb ad M_lq → fm_same [60058, 157000] M M_lq → ∀ (H : Heap) (locs : List Loc), fm_at D ad C nb M_lq H → va_S (fm_A nb ad) s.heap H locs → ∀ (ls : Array Slot), lv_has ls 9 [(4, .int lq_4), (2, .long r3), (0, .ref (ad 60 0)), (1, .int p0)] → W p l e (headSpec wsX12_weigh ({ frames := 3, cells := 0, slots := 0, locals := 84 })).room s m ([.ref (ad 60 0), .int p0] : List Value).toArray below meth c H locs 0 0 (MQ below (va_Qv (fun (u : fm_M) => fm_I nb ad u ∧ fm_same [60058, 157000] M u ∧ True) (fun u t => fm_at D ad C nb u t.heap) (fm_A nb ad)) ([.ref (ad 60 0), .int p0] : List Value).toArray s 0 0 (fm_A nb ad)) (F0 m 22 ls []) := by
    intro n_lq
    induction n_lq with
    | zero => intro lq_4 M_lq hm_lq b_lq_4 hI hE H locs hw hS ls hl; exact absurd hm_lq (Nat.not_lt_zero _)
    | succ n_lq ih_lq =>
      intro lq_4 M_lq hm_lq b_lq_4 hI hE H locs hw hS ls hl
      refine lv_iload hx hb dX12_weigh_22 (lv_at hl 0 rfl) ?_
      refine lv_bipush (v := 64) hx hb dX12_weigh_24 (by decide) ?_
      refine fx_icmp_ge (tgt := 163) hx hb dX12_weigh_26 (by decide) rfl zk_64 (fun c5 => ?_) (fun c5 => ?_)
      · exact W.vret hx hb hr (fun t ht hW => ⟨⟨M_lq, rfl, ⟨hI, hE, trivial⟩, by show fm_at D ad C nb _ t.heap; rw [ht]; exact hw⟩, hS.F ht⟩) hS.2.2 dX12_weigh_163
      · have j1 : ∀ (j1_5 : Int64) (M_j1 : fm_M), fm_I nb ad M_j1 → fm_same [60058, 157000] M M_j1 → ∀ (H : Heap) (locs : List Loc), fm_at D ad C nb M_j1 H → va_S (fm_A nb ad) s.heap H locs → ∀ (ls : Array Slot), lv_has ls 9 [(4, .int lq_4), (2, .long r3), (0, .ref (ad 60 0)), (1, .int p0), (5, .long j1_5)] → W p l e (headSpec wsX12_weigh ({ frames := 3, cells := 0, slots := 0, locals := 84 })).room s m ([.ref (ad 60 0), .int p0] : List Value).toArray below meth c H locs 0 0 (MQ below (va_Qv (fun (u : fm_M) => fm_I nb ad u ∧ fm_same [60058, 157000] M u ∧ True) (fun u t => fm_at D ad C nb u t.heap) (fm_A nb ad)) ([.ref (ad 60 0), .int p0] : List Value).toArray s 0 0 (fm_A nb ad)) (F0 m 47 ls []) := by
          intro j1_5 M_j1 hI hE H locs hw hS ls hl
          refine lv_iconst (v := 0) hx hb dX12_weigh_47 (by decide) ?_
          refine lv_istore (lv' := [(7, .int 0), (4, .int lq_4), (2, .long r3), (0, .ref (ad 60 0)), (1, .int p0), (5, .long j1_5)]) hx hb dX12_weigh_48 hl (by decide) rfl (fun ls hl => ?_)
          have lp : ∀ (n_lp : Nat) (lp_7 : Int32) (lp_5 : Int64) (M_lp : fm_M), (6 - lp_7.toInt).toNat < n_lp → (0 ≤ lp_7.toInt ∧ lp_7.toInt ≤ 6) → fm_I nb ad M_lp → fm_same [60058, 157000] M M_lp → ∀ (H : Heap) (locs : List Loc), fm_at D ad C nb M_lp H → va_S (fm_A nb ad) s.heap H locs → ∀ (ls : Array Slot), lv_has ls 9 [(7, .int lp_7), (4, .int lq_4), (2, .long r3), (0, .ref (ad 60 0)), (1, .int p0), (5, .long lp_5)] → W p l e (headSpec wsX12_weigh ({ frames := 3, cells := 0, slots := 0, locals := 84 })).room s m ([.ref (ad 60 0), .int p0] : List Value).toArray below meth c H locs 0 0 (MQ below (va_Qv (fun (u : fm_M) => fm_I nb ad u ∧ fm_same [60058, 157000] M u ∧ True) (fun u t => fm_at D ad C nb u t.heap) (fm_A nb ad)) ([.ref (ad 60 0), .int p0] : List Value).toArray s 0 0 (fm_A nb ad)) (F0 m 50 ls []) := by
            intro n_lp
            induction n_lp with
            | zero => intro lp_7 lp_5 M_lp hm_lp b_lp_7 hI hE H locs hw hS ls hl; exact absurd hm_lp (Nat.not_lt_zero _)
            | succ n_lp ih_lp =>
              intro lp_7 lp_5 M_lp hm_lp b_lp_7 hI hE H locs hw hS ls hl
              refine lv_iload hx hb dX12_weigh_50 (lv_at hl 0 rfl) ?_
              refine lv_bipush (v := 6) hx hb dX12_weigh_52 (by decide) ?_
              refine fx_icmp_ge (tgt := 137) hx hb dX12_weigh_54 (by decide) rfl zk_6 (fun c6 => ?_) (fun c6 => ?_)
              · refine lv_aload_n hx hb dX12_weigh_137 rfl (lv_at hl 3 rfl) ?_
                refine fm_getG (a := 60) (j := 57) (T := TX12) (N := 79) hx hb hts hinX12 hown hc hw kl_60 sh_60 rfl (by decide) rfl (hI.to kl_60 tg_60_57) (hts (.fieldLink RX12 134 "RedTentModel" "weight" "[J") (List.mem_cons_of_mem _ tw_5_177)) (fun _ h9 => h9) dX12_weigh_138 ?_
                refine lv_iload hx hb dX12_weigh_141 (lv_at hl 1 rfl) ?_
                refine lv_lload hx hb dX12_weigh_143 (lv_at hl 5 rfl) ?_
                refine fm_last (a := 157) hx hb hc hw hI hE hS kl_157 sh_157 ty_157 (by omega) cd_157 (by decide) dX12_weigh_145 (fun M7 H locs eM7 hw hI hE hS => ?_)
                refine lv_aload_n hx hb dX12_weigh_146 rfl (lv_at hl 3 rfl) ?_
                refine lv_dup hx hb dX12_weigh_147 rfl ?_
                refine fm_getL (a := 60) (j := 58) (T := TX12) (N := 79) hx hb hts hinX12 hown hc hw kl_60 sh_60 rfl (by decide) rfl (hts (.fieldLink RX12 281 "RedTentModel" "allWeigh" "J") (List.mem_cons_of_mem _ tw_5_178)) (fun _ h9 => h9) dX12_weigh_148 (fun x8 ex8 => ?_)
                refine lv_lload hx hb dX12_weigh_151 (lv_at hl 5 rfl) ?_
                refine lv_ladd hx hb dX12_weigh_153 ?_
                refine lv_topl (fun y9 ey9 => ?_)
                refine fm_putL (a := 60) (j := 58) (T := TX12) (N := 79) hx hb hts hinX12 tyX12 tyX12_ok nmX12 hown hc hw hI hE hS kl_60 sh_60 od_60 rfl (by decide) rfl (hts (.fieldLink RX12 281 "RedTentModel" "allWeigh" "J") (List.mem_cons_of_mem _ tw_5_178)) (fun _ h9 => h9) rfl (by decide +kernel) (by decide) dX12_weigh_154 (fun M10 H locs eM10 hw hI hE hS => ?_)
                obtain ⟨y11, ey11⟩ : ∃ y : Int32, y = lq_4 + 1 := ⟨_, rfl⟩
                have ty11 : y11.toInt = lq_4.toInt + 1 := by rw [ey11, zi_add _ _ (by rw [zk_1]; omega) (by rw [zk_1]; omega), zk_1]
                refine lv_iinc (v := y11) (lv' := [(4, .int y11), (7, .int lp_7), (2, .long r3), (0, .ref (ad 60 0)), (1, .int p0), (5, .long lp_5)]) hx hb dX12_weigh_157 hl (k := 1) rfl (by rw [ey11]; rfl) (by decide) rfl (fun ls hl => ?_)
                refine lv_goto (tgt := 22) hx hb dX12_weigh_160 (by decide) ?_
                exact ih_lq y11 M10 (by omega) (by omega) hI hE _ _ hw hS ls (lv_sub hl [0, 2, 3, 4] rfl)
              · have j2 : ∀ (j2_8 : Int32) (M_j2 : fm_M), (0 ≤ j2_8.toInt ∧ j2_8.toInt ≤ 1) → fm_I nb ad M_j2 → fm_same [60058, 157000] M M_j2 → ∀ (H : Heap) (locs : List Loc), fm_at D ad C nb M_j2 H → va_S (fm_A nb ad) s.heap H locs → ∀ (ls : Array Slot), lv_has ls 9 [(7, .int lp_7), (4, .int lq_4), (2, .long r3), (0, .ref (ad 60 0)), (1, .int p0), (5, .long lp_5), (8, .int j2_8)] → W p l e (headSpec wsX12_weigh ({ frames := 3, cells := 0, slots := 0, locals := 84 })).room s m ([.ref (ad 60 0), .int p0] : List Value).toArray below meth c H locs 0 0 (MQ below (va_Qv (fun (u : fm_M) => fm_I nb ad u ∧ fm_same [60058, 157000] M u ∧ True) (fun u t => fm_at D ad C nb u t.heap) (fm_A nb ad)) ([.ref (ad 60 0), .int p0] : List Value).toArray s 0 0 (fm_A nb ad)) (F0 m 102 ls []) := by
                  intro j2_8 M_j2 b_j2_8 hI hE H locs hw hS ls hl
                  refine lv_lload hx hb dX12_weigh_102 (lv_at hl 5 rfl) ?_
                  refine lv_iload hx hb dX12_weigh_104 (lv_at hl 6 rfl) ?_
                  refine fx_if_eq (tgt := 125) hx hb dX12_weigh_106 (by decide) rfl (fun c12 => ?_) (fun c12 => ?_)
                  · refine lv_ldc2 (v := 16) hx hb hown (hts (.constantLong RX12 285 (16)) (List.mem_cons_of_mem _ tw_7_15)) dX12_weigh_125 ?_
                    refine lv_lmul hx hb dX12_weigh_128 ?_
                    refine lv_topl (fun y13 ey13 => ?_)
                    refine lv_lstore (lv' := [(5, .long y13), (7, .int lp_7), (4, .int lq_4), (2, .long r3), (0, .ref (ad 60 0)), (1, .int p0), (8, .int j2_8)]) hx hb dX12_weigh_129 hl (by decide) rfl (fun ls hl => ?_)
                    obtain ⟨y14, ey14⟩ : ∃ y : Int32, y = lp_7 + 1 := ⟨_, rfl⟩
                    have ty14 : y14.toInt = lp_7.toInt + 1 := by rw [ey14, zi_add _ _ (by rw [zk_1]; omega) (by rw [zk_1]; omega), zk_1]
                    refine lv_iinc (v := y14) (lv' := [(7, .int y14), (5, .long y13), (4, .int lq_4), (2, .long r3), (0, .ref (ad 60 0)), (1, .int p0), (8, .int j2_8)]) hx hb dX12_weigh_131 hl (k := 1) rfl (by rw [ey14]; rfl) (by decide) rfl (fun ls hl => ?_)
                    refine lv_goto (tgt := 50) hx hb dX12_weigh_134 (by decide) ?_
                    exact ih_lp y14 y13 M_j2 (by omega) (by omega) hI hE _ _ hw hS ls (lv_sub hl [0, 2, 3, 4, 5, 1] rfl)
                  · refine lv_aload_n hx hb dX12_weigh_109 rfl (lv_at hl 3 rfl) ?_
                    refine fm_getG (a := 60) (j := 38) (T := TX12) (N := 79) hx hb hts hinX12 hown hc hw kl_60 sh_60 rfl (by decide) rfl (hI.to kl_60 tg_60_38) (hts (.fieldLink RX12 95 "RedTentModel" "flownFog" "[I") (List.mem_cons_of_mem _ tw_5_158)) (fun _ h9 => h9) dX12_weigh_110 ?_
                    refine lv_bipush (v := 6) hx hb dX12_weigh_113 (by decide) ?_
                    refine lv_iload_n hx hb dX12_weigh_115 rfl (lv_at hl 4 rfl) ?_
                    refine fx_imul hx hb dX12_weigh_116 zk_6 rfl (by omega) (fun y15 ey15 ty15 => ?_)
                    refine lv_iload hx hb dX12_weigh_117 (lv_at hl 0 rfl) ?_
                    refine fx_iadd hx hb dX12_weigh_119 rfl rfl (by omega) (fun y16 ey16 ty16 => ?_)
                    refine fm_iald (a := 138) hx hb hc hw hI kl_138 sh_138 ty_138 bd_138 (by omega) dX12_weigh_120 (fun x17 ex17 bx17 => ?_)
                    refine fx_i2l hx hb dX12_weigh_121 rfl (fun y18 ey18 ty18 => ?_)
                    refine lv_goto (tgt := 128) hx hb dX12_weigh_122 (by decide) ?_
                    refine lv_lmul hx hb dX12_weigh_128 ?_
                    refine lv_topl (fun y19 ey19 => ?_)
                    refine lv_lstore (lv' := [(5, .long y19), (7, .int lp_7), (4, .int lq_4), (2, .long r3), (0, .ref (ad 60 0)), (1, .int p0), (8, .int j2_8)]) hx hb dX12_weigh_129 hl (by decide) rfl (fun ls hl => ?_)
                    obtain ⟨y20, ey20⟩ : ∃ y : Int32, y = lp_7 + 1 := ⟨_, rfl⟩
                    have ty20 : y20.toInt = lp_7.toInt + 1 := by rw [ey20, zi_add _ _ (by rw [zk_1]; omega) (by rw [zk_1]; omega), zk_1]
                    refine lv_iinc (v := y20) (lv' := [(7, .int y20), (5, .long y19), (4, .int lq_4), (2, .long r3), (0, .ref (ad 60 0)), (1, .int p0), (8, .int j2_8)]) hx hb dX12_weigh_131 hl (k := 1) rfl (by rw [ey20]; rfl) (by decide) rfl (fun ls hl => ?_)
                    refine lv_goto (tgt := 50) hx hb dX12_weigh_134 (by decide) ?_
                    exact ih_lp y20 y19 M_j2 (by omega) (by omega) hI hE _ _ hw hS ls (lv_sub hl [0, 2, 3, 4, 5, 1] rfl)
                refine lv_iload hx hb dX12_weigh_57 (lv_at hl 0 rfl) ?_
                refine lv_aload_n hx hb dX12_weigh_59 rfl (lv_at hl 3 rfl) ?_
                refine fm_getG (a := 60) (j := 39) (T := TX12) (N := 79) hx hb hts hinX12 hown hc hw kl_60 sh_60 rfl (by decide) rfl (hI.to kl_60 tg_60_39) (hts (.fieldLink RX12 98 "RedTentModel" "flownMany" "[I") (List.mem_cons_of_mem _ tw_5_159)) (fun _ h9 => h9) dX12_weigh_60 ?_
                refine lv_iload_n hx hb dX12_weigh_63 rfl (lv_at hl 4 rfl) ?_
                refine fm_iald (a := 139) hx hb hc hw hI kl_139 sh_139 ty_139 bd_139 (by omega) dX12_weigh_64 (fun x21 ex21 bx21 => ?_)
                refine fx_icmp_ge (tgt := 99) hx hb dX12_weigh_65 (by decide) rfl rfl (fun c22 => ?_) (fun c22 => ?_)
                · refine lv_iconst (v := 0) hx hb dX12_weigh_99 (by decide) ?_
                  refine lv_istore (lv' := [(8, .int 0), (7, .int lp_7), (4, .int lq_4), (2, .long r3), (0, .ref (ad 60 0)), (1, .int p0), (5, .long lp_5)]) hx hb dX12_weigh_100 hl (by decide) rfl (fun ls hl => ?_)
                  exact j2 0 M_lp (by decide) hI hE _ _ hw hS ls (lv_sub hl [1, 2, 3, 4, 5, 6, 0] rfl)
                · refine lv_aload_n hx hb dX12_weigh_68 rfl (lv_at hl 3 rfl) ?_
                  refine fm_getG (a := 60) (j := 35) (T := TX12) (N := 79) hx hb hts hinX12 hown hc hw kl_60 sh_60 rfl (by decide) rfl (hI.to kl_60 tg_60_35) (hts (.fieldLink RX12 89 "RedTentModel" "lanes" "[J") (List.mem_cons_of_mem _ tw_5_155)) (fun _ h9 => h9) dX12_weigh_69 ?_
                  refine lv_aload_n hx hb dX12_weigh_72 rfl (lv_at hl 3 rfl) ?_
                  refine fm_getG (a := 60) (j := 37) (T := TX12) (N := 79) hx hb hts hinX12 hown hc hw kl_60 sh_60 rfl (by decide) rfl (hI.to kl_60 tg_60_37) (hts (.fieldLink RX12 92 "RedTentModel" "flownLane" "[I") (List.mem_cons_of_mem _ tw_5_157)) (fun _ h9 => h9) dX12_weigh_73 ?_
                  refine lv_bipush (v := 6) hx hb dX12_weigh_76 (by decide) ?_
                  refine lv_iload_n hx hb dX12_weigh_78 rfl (lv_at hl 4 rfl) ?_
                  refine fx_imul hx hb dX12_weigh_79 zk_6 rfl (by omega) (fun y23 ey23 ty23 => ?_)
                  refine lv_iload hx hb dX12_weigh_80 (lv_at hl 0 rfl) ?_
                  refine fx_iadd hx hb dX12_weigh_82 rfl rfl (by omega) (fun y24 ey24 ty24 => ?_)
                  refine fm_iald (a := 137) hx hb hc hw hI kl_137 sh_137 ty_137 bd_137 (by omega) dX12_weigh_83 (fun x25 ex25 bx25 => ?_)
                  refine fm_lald (a := 135) hx hb hc hw kl_135 sh_135 ty_135 (by omega) dX12_weigh_84 (fun x26 ex26 => ?_)
                  refine lv_iload hx hb dX12_weigh_85 (lv_at hl 1 rfl) ?_
                  refine lv_lushr (v := (x26.toUInt64 >>> (lq_4.toInt64.toUInt64 &&& Int64.toUInt64 63)).toInt64) hx hb dX12_weigh_87 rfl ?_
                  refine lv_topl (fun y27 ey27 => ?_)
                  refine lv_lconst (v := 1) hx hb dX12_weigh_88 (by decide) ?_
                  refine lv_land hx hb dX12_weigh_89 ?_
                  refine lv_topl (fun y28 ey28 => ?_)
                  refine lv_lconst (v := 1) hx hb dX12_weigh_90 (by decide) ?_
                  refine W.lcmp hx hb dX12_weigh_91 ?_
                  refine fx_lif_ne (tgt := 99) hx hb dX12_weigh_92 (by decide) (fun c29 => ?_) (fun c29 => ?_)
                  · refine lv_iconst (v := 0) hx hb dX12_weigh_99 (by decide) ?_
                    refine lv_istore (lv' := [(8, .int 0), (7, .int lp_7), (4, .int lq_4), (2, .long r3), (0, .ref (ad 60 0)), (1, .int p0), (5, .long lp_5)]) hx hb dX12_weigh_100 hl (by decide) rfl (fun ls hl => ?_)
                    exact j2 0 M_lp (by decide) hI hE _ _ hw hS ls (lv_sub hl [1, 2, 3, 4, 5, 6, 0] rfl)
                  · refine lv_iconst (v := 1) hx hb dX12_weigh_95 (by decide) ?_
                    refine lv_goto (tgt := 100) hx hb dX12_weigh_96 (by decide) ?_
                    refine lv_istore (lv' := [(8, .int 1), (7, .int lp_7), (4, .int lq_4), (2, .long r3), (0, .ref (ad 60 0)), (1, .int p0), (5, .long lp_5)]) hx hb dX12_weigh_100 hl (by decide) rfl (fun ls hl => ?_)
                    exact j2 1 M_lp (by decide) hI hE _ _ hw hS ls (lv_sub hl [1, 2, 3, 4, 5, 6, 0] rfl)
          exact lp _ 0 j1_5 M_j1 (Nat.lt_succ_self _) (by decide) hI hE _ _ hw hS ls (lv_sub hl [0, 1, 2, 3, 4, 5] rfl)
        refine lv_lload_n hx hb dX12_weigh_29 rfl (lv_at hl 1 rfl) ?_
        refine lv_iload hx hb dX12_weigh_30 (lv_at hl 0 rfl) ?_
        refine lv_lushr (v := (r3.toUInt64 >>> (lq_4.toInt64.toUInt64 &&& Int64.toUInt64 63)).toInt64) hx hb dX12_weigh_32 rfl ?_
        refine lv_topl (fun y30 ey30 => ?_)
        refine lv_lconst (v := 1) hx hb dX12_weigh_33 (by decide) ?_
        refine lv_land hx hb dX12_weigh_34 ?_
        refine lv_topl (fun y31 ey31 => ?_)
        refine lv_lconst (v := 1) hx hb dX12_weigh_35 (by decide) ?_
        refine W.lcmp hx hb dX12_weigh_36 ?_
        refine fx_lif_ne (tgt := 44) hx hb dX12_weigh_37 (by decide) (fun c32 => ?_) (fun c32 => ?_)
        · refine lv_lconst (v := 0) hx hb dX12_weigh_44 (by decide) ?_
          refine lv_lstore (lv' := [(5, .long 0), (4, .int lq_4), (2, .long r3), (0, .ref (ad 60 0)), (1, .int p0)]) hx hb dX12_weigh_45 hl (by decide) rfl (fun ls hl => ?_)
          exact j1 0 M_lq hI hE _ _ hw hS ls (lv_sub hl [1, 2, 3, 4, 0] rfl)
        · refine lv_lconst (v := 1) hx hb dX12_weigh_40 (by decide) ?_
          refine lv_goto (tgt := 45) hx hb dX12_weigh_41 (by decide) ?_
          refine lv_lstore (lv' := [(5, .long 1), (4, .int lq_4), (2, .long r3), (0, .ref (ad 60 0)), (1, .int p0)]) hx hb dX12_weigh_45 hl (by decide) rfl (fun ls hl => ?_)
          exact j1 1 M_lq hI hE _ _ hw hS ls (lv_sub hl [1, 2, 3, 4, 0] rfl)
  exact lq _ 0 M4 (Nat.lt_succ_self _) (by decide) hI hE _ _ hw hS ls (lv_sub hl [0, 1, 2, 3] rfl)
set_option maxHeartbeats 400000 in
set_option maxRecDepth 20000 in
theorem fc_X12_share (l : Launch) (D : va_G) (ad : Nat → Nat → Nat) (C : Nat → Nat → ClassId) (nb : Nat) (M : fm_M) (hI : fm_I nb ad M) (p0 p1 p2 : Int32) : Met l yX12_share wsX12_share ({ frames := 4, cells := 0, slots := 0, locals := 112 }) (va_Pc [.ref (ad 60 0), .int p0, .int p1, .int p2] (fm_P D ad C nb M)) (va_Ql (fun (r : Int64) (u : fm_M) => fm_I nb ad u ∧ fm_same [60058, 157000] M u ∧ True) (fun u t => fm_at D ad C nb u t.heap) (fm_A nb ad)) 0 0 (fm_A nb ad) := by
  refine Met.ofW (cc := cX12_share) (maxL := 6) (ret := (some .long)) (by decide) rfl ?_
  intro p e s m args below meth c s₁ B hml hv
  obtain ⟨rfl, hw, hc⟩ := hv
  have hx := B.exec
  have hb := B.bytes
  have hr := B.returns
  have hts := atoms_spec (ws := wsX12_share) B.pre
  have hown : s.vm.findClass RX12 = some m.cls := findClass_of_methodNamed B.named
  have hinX12 : ∀ w ∈ u_ws RX12 TX12 79, w ∈ wsX12_share := fun w h => List.mem_cons_of_mem _ (iT_X12 w h)
  have hS : va_S (fm_A nb ad) s.heap s.heap [] := va_S.rf
  have hE : fm_same [60058, 157000] M M := fm_same.rf
  have hl := lv_entry ([.ref (ad 60 0), .int p0, .int p1, .int p2]) (n := 6) (Nat.le_of_ble_eq_true rfl)
  rw [lg_entry_eq]
  generalize (lg_sl ([.ref (ad 60 0), .int p0, .int p1, .int p2]) ++ List.replicate (6 - (lg_sl ([.ref (ad 60 0), .int p0, .int p1, .int p2])).length) Slot.unset).toArray = ls at hl ⊢
  have hl : lv_has ls 6 [(0, .ref (ad 60 0)), (1, .int p0), (2, .int p1), (3, .int p2)] := hl
  refine lv_aload_n hx hb dX12_share_0 rfl (lv_at hl 0 rfl) ?_
  refine lv_iload_n hx hb dX12_share_1 rfl (lv_at hl 1 rfl) ?_
  refine vp_callSi (va_Run.run (va_runV (As := [.int p0]) (rest := []) ⟨hx, hb, hml, hown, hts⟩ (fc_X12_isBody l D ad C nb M hI p0) (cwV 1 hts gX12_share_X12_isBody rfl rfl rfl (by decide +kernel) ⟨Nat.le_of_ble_eq_true rfl, Nat.le_of_ble_eq_true rfl⟩) (fm_preV hc hw hS kl_60 sh_60 rfl) rfl rfl hl.1 rfl (lv_room (Nat.le_of_ble_eq_true rfl)) dX12_share_2 ⟨by decide +kernel, by decide +kernel⟩)) (fun r1 hr1 => ?_)
  have bqq2 := hI.bd (k := 0) bd_60_16
  rcases hr1 with ⟨rfl, c3⟩ | ⟨rfl, c3⟩
  · refine fx_if_eq (tgt := 24) hx hb dX12_share_5 (by decide) zk_1 (fun c4 => by exfalso; omega) (fun c4 => ?_)
    refine lv_iload_n hx hb dX12_share_8 rfl (lv_at hl 2 rfl) ?_
    refine vp_callSi (va_Run.run (va_runS (As := [.int p1]) (rest := []) ⟨hx, hb, hml, hown, hts⟩ (fc_X12_isCell l p1) (va_cwS 1 hts gX12_share_X12_isCell rfl rfl rfl (by decide +kernel) ⟨Nat.le_of_ble_eq_true rfl, Nat.le_of_ble_eq_true rfl⟩) ⟨fun a U g mk q => q, fun U hU hW => ⟨rfl, trivial⟩⟩ rfl rfl hl.1 rfl (lv_room (Nat.le_of_ble_eq_true rfl)) dX12_share_9 ⟨by decide +kernel, by decide +kernel⟩)) (fun r5 hr5 => ?_)
    rcases hr5 with ⟨rfl, c6⟩ | ⟨rfl, c6⟩
    · refine fx_if_eq (tgt := 24) hx hb dX12_share_12 (by decide) zk_1 (fun c7 => by exfalso; omega) (fun c7 => ?_)
      refine lv_iload_n hx hb dX12_share_15 rfl (lv_at hl 3 rfl) ?_
      refine lv_iconst (v := 0) hx hb dX12_share_16 (by decide) ?_
      refine lv_iconst (v := 1) hx hb dX12_share_17 (by decide) ?_
      have zz8 := zk_0
      have zz9 := zk_1
      refine vp_callSi (va_Run.run (va_runS (As := [.int p2, .int 0, .int 1]) (rest := []) ⟨hx, hb, hml, hown, hts⟩ (fc_X12_within l p2 0 1) (va_cwS 3 hts gX12_share_X12_within rfl rfl rfl (by decide +kernel) ⟨Nat.le_of_ble_eq_true rfl, Nat.le_of_ble_eq_true rfl⟩) ⟨fun a U g mk q => q, fun U hU hW => ⟨rfl, trivial⟩⟩ rfl rfl hl.1 rfl (lv_room (Nat.le_of_ble_eq_true rfl)) dX12_share_18 ⟨by decide +kernel, by decide +kernel⟩)) (fun r10 hr10 => ?_)
      rcases hr10 with ⟨rfl, c11⟩ | ⟨rfl, c11⟩
      · refine fx_if_ne (tgt := 28) hx hb dX12_share_21 (by decide) zk_1 (fun c12 => ?_) (fun c12 => by exfalso; omega)
        refine lv_aload_n hx hb dX12_share_28 rfl (lv_at hl 0 rfl) ?_
        refine lv_iload_n hx hb dX12_share_29 rfl (lv_at hl 1 rfl) ?_
        refine fm_cv (va_runV (As := [.int p0]) (rest := []) ⟨hx, hb, hml, hown, hts⟩ (fc_X12_weigh l D ad C nb M hI p0 (by omega)) (cwV 1 hts gX12_share_X12_weigh rfl rfl rfl (by decide +kernel) ⟨Nat.le_of_ble_eq_true rfl, Nat.le_of_ble_eq_true rfl⟩) (fm_preV hc hw hS kl_60 sh_60 rfl) rfl rfl hl.1 rfl (lv_room (Nat.le_of_ble_eq_true rfl)) dX12_share_30 ⟨by decide +kernel, by decide +kernel⟩) hS hc (fun M14 H locs hr13 hw hS => ?_)
        obtain ⟨hI, hEM14, hr13⟩ := hr13
        have hE := hE.tr hEM14 (by decide)
        refine lv_aload_n hx hb dX12_share_33 rfl (lv_at hl 0 rfl) ?_
        refine fm_getG (a := 60) (j := 57) (T := TX12) (N := 79) hx hb hts hinX12 hown hc hw kl_60 sh_60 rfl (by decide) rfl (hI.to kl_60 tg_60_57) (hts (.fieldLink RX12 134 "RedTentModel" "weight" "[J") (List.mem_cons_of_mem _ tw_5_177)) (fun _ h9 => h9) dX12_share_34 ?_
        refine lv_iload_n hx hb dX12_share_37 rfl (lv_at hl 2 rfl) ?_
        refine fm_lald (a := 157) hx hb hc hw kl_157 sh_157 ty_157 (by omega) dX12_share_38 (fun x15 ex15 => ?_)
        refine lv_lconst (v := 0) hx hb dX12_share_39 (by decide) ?_
        refine W.lcmp hx hb dX12_share_40 ?_
        refine fx_lif_ne (tgt := 47) hx hb dX12_share_41 (by decide) (fun c16 => ?_) (fun c16 => ?_)
        · refine lv_aload_n hx hb dX12_share_47 rfl (lv_at hl 0 rfl) ?_
          refine fm_getL (a := 60) (j := 58) (T := TX12) (N := 79) hx hb hts hinX12 hown hc hw kl_60 sh_60 rfl (by decide) rfl (hts (.fieldLink RX12 281 "RedTentModel" "allWeigh" "J") (List.mem_cons_of_mem _ tw_5_178)) (fun _ h9 => h9) dX12_share_48 (fun x17 ex17 => ?_)
          refine lv_aload_n hx hb dX12_share_51 rfl (lv_at hl 0 rfl) ?_
          refine fm_getG (a := 60) (j := 57) (T := TX12) (N := 79) hx hb hts hinX12 hown hc hw kl_60 sh_60 rfl (by decide) rfl (hI.to kl_60 tg_60_57) (hts (.fieldLink RX12 134 "RedTentModel" "weight" "[J") (List.mem_cons_of_mem _ tw_5_177)) (fun _ h9 => h9) dX12_share_52 ?_
          refine lv_iload_n hx hb dX12_share_55 rfl (lv_at hl 2 rfl) ?_
          refine fm_lald (a := 157) hx hb hc hw kl_157 sh_157 ty_157 (by omega) dX12_share_56 (fun x18 ex18 => ?_)
          obtain rfl : x15 = x18 := by rw [ex18]; exact ex15
          refine vp_callSl (va_Run.run (va_runS (As := [.long x17, .long x15]) (rest := []) ⟨hx, hb, hml, hown, hts⟩ (fc_X12_divisor l x17 x15) (va_cwS 2 hts gX12_share_X12_divisor rfl rfl rfl (by decide +kernel) ⟨Nat.le_of_ble_eq_true rfl, Nat.le_of_ble_eq_true rfl⟩) ⟨fun a U g mk q => q, fun U hU hW => ⟨rfl, trivial⟩⟩ rfl rfl hl.1 rfl (lv_room (Nat.le_of_ble_eq_true rfl)) dX12_share_57 ⟨by decide +kernel, by decide +kernel⟩)) (fun r19 hr19 => ?_)
          have nr19 := hr19 (by assumption)
          refine lv_lstore (lv' := [(4, .long r19), (0, .ref (ad 60 0)), (1, .int p0), (2, .int p1), (3, .int p2)]) hx hb dX12_share_60 hl (by decide) rfl (fun ls hl => ?_)
          refine lv_iload_n hx hb dX12_share_62 rfl (lv_at hl 4 rfl) ?_
          refine fx_if_ne (tgt := 78) hx hb dX12_share_63 (by decide) rfl (fun c20 => ?_) (fun c20 => ?_)
          · refine lv_aload_n hx hb dX12_share_78 rfl (lv_at hl 1 rfl) ?_
            refine fm_getL (a := 60) (j := 58) (T := TX12) (N := 79) hx hb hts hinX12 hown hc hw kl_60 sh_60 rfl (by decide) rfl (hts (.fieldLink RX12 281 "RedTentModel" "allWeigh" "J") (List.mem_cons_of_mem _ tw_5_178)) (fun _ h9 => h9) dX12_share_79 (fun x21 ex21 => ?_)
            obtain rfl : x17 = x21 := by rw [ex21]; exact ex17
            refine lv_lload hx hb dX12_share_82 (lv_at hl 0 rfl) ?_
            refine lv_ldiv hx hb dX12_share_84 (by assumption) ?_
            refine lv_topl (fun y22 ey22 => ?_)
            exact W.lret (v := y22) hx hb hr (fun t ht hW => ⟨⟨y22, M14, rfl, ⟨hI, hE, trivial⟩, by show fm_at D ad C nb _ t.heap; rw [ht]; exact hw⟩, hS.F ht⟩) hS.2.2 dX12_share_85
          · refine lv_aload_n hx hb dX12_share_66 rfl (lv_at hl 1 rfl) ?_
            refine fm_getG (a := 60) (j := 57) (T := TX12) (N := 79) hx hb hts hinX12 hown hc hw kl_60 sh_60 rfl (by decide) rfl (hI.to kl_60 tg_60_57) (hts (.fieldLink RX12 134 "RedTentModel" "weight" "[J") (List.mem_cons_of_mem _ tw_5_177)) (fun _ h9 => h9) dX12_share_67 ?_
            refine lv_iload_n hx hb dX12_share_70 rfl (lv_at hl 3 rfl) ?_
            refine fm_lald (a := 157) hx hb hc hw kl_157 sh_157 ty_157 (by omega) dX12_share_71 (fun x23 ex23 => ?_)
            obtain rfl : x15 = x23 := by rw [ex23]; exact ex15
            refine lv_lload hx hb dX12_share_72 (lv_at hl 0 rfl) ?_
            refine lv_ldiv hx hb dX12_share_74 (by assumption) ?_
            refine lv_topl (fun y24 ey24 => ?_)
            refine lv_goto (tgt := 85) hx hb dX12_share_75 (by decide) ?_
            exact W.lret (v := y24) hx hb hr (fun t ht hW => ⟨⟨y24, M14, rfl, ⟨hI, hE, trivial⟩, by show fm_at D ad C nb _ t.heap; rw [ht]; exact hw⟩, hS.F ht⟩) hS.2.2 dX12_share_85
        · refine lv_iload_n hx hb dX12_share_44 rfl (lv_at hl 3 rfl) ?_
          refine fx_i2l hx hb dX12_share_45 rfl (fun y25 ey25 ty25 => ?_)
          exact W.lret (v := y25) hx hb hr (fun t ht hW => ⟨⟨y25, M14, rfl, ⟨hI, hE, trivial⟩, by show fm_at D ad C nb _ t.heap; rw [ht]; exact hw⟩, hS.F ht⟩) hS.2.2 dX12_share_46
      · refine fx_if_ne (tgt := 28) hx hb dX12_share_21 (by decide) zk_0 (fun c26 => by exfalso; omega) (fun c26 => ?_)
        refine lv_ldc2 (v := (-4611686018427387904)) hx hb hown (hts (.constantLong RX12 236 (-4611686018427387904)) (List.mem_cons_of_mem _ tw_6_163)) dX12_share_24 ?_
        exact W.lret (v := (-4611686018427387904)) hx hb hr (fun t ht hW => ⟨⟨(-4611686018427387904), M, rfl, ⟨hI, hE, trivial⟩, by show fm_at D ad C nb _ t.heap; rw [ht]; exact hw⟩, hS.F ht⟩) hS.2.2 dX12_share_27
    · refine fx_if_eq (tgt := 24) hx hb dX12_share_12 (by decide) zk_0 (fun c27 => ?_) (fun c27 => by exfalso; omega)
      refine lv_ldc2 (v := (-4611686018427387904)) hx hb hown (hts (.constantLong RX12 236 (-4611686018427387904)) (List.mem_cons_of_mem _ tw_6_163)) dX12_share_24 ?_
      exact W.lret (v := (-4611686018427387904)) hx hb hr (fun t ht hW => ⟨⟨(-4611686018427387904), M, rfl, ⟨hI, hE, trivial⟩, by show fm_at D ad C nb _ t.heap; rw [ht]; exact hw⟩, hS.F ht⟩) hS.2.2 dX12_share_27
  · refine fx_if_eq (tgt := 24) hx hb dX12_share_5 (by decide) zk_0 (fun c28 => ?_) (fun c28 => by exfalso; omega)
    refine lv_ldc2 (v := (-4611686018427387904)) hx hb hown (hts (.constantLong RX12 236 (-4611686018427387904)) (List.mem_cons_of_mem _ tw_6_163)) dX12_share_24 ?_
    exact W.lret (v := (-4611686018427387904)) hx hb hr (fun t ht hW => ⟨⟨(-4611686018427387904), M, rfl, ⟨hI, hE, trivial⟩, by show fm_at D ad C nb _ t.heap; rw [ht]; exact hw⟩, hS.F ht⟩) hS.2.2 dX12_share_27
set_option maxHeartbeats 400000 in
set_option maxRecDepth 20000 in
theorem fc_X12_partFrom3 (l : Launch) (D : va_G) (ad : Nat → Nat → Nat) (C : Nat → Nat → ClassId) (nb : Nat) (M : fm_M) (hI : fm_I nb ad M) (p0 p1 : Int32) (p2 : Int64) (b_p0 : 3 ≤ p0.toInt ∧ p0.toInt ≤ 3) : Met l yX12_partFrom wsX12_partFrom ({ frames := 0, cells := 0, slots := 0, locals := 0 }) (va_Pc [.ref (ad 60 0), .int 3, .int p0, .int p1, .long p2] (fm_P D ad C nb M)) (va_Qv (fun (u : fm_M) => fm_I nb ad u ∧ fm_same [60061, 160000] M u ∧ True) (fun u t => fm_at D ad C nb u t.heap) (fm_A nb ad)) 0 0 (fm_A nb ad) := by
  refine Met.ofW (cc := cX12_partFrom) (maxL := 9) (ret := none) (by decide) rfl ?_
  intro p e s m args below meth c s₁ B hml hv
  obtain ⟨rfl, hw, hc⟩ := hv
  have hx := B.exec
  have hb := B.bytes
  have hr := B.returns
  have hts := atoms_spec (ws := wsX12_partFrom) B.pre
  have hown : s.vm.findClass RX12 = some m.cls := findClass_of_methodNamed B.named
  have hinX12 : ∀ w ∈ u_ws RX12 TX12 79, w ∈ wsX12_partFrom := fun w h => List.mem_cons_of_mem _ (iT_X12 w h)
  have hS : va_S (fm_A nb ad) s.heap s.heap [] := va_S.rf
  have hE : fm_same [60061, 160000] M M := fm_same.rf
  have hl := lv_entry ([.ref (ad 60 0), .int 3, .int p0, .int p1, .long p2]) (n := 9) (Nat.le_of_ble_eq_true rfl)
  rw [lg_entry_eq]
  generalize (lg_sl ([.ref (ad 60 0), .int 3, .int p0, .int p1, .long p2]) ++ List.replicate (9 - (lg_sl ([.ref (ad 60 0), .int 3, .int p0, .int p1, .long p2])).length) Slot.unset).toArray = ls at hl ⊢
  have hl : lv_has ls 9 [(0, .ref (ad 60 0)), (1, .int 3), (2, .int p0), (3, .int p1), (4, .long p2)] := hl
  refine lv_iload_n hx hb dX12_partFrom_0 rfl (lv_at hl 1 rfl) ?_
  refine lv_iload_n hx hb dX12_partFrom_1 rfl (lv_at hl 2 rfl) ?_
  refine fx_icmp_ne (tgt := 98) hx hb dX12_partFrom_2 (by decide) zk_3 rfl (fun c1 => by exfalso; omega) (fun c1 => ?_)
  refine lv_lconst (v := 0) hx hb dX12_partFrom_5 (by decide) ?_
  refine lv_lstore (lv' := [(6, .long 0), (0, .ref (ad 60 0)), (1, .int 3), (2, .int p0), (3, .int p1), (4, .long p2)]) hx hb dX12_partFrom_6 hl (by decide) rfl (fun ls hl => ?_)
  refine lv_iconst (v := 0) hx hb dX12_partFrom_8 (by decide) ?_
  refine lv_istore (lv' := [(8, .int 0), (6, .long 0), (0, .ref (ad 60 0)), (1, .int 3), (2, .int p0), (3, .int p1), (4, .long p2)]) hx hb dX12_partFrom_9 hl (by decide) rfl (fun ls hl => ?_)
  have lp : ∀ (n_lp : Nat) (lp_8 : Int32) (lp_6 : Int64) (M_lp : fm_M), (64 - lp_8.toInt).toNat < n_lp → (0 ≤ lp_8.toInt ∧ lp_8.toInt ≤ 64) → fm_I nb ad M_lp → fm_same [60061, 160000] M M_lp → ∀ (H : Heap) (locs : List Loc), fm_at D ad C nb M_lp H → va_S (fm_A nb ad) s.heap H locs → ∀ (ls : Array Slot), lv_has ls 9 [(8, .int lp_8), (6, .long lp_6), (0, .ref (ad 60 0)), (1, .int 3), (2, .int p0), (3, .int p1), (4, .long p2)] → W p l e (headSpec wsX12_partFrom ({ frames := 0, cells := 0, slots := 0, locals := 0 })).room s m ([.ref (ad 60 0), .int 3, .int p0, .int p1, .long p2] : List Value).toArray below meth c H locs 0 0 (MQ below (va_Qv (fun (u : fm_M) => fm_I nb ad u ∧ fm_same [60061, 160000] M u ∧ True) (fun u t => fm_at D ad C nb u t.heap) (fm_A nb ad)) ([.ref (ad 60 0), .int 3, .int p0, .int p1, .long p2] : List Value).toArray s 0 0 (fm_A nb ad)) (F0 m 11 ls []) := by
    intro n_lp
    induction n_lp with
    | zero => intro lp_8 lp_6 M_lp hm_lp b_lp_8 hI hE H locs hw hS ls hl; exact absurd hm_lp (Nat.not_lt_zero _)
    | succ n_lp ih_lp =>
      intro lp_8 lp_6 M_lp hm_lp b_lp_8 hI hE H locs hw hS ls hl
      refine lv_iload hx hb dX12_partFrom_11 (lv_at hl 0 rfl) ?_
      refine lv_bipush (v := 64) hx hb dX12_partFrom_13 (by decide) ?_
      refine fx_icmp_ge (tgt := 52) hx hb dX12_partFrom_15 (by decide) rfl zk_64 (fun c2 => ?_) (fun c2 => ?_)
      · refine lv_lload hx hb dX12_partFrom_52 (lv_at hl 1 rfl) ?_
        refine lv_aload_n hx hb dX12_partFrom_54 rfl (lv_at hl 2 rfl) ?_
        refine fm_getL (a := 60) (j := 61) (T := TX12) (N := 79) hx hb hts hinX12 hown hc hw kl_60 sh_60 rfl (by decide) rfl (hts (.fieldLink RX12 295 "RedTentModel" "bestWeigh" "J") (List.mem_cons_of_mem _ tw_5_181)) (fun _ h9 => h9) dX12_partFrom_55 (fun x3 ex3 => ?_)
        refine W.lcmp hx hb dX12_partFrom_58 ?_
        refine fx_lif_le (tgt := 97) hx hb dX12_partFrom_59 (by decide) (fun c4 => ?_) (fun c4 => ?_)
        · exact W.vret hx hb hr (fun t ht hW => ⟨⟨M_lp, rfl, ⟨hI, hE, trivial⟩, by show fm_at D ad C nb _ t.heap; rw [ht]; exact hw⟩, hS.F ht⟩) hS.2.2 dX12_partFrom_97
        · refine lv_aload_n hx hb dX12_partFrom_62 rfl (lv_at hl 2 rfl) ?_
          refine lv_lload hx hb dX12_partFrom_63 (lv_at hl 1 rfl) ?_
          refine fm_putL (a := 60) (j := 61) (T := TX12) (N := 79) hx hb hts hinX12 tyX12 tyX12_ok nmX12 hown hc hw hI hE hS kl_60 sh_60 od_60 rfl (by decide) rfl (hts (.fieldLink RX12 295 "RedTentModel" "bestWeigh" "J") (List.mem_cons_of_mem _ tw_5_181)) (fun _ h9 => h9) rfl (by decide +kernel) (by decide) dX12_partFrom_65 (fun M5 H locs eM5 hw hI hE hS => ?_)
          refine lv_iconst (v := 0) hx hb dX12_partFrom_68 (by decide) ?_
          refine lv_istore (lv' := [(8, .int 0), (6, .long lp_6), (0, .ref (ad 60 0)), (1, .int 3), (2, .int p0), (3, .int p1), (4, .long p2)]) hx hb dX12_partFrom_69 hl (by decide) rfl (fun ls hl => ?_)
          have lq : ∀ (n_lq : Nat) (lq_8 : Int32) (M_lq : fm_M), (3 - lq_8.toInt).toNat < n_lq → (0 ≤ lq_8.toInt ∧ lq_8.toInt ≤ 3) → fm_I nb ad M_lq → fm_same [60061, 160000] M M_lq → ∀ (H : Heap) (locs : List Loc), fm_at D ad C nb M_lq H → va_S (fm_A nb ad) s.heap H locs → ∀ (ls : Array Slot), lv_has ls 9 [(8, .int lq_8), (6, .long lp_6), (0, .ref (ad 60 0)), (1, .int 3), (2, .int p0), (3, .int p1), (4, .long p2)] → W p l e (headSpec wsX12_partFrom ({ frames := 0, cells := 0, slots := 0, locals := 0 })).room s m ([.ref (ad 60 0), .int 3, .int p0, .int p1, .long p2] : List Value).toArray below meth c H locs 0 0 (MQ below (va_Qv (fun (u : fm_M) => fm_I nb ad u ∧ fm_same [60061, 160000] M u ∧ True) (fun u t => fm_at D ad C nb u t.heap) (fm_A nb ad)) ([.ref (ad 60 0), .int 3, .int p0, .int p1, .long p2] : List Value).toArray s 0 0 (fm_A nb ad)) (F0 m 71 ls []) := by
            intro n_lq
            induction n_lq with
            | zero => intro lq_8 M_lq hm_lq b_lq_8 hI hE H locs hw hS ls hl; exact absurd hm_lq (Nat.not_lt_zero _)
            | succ n_lq ih_lq =>
              intro lq_8 M_lq hm_lq b_lq_8 hI hE H locs hw hS ls hl
              refine lv_iload hx hb dX12_partFrom_71 (lv_at hl 0 rfl) ?_
              refine lv_iload_n hx hb dX12_partFrom_73 rfl (lv_at hl 4 rfl) ?_
              refine fx_icmp_ge (tgt := 97) hx hb dX12_partFrom_74 (by decide) rfl rfl (fun c6 => ?_) (fun c6 => ?_)
              · exact W.vret hx hb hr (fun t ht hW => ⟨⟨M_lq, rfl, ⟨hI, hE, trivial⟩, by show fm_at D ad C nb _ t.heap; rw [ht]; exact hw⟩, hS.F ht⟩) hS.2.2 dX12_partFrom_97
              · refine lv_aload_n hx hb dX12_partFrom_77 rfl (lv_at hl 2 rfl) ?_
                refine fm_getG (a := 60) (j := 60) (T := TX12) (N := 79) hx hb hts hinX12 hown hc hw kl_60 sh_60 rfl (by decide) rfl (hI.to kl_60 tg_60_60) (hts (.fieldLink RX12 140 "RedTentModel" "best" "[I") (List.mem_cons_of_mem _ tw_5_180)) (fun _ h9 => h9) dX12_partFrom_78 ?_
                refine lv_iload hx hb dX12_partFrom_81 (lv_at hl 0 rfl) ?_
                refine lv_aload_n hx hb dX12_partFrom_83 rfl (lv_at hl 2 rfl) ?_
                refine fm_getG (a := 60) (j := 59) (T := TX12) (N := 79) hx hb hts hinX12 hown hc hw kl_60 sh_60 rfl (by decide) rfl (hI.to kl_60 tg_60_59) (hts (.fieldLink RX12 137 "RedTentModel" "trying" "[I") (List.mem_cons_of_mem _ tw_5_179)) (fun _ h9 => h9) dX12_partFrom_84 ?_
                refine lv_iload hx hb dX12_partFrom_87 (lv_at hl 0 rfl) ?_
                refine fm_iald (a := 159) hx hb hc hw hI kl_159 sh_159 ty_159 bd_159 (by omega) dX12_partFrom_89 (fun x7 ex7 bx7 => ?_)
                refine fm_iast (a := 160) hx hb hc hw hI hE hS kl_160 sh_160 ty_160 bd_160 (by omega) (by omega) cd_160 (by decide) dX12_partFrom_90 (fun M8 H locs eM8 hw hI hE hS => ?_)
                obtain ⟨y9, ey9⟩ : ∃ y : Int32, y = lq_8 + 1 := ⟨_, rfl⟩
                have ty9 : y9.toInt = lq_8.toInt + 1 := by rw [ey9, zi_add _ _ (by rw [zk_1]; omega) (by rw [zk_1]; omega), zk_1]
                refine lv_iinc (v := y9) (lv' := [(8, .int y9), (6, .long lp_6), (0, .ref (ad 60 0)), (1, .int 3), (2, .int p0), (3, .int p1), (4, .long p2)]) hx hb dX12_partFrom_91 hl (k := 0) rfl (by rw [ey9]; rfl) (by decide) rfl (fun ls hl => ?_)
                refine lv_goto (tgt := 71) hx hb dX12_partFrom_94 (by decide) ?_
                exact ih_lq y9 M8 (by omega) (by omega) hI hE _ _ hw hS ls (lv_sub hl [0, 1, 2, 3, 4, 5, 6] rfl)
          exact lq _ 0 M5 (Nat.lt_succ_self _) (by decide) hI hE _ _ hw hS ls (lv_sub hl [0, 1, 2, 3, 4, 5, 6] rfl)
      · refine lv_lload hx hb dX12_partFrom_18 (lv_at hl 1 rfl) ?_
        refine lv_lload hx hb dX12_partFrom_20 (lv_at hl 6 rfl) ?_
        refine lv_iload hx hb dX12_partFrom_22 (lv_at hl 0 rfl) ?_
        refine lv_lushr (v := (p2.toUInt64 >>> (lp_8.toInt64.toUInt64 &&& Int64.toUInt64 63)).toInt64) hx hb dX12_partFrom_24 rfl ?_
        refine lv_topl (fun y10 ey10 => ?_)
        refine lv_lconst (v := 1) hx hb dX12_partFrom_25 (by decide) ?_
        refine lv_land hx hb dX12_partFrom_26 ?_
        refine lv_topl (fun y11 ey11 => ?_)
        refine lv_lconst (v := 1) hx hb dX12_partFrom_27 (by decide) ?_
        refine W.lcmp hx hb dX12_partFrom_28 ?_
        refine fx_lif_ne (tgt := 42) hx hb dX12_partFrom_29 (by decide) (fun c12 => ?_) (fun c12 => ?_)
        · refine lv_lconst (v := 0) hx hb dX12_partFrom_42 (by decide) ?_
          refine lv_ladd hx hb dX12_partFrom_43 ?_
          refine lv_topl (fun y13 ey13 => ?_)
          refine lv_lstore (lv' := [(6, .long y13), (8, .int lp_8), (0, .ref (ad 60 0)), (1, .int 3), (2, .int p0), (3, .int p1), (4, .long p2)]) hx hb dX12_partFrom_44 hl (by decide) rfl (fun ls hl => ?_)
          obtain ⟨y14, ey14⟩ : ∃ y : Int32, y = lp_8 + 1 := ⟨_, rfl⟩
          have ty14 : y14.toInt = lp_8.toInt + 1 := by rw [ey14, zi_add _ _ (by rw [zk_1]; omega) (by rw [zk_1]; omega), zk_1]
          refine lv_iinc (v := y14) (lv' := [(8, .int y14), (6, .long y13), (0, .ref (ad 60 0)), (1, .int 3), (2, .int p0), (3, .int p1), (4, .long p2)]) hx hb dX12_partFrom_46 hl (k := 1) rfl (by rw [ey14]; rfl) (by decide) rfl (fun ls hl => ?_)
          refine lv_goto (tgt := 11) hx hb dX12_partFrom_49 (by decide) ?_
          exact ih_lp y14 y13 M_lp (by omega) (by omega) hI hE _ _ hw hS ls (lv_sub hl [0, 1, 2, 3, 4, 5, 6] rfl)
        · refine lv_aload_n hx hb dX12_partFrom_32 rfl (lv_at hl 2 rfl) ?_
          refine fm_getG (a := 60) (j := 57) (T := TX12) (N := 79) hx hb hts hinX12 hown hc hw kl_60 sh_60 rfl (by decide) rfl (hI.to kl_60 tg_60_57) (hts (.fieldLink RX12 134 "RedTentModel" "weight" "[J") (List.mem_cons_of_mem _ tw_5_177)) (fun _ h9 => h9) dX12_partFrom_33 ?_
          refine lv_iload hx hb dX12_partFrom_36 (lv_at hl 0 rfl) ?_
          refine fm_lald (a := 157) hx hb hc hw kl_157 sh_157 ty_157 (by omega) dX12_partFrom_38 (fun x15 ex15 => ?_)
          refine lv_goto (tgt := 43) hx hb dX12_partFrom_39 (by decide) ?_
          refine lv_ladd hx hb dX12_partFrom_43 ?_
          refine lv_topl (fun y16 ey16 => ?_)
          refine lv_lstore (lv' := [(6, .long y16), (8, .int lp_8), (0, .ref (ad 60 0)), (1, .int 3), (2, .int p0), (3, .int p1), (4, .long p2)]) hx hb dX12_partFrom_44 hl (by decide) rfl (fun ls hl => ?_)
          obtain ⟨y17, ey17⟩ : ∃ y : Int32, y = lp_8 + 1 := ⟨_, rfl⟩
          have ty17 : y17.toInt = lp_8.toInt + 1 := by rw [ey17, zi_add _ _ (by rw [zk_1]; omega) (by rw [zk_1]; omega), zk_1]
          refine lv_iinc (v := y17) (lv' := [(8, .int y17), (6, .long y16), (0, .ref (ad 60 0)), (1, .int 3), (2, .int p0), (3, .int p1), (4, .long p2)]) hx hb dX12_partFrom_46 hl (k := 1) rfl (by rw [ey17]; rfl) (by decide) rfl (fun ls hl => ?_)
          refine lv_goto (tgt := 11) hx hb dX12_partFrom_49 (by decide) ?_
          exact ih_lp y17 y16 M_lp (by omega) (by omega) hI hE _ _ hw hS ls (lv_sub hl [0, 1, 2, 3, 4, 5, 6] rfl)
  exact lp _ 0 0 M (Nat.lt_succ_self _) (by decide) hI hE _ _ hw hS ls (lv_sub hl [0, 1, 2, 3, 4, 5, 6] rfl)
set_option maxHeartbeats 400000 in
set_option maxRecDepth 20000 in
theorem fc_X12_partFrom2 (l : Launch) (D : va_G) (ad : Nat → Nat → Nat) (C : Nat → Nat → ClassId) (nb : Nat) (M : fm_M) (hI : fm_I nb ad M) (p0 p1 : Int32) (p2 : Int64) (b_p0 : 2 ≤ p0.toInt ∧ p0.toInt ≤ 3) : Met l yX12_partFrom wsX12_partFrom ({ frames := 1, cells := 0, slots := 0, locals := 28 }) (va_Pc [.ref (ad 60 0), .int 2, .int p0, .int p1, .long p2] (fm_P D ad C nb M)) (va_Qv (fun (u : fm_M) => fm_I nb ad u ∧ fm_same [60061, 159000, 160000] M u ∧ True) (fun u t => fm_at D ad C nb u t.heap) (fm_A nb ad)) 0 0 (fm_A nb ad) := by
  refine Met.ofW (cc := cX12_partFrom) (maxL := 9) (ret := none) (by decide) rfl ?_
  intro p e s m args below meth c s₁ B hml hv
  obtain ⟨rfl, hw, hc⟩ := hv
  have hx := B.exec
  have hb := B.bytes
  have hr := B.returns
  have hts := atoms_spec (ws := wsX12_partFrom) B.pre
  have hown : s.vm.findClass RX12 = some m.cls := findClass_of_methodNamed B.named
  have hinX12 : ∀ w ∈ u_ws RX12 TX12 79, w ∈ wsX12_partFrom := fun w h => List.mem_cons_of_mem _ (iT_X12 w h)
  have hS : va_S (fm_A nb ad) s.heap s.heap [] := va_S.rf
  have hE : fm_same [60061, 159000, 160000] M M := fm_same.rf
  have hl := lv_entry ([.ref (ad 60 0), .int 2, .int p0, .int p1, .long p2]) (n := 9) (Nat.le_of_ble_eq_true rfl)
  rw [lg_entry_eq]
  generalize (lg_sl ([.ref (ad 60 0), .int 2, .int p0, .int p1, .long p2]) ++ List.replicate (9 - (lg_sl ([.ref (ad 60 0), .int 2, .int p0, .int p1, .long p2])).length) Slot.unset).toArray = ls at hl ⊢
  have hl : lv_has ls 9 [(0, .ref (ad 60 0)), (1, .int 2), (2, .int p0), (3, .int p1), (4, .long p2)] := hl
  refine lv_iload_n hx hb dX12_partFrom_0 rfl (lv_at hl 1 rfl) ?_
  refine lv_iload_n hx hb dX12_partFrom_1 rfl (lv_at hl 2 rfl) ?_
  refine fx_icmp_ne (tgt := 98) hx hb dX12_partFrom_2 (by decide) zk_2 rfl (fun c1 => ?_) (fun c1 => ?_)
  · refine lv_iconst (v := 0) hx hb dX12_partFrom_98 (by decide) ?_
    refine lv_istore (lv' := [(6, .int 0), (0, .ref (ad 60 0)), (1, .int 2), (2, .int p0), (3, .int p1), (4, .long p2)]) hx hb dX12_partFrom_99 hl (by decide) rfl (fun ls hl => ?_)
    have lr : ∀ (n_lr : Nat) (lr_6 : Int32) (M_lr : fm_M), (16 - lr_6.toInt).toNat < n_lr → (0 ≤ lr_6.toInt ∧ lr_6.toInt ≤ 16) → fm_I nb ad M_lr → fm_same [60061, 159000, 160000] M M_lr → ∀ (H : Heap) (locs : List Loc), fm_at D ad C nb M_lr H → va_S (fm_A nb ad) s.heap H locs → ∀ (ls : Array Slot), lv_has ls 9 [(6, .int lr_6), (0, .ref (ad 60 0)), (1, .int 2), (2, .int p0), (3, .int p1), (4, .long p2)] → W p l e (headSpec wsX12_partFrom ({ frames := 1, cells := 0, slots := 0, locals := 28 })).room s m ([.ref (ad 60 0), .int 2, .int p0, .int p1, .long p2] : List Value).toArray below meth c H locs 0 0 (MQ below (va_Qv (fun (u : fm_M) => fm_I nb ad u ∧ fm_same [60061, 159000, 160000] M u ∧ True) (fun u t => fm_at D ad C nb u t.heap) (fm_A nb ad)) ([.ref (ad 60 0), .int 2, .int p0, .int p1, .long p2] : List Value).toArray s 0 0 (fm_A nb ad)) (F0 m 101 ls []) := by
      intro n_lr
      induction n_lr with
      | zero => intro lr_6 M_lr hm_lr b_lr_6 hI hE H locs hw hS ls hl; exact absurd hm_lr (Nat.not_lt_zero _)
      | succ n_lr ih_lr =>
        intro lr_6 M_lr hm_lr b_lr_6 hI hE H locs hw hS ls hl
        refine lv_iload hx hb dX12_partFrom_101 (lv_at hl 0 rfl) ?_
        refine lv_aload_n hx hb dX12_partFrom_103 rfl (lv_at hl 1 rfl) ?_
        refine fm_getI (a := 60) (j := 36) (T := TX12) (N := 79) hx hb hts hinX12 hown hc hw hI kl_60 sh_60 rfl (by decide) rfl bd_60_36 (hts (.fieldLink RX12 272 "RedTentModel" "laneMany" "I") (List.mem_cons_of_mem _ tw_5_156)) (fun _ h9 => h9) dX12_partFrom_104 (fun x2 ex2 bx2 => ?_)
        refine fx_icmp_ge (tgt := 160) hx hb dX12_partFrom_107 (by decide) rfl rfl (fun c3 => ?_) (fun c3 => ?_)
        · exact W.vret hx hb hr (fun t ht hW => ⟨⟨M_lr, rfl, ⟨hI, hE, trivial⟩, by show fm_at D ad C nb _ t.heap; rw [ht]; exact hw⟩, hS.F ht⟩) hS.2.2 dX12_partFrom_160
        · refine lv_iload_n hx hb dX12_partFrom_110 rfl (lv_at hl 4 rfl) ?_
          refine lv_iload hx hb dX12_partFrom_111 (lv_at hl 0 rfl) ?_
          refine lv_ishr hx hb dX12_partFrom_113 ?_
          refine lv_topi (fun y4 ey4 => ?_)
          refine lv_iconst (v := 1) hx hb dX12_partFrom_114 (by decide) ?_
          refine fx_iand1 hx hb dX12_partFrom_115 (fun y5 ey5 by5 => ?_)
          refine lv_iconst (v := 1) hx hb dX12_partFrom_116 (by decide) ?_
          refine fx_icmp_ne (tgt := 154) hx hb dX12_partFrom_117 (by decide) rfl zk_1 (fun c6 => ?_) (fun c6 => ?_)
          · obtain ⟨y7, ey7⟩ : ∃ y : Int32, y = lr_6 + 1 := ⟨_, rfl⟩
            have ty7 : y7.toInt = lr_6.toInt + 1 := by rw [ey7, zi_add _ _ (by rw [zk_1]; omega) (by rw [zk_1]; omega), zk_1]
            refine lv_iinc (v := y7) (lv' := [(6, .int y7), (0, .ref (ad 60 0)), (1, .int 2), (2, .int p0), (3, .int p1), (4, .long p2)]) hx hb dX12_partFrom_154 hl (k := 0) rfl (by rw [ey7]; rfl) (by decide) rfl (fun ls hl => ?_)
            refine lv_goto (tgt := 101) hx hb dX12_partFrom_157 (by decide) ?_
            exact ih_lr y7 M_lr (by omega) (by omega) hI hE _ _ hw hS ls (lv_sub hl [0, 1, 2, 3, 4, 5] rfl)
          · refine lv_aload_n hx hb dX12_partFrom_120 rfl (lv_at hl 1 rfl) ?_
            refine fm_getG (a := 60) (j := 59) (T := TX12) (N := 79) hx hb hts hinX12 hown hc hw kl_60 sh_60 rfl (by decide) rfl (hI.to kl_60 tg_60_59) (hts (.fieldLink RX12 137 "RedTentModel" "trying" "[I") (List.mem_cons_of_mem _ tw_5_179)) (fun _ h9 => h9) dX12_partFrom_121 ?_
            refine lv_iload_n hx hb dX12_partFrom_124 rfl (lv_at hl 2 rfl) ?_
            refine lv_iload hx hb dX12_partFrom_125 (lv_at hl 0 rfl) ?_
            refine fm_iast (a := 159) hx hb hc hw hI hE hS kl_159 sh_159 ty_159 bd_159 (by decide) (by omega) cd_159 (by decide) dX12_partFrom_127 (fun M8 H locs eM8 hw hI hE hS => ?_)
            refine lv_aload_n hx hb dX12_partFrom_128 rfl (lv_at hl 1 rfl) ?_
            refine lv_iload_n hx hb dX12_partFrom_129 rfl (lv_at hl 2 rfl) ?_
            refine lv_iconst (v := 1) hx hb dX12_partFrom_130 (by decide) ?_
            refine lv_iadd hx hb dX12_partFrom_131 ?_
            refine lv_topi (fun y10 ey10 => ?_)
            obtain rfl : y10 = 3 := ey10.trans (by decide)
            refine lv_iload_n hx hb dX12_partFrom_132 rfl (lv_at hl 3 rfl) ?_
            refine lv_iload_n hx hb dX12_partFrom_133 rfl (lv_at hl 4 rfl) ?_
            refine lv_iconst (v := 1) hx hb dX12_partFrom_134 (by decide) ?_
            refine lv_iload hx hb dX12_partFrom_135 (lv_at hl 0 rfl) ?_
            refine lv_ishl hx hb dX12_partFrom_137 ?_
            refine lv_topi (fun y11 ey11 => ?_)
            refine lv_iconst (v := (-1)) hx hb dX12_partFrom_138 (by decide) ?_
            refine lv_ixor hx hb dX12_partFrom_139 ?_
            refine lv_topi (fun y12 ey12 => ?_)
            refine lv_iand hx hb dX12_partFrom_140 ?_
            refine lv_topi (fun y13 ey13 => ?_)
            refine lv_lload hx hb dX12_partFrom_141 (lv_at hl 5 rfl) ?_
            refine lv_aload_n hx hb dX12_partFrom_143 rfl (lv_at hl 1 rfl) ?_
            refine fm_getG (a := 60) (j := 35) (T := TX12) (N := 79) hx hb hts hinX12 hown hc hw kl_60 sh_60 rfl (by decide) rfl (hI.to kl_60 tg_60_35) (hts (.fieldLink RX12 89 "RedTentModel" "lanes" "[J") (List.mem_cons_of_mem _ tw_5_155)) (fun _ h9 => h9) dX12_partFrom_144 ?_
            refine lv_iload hx hb dX12_partFrom_147 (lv_at hl 0 rfl) ?_
            refine fm_lald (a := 135) hx hb hc hw kl_135 sh_135 ty_135 (by omega) dX12_partFrom_149 (fun x14 ex14 => ?_)
            refine lv_lor hx hb dX12_partFrom_150 ?_
            refine lv_topl (fun y15 ey15 => ?_)
            refine fm_cv (va_runV (As := [.int 3, .int p0, .int y13, .long y15]) (rest := []) ⟨hx, hb, hml, hown, hts⟩ (fc_X12_partFrom3 l D ad C nb M8 hI p0 y13 y15 (by omega)) (cwV 4 hts gX12_partFrom_X12_partFrom rfl rfl rfl (by decide +kernel) ⟨Nat.le_of_ble_eq_true rfl, Nat.le_of_ble_eq_true rfl⟩) (fm_preV hc hw hS kl_60 sh_60 rfl) rfl rfl hl.1 rfl (lv_room (Nat.le_of_ble_eq_true rfl)) dX12_partFrom_151 ⟨by decide +kernel, by decide +kernel⟩) hS hc (fun M17 H locs hr16 hw hS => ?_)
            obtain ⟨hI, hEM17, hr16⟩ := hr16
            have hE := hE.tr hEM17 (by decide)
            obtain ⟨y18, ey18⟩ : ∃ y : Int32, y = lr_6 + 1 := ⟨_, rfl⟩
            have ty18 : y18.toInt = lr_6.toInt + 1 := by rw [ey18, zi_add _ _ (by rw [zk_1]; omega) (by rw [zk_1]; omega), zk_1]
            refine lv_iinc (v := y18) (lv' := [(6, .int y18), (0, .ref (ad 60 0)), (1, .int 2), (2, .int p0), (3, .int p1), (4, .long p2)]) hx hb dX12_partFrom_154 hl (k := 0) rfl (by rw [ey18]; rfl) (by decide) rfl (fun ls hl => ?_)
            refine lv_goto (tgt := 101) hx hb dX12_partFrom_157 (by decide) ?_
            exact ih_lr y18 M17 (by omega) (by omega) hI hE _ _ hw hS ls (lv_sub hl [0, 1, 2, 3, 4, 5] rfl)
    exact lr _ 0 M (Nat.lt_succ_self _) (by decide) hI hE _ _ hw hS ls (lv_sub hl [0, 1, 2, 3, 4, 5] rfl)
  · refine lv_lconst (v := 0) hx hb dX12_partFrom_5 (by decide) ?_
    refine lv_lstore (lv' := [(6, .long 0), (0, .ref (ad 60 0)), (1, .int 2), (2, .int p0), (3, .int p1), (4, .long p2)]) hx hb dX12_partFrom_6 hl (by decide) rfl (fun ls hl => ?_)
    refine lv_iconst (v := 0) hx hb dX12_partFrom_8 (by decide) ?_
    refine lv_istore (lv' := [(8, .int 0), (6, .long 0), (0, .ref (ad 60 0)), (1, .int 2), (2, .int p0), (3, .int p1), (4, .long p2)]) hx hb dX12_partFrom_9 hl (by decide) rfl (fun ls hl => ?_)
    have lp : ∀ (n_lp : Nat) (lp_8 : Int32) (lp_6 : Int64) (M_lp : fm_M), (64 - lp_8.toInt).toNat < n_lp → (0 ≤ lp_8.toInt ∧ lp_8.toInt ≤ 64) → fm_I nb ad M_lp → fm_same [60061, 159000, 160000] M M_lp → ∀ (H : Heap) (locs : List Loc), fm_at D ad C nb M_lp H → va_S (fm_A nb ad) s.heap H locs → ∀ (ls : Array Slot), lv_has ls 9 [(8, .int lp_8), (6, .long lp_6), (0, .ref (ad 60 0)), (1, .int 2), (2, .int p0), (3, .int p1), (4, .long p2)] → W p l e (headSpec wsX12_partFrom ({ frames := 1, cells := 0, slots := 0, locals := 28 })).room s m ([.ref (ad 60 0), .int 2, .int p0, .int p1, .long p2] : List Value).toArray below meth c H locs 0 0 (MQ below (va_Qv (fun (u : fm_M) => fm_I nb ad u ∧ fm_same [60061, 159000, 160000] M u ∧ True) (fun u t => fm_at D ad C nb u t.heap) (fm_A nb ad)) ([.ref (ad 60 0), .int 2, .int p0, .int p1, .long p2] : List Value).toArray s 0 0 (fm_A nb ad)) (F0 m 11 ls []) := by
      intro n_lp
      induction n_lp with
      | zero => intro lp_8 lp_6 M_lp hm_lp b_lp_8 hI hE H locs hw hS ls hl; exact absurd hm_lp (Nat.not_lt_zero _)
      | succ n_lp ih_lp =>
        intro lp_8 lp_6 M_lp hm_lp b_lp_8 hI hE H locs hw hS ls hl
        refine lv_iload hx hb dX12_partFrom_11 (lv_at hl 0 rfl) ?_
        refine lv_bipush (v := 64) hx hb dX12_partFrom_13 (by decide) ?_
        refine fx_icmp_ge (tgt := 52) hx hb dX12_partFrom_15 (by decide) rfl zk_64 (fun c19 => ?_) (fun c19 => ?_)
        · refine lv_lload hx hb dX12_partFrom_52 (lv_at hl 1 rfl) ?_
          refine lv_aload_n hx hb dX12_partFrom_54 rfl (lv_at hl 2 rfl) ?_
          refine fm_getL (a := 60) (j := 61) (T := TX12) (N := 79) hx hb hts hinX12 hown hc hw kl_60 sh_60 rfl (by decide) rfl (hts (.fieldLink RX12 295 "RedTentModel" "bestWeigh" "J") (List.mem_cons_of_mem _ tw_5_181)) (fun _ h9 => h9) dX12_partFrom_55 (fun x20 ex20 => ?_)
          refine W.lcmp hx hb dX12_partFrom_58 ?_
          refine fx_lif_le (tgt := 97) hx hb dX12_partFrom_59 (by decide) (fun c21 => ?_) (fun c21 => ?_)
          · exact W.vret hx hb hr (fun t ht hW => ⟨⟨M_lp, rfl, ⟨hI, hE, trivial⟩, by show fm_at D ad C nb _ t.heap; rw [ht]; exact hw⟩, hS.F ht⟩) hS.2.2 dX12_partFrom_97
          · refine lv_aload_n hx hb dX12_partFrom_62 rfl (lv_at hl 2 rfl) ?_
            refine lv_lload hx hb dX12_partFrom_63 (lv_at hl 1 rfl) ?_
            refine fm_putL (a := 60) (j := 61) (T := TX12) (N := 79) hx hb hts hinX12 tyX12 tyX12_ok nmX12 hown hc hw hI hE hS kl_60 sh_60 od_60 rfl (by decide) rfl (hts (.fieldLink RX12 295 "RedTentModel" "bestWeigh" "J") (List.mem_cons_of_mem _ tw_5_181)) (fun _ h9 => h9) rfl (by decide +kernel) (by decide) dX12_partFrom_65 (fun M22 H locs eM22 hw hI hE hS => ?_)
            refine lv_iconst (v := 0) hx hb dX12_partFrom_68 (by decide) ?_
            refine lv_istore (lv' := [(8, .int 0), (6, .long lp_6), (0, .ref (ad 60 0)), (1, .int 2), (2, .int p0), (3, .int p1), (4, .long p2)]) hx hb dX12_partFrom_69 hl (by decide) rfl (fun ls hl => ?_)
            have lq : ∀ (n_lq : Nat) (lq_8 : Int32) (M_lq : fm_M), (3 - lq_8.toInt).toNat < n_lq → (0 ≤ lq_8.toInt ∧ lq_8.toInt ≤ 3) → fm_I nb ad M_lq → fm_same [60061, 159000, 160000] M M_lq → ∀ (H : Heap) (locs : List Loc), fm_at D ad C nb M_lq H → va_S (fm_A nb ad) s.heap H locs → ∀ (ls : Array Slot), lv_has ls 9 [(8, .int lq_8), (6, .long lp_6), (0, .ref (ad 60 0)), (1, .int 2), (2, .int p0), (3, .int p1), (4, .long p2)] → W p l e (headSpec wsX12_partFrom ({ frames := 1, cells := 0, slots := 0, locals := 28 })).room s m ([.ref (ad 60 0), .int 2, .int p0, .int p1, .long p2] : List Value).toArray below meth c H locs 0 0 (MQ below (va_Qv (fun (u : fm_M) => fm_I nb ad u ∧ fm_same [60061, 159000, 160000] M u ∧ True) (fun u t => fm_at D ad C nb u t.heap) (fm_A nb ad)) ([.ref (ad 60 0), .int 2, .int p0, .int p1, .long p2] : List Value).toArray s 0 0 (fm_A nb ad)) (F0 m 71 ls []) := by
              intro n_lq
              induction n_lq with
              | zero => intro lq_8 M_lq hm_lq b_lq_8 hI hE H locs hw hS ls hl; exact absurd hm_lq (Nat.not_lt_zero _)
              | succ n_lq ih_lq =>
                intro lq_8 M_lq hm_lq b_lq_8 hI hE H locs hw hS ls hl
                refine lv_iload hx hb dX12_partFrom_71 (lv_at hl 0 rfl) ?_
                refine lv_iload_n hx hb dX12_partFrom_73 rfl (lv_at hl 4 rfl) ?_
                refine fx_icmp_ge (tgt := 97) hx hb dX12_partFrom_74 (by decide) rfl rfl (fun c23 => ?_) (fun c23 => ?_)
                · exact W.vret hx hb hr (fun t ht hW => ⟨⟨M_lq, rfl, ⟨hI, hE, trivial⟩, by show fm_at D ad C nb _ t.heap; rw [ht]; exact hw⟩, hS.F ht⟩) hS.2.2 dX12_partFrom_97
                · refine lv_aload_n hx hb dX12_partFrom_77 rfl (lv_at hl 2 rfl) ?_
                  refine fm_getG (a := 60) (j := 60) (T := TX12) (N := 79) hx hb hts hinX12 hown hc hw kl_60 sh_60 rfl (by decide) rfl (hI.to kl_60 tg_60_60) (hts (.fieldLink RX12 140 "RedTentModel" "best" "[I") (List.mem_cons_of_mem _ tw_5_180)) (fun _ h9 => h9) dX12_partFrom_78 ?_
                  refine lv_iload hx hb dX12_partFrom_81 (lv_at hl 0 rfl) ?_
                  refine lv_aload_n hx hb dX12_partFrom_83 rfl (lv_at hl 2 rfl) ?_
                  refine fm_getG (a := 60) (j := 59) (T := TX12) (N := 79) hx hb hts hinX12 hown hc hw kl_60 sh_60 rfl (by decide) rfl (hI.to kl_60 tg_60_59) (hts (.fieldLink RX12 137 "RedTentModel" "trying" "[I") (List.mem_cons_of_mem _ tw_5_179)) (fun _ h9 => h9) dX12_partFrom_84 ?_
                  refine lv_iload hx hb dX12_partFrom_87 (lv_at hl 0 rfl) ?_
                  refine fm_iald (a := 159) hx hb hc hw hI kl_159 sh_159 ty_159 bd_159 (by omega) dX12_partFrom_89 (fun x24 ex24 bx24 => ?_)
                  refine fm_iast (a := 160) hx hb hc hw hI hE hS kl_160 sh_160 ty_160 bd_160 (by omega) (by omega) cd_160 (by decide) dX12_partFrom_90 (fun M25 H locs eM25 hw hI hE hS => ?_)
                  obtain ⟨y26, ey26⟩ : ∃ y : Int32, y = lq_8 + 1 := ⟨_, rfl⟩
                  have ty26 : y26.toInt = lq_8.toInt + 1 := by rw [ey26, zi_add _ _ (by rw [zk_1]; omega) (by rw [zk_1]; omega), zk_1]
                  refine lv_iinc (v := y26) (lv' := [(8, .int y26), (6, .long lp_6), (0, .ref (ad 60 0)), (1, .int 2), (2, .int p0), (3, .int p1), (4, .long p2)]) hx hb dX12_partFrom_91 hl (k := 0) rfl (by rw [ey26]; rfl) (by decide) rfl (fun ls hl => ?_)
                  refine lv_goto (tgt := 71) hx hb dX12_partFrom_94 (by decide) ?_
                  exact ih_lq y26 M25 (by omega) (by omega) hI hE _ _ hw hS ls (lv_sub hl [0, 1, 2, 3, 4, 5, 6] rfl)
            exact lq _ 0 M22 (Nat.lt_succ_self _) (by decide) hI hE _ _ hw hS ls (lv_sub hl [0, 1, 2, 3, 4, 5, 6] rfl)
        · refine lv_lload hx hb dX12_partFrom_18 (lv_at hl 1 rfl) ?_
          refine lv_lload hx hb dX12_partFrom_20 (lv_at hl 6 rfl) ?_
          refine lv_iload hx hb dX12_partFrom_22 (lv_at hl 0 rfl) ?_
          refine lv_lushr (v := (p2.toUInt64 >>> (lp_8.toInt64.toUInt64 &&& Int64.toUInt64 63)).toInt64) hx hb dX12_partFrom_24 rfl ?_
          refine lv_topl (fun y27 ey27 => ?_)
          refine lv_lconst (v := 1) hx hb dX12_partFrom_25 (by decide) ?_
          refine lv_land hx hb dX12_partFrom_26 ?_
          refine lv_topl (fun y28 ey28 => ?_)
          refine lv_lconst (v := 1) hx hb dX12_partFrom_27 (by decide) ?_
          refine W.lcmp hx hb dX12_partFrom_28 ?_
          refine fx_lif_ne (tgt := 42) hx hb dX12_partFrom_29 (by decide) (fun c29 => ?_) (fun c29 => ?_)
          · refine lv_lconst (v := 0) hx hb dX12_partFrom_42 (by decide) ?_
            refine lv_ladd hx hb dX12_partFrom_43 ?_
            refine lv_topl (fun y30 ey30 => ?_)
            refine lv_lstore (lv' := [(6, .long y30), (8, .int lp_8), (0, .ref (ad 60 0)), (1, .int 2), (2, .int p0), (3, .int p1), (4, .long p2)]) hx hb dX12_partFrom_44 hl (by decide) rfl (fun ls hl => ?_)
            obtain ⟨y31, ey31⟩ : ∃ y : Int32, y = lp_8 + 1 := ⟨_, rfl⟩
            have ty31 : y31.toInt = lp_8.toInt + 1 := by rw [ey31, zi_add _ _ (by rw [zk_1]; omega) (by rw [zk_1]; omega), zk_1]
            refine lv_iinc (v := y31) (lv' := [(8, .int y31), (6, .long y30), (0, .ref (ad 60 0)), (1, .int 2), (2, .int p0), (3, .int p1), (4, .long p2)]) hx hb dX12_partFrom_46 hl (k := 1) rfl (by rw [ey31]; rfl) (by decide) rfl (fun ls hl => ?_)
            refine lv_goto (tgt := 11) hx hb dX12_partFrom_49 (by decide) ?_
            exact ih_lp y31 y30 M_lp (by omega) (by omega) hI hE _ _ hw hS ls (lv_sub hl [0, 1, 2, 3, 4, 5, 6] rfl)
          · refine lv_aload_n hx hb dX12_partFrom_32 rfl (lv_at hl 2 rfl) ?_
            refine fm_getG (a := 60) (j := 57) (T := TX12) (N := 79) hx hb hts hinX12 hown hc hw kl_60 sh_60 rfl (by decide) rfl (hI.to kl_60 tg_60_57) (hts (.fieldLink RX12 134 "RedTentModel" "weight" "[J") (List.mem_cons_of_mem _ tw_5_177)) (fun _ h9 => h9) dX12_partFrom_33 ?_
            refine lv_iload hx hb dX12_partFrom_36 (lv_at hl 0 rfl) ?_
            refine fm_lald (a := 157) hx hb hc hw kl_157 sh_157 ty_157 (by omega) dX12_partFrom_38 (fun x32 ex32 => ?_)
            refine lv_goto (tgt := 43) hx hb dX12_partFrom_39 (by decide) ?_
            refine lv_ladd hx hb dX12_partFrom_43 ?_
            refine lv_topl (fun y33 ey33 => ?_)
            refine lv_lstore (lv' := [(6, .long y33), (8, .int lp_8), (0, .ref (ad 60 0)), (1, .int 2), (2, .int p0), (3, .int p1), (4, .long p2)]) hx hb dX12_partFrom_44 hl (by decide) rfl (fun ls hl => ?_)
            obtain ⟨y34, ey34⟩ : ∃ y : Int32, y = lp_8 + 1 := ⟨_, rfl⟩
            have ty34 : y34.toInt = lp_8.toInt + 1 := by rw [ey34, zi_add _ _ (by rw [zk_1]; omega) (by rw [zk_1]; omega), zk_1]
            refine lv_iinc (v := y34) (lv' := [(8, .int y34), (6, .long y33), (0, .ref (ad 60 0)), (1, .int 2), (2, .int p0), (3, .int p1), (4, .long p2)]) hx hb dX12_partFrom_46 hl (k := 1) rfl (by rw [ey34]; rfl) (by decide) rfl (fun ls hl => ?_)
            refine lv_goto (tgt := 11) hx hb dX12_partFrom_49 (by decide) ?_
            exact ih_lp y34 y33 M_lp (by omega) (by omega) hI hE _ _ hw hS ls (lv_sub hl [0, 1, 2, 3, 4, 5, 6] rfl)
    exact lp _ 0 0 M (Nat.lt_succ_self _) (by decide) hI hE _ _ hw hS ls (lv_sub hl [0, 1, 2, 3, 4, 5, 6] rfl)
set_option maxHeartbeats 400000 in
set_option maxRecDepth 20000 in
theorem fc_X12_partFrom1 (l : Launch) (D : va_G) (ad : Nat → Nat → Nat) (C : Nat → Nat → ClassId) (nb : Nat) (M : fm_M) (hI : fm_I nb ad M) (p0 p1 : Int32) (p2 : Int64) (b_p0 : 1 ≤ p0.toInt ∧ p0.toInt ≤ 3) : Met l yX12_partFrom wsX12_partFrom ({ frames := 2, cells := 0, slots := 0, locals := 56 }) (va_Pc [.ref (ad 60 0), .int 1, .int p0, .int p1, .long p2] (fm_P D ad C nb M)) (va_Qv (fun (u : fm_M) => fm_I nb ad u ∧ fm_same [60061, 159000, 160000] M u ∧ True) (fun u t => fm_at D ad C nb u t.heap) (fm_A nb ad)) 0 0 (fm_A nb ad) := by
  refine Met.ofW (cc := cX12_partFrom) (maxL := 9) (ret := none) (by decide) rfl ?_
  intro p e s m args below meth c s₁ B hml hv
  obtain ⟨rfl, hw, hc⟩ := hv
  have hx := B.exec
  have hb := B.bytes
  have hr := B.returns
  have hts := atoms_spec (ws := wsX12_partFrom) B.pre
  have hown : s.vm.findClass RX12 = some m.cls := findClass_of_methodNamed B.named
  have hinX12 : ∀ w ∈ u_ws RX12 TX12 79, w ∈ wsX12_partFrom := fun w h => List.mem_cons_of_mem _ (iT_X12 w h)
  have hS : va_S (fm_A nb ad) s.heap s.heap [] := va_S.rf
  have hE : fm_same [60061, 159000, 160000] M M := fm_same.rf
  have hl := lv_entry ([.ref (ad 60 0), .int 1, .int p0, .int p1, .long p2]) (n := 9) (Nat.le_of_ble_eq_true rfl)
  rw [lg_entry_eq]
  generalize (lg_sl ([.ref (ad 60 0), .int 1, .int p0, .int p1, .long p2]) ++ List.replicate (9 - (lg_sl ([.ref (ad 60 0), .int 1, .int p0, .int p1, .long p2])).length) Slot.unset).toArray = ls at hl ⊢
  have hl : lv_has ls 9 [(0, .ref (ad 60 0)), (1, .int 1), (2, .int p0), (3, .int p1), (4, .long p2)] := hl
  refine lv_iload_n hx hb dX12_partFrom_0 rfl (lv_at hl 1 rfl) ?_
  refine lv_iload_n hx hb dX12_partFrom_1 rfl (lv_at hl 2 rfl) ?_
  refine fx_icmp_ne (tgt := 98) hx hb dX12_partFrom_2 (by decide) zk_1 rfl (fun c1 => ?_) (fun c1 => ?_)
  · refine lv_iconst (v := 0) hx hb dX12_partFrom_98 (by decide) ?_
    refine lv_istore (lv' := [(6, .int 0), (0, .ref (ad 60 0)), (1, .int 1), (2, .int p0), (3, .int p1), (4, .long p2)]) hx hb dX12_partFrom_99 hl (by decide) rfl (fun ls hl => ?_)
    have lr : ∀ (n_lr : Nat) (lr_6 : Int32) (M_lr : fm_M), (16 - lr_6.toInt).toNat < n_lr → (0 ≤ lr_6.toInt ∧ lr_6.toInt ≤ 16) → fm_I nb ad M_lr → fm_same [60061, 159000, 160000] M M_lr → ∀ (H : Heap) (locs : List Loc), fm_at D ad C nb M_lr H → va_S (fm_A nb ad) s.heap H locs → ∀ (ls : Array Slot), lv_has ls 9 [(6, .int lr_6), (0, .ref (ad 60 0)), (1, .int 1), (2, .int p0), (3, .int p1), (4, .long p2)] → W p l e (headSpec wsX12_partFrom ({ frames := 2, cells := 0, slots := 0, locals := 56 })).room s m ([.ref (ad 60 0), .int 1, .int p0, .int p1, .long p2] : List Value).toArray below meth c H locs 0 0 (MQ below (va_Qv (fun (u : fm_M) => fm_I nb ad u ∧ fm_same [60061, 159000, 160000] M u ∧ True) (fun u t => fm_at D ad C nb u t.heap) (fm_A nb ad)) ([.ref (ad 60 0), .int 1, .int p0, .int p1, .long p2] : List Value).toArray s 0 0 (fm_A nb ad)) (F0 m 101 ls []) := by
      intro n_lr
      induction n_lr with
      | zero => intro lr_6 M_lr hm_lr b_lr_6 hI hE H locs hw hS ls hl; exact absurd hm_lr (Nat.not_lt_zero _)
      | succ n_lr ih_lr =>
        intro lr_6 M_lr hm_lr b_lr_6 hI hE H locs hw hS ls hl
        refine lv_iload hx hb dX12_partFrom_101 (lv_at hl 0 rfl) ?_
        refine lv_aload_n hx hb dX12_partFrom_103 rfl (lv_at hl 1 rfl) ?_
        refine fm_getI (a := 60) (j := 36) (T := TX12) (N := 79) hx hb hts hinX12 hown hc hw hI kl_60 sh_60 rfl (by decide) rfl bd_60_36 (hts (.fieldLink RX12 272 "RedTentModel" "laneMany" "I") (List.mem_cons_of_mem _ tw_5_156)) (fun _ h9 => h9) dX12_partFrom_104 (fun x2 ex2 bx2 => ?_)
        refine fx_icmp_ge (tgt := 160) hx hb dX12_partFrom_107 (by decide) rfl rfl (fun c3 => ?_) (fun c3 => ?_)
        · exact W.vret hx hb hr (fun t ht hW => ⟨⟨M_lr, rfl, ⟨hI, hE, trivial⟩, by show fm_at D ad C nb _ t.heap; rw [ht]; exact hw⟩, hS.F ht⟩) hS.2.2 dX12_partFrom_160
        · refine lv_iload_n hx hb dX12_partFrom_110 rfl (lv_at hl 4 rfl) ?_
          refine lv_iload hx hb dX12_partFrom_111 (lv_at hl 0 rfl) ?_
          refine lv_ishr hx hb dX12_partFrom_113 ?_
          refine lv_topi (fun y4 ey4 => ?_)
          refine lv_iconst (v := 1) hx hb dX12_partFrom_114 (by decide) ?_
          refine fx_iand1 hx hb dX12_partFrom_115 (fun y5 ey5 by5 => ?_)
          refine lv_iconst (v := 1) hx hb dX12_partFrom_116 (by decide) ?_
          refine fx_icmp_ne (tgt := 154) hx hb dX12_partFrom_117 (by decide) rfl zk_1 (fun c6 => ?_) (fun c6 => ?_)
          · obtain ⟨y7, ey7⟩ : ∃ y : Int32, y = lr_6 + 1 := ⟨_, rfl⟩
            have ty7 : y7.toInt = lr_6.toInt + 1 := by rw [ey7, zi_add _ _ (by rw [zk_1]; omega) (by rw [zk_1]; omega), zk_1]
            refine lv_iinc (v := y7) (lv' := [(6, .int y7), (0, .ref (ad 60 0)), (1, .int 1), (2, .int p0), (3, .int p1), (4, .long p2)]) hx hb dX12_partFrom_154 hl (k := 0) rfl (by rw [ey7]; rfl) (by decide) rfl (fun ls hl => ?_)
            refine lv_goto (tgt := 101) hx hb dX12_partFrom_157 (by decide) ?_
            exact ih_lr y7 M_lr (by omega) (by omega) hI hE _ _ hw hS ls (lv_sub hl [0, 1, 2, 3, 4, 5] rfl)
          · refine lv_aload_n hx hb dX12_partFrom_120 rfl (lv_at hl 1 rfl) ?_
            refine fm_getG (a := 60) (j := 59) (T := TX12) (N := 79) hx hb hts hinX12 hown hc hw kl_60 sh_60 rfl (by decide) rfl (hI.to kl_60 tg_60_59) (hts (.fieldLink RX12 137 "RedTentModel" "trying" "[I") (List.mem_cons_of_mem _ tw_5_179)) (fun _ h9 => h9) dX12_partFrom_121 ?_
            refine lv_iload_n hx hb dX12_partFrom_124 rfl (lv_at hl 2 rfl) ?_
            refine lv_iload hx hb dX12_partFrom_125 (lv_at hl 0 rfl) ?_
            refine fm_iast (a := 159) hx hb hc hw hI hE hS kl_159 sh_159 ty_159 bd_159 (by decide) (by omega) cd_159 (by decide) dX12_partFrom_127 (fun M8 H locs eM8 hw hI hE hS => ?_)
            refine lv_aload_n hx hb dX12_partFrom_128 rfl (lv_at hl 1 rfl) ?_
            refine lv_iload_n hx hb dX12_partFrom_129 rfl (lv_at hl 2 rfl) ?_
            refine lv_iconst (v := 1) hx hb dX12_partFrom_130 (by decide) ?_
            refine lv_iadd hx hb dX12_partFrom_131 ?_
            refine lv_topi (fun y10 ey10 => ?_)
            obtain rfl : y10 = 2 := ey10.trans (by decide)
            refine lv_iload_n hx hb dX12_partFrom_132 rfl (lv_at hl 3 rfl) ?_
            refine lv_iload_n hx hb dX12_partFrom_133 rfl (lv_at hl 4 rfl) ?_
            refine lv_iconst (v := 1) hx hb dX12_partFrom_134 (by decide) ?_
            refine lv_iload hx hb dX12_partFrom_135 (lv_at hl 0 rfl) ?_
            refine lv_ishl hx hb dX12_partFrom_137 ?_
            refine lv_topi (fun y11 ey11 => ?_)
            refine lv_iconst (v := (-1)) hx hb dX12_partFrom_138 (by decide) ?_
            refine lv_ixor hx hb dX12_partFrom_139 ?_
            refine lv_topi (fun y12 ey12 => ?_)
            refine lv_iand hx hb dX12_partFrom_140 ?_
            refine lv_topi (fun y13 ey13 => ?_)
            refine lv_lload hx hb dX12_partFrom_141 (lv_at hl 5 rfl) ?_
            refine lv_aload_n hx hb dX12_partFrom_143 rfl (lv_at hl 1 rfl) ?_
            refine fm_getG (a := 60) (j := 35) (T := TX12) (N := 79) hx hb hts hinX12 hown hc hw kl_60 sh_60 rfl (by decide) rfl (hI.to kl_60 tg_60_35) (hts (.fieldLink RX12 89 "RedTentModel" "lanes" "[J") (List.mem_cons_of_mem _ tw_5_155)) (fun _ h9 => h9) dX12_partFrom_144 ?_
            refine lv_iload hx hb dX12_partFrom_147 (lv_at hl 0 rfl) ?_
            refine fm_lald (a := 135) hx hb hc hw kl_135 sh_135 ty_135 (by omega) dX12_partFrom_149 (fun x14 ex14 => ?_)
            refine lv_lor hx hb dX12_partFrom_150 ?_
            refine lv_topl (fun y15 ey15 => ?_)
            refine fm_cv (va_runV (As := [.int 2, .int p0, .int y13, .long y15]) (rest := []) ⟨hx, hb, hml, hown, hts⟩ (fc_X12_partFrom2 l D ad C nb M8 hI p0 y13 y15 (by omega)) (cwV 4 hts gX12_partFrom_X12_partFrom rfl rfl rfl (by decide +kernel) ⟨Nat.le_of_ble_eq_true rfl, Nat.le_of_ble_eq_true rfl⟩) (fm_preV hc hw hS kl_60 sh_60 rfl) rfl rfl hl.1 rfl (lv_room (Nat.le_of_ble_eq_true rfl)) dX12_partFrom_151 ⟨by decide +kernel, by decide +kernel⟩) hS hc (fun M17 H locs hr16 hw hS => ?_)
            obtain ⟨hI, hEM17, hr16⟩ := hr16
            have hE := hE.tr hEM17 (by decide)
            obtain ⟨y18, ey18⟩ : ∃ y : Int32, y = lr_6 + 1 := ⟨_, rfl⟩
            have ty18 : y18.toInt = lr_6.toInt + 1 := by rw [ey18, zi_add _ _ (by rw [zk_1]; omega) (by rw [zk_1]; omega), zk_1]
            refine lv_iinc (v := y18) (lv' := [(6, .int y18), (0, .ref (ad 60 0)), (1, .int 1), (2, .int p0), (3, .int p1), (4, .long p2)]) hx hb dX12_partFrom_154 hl (k := 0) rfl (by rw [ey18]; rfl) (by decide) rfl (fun ls hl => ?_)
            refine lv_goto (tgt := 101) hx hb dX12_partFrom_157 (by decide) ?_
            exact ih_lr y18 M17 (by omega) (by omega) hI hE _ _ hw hS ls (lv_sub hl [0, 1, 2, 3, 4, 5] rfl)
    exact lr _ 0 M (Nat.lt_succ_self _) (by decide) hI hE _ _ hw hS ls (lv_sub hl [0, 1, 2, 3, 4, 5] rfl)
  · refine lv_lconst (v := 0) hx hb dX12_partFrom_5 (by decide) ?_
    refine lv_lstore (lv' := [(6, .long 0), (0, .ref (ad 60 0)), (1, .int 1), (2, .int p0), (3, .int p1), (4, .long p2)]) hx hb dX12_partFrom_6 hl (by decide) rfl (fun ls hl => ?_)
    refine lv_iconst (v := 0) hx hb dX12_partFrom_8 (by decide) ?_
    refine lv_istore (lv' := [(8, .int 0), (6, .long 0), (0, .ref (ad 60 0)), (1, .int 1), (2, .int p0), (3, .int p1), (4, .long p2)]) hx hb dX12_partFrom_9 hl (by decide) rfl (fun ls hl => ?_)
    have lp : ∀ (n_lp : Nat) (lp_8 : Int32) (lp_6 : Int64) (M_lp : fm_M), (64 - lp_8.toInt).toNat < n_lp → (0 ≤ lp_8.toInt ∧ lp_8.toInt ≤ 64) → fm_I nb ad M_lp → fm_same [60061, 159000, 160000] M M_lp → ∀ (H : Heap) (locs : List Loc), fm_at D ad C nb M_lp H → va_S (fm_A nb ad) s.heap H locs → ∀ (ls : Array Slot), lv_has ls 9 [(8, .int lp_8), (6, .long lp_6), (0, .ref (ad 60 0)), (1, .int 1), (2, .int p0), (3, .int p1), (4, .long p2)] → W p l e (headSpec wsX12_partFrom ({ frames := 2, cells := 0, slots := 0, locals := 56 })).room s m ([.ref (ad 60 0), .int 1, .int p0, .int p1, .long p2] : List Value).toArray below meth c H locs 0 0 (MQ below (va_Qv (fun (u : fm_M) => fm_I nb ad u ∧ fm_same [60061, 159000, 160000] M u ∧ True) (fun u t => fm_at D ad C nb u t.heap) (fm_A nb ad)) ([.ref (ad 60 0), .int 1, .int p0, .int p1, .long p2] : List Value).toArray s 0 0 (fm_A nb ad)) (F0 m 11 ls []) := by
      intro n_lp
      induction n_lp with
      | zero => intro lp_8 lp_6 M_lp hm_lp b_lp_8 hI hE H locs hw hS ls hl; exact absurd hm_lp (Nat.not_lt_zero _)
      | succ n_lp ih_lp =>
        intro lp_8 lp_6 M_lp hm_lp b_lp_8 hI hE H locs hw hS ls hl
        refine lv_iload hx hb dX12_partFrom_11 (lv_at hl 0 rfl) ?_
        refine lv_bipush (v := 64) hx hb dX12_partFrom_13 (by decide) ?_
        refine fx_icmp_ge (tgt := 52) hx hb dX12_partFrom_15 (by decide) rfl zk_64 (fun c19 => ?_) (fun c19 => ?_)
        · refine lv_lload hx hb dX12_partFrom_52 (lv_at hl 1 rfl) ?_
          refine lv_aload_n hx hb dX12_partFrom_54 rfl (lv_at hl 2 rfl) ?_
          refine fm_getL (a := 60) (j := 61) (T := TX12) (N := 79) hx hb hts hinX12 hown hc hw kl_60 sh_60 rfl (by decide) rfl (hts (.fieldLink RX12 295 "RedTentModel" "bestWeigh" "J") (List.mem_cons_of_mem _ tw_5_181)) (fun _ h9 => h9) dX12_partFrom_55 (fun x20 ex20 => ?_)
          refine W.lcmp hx hb dX12_partFrom_58 ?_
          refine fx_lif_le (tgt := 97) hx hb dX12_partFrom_59 (by decide) (fun c21 => ?_) (fun c21 => ?_)
          · exact W.vret hx hb hr (fun t ht hW => ⟨⟨M_lp, rfl, ⟨hI, hE, trivial⟩, by show fm_at D ad C nb _ t.heap; rw [ht]; exact hw⟩, hS.F ht⟩) hS.2.2 dX12_partFrom_97
          · refine lv_aload_n hx hb dX12_partFrom_62 rfl (lv_at hl 2 rfl) ?_
            refine lv_lload hx hb dX12_partFrom_63 (lv_at hl 1 rfl) ?_
            refine fm_putL (a := 60) (j := 61) (T := TX12) (N := 79) hx hb hts hinX12 tyX12 tyX12_ok nmX12 hown hc hw hI hE hS kl_60 sh_60 od_60 rfl (by decide) rfl (hts (.fieldLink RX12 295 "RedTentModel" "bestWeigh" "J") (List.mem_cons_of_mem _ tw_5_181)) (fun _ h9 => h9) rfl (by decide +kernel) (by decide) dX12_partFrom_65 (fun M22 H locs eM22 hw hI hE hS => ?_)
            refine lv_iconst (v := 0) hx hb dX12_partFrom_68 (by decide) ?_
            refine lv_istore (lv' := [(8, .int 0), (6, .long lp_6), (0, .ref (ad 60 0)), (1, .int 1), (2, .int p0), (3, .int p1), (4, .long p2)]) hx hb dX12_partFrom_69 hl (by decide) rfl (fun ls hl => ?_)
            have lq : ∀ (n_lq : Nat) (lq_8 : Int32) (M_lq : fm_M), (3 - lq_8.toInt).toNat < n_lq → (0 ≤ lq_8.toInt ∧ lq_8.toInt ≤ 3) → fm_I nb ad M_lq → fm_same [60061, 159000, 160000] M M_lq → ∀ (H : Heap) (locs : List Loc), fm_at D ad C nb M_lq H → va_S (fm_A nb ad) s.heap H locs → ∀ (ls : Array Slot), lv_has ls 9 [(8, .int lq_8), (6, .long lp_6), (0, .ref (ad 60 0)), (1, .int 1), (2, .int p0), (3, .int p1), (4, .long p2)] → W p l e (headSpec wsX12_partFrom ({ frames := 2, cells := 0, slots := 0, locals := 56 })).room s m ([.ref (ad 60 0), .int 1, .int p0, .int p1, .long p2] : List Value).toArray below meth c H locs 0 0 (MQ below (va_Qv (fun (u : fm_M) => fm_I nb ad u ∧ fm_same [60061, 159000, 160000] M u ∧ True) (fun u t => fm_at D ad C nb u t.heap) (fm_A nb ad)) ([.ref (ad 60 0), .int 1, .int p0, .int p1, .long p2] : List Value).toArray s 0 0 (fm_A nb ad)) (F0 m 71 ls []) := by
              intro n_lq
              induction n_lq with
              | zero => intro lq_8 M_lq hm_lq b_lq_8 hI hE H locs hw hS ls hl; exact absurd hm_lq (Nat.not_lt_zero _)
              | succ n_lq ih_lq =>
                intro lq_8 M_lq hm_lq b_lq_8 hI hE H locs hw hS ls hl
                refine lv_iload hx hb dX12_partFrom_71 (lv_at hl 0 rfl) ?_
                refine lv_iload_n hx hb dX12_partFrom_73 rfl (lv_at hl 4 rfl) ?_
                refine fx_icmp_ge (tgt := 97) hx hb dX12_partFrom_74 (by decide) rfl rfl (fun c23 => ?_) (fun c23 => ?_)
                · exact W.vret hx hb hr (fun t ht hW => ⟨⟨M_lq, rfl, ⟨hI, hE, trivial⟩, by show fm_at D ad C nb _ t.heap; rw [ht]; exact hw⟩, hS.F ht⟩) hS.2.2 dX12_partFrom_97
                · refine lv_aload_n hx hb dX12_partFrom_77 rfl (lv_at hl 2 rfl) ?_
                  refine fm_getG (a := 60) (j := 60) (T := TX12) (N := 79) hx hb hts hinX12 hown hc hw kl_60 sh_60 rfl (by decide) rfl (hI.to kl_60 tg_60_60) (hts (.fieldLink RX12 140 "RedTentModel" "best" "[I") (List.mem_cons_of_mem _ tw_5_180)) (fun _ h9 => h9) dX12_partFrom_78 ?_
                  refine lv_iload hx hb dX12_partFrom_81 (lv_at hl 0 rfl) ?_
                  refine lv_aload_n hx hb dX12_partFrom_83 rfl (lv_at hl 2 rfl) ?_
                  refine fm_getG (a := 60) (j := 59) (T := TX12) (N := 79) hx hb hts hinX12 hown hc hw kl_60 sh_60 rfl (by decide) rfl (hI.to kl_60 tg_60_59) (hts (.fieldLink RX12 137 "RedTentModel" "trying" "[I") (List.mem_cons_of_mem _ tw_5_179)) (fun _ h9 => h9) dX12_partFrom_84 ?_
                  refine lv_iload hx hb dX12_partFrom_87 (lv_at hl 0 rfl) ?_
                  refine fm_iald (a := 159) hx hb hc hw hI kl_159 sh_159 ty_159 bd_159 (by omega) dX12_partFrom_89 (fun x24 ex24 bx24 => ?_)
                  refine fm_iast (a := 160) hx hb hc hw hI hE hS kl_160 sh_160 ty_160 bd_160 (by omega) (by omega) cd_160 (by decide) dX12_partFrom_90 (fun M25 H locs eM25 hw hI hE hS => ?_)
                  obtain ⟨y26, ey26⟩ : ∃ y : Int32, y = lq_8 + 1 := ⟨_, rfl⟩
                  have ty26 : y26.toInt = lq_8.toInt + 1 := by rw [ey26, zi_add _ _ (by rw [zk_1]; omega) (by rw [zk_1]; omega), zk_1]
                  refine lv_iinc (v := y26) (lv' := [(8, .int y26), (6, .long lp_6), (0, .ref (ad 60 0)), (1, .int 1), (2, .int p0), (3, .int p1), (4, .long p2)]) hx hb dX12_partFrom_91 hl (k := 0) rfl (by rw [ey26]; rfl) (by decide) rfl (fun ls hl => ?_)
                  refine lv_goto (tgt := 71) hx hb dX12_partFrom_94 (by decide) ?_
                  exact ih_lq y26 M25 (by omega) (by omega) hI hE _ _ hw hS ls (lv_sub hl [0, 1, 2, 3, 4, 5, 6] rfl)
            exact lq _ 0 M22 (Nat.lt_succ_self _) (by decide) hI hE _ _ hw hS ls (lv_sub hl [0, 1, 2, 3, 4, 5, 6] rfl)
        · refine lv_lload hx hb dX12_partFrom_18 (lv_at hl 1 rfl) ?_
          refine lv_lload hx hb dX12_partFrom_20 (lv_at hl 6 rfl) ?_
          refine lv_iload hx hb dX12_partFrom_22 (lv_at hl 0 rfl) ?_
          refine lv_lushr (v := (p2.toUInt64 >>> (lp_8.toInt64.toUInt64 &&& Int64.toUInt64 63)).toInt64) hx hb dX12_partFrom_24 rfl ?_
          refine lv_topl (fun y27 ey27 => ?_)
          refine lv_lconst (v := 1) hx hb dX12_partFrom_25 (by decide) ?_
          refine lv_land hx hb dX12_partFrom_26 ?_
          refine lv_topl (fun y28 ey28 => ?_)
          refine lv_lconst (v := 1) hx hb dX12_partFrom_27 (by decide) ?_
          refine W.lcmp hx hb dX12_partFrom_28 ?_
          refine fx_lif_ne (tgt := 42) hx hb dX12_partFrom_29 (by decide) (fun c29 => ?_) (fun c29 => ?_)
          · refine lv_lconst (v := 0) hx hb dX12_partFrom_42 (by decide) ?_
            refine lv_ladd hx hb dX12_partFrom_43 ?_
            refine lv_topl (fun y30 ey30 => ?_)
            refine lv_lstore (lv' := [(6, .long y30), (8, .int lp_8), (0, .ref (ad 60 0)), (1, .int 1), (2, .int p0), (3, .int p1), (4, .long p2)]) hx hb dX12_partFrom_44 hl (by decide) rfl (fun ls hl => ?_)
            obtain ⟨y31, ey31⟩ : ∃ y : Int32, y = lp_8 + 1 := ⟨_, rfl⟩
            have ty31 : y31.toInt = lp_8.toInt + 1 := by rw [ey31, zi_add _ _ (by rw [zk_1]; omega) (by rw [zk_1]; omega), zk_1]
            refine lv_iinc (v := y31) (lv' := [(8, .int y31), (6, .long y30), (0, .ref (ad 60 0)), (1, .int 1), (2, .int p0), (3, .int p1), (4, .long p2)]) hx hb dX12_partFrom_46 hl (k := 1) rfl (by rw [ey31]; rfl) (by decide) rfl (fun ls hl => ?_)
            refine lv_goto (tgt := 11) hx hb dX12_partFrom_49 (by decide) ?_
            exact ih_lp y31 y30 M_lp (by omega) (by omega) hI hE _ _ hw hS ls (lv_sub hl [0, 1, 2, 3, 4, 5, 6] rfl)
          · refine lv_aload_n hx hb dX12_partFrom_32 rfl (lv_at hl 2 rfl) ?_
            refine fm_getG (a := 60) (j := 57) (T := TX12) (N := 79) hx hb hts hinX12 hown hc hw kl_60 sh_60 rfl (by decide) rfl (hI.to kl_60 tg_60_57) (hts (.fieldLink RX12 134 "RedTentModel" "weight" "[J") (List.mem_cons_of_mem _ tw_5_177)) (fun _ h9 => h9) dX12_partFrom_33 ?_
            refine lv_iload hx hb dX12_partFrom_36 (lv_at hl 0 rfl) ?_
            refine fm_lald (a := 157) hx hb hc hw kl_157 sh_157 ty_157 (by omega) dX12_partFrom_38 (fun x32 ex32 => ?_)
            refine lv_goto (tgt := 43) hx hb dX12_partFrom_39 (by decide) ?_
            refine lv_ladd hx hb dX12_partFrom_43 ?_
            refine lv_topl (fun y33 ey33 => ?_)
            refine lv_lstore (lv' := [(6, .long y33), (8, .int lp_8), (0, .ref (ad 60 0)), (1, .int 1), (2, .int p0), (3, .int p1), (4, .long p2)]) hx hb dX12_partFrom_44 hl (by decide) rfl (fun ls hl => ?_)
            obtain ⟨y34, ey34⟩ : ∃ y : Int32, y = lp_8 + 1 := ⟨_, rfl⟩
            have ty34 : y34.toInt = lp_8.toInt + 1 := by rw [ey34, zi_add _ _ (by rw [zk_1]; omega) (by rw [zk_1]; omega), zk_1]
            refine lv_iinc (v := y34) (lv' := [(8, .int y34), (6, .long y33), (0, .ref (ad 60 0)), (1, .int 1), (2, .int p0), (3, .int p1), (4, .long p2)]) hx hb dX12_partFrom_46 hl (k := 1) rfl (by rw [ey34]; rfl) (by decide) rfl (fun ls hl => ?_)
            refine lv_goto (tgt := 11) hx hb dX12_partFrom_49 (by decide) ?_
            exact ih_lp y34 y33 M_lp (by omega) (by omega) hI hE _ _ hw hS ls (lv_sub hl [0, 1, 2, 3, 4, 5, 6] rfl)
    exact lp _ 0 0 M (Nat.lt_succ_self _) (by decide) hI hE _ _ hw hS ls (lv_sub hl [0, 1, 2, 3, 4, 5, 6] rfl)
set_option maxHeartbeats 400000 in
set_option maxRecDepth 20000 in
theorem fc_X12_partFrom0 (l : Launch) (D : va_G) (ad : Nat → Nat → Nat) (C : Nat → Nat → ClassId) (nb : Nat) (M : fm_M) (hI : fm_I nb ad M) (p0 p1 : Int32) (p2 : Int64) (b_p0 : 0 ≤ p0.toInt ∧ p0.toInt ≤ 3) : Met l yX12_partFrom wsX12_partFrom ({ frames := 3, cells := 0, slots := 0, locals := 84 }) (va_Pc [.ref (ad 60 0), .int 0, .int p0, .int p1, .long p2] (fm_P D ad C nb M)) (va_Qv (fun (u : fm_M) => fm_I nb ad u ∧ fm_same [60061, 159000, 160000] M u ∧ True) (fun u t => fm_at D ad C nb u t.heap) (fm_A nb ad)) 0 0 (fm_A nb ad) := by
  refine Met.ofW (cc := cX12_partFrom) (maxL := 9) (ret := none) (by decide) rfl ?_
  intro p e s m args below meth c s₁ B hml hv
  obtain ⟨rfl, hw, hc⟩ := hv
  have hx := B.exec
  have hb := B.bytes
  have hr := B.returns
  have hts := atoms_spec (ws := wsX12_partFrom) B.pre
  have hown : s.vm.findClass RX12 = some m.cls := findClass_of_methodNamed B.named
  have hinX12 : ∀ w ∈ u_ws RX12 TX12 79, w ∈ wsX12_partFrom := fun w h => List.mem_cons_of_mem _ (iT_X12 w h)
  have hS : va_S (fm_A nb ad) s.heap s.heap [] := va_S.rf
  have hE : fm_same [60061, 159000, 160000] M M := fm_same.rf
  have hl := lv_entry ([.ref (ad 60 0), .int 0, .int p0, .int p1, .long p2]) (n := 9) (Nat.le_of_ble_eq_true rfl)
  rw [lg_entry_eq]
  generalize (lg_sl ([.ref (ad 60 0), .int 0, .int p0, .int p1, .long p2]) ++ List.replicate (9 - (lg_sl ([.ref (ad 60 0), .int 0, .int p0, .int p1, .long p2])).length) Slot.unset).toArray = ls at hl ⊢
  have hl : lv_has ls 9 [(0, .ref (ad 60 0)), (1, .int 0), (2, .int p0), (3, .int p1), (4, .long p2)] := hl
  refine lv_iload_n hx hb dX12_partFrom_0 rfl (lv_at hl 1 rfl) ?_
  refine lv_iload_n hx hb dX12_partFrom_1 rfl (lv_at hl 2 rfl) ?_
  refine fx_icmp_ne (tgt := 98) hx hb dX12_partFrom_2 (by decide) zk_0 rfl (fun c1 => ?_) (fun c1 => ?_)
  · refine lv_iconst (v := 0) hx hb dX12_partFrom_98 (by decide) ?_
    refine lv_istore (lv' := [(6, .int 0), (0, .ref (ad 60 0)), (1, .int 0), (2, .int p0), (3, .int p1), (4, .long p2)]) hx hb dX12_partFrom_99 hl (by decide) rfl (fun ls hl => ?_)
    have lr : ∀ (n_lr : Nat) (lr_6 : Int32) (M_lr : fm_M), (16 - lr_6.toInt).toNat < n_lr → (0 ≤ lr_6.toInt ∧ lr_6.toInt ≤ 16) → fm_I nb ad M_lr → fm_same [60061, 159000, 160000] M M_lr → ∀ (H : Heap) (locs : List Loc), fm_at D ad C nb M_lr H → va_S (fm_A nb ad) s.heap H locs → ∀ (ls : Array Slot), lv_has ls 9 [(6, .int lr_6), (0, .ref (ad 60 0)), (1, .int 0), (2, .int p0), (3, .int p1), (4, .long p2)] → W p l e (headSpec wsX12_partFrom ({ frames := 3, cells := 0, slots := 0, locals := 84 })).room s m ([.ref (ad 60 0), .int 0, .int p0, .int p1, .long p2] : List Value).toArray below meth c H locs 0 0 (MQ below (va_Qv (fun (u : fm_M) => fm_I nb ad u ∧ fm_same [60061, 159000, 160000] M u ∧ True) (fun u t => fm_at D ad C nb u t.heap) (fm_A nb ad)) ([.ref (ad 60 0), .int 0, .int p0, .int p1, .long p2] : List Value).toArray s 0 0 (fm_A nb ad)) (F0 m 101 ls []) := by
      intro n_lr
      induction n_lr with
      | zero => intro lr_6 M_lr hm_lr b_lr_6 hI hE H locs hw hS ls hl; exact absurd hm_lr (Nat.not_lt_zero _)
      | succ n_lr ih_lr =>
        intro lr_6 M_lr hm_lr b_lr_6 hI hE H locs hw hS ls hl
        refine lv_iload hx hb dX12_partFrom_101 (lv_at hl 0 rfl) ?_
        refine lv_aload_n hx hb dX12_partFrom_103 rfl (lv_at hl 1 rfl) ?_
        refine fm_getI (a := 60) (j := 36) (T := TX12) (N := 79) hx hb hts hinX12 hown hc hw hI kl_60 sh_60 rfl (by decide) rfl bd_60_36 (hts (.fieldLink RX12 272 "RedTentModel" "laneMany" "I") (List.mem_cons_of_mem _ tw_5_156)) (fun _ h9 => h9) dX12_partFrom_104 (fun x2 ex2 bx2 => ?_)
        refine fx_icmp_ge (tgt := 160) hx hb dX12_partFrom_107 (by decide) rfl rfl (fun c3 => ?_) (fun c3 => ?_)
        · exact W.vret hx hb hr (fun t ht hW => ⟨⟨M_lr, rfl, ⟨hI, hE, trivial⟩, by show fm_at D ad C nb _ t.heap; rw [ht]; exact hw⟩, hS.F ht⟩) hS.2.2 dX12_partFrom_160
        · refine lv_iload_n hx hb dX12_partFrom_110 rfl (lv_at hl 4 rfl) ?_
          refine lv_iload hx hb dX12_partFrom_111 (lv_at hl 0 rfl) ?_
          refine lv_ishr hx hb dX12_partFrom_113 ?_
          refine lv_topi (fun y4 ey4 => ?_)
          refine lv_iconst (v := 1) hx hb dX12_partFrom_114 (by decide) ?_
          refine fx_iand1 hx hb dX12_partFrom_115 (fun y5 ey5 by5 => ?_)
          refine lv_iconst (v := 1) hx hb dX12_partFrom_116 (by decide) ?_
          refine fx_icmp_ne (tgt := 154) hx hb dX12_partFrom_117 (by decide) rfl zk_1 (fun c6 => ?_) (fun c6 => ?_)
          · obtain ⟨y7, ey7⟩ : ∃ y : Int32, y = lr_6 + 1 := ⟨_, rfl⟩
            have ty7 : y7.toInt = lr_6.toInt + 1 := by rw [ey7, zi_add _ _ (by rw [zk_1]; omega) (by rw [zk_1]; omega), zk_1]
            refine lv_iinc (v := y7) (lv' := [(6, .int y7), (0, .ref (ad 60 0)), (1, .int 0), (2, .int p0), (3, .int p1), (4, .long p2)]) hx hb dX12_partFrom_154 hl (k := 0) rfl (by rw [ey7]; rfl) (by decide) rfl (fun ls hl => ?_)
            refine lv_goto (tgt := 101) hx hb dX12_partFrom_157 (by decide) ?_
            exact ih_lr y7 M_lr (by omega) (by omega) hI hE _ _ hw hS ls (lv_sub hl [0, 1, 2, 3, 4, 5] rfl)
          · refine lv_aload_n hx hb dX12_partFrom_120 rfl (lv_at hl 1 rfl) ?_
            refine fm_getG (a := 60) (j := 59) (T := TX12) (N := 79) hx hb hts hinX12 hown hc hw kl_60 sh_60 rfl (by decide) rfl (hI.to kl_60 tg_60_59) (hts (.fieldLink RX12 137 "RedTentModel" "trying" "[I") (List.mem_cons_of_mem _ tw_5_179)) (fun _ h9 => h9) dX12_partFrom_121 ?_
            refine lv_iload_n hx hb dX12_partFrom_124 rfl (lv_at hl 2 rfl) ?_
            refine lv_iload hx hb dX12_partFrom_125 (lv_at hl 0 rfl) ?_
            refine fm_iast (a := 159) hx hb hc hw hI hE hS kl_159 sh_159 ty_159 bd_159 (by decide) (by omega) cd_159 (by decide) dX12_partFrom_127 (fun M8 H locs eM8 hw hI hE hS => ?_)
            refine lv_aload_n hx hb dX12_partFrom_128 rfl (lv_at hl 1 rfl) ?_
            refine lv_iload_n hx hb dX12_partFrom_129 rfl (lv_at hl 2 rfl) ?_
            refine lv_iconst (v := 1) hx hb dX12_partFrom_130 (by decide) ?_
            refine lv_iadd hx hb dX12_partFrom_131 ?_
            refine lv_topi (fun y10 ey10 => ?_)
            obtain rfl : y10 = 1 := ey10.trans (by decide)
            refine lv_iload_n hx hb dX12_partFrom_132 rfl (lv_at hl 3 rfl) ?_
            refine lv_iload_n hx hb dX12_partFrom_133 rfl (lv_at hl 4 rfl) ?_
            refine lv_iconst (v := 1) hx hb dX12_partFrom_134 (by decide) ?_
            refine lv_iload hx hb dX12_partFrom_135 (lv_at hl 0 rfl) ?_
            refine lv_ishl hx hb dX12_partFrom_137 ?_
            refine lv_topi (fun y11 ey11 => ?_)
            refine lv_iconst (v := (-1)) hx hb dX12_partFrom_138 (by decide) ?_
            refine lv_ixor hx hb dX12_partFrom_139 ?_
            refine lv_topi (fun y12 ey12 => ?_)
            refine lv_iand hx hb dX12_partFrom_140 ?_
            refine lv_topi (fun y13 ey13 => ?_)
            refine lv_lload hx hb dX12_partFrom_141 (lv_at hl 5 rfl) ?_
            refine lv_aload_n hx hb dX12_partFrom_143 rfl (lv_at hl 1 rfl) ?_
            refine fm_getG (a := 60) (j := 35) (T := TX12) (N := 79) hx hb hts hinX12 hown hc hw kl_60 sh_60 rfl (by decide) rfl (hI.to kl_60 tg_60_35) (hts (.fieldLink RX12 89 "RedTentModel" "lanes" "[J") (List.mem_cons_of_mem _ tw_5_155)) (fun _ h9 => h9) dX12_partFrom_144 ?_
            refine lv_iload hx hb dX12_partFrom_147 (lv_at hl 0 rfl) ?_
            refine fm_lald (a := 135) hx hb hc hw kl_135 sh_135 ty_135 (by omega) dX12_partFrom_149 (fun x14 ex14 => ?_)
            refine lv_lor hx hb dX12_partFrom_150 ?_
            refine lv_topl (fun y15 ey15 => ?_)
            refine fm_cv (va_runV (As := [.int 1, .int p0, .int y13, .long y15]) (rest := []) ⟨hx, hb, hml, hown, hts⟩ (fc_X12_partFrom1 l D ad C nb M8 hI p0 y13 y15 (by omega)) (cwV 4 hts gX12_partFrom_X12_partFrom rfl rfl rfl (by decide +kernel) ⟨Nat.le_of_ble_eq_true rfl, Nat.le_of_ble_eq_true rfl⟩) (fm_preV hc hw hS kl_60 sh_60 rfl) rfl rfl hl.1 rfl (lv_room (Nat.le_of_ble_eq_true rfl)) dX12_partFrom_151 ⟨by decide +kernel, by decide +kernel⟩) hS hc (fun M17 H locs hr16 hw hS => ?_)
            obtain ⟨hI, hEM17, hr16⟩ := hr16
            have hE := hE.tr hEM17 (by decide)
            obtain ⟨y18, ey18⟩ : ∃ y : Int32, y = lr_6 + 1 := ⟨_, rfl⟩
            have ty18 : y18.toInt = lr_6.toInt + 1 := by rw [ey18, zi_add _ _ (by rw [zk_1]; omega) (by rw [zk_1]; omega), zk_1]
            refine lv_iinc (v := y18) (lv' := [(6, .int y18), (0, .ref (ad 60 0)), (1, .int 0), (2, .int p0), (3, .int p1), (4, .long p2)]) hx hb dX12_partFrom_154 hl (k := 0) rfl (by rw [ey18]; rfl) (by decide) rfl (fun ls hl => ?_)
            refine lv_goto (tgt := 101) hx hb dX12_partFrom_157 (by decide) ?_
            exact ih_lr y18 M17 (by omega) (by omega) hI hE _ _ hw hS ls (lv_sub hl [0, 1, 2, 3, 4, 5] rfl)
    exact lr _ 0 M (Nat.lt_succ_self _) (by decide) hI hE _ _ hw hS ls (lv_sub hl [0, 1, 2, 3, 4, 5] rfl)
  · refine lv_lconst (v := 0) hx hb dX12_partFrom_5 (by decide) ?_
    refine lv_lstore (lv' := [(6, .long 0), (0, .ref (ad 60 0)), (1, .int 0), (2, .int p0), (3, .int p1), (4, .long p2)]) hx hb dX12_partFrom_6 hl (by decide) rfl (fun ls hl => ?_)
    refine lv_iconst (v := 0) hx hb dX12_partFrom_8 (by decide) ?_
    refine lv_istore (lv' := [(8, .int 0), (6, .long 0), (0, .ref (ad 60 0)), (1, .int 0), (2, .int p0), (3, .int p1), (4, .long p2)]) hx hb dX12_partFrom_9 hl (by decide) rfl (fun ls hl => ?_)
    have lp : ∀ (n_lp : Nat) (lp_8 : Int32) (lp_6 : Int64) (M_lp : fm_M), (64 - lp_8.toInt).toNat < n_lp → (0 ≤ lp_8.toInt ∧ lp_8.toInt ≤ 64) → fm_I nb ad M_lp → fm_same [60061, 159000, 160000] M M_lp → ∀ (H : Heap) (locs : List Loc), fm_at D ad C nb M_lp H → va_S (fm_A nb ad) s.heap H locs → ∀ (ls : Array Slot), lv_has ls 9 [(8, .int lp_8), (6, .long lp_6), (0, .ref (ad 60 0)), (1, .int 0), (2, .int p0), (3, .int p1), (4, .long p2)] → W p l e (headSpec wsX12_partFrom ({ frames := 3, cells := 0, slots := 0, locals := 84 })).room s m ([.ref (ad 60 0), .int 0, .int p0, .int p1, .long p2] : List Value).toArray below meth c H locs 0 0 (MQ below (va_Qv (fun (u : fm_M) => fm_I nb ad u ∧ fm_same [60061, 159000, 160000] M u ∧ True) (fun u t => fm_at D ad C nb u t.heap) (fm_A nb ad)) ([.ref (ad 60 0), .int 0, .int p0, .int p1, .long p2] : List Value).toArray s 0 0 (fm_A nb ad)) (F0 m 11 ls []) := by
      intro n_lp
      induction n_lp with
      | zero => intro lp_8 lp_6 M_lp hm_lp b_lp_8 hI hE H locs hw hS ls hl; exact absurd hm_lp (Nat.not_lt_zero _)
      | succ n_lp ih_lp =>
        intro lp_8 lp_6 M_lp hm_lp b_lp_8 hI hE H locs hw hS ls hl
        refine lv_iload hx hb dX12_partFrom_11 (lv_at hl 0 rfl) ?_
        refine lv_bipush (v := 64) hx hb dX12_partFrom_13 (by decide) ?_
        refine fx_icmp_ge (tgt := 52) hx hb dX12_partFrom_15 (by decide) rfl zk_64 (fun c19 => ?_) (fun c19 => ?_)
        · refine lv_lload hx hb dX12_partFrom_52 (lv_at hl 1 rfl) ?_
          refine lv_aload_n hx hb dX12_partFrom_54 rfl (lv_at hl 2 rfl) ?_
          refine fm_getL (a := 60) (j := 61) (T := TX12) (N := 79) hx hb hts hinX12 hown hc hw kl_60 sh_60 rfl (by decide) rfl (hts (.fieldLink RX12 295 "RedTentModel" "bestWeigh" "J") (List.mem_cons_of_mem _ tw_5_181)) (fun _ h9 => h9) dX12_partFrom_55 (fun x20 ex20 => ?_)
          refine W.lcmp hx hb dX12_partFrom_58 ?_
          refine fx_lif_le (tgt := 97) hx hb dX12_partFrom_59 (by decide) (fun c21 => ?_) (fun c21 => ?_)
          · exact W.vret hx hb hr (fun t ht hW => ⟨⟨M_lp, rfl, ⟨hI, hE, trivial⟩, by show fm_at D ad C nb _ t.heap; rw [ht]; exact hw⟩, hS.F ht⟩) hS.2.2 dX12_partFrom_97
          · refine lv_aload_n hx hb dX12_partFrom_62 rfl (lv_at hl 2 rfl) ?_
            refine lv_lload hx hb dX12_partFrom_63 (lv_at hl 1 rfl) ?_
            refine fm_putL (a := 60) (j := 61) (T := TX12) (N := 79) hx hb hts hinX12 tyX12 tyX12_ok nmX12 hown hc hw hI hE hS kl_60 sh_60 od_60 rfl (by decide) rfl (hts (.fieldLink RX12 295 "RedTentModel" "bestWeigh" "J") (List.mem_cons_of_mem _ tw_5_181)) (fun _ h9 => h9) rfl (by decide +kernel) (by decide) dX12_partFrom_65 (fun M22 H locs eM22 hw hI hE hS => ?_)
            refine lv_iconst (v := 0) hx hb dX12_partFrom_68 (by decide) ?_
            refine lv_istore (lv' := [(8, .int 0), (6, .long lp_6), (0, .ref (ad 60 0)), (1, .int 0), (2, .int p0), (3, .int p1), (4, .long p2)]) hx hb dX12_partFrom_69 hl (by decide) rfl (fun ls hl => ?_)
            have lq : ∀ (n_lq : Nat) (lq_8 : Int32) (M_lq : fm_M), (3 - lq_8.toInt).toNat < n_lq → (0 ≤ lq_8.toInt ∧ lq_8.toInt ≤ 3) → fm_I nb ad M_lq → fm_same [60061, 159000, 160000] M M_lq → ∀ (H : Heap) (locs : List Loc), fm_at D ad C nb M_lq H → va_S (fm_A nb ad) s.heap H locs → ∀ (ls : Array Slot), lv_has ls 9 [(8, .int lq_8), (6, .long lp_6), (0, .ref (ad 60 0)), (1, .int 0), (2, .int p0), (3, .int p1), (4, .long p2)] → W p l e (headSpec wsX12_partFrom ({ frames := 3, cells := 0, slots := 0, locals := 84 })).room s m ([.ref (ad 60 0), .int 0, .int p0, .int p1, .long p2] : List Value).toArray below meth c H locs 0 0 (MQ below (va_Qv (fun (u : fm_M) => fm_I nb ad u ∧ fm_same [60061, 159000, 160000] M u ∧ True) (fun u t => fm_at D ad C nb u t.heap) (fm_A nb ad)) ([.ref (ad 60 0), .int 0, .int p0, .int p1, .long p2] : List Value).toArray s 0 0 (fm_A nb ad)) (F0 m 71 ls []) := by
              intro n_lq
              induction n_lq with
              | zero => intro lq_8 M_lq hm_lq b_lq_8 hI hE H locs hw hS ls hl; exact absurd hm_lq (Nat.not_lt_zero _)
              | succ n_lq ih_lq =>
                intro lq_8 M_lq hm_lq b_lq_8 hI hE H locs hw hS ls hl
                refine lv_iload hx hb dX12_partFrom_71 (lv_at hl 0 rfl) ?_
                refine lv_iload_n hx hb dX12_partFrom_73 rfl (lv_at hl 4 rfl) ?_
                refine fx_icmp_ge (tgt := 97) hx hb dX12_partFrom_74 (by decide) rfl rfl (fun c23 => ?_) (fun c23 => by exfalso; omega)
                exact W.vret hx hb hr (fun t ht hW => ⟨⟨M_lq, rfl, ⟨hI, hE, trivial⟩, by show fm_at D ad C nb _ t.heap; rw [ht]; exact hw⟩, hS.F ht⟩) hS.2.2 dX12_partFrom_97
            exact lq _ 0 M22 (Nat.lt_succ_self _) (by decide) hI hE _ _ hw hS ls (lv_sub hl [0, 1, 2, 3, 4, 5, 6] rfl)
        · refine lv_lload hx hb dX12_partFrom_18 (lv_at hl 1 rfl) ?_
          refine lv_lload hx hb dX12_partFrom_20 (lv_at hl 6 rfl) ?_
          refine lv_iload hx hb dX12_partFrom_22 (lv_at hl 0 rfl) ?_
          refine lv_lushr (v := (p2.toUInt64 >>> (lp_8.toInt64.toUInt64 &&& Int64.toUInt64 63)).toInt64) hx hb dX12_partFrom_24 rfl ?_
          refine lv_topl (fun y24 ey24 => ?_)
          refine lv_lconst (v := 1) hx hb dX12_partFrom_25 (by decide) ?_
          refine lv_land hx hb dX12_partFrom_26 ?_
          refine lv_topl (fun y25 ey25 => ?_)
          refine lv_lconst (v := 1) hx hb dX12_partFrom_27 (by decide) ?_
          refine W.lcmp hx hb dX12_partFrom_28 ?_
          refine fx_lif_ne (tgt := 42) hx hb dX12_partFrom_29 (by decide) (fun c26 => ?_) (fun c26 => ?_)
          · refine lv_lconst (v := 0) hx hb dX12_partFrom_42 (by decide) ?_
            refine lv_ladd hx hb dX12_partFrom_43 ?_
            refine lv_topl (fun y27 ey27 => ?_)
            refine lv_lstore (lv' := [(6, .long y27), (8, .int lp_8), (0, .ref (ad 60 0)), (1, .int 0), (2, .int p0), (3, .int p1), (4, .long p2)]) hx hb dX12_partFrom_44 hl (by decide) rfl (fun ls hl => ?_)
            obtain ⟨y28, ey28⟩ : ∃ y : Int32, y = lp_8 + 1 := ⟨_, rfl⟩
            have ty28 : y28.toInt = lp_8.toInt + 1 := by rw [ey28, zi_add _ _ (by rw [zk_1]; omega) (by rw [zk_1]; omega), zk_1]
            refine lv_iinc (v := y28) (lv' := [(8, .int y28), (6, .long y27), (0, .ref (ad 60 0)), (1, .int 0), (2, .int p0), (3, .int p1), (4, .long p2)]) hx hb dX12_partFrom_46 hl (k := 1) rfl (by rw [ey28]; rfl) (by decide) rfl (fun ls hl => ?_)
            refine lv_goto (tgt := 11) hx hb dX12_partFrom_49 (by decide) ?_
            exact ih_lp y28 y27 M_lp (by omega) (by omega) hI hE _ _ hw hS ls (lv_sub hl [0, 1, 2, 3, 4, 5, 6] rfl)
          · refine lv_aload_n hx hb dX12_partFrom_32 rfl (lv_at hl 2 rfl) ?_
            refine fm_getG (a := 60) (j := 57) (T := TX12) (N := 79) hx hb hts hinX12 hown hc hw kl_60 sh_60 rfl (by decide) rfl (hI.to kl_60 tg_60_57) (hts (.fieldLink RX12 134 "RedTentModel" "weight" "[J") (List.mem_cons_of_mem _ tw_5_177)) (fun _ h9 => h9) dX12_partFrom_33 ?_
            refine lv_iload hx hb dX12_partFrom_36 (lv_at hl 0 rfl) ?_
            refine fm_lald (a := 157) hx hb hc hw kl_157 sh_157 ty_157 (by omega) dX12_partFrom_38 (fun x29 ex29 => ?_)
            refine lv_goto (tgt := 43) hx hb dX12_partFrom_39 (by decide) ?_
            refine lv_ladd hx hb dX12_partFrom_43 ?_
            refine lv_topl (fun y30 ey30 => ?_)
            refine lv_lstore (lv' := [(6, .long y30), (8, .int lp_8), (0, .ref (ad 60 0)), (1, .int 0), (2, .int p0), (3, .int p1), (4, .long p2)]) hx hb dX12_partFrom_44 hl (by decide) rfl (fun ls hl => ?_)
            obtain ⟨y31, ey31⟩ : ∃ y : Int32, y = lp_8 + 1 := ⟨_, rfl⟩
            have ty31 : y31.toInt = lp_8.toInt + 1 := by rw [ey31, zi_add _ _ (by rw [zk_1]; omega) (by rw [zk_1]; omega), zk_1]
            refine lv_iinc (v := y31) (lv' := [(8, .int y31), (6, .long y30), (0, .ref (ad 60 0)), (1, .int 0), (2, .int p0), (3, .int p1), (4, .long p2)]) hx hb dX12_partFrom_46 hl (k := 1) rfl (by rw [ey31]; rfl) (by decide) rfl (fun ls hl => ?_)
            refine lv_goto (tgt := 11) hx hb dX12_partFrom_49 (by decide) ?_
            exact ih_lp y31 y30 M_lp (by omega) (by omega) hI hE _ _ hw hS ls (lv_sub hl [0, 1, 2, 3, 4, 5, 6] rfl)
    exact lp _ 0 0 M (Nat.lt_succ_self _) (by decide) hI hE _ _ hw hS ls (lv_sub hl [0, 1, 2, 3, 4, 5, 6] rfl)
set_option maxHeartbeats 400000 in
set_option maxRecDepth 20000 in
theorem fc_X12_parted (l : Launch) (D : va_G) (ad : Nat → Nat → Nat) (C : Nat → Nat → ClassId) (nb : Nat) (M : fm_M) (hI : fm_I nb ad M) (p0 p1 p2 p3 : Int32) : Met l yX12_parted wsX12_parted ({ frames := 4, cells := 0, slots := 0, locals := 112 }) (va_Pc [.ref (ad 60 0), .int p0, .int p1, .int p2, .int p3] (fm_P D ad C nb M)) (va_Qi (fun (r : Int32) (u : fm_M) => fm_I nb ad u ∧ fm_same [60058, 60061, 157000, 159000, 160000] M u ∧ True) (fun u t => fm_at D ad C nb u t.heap) (fm_A nb ad)) 0 0 (fm_A nb ad) := by
  refine Met.ofW (cc := cX12_parted) (maxL := 7) (ret := (some .int)) (by decide) rfl ?_
  intro p e s m args below meth c s₁ B hml hv
  obtain ⟨rfl, hw, hc⟩ := hv
  have hx := B.exec
  have hb := B.bytes
  have hr := B.returns
  have hts := atoms_spec (ws := wsX12_parted) B.pre
  have hown : s.vm.findClass RX12 = some m.cls := findClass_of_methodNamed B.named
  have hinX12 : ∀ w ∈ u_ws RX12 TX12 79, w ∈ wsX12_parted := fun w h => List.mem_cons_of_mem _ (iT_X12 w h)
  have hS : va_S (fm_A nb ad) s.heap s.heap [] := va_S.rf
  have hE : fm_same [60058, 60061, 157000, 159000, 160000] M M := fm_same.rf
  have hl := lv_entry ([.ref (ad 60 0), .int p0, .int p1, .int p2, .int p3]) (n := 7) (Nat.le_of_ble_eq_true rfl)
  rw [lg_entry_eq]
  generalize (lg_sl ([.ref (ad 60 0), .int p0, .int p1, .int p2, .int p3]) ++ List.replicate (7 - (lg_sl ([.ref (ad 60 0), .int p0, .int p1, .int p2, .int p3])).length) Slot.unset).toArray = ls at hl ⊢
  have hl : lv_has ls 7 [(0, .ref (ad 60 0)), (1, .int p0), (2, .int p1), (3, .int p2), (4, .int p3)] := hl
  have jt : ∀ (jt_5 : Int32) (M_jt : fm_M), (0 ≤ jt_5.toInt ∧ jt_5.toInt ≤ 1) → (jt_5.toInt = 1 → (0 ≤ p0.toInt ∧ p0.toInt ≤ 11 ∧ (rt_cnt p1 32).toInt ≤ 3)) → fm_I nb ad M_jt → fm_same [60058, 60061, 157000, 159000, 160000] M M_jt → ∀ (H : Heap) (locs : List Loc), fm_at D ad C nb M_jt H → va_S (fm_A nb ad) s.heap H locs → ∀ (ls : Array Slot), lv_has ls 7 [(0, .ref (ad 60 0)), (1, .int p0), (2, .int p1), (3, .int p2), (4, .int p3), (5, .int jt_5)] → W p l e (headSpec wsX12_parted ({ frames := 4, cells := 0, slots := 0, locals := 112 })).room s m ([.ref (ad 60 0), .int p0, .int p1, .int p2, .int p3] : List Value).toArray below meth c H locs 0 0 (MQ below (va_Qi (fun (r : Int32) (u : fm_M) => fm_I nb ad u ∧ fm_same [60058, 60061, 157000, 159000, 160000] M u ∧ True) (fun u t => fm_at D ad C nb u t.heap) (fm_A nb ad)) ([.ref (ad 60 0), .int p0, .int p1, .int p2, .int p3] : List Value).toArray s 0 0 (fm_A nb ad)) (F0 m 49 ls []) := by
    intro jt_5 M_jt b_jt_5 hg hI hE H locs hw hS ls hl
    refine lv_iconst (v := 0) hx hb dX12_parted_49 (by decide) ?_
    refine lv_istore (lv' := [(6, .int 0), (0, .ref (ad 60 0)), (1, .int p0), (2, .int p1), (3, .int p2), (4, .int p3), (5, .int jt_5)]) hx hb dX12_parted_50 hl (by decide) rfl (fun ls hl => ?_)
    have lp : ∀ (n_lp : Nat) (lp_6 : Int32) (lp_5 : Int32) (M_lp : fm_M), (12 - lp_6.toInt).toNat < n_lp → (0 ≤ lp_6.toInt ∧ lp_6.toInt ≤ 12) → (0 ≤ lp_5.toInt ∧ lp_5.toInt ≤ 1) → (lp_5.toInt = 1 → (0 ≤ p0.toInt ∧ p0.toInt ≤ 11 ∧ (rt_cnt p1 32).toInt ≤ 3)) → fm_I nb ad M_lp → fm_same [60058, 60061, 157000, 159000, 160000] M M_lp → ∀ (H : Heap) (locs : List Loc), fm_at D ad C nb M_lp H → va_S (fm_A nb ad) s.heap H locs → ∀ (ls : Array Slot), lv_has ls 7 [(6, .int lp_6), (0, .ref (ad 60 0)), (1, .int p0), (2, .int p1), (3, .int p2), (4, .int p3), (5, .int lp_5)] → W p l e (headSpec wsX12_parted ({ frames := 4, cells := 0, slots := 0, locals := 112 })).room s m ([.ref (ad 60 0), .int p0, .int p1, .int p2, .int p3] : List Value).toArray below meth c H locs 0 0 (MQ below (va_Qi (fun (r : Int32) (u : fm_M) => fm_I nb ad u ∧ fm_same [60058, 60061, 157000, 159000, 160000] M u ∧ True) (fun u t => fm_at D ad C nb u t.heap) (fm_A nb ad)) ([.ref (ad 60 0), .int p0, .int p1, .int p2, .int p3] : List Value).toArray s 0 0 (fm_A nb ad)) (F0 m 52 ls []) := by
      intro n_lp
      induction n_lp with
      | zero => intro lp_6 lp_5 M_lp hm_lp b_lp_6 b_lp_5 hg hI hE H locs hw hS ls hl; exact absurd hm_lp (Nat.not_lt_zero _)
      | succ n_lp ih_lp =>
        intro lp_6 lp_5 M_lp hm_lp b_lp_6 b_lp_5 hg hI hE H locs hw hS ls hl
        refine lv_iload hx hb dX12_parted_52 (lv_at hl 0 rfl) ?_
        refine lv_bipush (v := 12) hx hb dX12_parted_54 (by decide) ?_
        refine fx_icmp_ge (tgt := 95) hx hb dX12_parted_56 (by decide) rfl zk_12 (fun c1 => ?_) (fun c1 => ?_)
        · refine lv_iload hx hb dX12_parted_95 (lv_at hl 6 rfl) ?_
          refine fx_if_ne (tgt := 103) hx hb dX12_parted_97 (by decide) rfl (fun c2 => ?_) (fun c2 => ?_)
          · refine lv_iload_n hx hb dX12_parted_103 rfl (lv_at hl 3 rfl) ?_
            refine vp_callSi (va_Run.run (va_runS (As := [.int p1]) (rest := []) ⟨hx, hb, hml, hown, hts⟩ (fc_X12_countOf l p1) (va_cwS 1 hts gX12_parted_X12_countOf rfl rfl rfl (by decide +kernel) ⟨Nat.le_of_ble_eq_true rfl, Nat.le_of_ble_eq_true rfl⟩) ⟨fun a U g mk q => q, fun U hU hW => ⟨rfl, trivial⟩⟩ rfl rfl hl.1 rfl (lv_room (Nat.le_of_ble_eq_true rfl)) dX12_parted_104 ⟨by decide +kernel, by decide +kernel⟩)) (fun r3 hr3 => ?_)
            have qr3 : r3.toInt = (rt_cnt p1 32).toInt := by rw [hr3.2]
            have br3 := hr3.1
            refine lv_istore (lv' := [(6, .int r3), (0, .ref (ad 60 0)), (1, .int p0), (2, .int p1), (3, .int p2), (4, .int p3), (5, .int lp_5)]) hx hb dX12_parted_107 hl (by decide) rfl (fun ls hl => ?_)
            refine lv_iload_n hx hb dX12_parted_109 rfl (lv_at hl 4 rfl) ?_
            refine vp_callSi (va_Run.run (va_runS (As := [.int p2]) (rest := []) ⟨hx, hb, hml, hown, hts⟩ (fc_X12_countOf l p2) (va_cwS 1 hts gX12_parted_X12_countOf rfl rfl rfl (by decide +kernel) ⟨Nat.le_of_ble_eq_true rfl, Nat.le_of_ble_eq_true rfl⟩) ⟨fun a U g mk q => q, fun U hU hW => ⟨rfl, trivial⟩⟩ rfl rfl hl.1 rfl (lv_room (Nat.le_of_ble_eq_true rfl)) dX12_parted_110 ⟨by decide +kernel, by decide +kernel⟩)) (fun r4 hr4 => ?_)
            have qr4 : r4.toInt = (rt_cnt p2 32).toInt := by rw [hr4.2]
            have br4 := hr4.1
            refine lv_iload hx hb dX12_parted_113 (lv_at hl 0 rfl) ?_
            refine fx_icmp_ge (tgt := 121) hx hb dX12_parted_115 (by decide) rfl rfl (fun c5 => ?_) (fun c5 => ?_)
            · refine lv_iload hx hb dX12_parted_121 (lv_at hl 5 rfl) ?_
              refine lv_iconst (v := (-1)) hx hb dX12_parted_123 (by decide) ?_
              refine lv_iload hx hb dX12_parted_124 (lv_at hl 0 rfl) ?_
              refine lv_iconst (v := 1) hx hb dX12_parted_126 (by decide) ?_
              refine fx_isub hx hb dX12_parted_127 rfl zk_1 (by omega) (fun y6 ey6 ty6 => ?_)
              have zz7 := zk_m1
              refine vp_callSi (va_Run.run (va_runS (As := [.int p3, .int (-1), .int y6]) (rest := []) ⟨hx, hb, hml, hown, hts⟩ (fc_X12_within l p3 (-1) y6) (va_cwS 3 hts gX12_parted_X12_within rfl rfl rfl (by decide +kernel) ⟨Nat.le_of_ble_eq_true rfl, Nat.le_of_ble_eq_true rfl⟩) ⟨fun a U g mk q => q, fun U hU hW => ⟨rfl, trivial⟩⟩ rfl rfl hl.1 rfl (lv_room (Nat.le_of_ble_eq_true rfl)) dX12_parted_128 ⟨by decide +kernel, by decide +kernel⟩)) (fun r8 hr8 => ?_)
              rcases hr8 with ⟨rfl, c9⟩ | ⟨rfl, c9⟩
              · refine fx_if_ne (tgt := 136) hx hb dX12_parted_131 (by decide) zk_1 (fun c10 => ?_) (fun c10 => by exfalso; omega)
                refine lv_aload_n hx hb dX12_parted_136 rfl (lv_at hl 1 rfl) ?_
                refine lv_iload_n hx hb dX12_parted_137 rfl (lv_at hl 2 rfl) ?_
                refine fm_cv (va_runV (As := [.int p0]) (rest := []) ⟨hx, hb, hml, hown, hts⟩ (fc_X12_weigh l D ad C nb M_lp hI p0 (by omega)) (cwV 1 hts gX12_parted_X12_weigh rfl rfl rfl (by decide +kernel) ⟨Nat.le_of_ble_eq_true rfl, Nat.le_of_ble_eq_true rfl⟩) (fm_preV hc hw hS kl_60 sh_60 rfl) rfl rfl hl.1 rfl (lv_room (Nat.le_of_ble_eq_true rfl)) dX12_parted_138 ⟨by decide +kernel, by decide +kernel⟩) hS hc (fun M12 H locs hr11 hw hS => ?_)
                obtain ⟨hI, hEM12, hr11⟩ := hr11
                have hE := hE.tr hEM12 (by decide)
                refine lv_aload_n hx hb dX12_parted_141 rfl (lv_at hl 1 rfl) ?_
                refine lv_ldc2 (v := (-1)) hx hb hown (hts (.constantLong RX12 226 (-1)) (List.mem_cons_of_mem _ tw_6_172)) dX12_parted_142 ?_
                refine fm_putL (a := 60) (j := 61) (T := TX12) (N := 79) hx hb hts hinX12 tyX12 tyX12_ok nmX12 hown hc hw hI hE hS kl_60 sh_60 od_60 rfl (by decide) rfl (hts (.fieldLink RX12 295 "RedTentModel" "bestWeigh" "J") (List.mem_cons_of_mem _ tw_5_181)) (fun _ h9 => h9) rfl (by decide +kernel) (by decide) dX12_parted_145 (fun M13 H locs eM13 hw hI hE hS => ?_)
                refine lv_aload_n hx hb dX12_parted_148 rfl (lv_at hl 1 rfl) ?_
                refine lv_iconst (v := 0) hx hb dX12_parted_149 (by decide) ?_
                refine lv_iload hx hb dX12_parted_150 (lv_at hl 0 rfl) ?_
                refine lv_iload_n hx hb dX12_parted_152 rfl (lv_at hl 4 rfl) ?_
                refine lv_lconst (v := 0) hx hb dX12_parted_153 (by decide) ?_
                refine fm_cv (va_runV (As := [.int 0, .int r3, .int p2, .long 0]) (rest := []) ⟨hx, hb, hml, hown, hts⟩ (fc_X12_partFrom0 l D ad C nb M13 hI r3 p2 0 (by omega)) (cwV 4 hts gX12_parted_X12_partFrom rfl rfl rfl (by decide +kernel) ⟨Nat.le_of_ble_eq_true rfl, Nat.le_of_ble_eq_true rfl⟩) (fm_preV hc hw hS kl_60 sh_60 rfl) rfl rfl hl.1 rfl (lv_room (Nat.le_of_ble_eq_true rfl)) dX12_parted_154 ⟨by decide +kernel, by decide +kernel⟩) hS hc (fun M15 H locs hr14 hw hS => ?_)
                obtain ⟨hI, hEM15, hr14⟩ := hr14
                have hE := hE.tr hEM15 (by decide)
                refine lv_iload hx hb dX12_parted_157 (lv_at hl 5 rfl) ?_
                refine fx_if_lt (tgt := 172) hx hb dX12_parted_159 (by decide) rfl (fun c16 => ?_) (fun c16 => ?_)
                · refine lv_aload_n hx hb dX12_parted_172 rfl (lv_at hl 1 rfl) ?_
                  refine fm_getL (a := 60) (j := 58) (T := TX12) (N := 79) hx hb hts hinX12 hown hc hw kl_60 sh_60 rfl (by decide) rfl (hts (.fieldLink RX12 281 "RedTentModel" "allWeigh" "J") (List.mem_cons_of_mem _ tw_5_178)) (fun _ h9 => h9) dX12_parted_173 (fun x17 ex17 => ?_)
                  refine lv_lconst (v := 0) hx hb dX12_parted_176 (by decide) ?_
                  refine W.lcmp hx hb dX12_parted_177 ?_
                  refine fx_lif_ne (tgt := 185) hx hb dX12_parted_178 (by decide) (fun c18 => ?_) (fun c18 => ?_)
                  · refine lv_ldc2 (v := 1000) hx hb hown (hts (.constantLong RX12 305 (1000)) (List.mem_cons_of_mem _ tw_7_30)) dX12_parted_185 ?_
                    refine lv_aload_n hx hb dX12_parted_188 rfl (lv_at hl 1 rfl) ?_
                    refine fm_getL (a := 60) (j := 61) (T := TX12) (N := 79) hx hb hts hinX12 hown hc hw kl_60 sh_60 rfl (by decide) rfl (hts (.fieldLink RX12 295 "RedTentModel" "bestWeigh" "J") (List.mem_cons_of_mem _ tw_5_181)) (fun _ h9 => h9) dX12_parted_189 (fun x19 ex19 => ?_)
                    refine lv_lmul hx hb dX12_parted_192 ?_
                    refine lv_topl (fun y20 ey20 => ?_)
                    refine lv_aload_n hx hb dX12_parted_193 rfl (lv_at hl 1 rfl) ?_
                    refine fm_getL (a := 60) (j := 58) (T := TX12) (N := 79) hx hb hts hinX12 hown hc hw kl_60 sh_60 rfl (by decide) rfl (hts (.fieldLink RX12 281 "RedTentModel" "allWeigh" "J") (List.mem_cons_of_mem _ tw_5_178)) (fun _ h9 => h9) dX12_parted_194 (fun x21 ex21 => ?_)
                    obtain rfl : x17 = x21 := by rw [ex21]; exact ex17
                    refine lv_ldiv hx hb dX12_parted_197 (by assumption) ?_
                    refine lv_topl (fun y22 ey22 => ?_)
                    refine lv_l2i (v := y22.toInt32) hx hb dX12_parted_198 rfl ?_
                    refine lv_topi (fun y23 ey23 => ?_)
                    exact W.iret (v := y23) hx hb hr (fun t ht hW => ⟨⟨y23, M15, rfl, ⟨hI, hE, trivial⟩, by show fm_at D ad C nb _ t.heap; rw [ht]; exact hw⟩, hS.F ht⟩) hS.2.2 dX12_parted_199
                  · refine lv_iconst (v := 0) hx hb dX12_parted_181 (by decide) ?_
                    refine lv_goto (tgt := 199) hx hb dX12_parted_182 (by decide) ?_
                    exact W.iret (v := 0) hx hb hr (fun t ht hW => ⟨⟨0, M15, rfl, ⟨hI, hE, trivial⟩, by show fm_at D ad C nb _ t.heap; rw [ht]; exact hw⟩, hS.F ht⟩) hS.2.2 dX12_parted_199
                · refine lv_aload_n hx hb dX12_parted_162 rfl (lv_at hl 1 rfl) ?_
                  refine fm_getG (a := 60) (j := 60) (T := TX12) (N := 79) hx hb hts hinX12 hown hc hw kl_60 sh_60 rfl (by decide) rfl (hI.to kl_60 tg_60_60) (hts (.fieldLink RX12 140 "RedTentModel" "best" "[I") (List.mem_cons_of_mem _ tw_5_180)) (fun _ h9 => h9) dX12_parted_163 ?_
                  refine lv_iload hx hb dX12_parted_166 (lv_at hl 5 rfl) ?_
                  refine fm_iald (a := 160) hx hb hc hw hI kl_160 sh_160 ty_160 bd_160 (by omega) dX12_parted_168 (fun x24 ex24 bx24 => ?_)
                  refine lv_goto (tgt := 199) hx hb dX12_parted_169 (by decide) ?_
                  exact W.iret (v := x24) hx hb hr (fun t ht hW => ⟨⟨x24, M15, rfl, ⟨hI, hE, trivial⟩, by show fm_at D ad C nb _ t.heap; rw [ht]; exact hw⟩, hS.F ht⟩) hS.2.2 dX12_parted_199
              · refine fx_if_ne (tgt := 136) hx hb dX12_parted_131 (by decide) zk_0 (fun c25 => by exfalso; omega) (fun c25 => ?_)
                refine lv_iconst (v := (-1)) hx hb dX12_parted_134 (by decide) ?_
                exact W.iret (v := (-1)) hx hb hr (fun t ht hW => ⟨⟨(-1), M_lp, rfl, ⟨hI, hE, trivial⟩, by show fm_at D ad C nb _ t.heap; rw [ht]; exact hw⟩, hS.F ht⟩) hS.2.2 dX12_parted_135
            · refine lv_bipush (v := (-3)) hx hb dX12_parted_118 (by decide) ?_
              exact W.iret (v := (-3)) hx hb hr (fun t ht hW => ⟨⟨(-3), M_lp, rfl, ⟨hI, hE, trivial⟩, by show fm_at D ad C nb _ t.heap; rw [ht]; exact hw⟩, hS.F ht⟩) hS.2.2 dX12_parted_120
          · refine lv_bipush (v := (-2)) hx hb dX12_parted_100 (by decide) ?_
            exact W.iret (v := (-2)) hx hb hr (fun t ht hW => ⟨⟨(-2), M_lp, rfl, ⟨hI, hE, trivial⟩, by show fm_at D ad C nb _ t.heap; rw [ht]; exact hw⟩, hS.F ht⟩) hS.2.2 dX12_parted_102
        · refine lv_iload hx hb dX12_parted_59 (lv_at hl 6 rfl) ?_
          refine fx_if_eq (tgt := 86) hx hb dX12_parted_61 (by decide) rfl (fun c26 => ?_) (fun c26 => ?_)
          · refine lv_iconst (v := 0) hx hb dX12_parted_86 (by decide) ?_
            refine lv_istore (lv' := [(5, .int 0), (6, .int lp_6), (0, .ref (ad 60 0)), (1, .int p0), (2, .int p1), (3, .int p2), (4, .int p3)]) hx hb dX12_parted_87 hl (by decide) rfl (fun ls hl => ?_)
            obtain ⟨y27, ey27⟩ : ∃ y : Int32, y = lp_6 + 1 := ⟨_, rfl⟩
            have ty27 : y27.toInt = lp_6.toInt + 1 := by rw [ey27, zi_add _ _ (by rw [zk_1]; omega) (by rw [zk_1]; omega), zk_1]
            refine lv_iinc (v := y27) (lv' := [(6, .int y27), (5, .int 0), (0, .ref (ad 60 0)), (1, .int p0), (2, .int p1), (3, .int p2), (4, .int p3)]) hx hb dX12_parted_89 hl (k := 1) rfl (by rw [ey27]; rfl) (by decide) rfl (fun ls hl => ?_)
            refine lv_goto (tgt := 52) hx hb dX12_parted_92 (by decide) ?_
            exact ih_lp y27 0 M_lp (by omega) (by omega) (by decide) (by have zlp_5 := zk_0; omega) hI hE _ _ hw hS ls (lv_sub hl [0, 2, 3, 4, 5, 6, 1] rfl)
          · refine lv_iload_n hx hb dX12_parted_64 rfl (lv_at hl 3 rfl) ?_
            refine lv_iload hx hb dX12_parted_65 (lv_at hl 0 rfl) ?_
            refine lv_ishr hx hb dX12_parted_67 ?_
            refine lv_topi (fun y28 ey28 => ?_)
            refine lv_iconst (v := 1) hx hb dX12_parted_68 (by decide) ?_
            refine fx_iand1 hx hb dX12_parted_69 (fun y29 ey29 by29 => ?_)
            refine fx_if_eq (tgt := 82) hx hb dX12_parted_70 (by decide) rfl (fun c30 => ?_) (fun c30 => ?_)
            · refine lv_iconst (v := 1) hx hb dX12_parted_82 (by decide) ?_
              refine lv_goto (tgt := 87) hx hb dX12_parted_83 (by decide) ?_
              refine lv_istore (lv' := [(5, .int 1), (6, .int lp_6), (0, .ref (ad 60 0)), (1, .int p0), (2, .int p1), (3, .int p2), (4, .int p3)]) hx hb dX12_parted_87 hl (by decide) rfl (fun ls hl => ?_)
              obtain ⟨y31, ey31⟩ : ∃ y : Int32, y = lp_6 + 1 := ⟨_, rfl⟩
              have ty31 : y31.toInt = lp_6.toInt + 1 := by rw [ey31, zi_add _ _ (by rw [zk_1]; omega) (by rw [zk_1]; omega), zk_1]
              refine lv_iinc (v := y31) (lv' := [(6, .int y31), (5, .int 1), (0, .ref (ad 60 0)), (1, .int p0), (2, .int p1), (3, .int p2), (4, .int p3)]) hx hb dX12_parted_89 hl (k := 1) rfl (by rw [ey31]; rfl) (by decide) rfl (fun ls hl => ?_)
              refine lv_goto (tgt := 52) hx hb dX12_parted_92 (by decide) ?_
              exact ih_lp y31 1 M_lp (by omega) (by omega) (by decide) (by have zlp_5 := zk_1; omega) hI hE _ _ hw hS ls (lv_sub hl [0, 2, 3, 4, 5, 6, 1] rfl)
            · refine lv_aload_n hx hb dX12_parted_73 rfl (lv_at hl 1 rfl) ?_
              refine lv_iload hx hb dX12_parted_74 (lv_at hl 0 rfl) ?_
              refine vp_callSi (va_Run.run (va_runV (As := [.int lp_6]) (rest := []) ⟨hx, hb, hml, hown, hts⟩ (fc_X12_isSeeker l D ad C nb M_lp hI lp_6) (cwV 1 hts gX12_parted_X12_isSeeker rfl rfl rfl (by decide +kernel) ⟨Nat.le_of_ble_eq_true rfl, Nat.le_of_ble_eq_true rfl⟩) (fm_preV hc hw hS kl_60 sh_60 rfl) rfl rfl hl.1 rfl (lv_room (Nat.le_of_ble_eq_true rfl)) dX12_parted_76 ⟨by decide +kernel, by decide +kernel⟩)) (fun r32 hr32 => ?_)
              have bqq33 := hI.bd (k := 0) bd_60_16
              rcases hr32 with ⟨rfl, c34⟩ | ⟨rfl, c34⟩
              · refine fx_if_eq (tgt := 86) hx hb dX12_parted_79 (by decide) zk_1 (fun c35 => by exfalso; omega) (fun c35 => ?_)
                refine lv_iconst (v := 1) hx hb dX12_parted_82 (by decide) ?_
                refine lv_goto (tgt := 87) hx hb dX12_parted_83 (by decide) ?_
                refine lv_istore (lv' := [(5, .int 1), (6, .int lp_6), (0, .ref (ad 60 0)), (1, .int p0), (2, .int p1), (3, .int p2), (4, .int p3)]) hx hb dX12_parted_87 hl (by decide) rfl (fun ls hl => ?_)
                obtain ⟨y36, ey36⟩ : ∃ y : Int32, y = lp_6 + 1 := ⟨_, rfl⟩
                have ty36 : y36.toInt = lp_6.toInt + 1 := by rw [ey36, zi_add _ _ (by rw [zk_1]; omega) (by rw [zk_1]; omega), zk_1]
                refine lv_iinc (v := y36) (lv' := [(6, .int y36), (5, .int 1), (0, .ref (ad 60 0)), (1, .int p0), (2, .int p1), (3, .int p2), (4, .int p3)]) hx hb dX12_parted_89 hl (k := 1) rfl (by rw [ey36]; rfl) (by decide) rfl (fun ls hl => ?_)
                refine lv_goto (tgt := 52) hx hb dX12_parted_92 (by decide) ?_
                exact ih_lp y36 1 M_lp (by omega) (by omega) (by decide) (by have zlp_5 := zk_1; omega) hI hE _ _ hw hS ls (lv_sub hl [0, 2, 3, 4, 5, 6, 1] rfl)
              · refine fx_if_eq (tgt := 86) hx hb dX12_parted_79 (by decide) zk_0 (fun c37 => ?_) (fun c37 => by exfalso; omega)
                refine lv_iconst (v := 0) hx hb dX12_parted_86 (by decide) ?_
                refine lv_istore (lv' := [(5, .int 0), (6, .int lp_6), (0, .ref (ad 60 0)), (1, .int p0), (2, .int p1), (3, .int p2), (4, .int p3)]) hx hb dX12_parted_87 hl (by decide) rfl (fun ls hl => ?_)
                obtain ⟨y38, ey38⟩ : ∃ y : Int32, y = lp_6 + 1 := ⟨_, rfl⟩
                have ty38 : y38.toInt = lp_6.toInt + 1 := by rw [ey38, zi_add _ _ (by rw [zk_1]; omega) (by rw [zk_1]; omega), zk_1]
                refine lv_iinc (v := y38) (lv' := [(6, .int y38), (5, .int 0), (0, .ref (ad 60 0)), (1, .int p0), (2, .int p1), (3, .int p2), (4, .int p3)]) hx hb dX12_parted_89 hl (k := 1) rfl (by rw [ey38]; rfl) (by decide) rfl (fun ls hl => ?_)
                refine lv_goto (tgt := 52) hx hb dX12_parted_92 (by decide) ?_
                exact ih_lp y38 0 M_lp (by omega) (by omega) (by decide) (by have zlp_5 := zk_0; omega) hI hE _ _ hw hS ls (lv_sub hl [0, 2, 3, 4, 5, 6, 1] rfl)
    exact lp _ 0 jt_5 M_jt (Nat.lt_succ_self _) (by decide) (by omega) (by omega) hI hE _ _ hw hS ls (lv_sub hl [0, 1, 2, 3, 4, 5, 6] rfl)
  refine lv_aload_n hx hb dX12_parted_0 rfl (lv_at hl 0 rfl) ?_
  refine lv_iload_n hx hb dX12_parted_1 rfl (lv_at hl 1 rfl) ?_
  refine vp_callSi (va_Run.run (va_runV (As := [.int p0]) (rest := []) ⟨hx, hb, hml, hown, hts⟩ (fc_X12_isBody l D ad C nb M hI p0) (cwV 1 hts gX12_parted_X12_isBody rfl rfl rfl (by decide +kernel) ⟨Nat.le_of_ble_eq_true rfl, Nat.le_of_ble_eq_true rfl⟩) (fm_preV hc hw hS kl_60 sh_60 rfl) rfl rfl hl.1 rfl (lv_room (Nat.le_of_ble_eq_true rfl)) dX12_parted_2 ⟨by decide +kernel, by decide +kernel⟩)) (fun r39 hr39 => ?_)
  have bqq40 := hI.bd (k := 0) bd_60_16
  rcases hr39 with ⟨rfl, c41⟩ | ⟨rfl, c41⟩
  · refine fx_if_eq (tgt := 46) hx hb dX12_parted_5 (by decide) zk_1 (fun c42 => by exfalso; omega) (fun c42 => ?_)
    refine lv_iload_n hx hb dX12_parted_8 rfl (lv_at hl 2 rfl) ?_
    refine fx_if_lt (tgt := 46) hx hb dX12_parted_9 (by decide) rfl (fun c43 => ?_) (fun c43 => ?_)
    · refine lv_iconst (v := 0) hx hb dX12_parted_46 (by decide) ?_
      refine lv_istore (lv' := [(5, .int 0), (0, .ref (ad 60 0)), (1, .int p0), (2, .int p1), (3, .int p2), (4, .int p3)]) hx hb dX12_parted_47 hl (by decide) rfl (fun ls hl => ?_)
      exact jt 0 M (by decide) (by have zjt_5 := zk_0; omega) hI hE _ _ hw hS ls (lv_sub hl [1, 2, 3, 4, 5, 0] rfl)
    · refine lv_iload_n hx hb dX12_parted_12 rfl (lv_at hl 2 rfl) ?_
      refine lv_aload_n hx hb dX12_parted_13 rfl (lv_at hl 0 rfl) ?_
      refine fm_getI (a := 60) (j := 16) (T := TX12) (N := 79) hx hb hts hinX12 hown hc hw hI kl_60 sh_60 rfl (by decide) rfl bd_60_16 (hts (.fieldLink RX12 190 "RedTentModel" "bodies" "I") (List.mem_cons_of_mem _ tw_5_136)) (fun _ h9 => h9) dX12_parted_14 (fun x44 ex44 bx44 => ?_)
      refine lv_ishr hx hb dX12_parted_17 ?_
      refine lv_topi (fun y45 ey45 => ?_)
      refine fx_if_ne (tgt := 46) hx hb dX12_parted_18 (by decide) rfl (fun c46 => ?_) (fun c46 => ?_)
      · refine lv_iconst (v := 0) hx hb dX12_parted_46 (by decide) ?_
        refine lv_istore (lv' := [(5, .int 0), (0, .ref (ad 60 0)), (1, .int p0), (2, .int p1), (3, .int p2), (4, .int p3)]) hx hb dX12_parted_47 hl (by decide) rfl (fun ls hl => ?_)
        exact jt 0 M (by decide) (by have zjt_5 := zk_0; omega) hI hE _ _ hw hS ls (lv_sub hl [1, 2, 3, 4, 5, 0] rfl)
      · refine lv_iload_n hx hb dX12_parted_21 rfl (lv_at hl 2 rfl) ?_
        refine vp_callSi (va_Run.run (va_runS (As := [.int p1]) (rest := []) ⟨hx, hb, hml, hown, hts⟩ (fc_X12_countOf l p1) (va_cwS 1 hts gX12_parted_X12_countOf rfl rfl rfl (by decide +kernel) ⟨Nat.le_of_ble_eq_true rfl, Nat.le_of_ble_eq_true rfl⟩) ⟨fun a U g mk q => q, fun U hU hW => ⟨rfl, trivial⟩⟩ rfl rfl hl.1 rfl (lv_room (Nat.le_of_ble_eq_true rfl)) dX12_parted_22 ⟨by decide +kernel, by decide +kernel⟩)) (fun r47 hr47 => ?_)
        have qr47 : r47.toInt = (rt_cnt p1 32).toInt := by rw [hr47.2]
        have br47 := hr47.1
        refine lv_iconst (v := 3) hx hb dX12_parted_25 (by decide) ?_
        refine fx_icmp_gt (tgt := 46) hx hb dX12_parted_26 (by decide) rfl zk_3 (fun c48 => ?_) (fun c48 => ?_)
        · refine lv_iconst (v := 0) hx hb dX12_parted_46 (by decide) ?_
          refine lv_istore (lv' := [(5, .int 0), (0, .ref (ad 60 0)), (1, .int p0), (2, .int p1), (3, .int p2), (4, .int p3)]) hx hb dX12_parted_47 hl (by decide) rfl (fun ls hl => ?_)
          exact jt 0 M (by decide) (by have zjt_5 := zk_0; omega) hI hE _ _ hw hS ls (lv_sub hl [1, 2, 3, 4, 5, 0] rfl)
        · refine lv_iload_n hx hb dX12_parted_29 rfl (lv_at hl 3 rfl) ?_
          refine fx_if_lt (tgt := 46) hx hb dX12_parted_30 (by decide) rfl (fun c49 => ?_) (fun c49 => ?_)
          · refine lv_iconst (v := 0) hx hb dX12_parted_46 (by decide) ?_
            refine lv_istore (lv' := [(5, .int 0), (0, .ref (ad 60 0)), (1, .int p0), (2, .int p1), (3, .int p2), (4, .int p3)]) hx hb dX12_parted_47 hl (by decide) rfl (fun ls hl => ?_)
            exact jt 0 M (by decide) (by have zjt_5 := zk_0; omega) hI hE _ _ hw hS ls (lv_sub hl [1, 2, 3, 4, 5, 0] rfl)
          · refine lv_iload_n hx hb dX12_parted_33 rfl (lv_at hl 3 rfl) ?_
            refine lv_aload_n hx hb dX12_parted_34 rfl (lv_at hl 0 rfl) ?_
            refine fm_getI (a := 60) (j := 36) (T := TX12) (N := 79) hx hb hts hinX12 hown hc hw hI kl_60 sh_60 rfl (by decide) rfl bd_60_36 (hts (.fieldLink RX12 272 "RedTentModel" "laneMany" "I") (List.mem_cons_of_mem _ tw_5_156)) (fun _ h9 => h9) dX12_parted_35 (fun x50 ex50 bx50 => ?_)
            refine lv_ishr hx hb dX12_parted_38 ?_
            refine lv_topi (fun y51 ey51 => ?_)
            refine fx_if_ne (tgt := 46) hx hb dX12_parted_39 (by decide) rfl (fun c52 => ?_) (fun c52 => ?_)
            · refine lv_iconst (v := 0) hx hb dX12_parted_46 (by decide) ?_
              refine lv_istore (lv' := [(5, .int 0), (0, .ref (ad 60 0)), (1, .int p0), (2, .int p1), (3, .int p2), (4, .int p3)]) hx hb dX12_parted_47 hl (by decide) rfl (fun ls hl => ?_)
              exact jt 0 M (by decide) (by have zjt_5 := zk_0; omega) hI hE _ _ hw hS ls (lv_sub hl [1, 2, 3, 4, 5, 0] rfl)
            · refine lv_iconst (v := 1) hx hb dX12_parted_42 (by decide) ?_
              refine lv_goto (tgt := 47) hx hb dX12_parted_43 (by decide) ?_
              refine lv_istore (lv' := [(5, .int 1), (0, .ref (ad 60 0)), (1, .int p0), (2, .int p1), (3, .int p2), (4, .int p3)]) hx hb dX12_parted_47 hl (by decide) rfl (fun ls hl => ?_)
              exact jt 1 M (by decide) (by have zjt_5 := zk_1; omega) hI hE _ _ hw hS ls (lv_sub hl [1, 2, 3, 4, 5, 0] rfl)
  · refine fx_if_eq (tgt := 46) hx hb dX12_parted_5 (by decide) zk_0 (fun c53 => ?_) (fun c53 => by exfalso; omega)
    refine lv_iconst (v := 0) hx hb dX12_parted_46 (by decide) ?_
    refine lv_istore (lv' := [(5, .int 0), (0, .ref (ad 60 0)), (1, .int p0), (2, .int p1), (3, .int p2), (4, .int p3)]) hx hb dX12_parted_47 hl (by decide) rfl (fun ls hl => ?_)
    exact jt 0 M (by decide) (by have zjt_5 := zk_0; omega) hI hE _ _ hw hS ls (lv_sub hl [1, 2, 3, 4, 5, 0] rfl)

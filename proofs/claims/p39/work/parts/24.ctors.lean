theorem zb_X10_init_0 : (decode cX10_init 0 = .ok (.aload_n 0, 1)) ∧ (decode cX10_init 1 = .ok (.invokespecial 3, 3)) ∧ (decode cX10_init 4 = .ok (.aload_n 0, 1)) ∧ (decode cX10_init 5 = .ok (.sipush 240, 3)) ∧ (decode cX10_init 8 = .ok (.newarray .int, 2)) ∧ (decode cX10_init 10 = .ok (.putfield 9, 3)) ∧ (decode cX10_init 13 = .ok (.aload_n 0, 1)) ∧ (decode cX10_init 14 = .ok (.sipush 240, 3)) ∧ (decode cX10_init 17 = .ok (.newarray .int, 2)) ∧ (decode cX10_init 19 = .ok (.putfield 15, 3)) ∧ (decode cX10_init 22 = .ok (.iconst 0, 1)) ∧ (decode cX10_init 23 = .ok (.istore_n 1, 1)) := by decide +kernel
theorem dX10_init_0 : decode cX10_init 0 = .ok (.aload_n 0, 1) := zb_X10_init_0.1
theorem dX10_init_1 : decode cX10_init 1 = .ok (.invokespecial 3, 3) := zb_X10_init_0.2.1
theorem dX10_init_4 : decode cX10_init 4 = .ok (.aload_n 0, 1) := zb_X10_init_0.2.2.1
theorem dX10_init_5 : decode cX10_init 5 = .ok (.sipush 240, 3) := zb_X10_init_0.2.2.2.1
theorem dX10_init_8 : decode cX10_init 8 = .ok (.newarray .int, 2) := zb_X10_init_0.2.2.2.2.1
theorem dX10_init_10 : decode cX10_init 10 = .ok (.putfield 9, 3) := zb_X10_init_0.2.2.2.2.2.1
theorem dX10_init_13 : decode cX10_init 13 = .ok (.aload_n 0, 1) := zb_X10_init_0.2.2.2.2.2.2.1
theorem dX10_init_14 : decode cX10_init 14 = .ok (.sipush 240, 3) := zb_X10_init_0.2.2.2.2.2.2.2.1
theorem dX10_init_17 : decode cX10_init 17 = .ok (.newarray .int, 2) := zb_X10_init_0.2.2.2.2.2.2.2.2.1
theorem dX10_init_19 : decode cX10_init 19 = .ok (.putfield 15, 3) := zb_X10_init_0.2.2.2.2.2.2.2.2.2.1
theorem dX10_init_22 : decode cX10_init 22 = .ok (.iconst 0, 1) := zb_X10_init_0.2.2.2.2.2.2.2.2.2.2.1
theorem dX10_init_23 : decode cX10_init 23 = .ok (.istore_n 1, 1) := zb_X10_init_0.2.2.2.2.2.2.2.2.2.2.2
theorem zb_X10_init_24 : (decode cX10_init 24 = .ok (.iload_n 1, 1)) ∧ (decode cX10_init 25 = .ok (.sipush 240, 3)) ∧ (decode cX10_init 28 = .ok (.if_icmp .ge 18, 3)) ∧ (decode cX10_init 46 = .ok (.return_, 1)) ∧ (decode cX10_init 31 = .ok (.aload_n 0, 1)) ∧ (decode cX10_init 32 = .ok (.getfield 9, 3)) ∧ (decode cX10_init 35 = .ok (.iload_n 1, 1)) ∧ (decode cX10_init 36 = .ok (.sipush 2222, 3)) ∧ (decode cX10_init 39 = .ok (.iastore, 1)) ∧ (decode cX10_init 40 = .ok (.iinc 1 1, 3)) ∧ (decode cX10_init 43 = .ok (.goto (-19), 3)) := by decide +kernel
theorem dX10_init_24 : decode cX10_init 24 = .ok (.iload_n 1, 1) := zb_X10_init_24.1
theorem dX10_init_25 : decode cX10_init 25 = .ok (.sipush 240, 3) := zb_X10_init_24.2.1
theorem dX10_init_28 : decode cX10_init 28 = .ok (.if_icmp .ge 18, 3) := zb_X10_init_24.2.2.1
theorem dX10_init_46 : decode cX10_init 46 = .ok (.return_, 1) := zb_X10_init_24.2.2.2.1
theorem dX10_init_31 : decode cX10_init 31 = .ok (.aload_n 0, 1) := zb_X10_init_24.2.2.2.2.1
theorem dX10_init_32 : decode cX10_init 32 = .ok (.getfield 9, 3) := zb_X10_init_24.2.2.2.2.2.1
theorem dX10_init_35 : decode cX10_init 35 = .ok (.iload_n 1, 1) := zb_X10_init_24.2.2.2.2.2.2.1
theorem dX10_init_36 : decode cX10_init 36 = .ok (.sipush 2222, 3) := zb_X10_init_24.2.2.2.2.2.2.2.1
theorem dX10_init_39 : decode cX10_init 39 = .ok (.iastore, 1) := zb_X10_init_24.2.2.2.2.2.2.2.2.1
theorem dX10_init_40 : decode cX10_init 40 = .ok (.iinc 1 1, 3) := zb_X10_init_24.2.2.2.2.2.2.2.2.2.1
theorem dX10_init_43 : decode cX10_init 43 = .ok (.goto (-19), 3) := zb_X10_init_24.2.2.2.2.2.2.2.2.2.2
theorem zb_X4_init_0 : (decode cX4_init 0 = .ok (.aload_n 0, 1)) ∧ (decode cX4_init 1 = .ok (.invokespecial 3, 3)) ∧ (decode cX4_init 4 = .ok (.aload_n 0, 1)) ∧ (decode cX4_init 5 = .ok (.bipush 6, 2)) ∧ (decode cX4_init 7 = .ok (.newarray .int, 2)) ∧ (decode cX4_init 9 = .ok (.putfield 9, 3)) ∧ (decode cX4_init 12 = .ok (.aload_n 0, 1)) ∧ (decode cX4_init 13 = .ok (.bipush 8, 2)) ∧ (decode cX4_init 15 = .ok (.newarray .int, 2)) ∧ (decode cX4_init 17 = .ok (.putfield 15, 3)) ∧ (decode cX4_init 20 = .ok (.aload_n 0, 1)) := by decide +kernel
theorem dX4_init_0 : decode cX4_init 0 = .ok (.aload_n 0, 1) := zb_X4_init_0.1
theorem dX4_init_1 : decode cX4_init 1 = .ok (.invokespecial 3, 3) := zb_X4_init_0.2.1
theorem dX4_init_4 : decode cX4_init 4 = .ok (.aload_n 0, 1) := zb_X4_init_0.2.2.1
theorem dX4_init_5 : decode cX4_init 5 = .ok (.bipush 6, 2) := zb_X4_init_0.2.2.2.1
theorem dX4_init_7 : decode cX4_init 7 = .ok (.newarray .int, 2) := zb_X4_init_0.2.2.2.2.1
theorem dX4_init_9 : decode cX4_init 9 = .ok (.putfield 9, 3) := zb_X4_init_0.2.2.2.2.2.1
theorem dX4_init_12 : decode cX4_init 12 = .ok (.aload_n 0, 1) := zb_X4_init_0.2.2.2.2.2.2.1
theorem dX4_init_13 : decode cX4_init 13 = .ok (.bipush 8, 2) := zb_X4_init_0.2.2.2.2.2.2.2.1
theorem dX4_init_15 : decode cX4_init 15 = .ok (.newarray .int, 2) := zb_X4_init_0.2.2.2.2.2.2.2.2.1
theorem dX4_init_17 : decode cX4_init 17 = .ok (.putfield 15, 3) := zb_X4_init_0.2.2.2.2.2.2.2.2.2.1
theorem dX4_init_20 : decode cX4_init 20 = .ok (.aload_n 0, 1) := zb_X4_init_0.2.2.2.2.2.2.2.2.2.2
theorem zb_X4_init_21 : (decode cX4_init 21 = .ok (.bipush 8, 2)) ∧ (decode cX4_init 23 = .ok (.newarray .int, 2)) ∧ (decode cX4_init 25 = .ok (.putfield 18, 3)) ∧ (decode cX4_init 28 = .ok (.aload_n 0, 1)) ∧ (decode cX4_init 29 = .ok (.bipush 20, 2)) ∧ (decode cX4_init 31 = .ok (.newarray .int, 2)) ∧ (decode cX4_init 33 = .ok (.putfield 21, 3)) ∧ (decode cX4_init 36 = .ok (.aload_n 0, 1)) ∧ (decode cX4_init 37 = .ok (.bipush 20, 2)) ∧ (decode cX4_init 39 = .ok (.newarray .int, 2)) ∧ (decode cX4_init 41 = .ok (.putfield 24, 3)) := by decide +kernel
theorem dX4_init_21 : decode cX4_init 21 = .ok (.bipush 8, 2) := zb_X4_init_21.1
theorem dX4_init_23 : decode cX4_init 23 = .ok (.newarray .int, 2) := zb_X4_init_21.2.1
theorem dX4_init_25 : decode cX4_init 25 = .ok (.putfield 18, 3) := zb_X4_init_21.2.2.1
theorem dX4_init_28 : decode cX4_init 28 = .ok (.aload_n 0, 1) := zb_X4_init_21.2.2.2.1
theorem dX4_init_29 : decode cX4_init 29 = .ok (.bipush 20, 2) := zb_X4_init_21.2.2.2.2.1
theorem dX4_init_31 : decode cX4_init 31 = .ok (.newarray .int, 2) := zb_X4_init_21.2.2.2.2.2.1
theorem dX4_init_33 : decode cX4_init 33 = .ok (.putfield 21, 3) := zb_X4_init_21.2.2.2.2.2.2.1
theorem dX4_init_36 : decode cX4_init 36 = .ok (.aload_n 0, 1) := zb_X4_init_21.2.2.2.2.2.2.2.1
theorem dX4_init_37 : decode cX4_init 37 = .ok (.bipush 20, 2) := zb_X4_init_21.2.2.2.2.2.2.2.2.1
theorem dX4_init_39 : decode cX4_init 39 = .ok (.newarray .int, 2) := zb_X4_init_21.2.2.2.2.2.2.2.2.2.1
theorem dX4_init_41 : decode cX4_init 41 = .ok (.putfield 24, 3) := zb_X4_init_21.2.2.2.2.2.2.2.2.2.2
theorem zb_X4_init_44 : (decode cX4_init 44 = .ok (.aload_n 0, 1)) ∧ (decode cX4_init 45 = .ok (.bipush 20, 2)) ∧ (decode cX4_init 47 = .ok (.newarray .int, 2)) ∧ (decode cX4_init 49 = .ok (.putfield 27, 3)) ∧ (decode cX4_init 52 = .ok (.aload_n 0, 1)) ∧ (decode cX4_init 53 = .ok (.bipush 20, 2)) ∧ (decode cX4_init 55 = .ok (.newarray .long, 2)) ∧ (decode cX4_init 57 = .ok (.putfield 30, 3)) ∧ (decode cX4_init 60 = .ok (.aload_n 0, 1)) ∧ (decode cX4_init 61 = .ok (.bipush 40, 2)) ∧ (decode cX4_init 63 = .ok (.newarray .int, 2)) := by decide +kernel
theorem dX4_init_44 : decode cX4_init 44 = .ok (.aload_n 0, 1) := zb_X4_init_44.1
theorem dX4_init_45 : decode cX4_init 45 = .ok (.bipush 20, 2) := zb_X4_init_44.2.1
theorem dX4_init_47 : decode cX4_init 47 = .ok (.newarray .int, 2) := zb_X4_init_44.2.2.1
theorem dX4_init_49 : decode cX4_init 49 = .ok (.putfield 27, 3) := zb_X4_init_44.2.2.2.1
theorem dX4_init_52 : decode cX4_init 52 = .ok (.aload_n 0, 1) := zb_X4_init_44.2.2.2.2.1
theorem dX4_init_53 : decode cX4_init 53 = .ok (.bipush 20, 2) := zb_X4_init_44.2.2.2.2.2.1
theorem dX4_init_55 : decode cX4_init 55 = .ok (.newarray .long, 2) := zb_X4_init_44.2.2.2.2.2.2.1
theorem dX4_init_57 : decode cX4_init 57 = .ok (.putfield 30, 3) := zb_X4_init_44.2.2.2.2.2.2.2.1
theorem dX4_init_60 : decode cX4_init 60 = .ok (.aload_n 0, 1) := zb_X4_init_44.2.2.2.2.2.2.2.2.1
theorem dX4_init_61 : decode cX4_init 61 = .ok (.bipush 40, 2) := zb_X4_init_44.2.2.2.2.2.2.2.2.2.1
theorem dX4_init_63 : decode cX4_init 63 = .ok (.newarray .int, 2) := zb_X4_init_44.2.2.2.2.2.2.2.2.2.2
theorem zb_X4_init_65 : (decode cX4_init 65 = .ok (.putfield 34, 3)) ∧ (decode cX4_init 68 = .ok (.aload_n 0, 1)) ∧ (decode cX4_init 69 = .ok (.bipush 40, 2)) ∧ (decode cX4_init 71 = .ok (.newarray .int, 2)) ∧ (decode cX4_init 73 = .ok (.putfield 37, 3)) ∧ (decode cX4_init 76 = .ok (.aload_n 0, 1)) ∧ (decode cX4_init 77 = .ok (.bipush 40, 2)) ∧ (decode cX4_init 79 = .ok (.newarray .long, 2)) ∧ (decode cX4_init 81 = .ok (.putfield 40, 3)) ∧ (decode cX4_init 84 = .ok (.return_, 1)) := by decide +kernel
theorem dX4_init_65 : decode cX4_init 65 = .ok (.putfield 34, 3) := zb_X4_init_65.1
theorem dX4_init_68 : decode cX4_init 68 = .ok (.aload_n 0, 1) := zb_X4_init_65.2.1
theorem dX4_init_69 : decode cX4_init 69 = .ok (.bipush 40, 2) := zb_X4_init_65.2.2.1
theorem dX4_init_71 : decode cX4_init 71 = .ok (.newarray .int, 2) := zb_X4_init_65.2.2.2.1
theorem dX4_init_73 : decode cX4_init 73 = .ok (.putfield 37, 3) := zb_X4_init_65.2.2.2.2.1
theorem dX4_init_76 : decode cX4_init 76 = .ok (.aload_n 0, 1) := zb_X4_init_65.2.2.2.2.2.1
theorem dX4_init_77 : decode cX4_init 77 = .ok (.bipush 40, 2) := zb_X4_init_65.2.2.2.2.2.2.1
theorem dX4_init_79 : decode cX4_init 79 = .ok (.newarray .long, 2) := zb_X4_init_65.2.2.2.2.2.2.2.1
theorem dX4_init_81 : decode cX4_init 81 = .ok (.putfield 40, 3) := zb_X4_init_65.2.2.2.2.2.2.2.2.1
theorem dX4_init_84 : decode cX4_init 84 = .ok (.return_, 1) := zb_X4_init_65.2.2.2.2.2.2.2.2.2
theorem zb_X6_init_0 : (decode cX6_init 0 = .ok (.aload_n 0, 1)) ∧ (decode cX6_init 1 = .ok (.invokespecial 3, 3)) ∧ (decode cX6_init 4 = .ok (.aload_n 0, 1)) ∧ (decode cX6_init 5 = .ok (.bipush 16, 2)) ∧ (decode cX6_init 7 = .ok (.newarray .long, 2)) ∧ (decode cX6_init 9 = .ok (.putfield 9, 3)) ∧ (decode cX6_init 12 = .ok (.aload_n 0, 1)) ∧ (decode cX6_init 13 = .ok (.bipush 64, 2)) ∧ (decode cX6_init 15 = .ok (.newarray .long, 2)) ∧ (decode cX6_init 17 = .ok (.putfield 15, 3)) := by decide +kernel
theorem dX6_init_0 : decode cX6_init 0 = .ok (.aload_n 0, 1) := zb_X6_init_0.1
theorem dX6_init_1 : decode cX6_init 1 = .ok (.invokespecial 3, 3) := zb_X6_init_0.2.1
theorem dX6_init_4 : decode cX6_init 4 = .ok (.aload_n 0, 1) := zb_X6_init_0.2.2.1
theorem dX6_init_5 : decode cX6_init 5 = .ok (.bipush 16, 2) := zb_X6_init_0.2.2.2.1
theorem dX6_init_7 : decode cX6_init 7 = .ok (.newarray .long, 2) := zb_X6_init_0.2.2.2.2.1
theorem dX6_init_9 : decode cX6_init 9 = .ok (.putfield 9, 3) := zb_X6_init_0.2.2.2.2.2.1
theorem dX6_init_12 : decode cX6_init 12 = .ok (.aload_n 0, 1) := zb_X6_init_0.2.2.2.2.2.2.1
theorem dX6_init_13 : decode cX6_init 13 = .ok (.bipush 64, 2) := zb_X6_init_0.2.2.2.2.2.2.2.1
theorem dX6_init_15 : decode cX6_init 15 = .ok (.newarray .long, 2) := zb_X6_init_0.2.2.2.2.2.2.2.2.1
theorem dX6_init_17 : decode cX6_init 17 = .ok (.putfield 15, 3) := zb_X6_init_0.2.2.2.2.2.2.2.2.2
theorem zb_X6_init_20 : (decode cX6_init 20 = .ok (.aload_n 0, 1)) ∧ (decode cX6_init 21 = .ok (.iconst 3, 1)) ∧ (decode cX6_init 22 = .ok (.newarray .int, 2)) ∧ (decode cX6_init 24 = .ok (.putfield 18, 3)) ∧ (decode cX6_init 27 = .ok (.aload_n 0, 1)) ∧ (decode cX6_init 28 = .ok (.iconst 3, 1)) ∧ (decode cX6_init 29 = .ok (.newarray .int, 2)) ∧ (decode cX6_init 31 = .ok (.putfield 22, 3)) ∧ (decode cX6_init 34 = .ok (.return_, 1)) := by decide +kernel
theorem dX6_init_20 : decode cX6_init 20 = .ok (.aload_n 0, 1) := zb_X6_init_20.1
theorem dX6_init_21 : decode cX6_init 21 = .ok (.iconst 3, 1) := zb_X6_init_20.2.1
theorem dX6_init_22 : decode cX6_init 22 = .ok (.newarray .int, 2) := zb_X6_init_20.2.2.1
theorem dX6_init_24 : decode cX6_init 24 = .ok (.putfield 18, 3) := zb_X6_init_20.2.2.2.1
theorem dX6_init_27 : decode cX6_init 27 = .ok (.aload_n 0, 1) := zb_X6_init_20.2.2.2.2.1
theorem dX6_init_28 : decode cX6_init 28 = .ok (.iconst 3, 1) := zb_X6_init_20.2.2.2.2.2.1
theorem dX6_init_29 : decode cX6_init 29 = .ok (.newarray .int, 2) := zb_X6_init_20.2.2.2.2.2.2.1
theorem dX6_init_31 : decode cX6_init 31 = .ok (.putfield 22, 3) := zb_X6_init_20.2.2.2.2.2.2.2.1
theorem dX6_init_34 : decode cX6_init 34 = .ok (.return_, 1) := zb_X6_init_20.2.2.2.2.2.2.2.2
theorem zb_X2_init_0 : (decode cX2_init 0 = .ok (.aload_n 0, 1)) ∧ (decode cX2_init 1 = .ok (.invokespecial 3, 3)) ∧ (decode cX2_init 4 = .ok (.aload_n 0, 1)) ∧ (decode cX2_init 5 = .ok (.bipush 16, 2)) ∧ (decode cX2_init 7 = .ok (.newarray .int, 2)) ∧ (decode cX2_init 9 = .ok (.putfield 9, 3)) ∧ (decode cX2_init 12 = .ok (.aload_n 0, 1)) ∧ (decode cX2_init 13 = .ok (.bipush 16, 2)) ∧ (decode cX2_init 15 = .ok (.newarray .int, 2)) ∧ (decode cX2_init 17 = .ok (.putfield 15, 3)) ∧ (decode cX2_init 20 = .ok (.aload_n 0, 1)) ∧ (decode cX2_init 21 = .ok (.bipush 16, 2)) := by decide +kernel
theorem dX2_init_0 : decode cX2_init 0 = .ok (.aload_n 0, 1) := zb_X2_init_0.1
theorem dX2_init_1 : decode cX2_init 1 = .ok (.invokespecial 3, 3) := zb_X2_init_0.2.1
theorem dX2_init_4 : decode cX2_init 4 = .ok (.aload_n 0, 1) := zb_X2_init_0.2.2.1
theorem dX2_init_5 : decode cX2_init 5 = .ok (.bipush 16, 2) := zb_X2_init_0.2.2.2.1
theorem dX2_init_7 : decode cX2_init 7 = .ok (.newarray .int, 2) := zb_X2_init_0.2.2.2.2.1
theorem dX2_init_9 : decode cX2_init 9 = .ok (.putfield 9, 3) := zb_X2_init_0.2.2.2.2.2.1
theorem dX2_init_12 : decode cX2_init 12 = .ok (.aload_n 0, 1) := zb_X2_init_0.2.2.2.2.2.2.1
theorem dX2_init_13 : decode cX2_init 13 = .ok (.bipush 16, 2) := zb_X2_init_0.2.2.2.2.2.2.2.1
theorem dX2_init_15 : decode cX2_init 15 = .ok (.newarray .int, 2) := zb_X2_init_0.2.2.2.2.2.2.2.2.1
theorem dX2_init_17 : decode cX2_init 17 = .ok (.putfield 15, 3) := zb_X2_init_0.2.2.2.2.2.2.2.2.2.1
theorem dX2_init_20 : decode cX2_init 20 = .ok (.aload_n 0, 1) := zb_X2_init_0.2.2.2.2.2.2.2.2.2.2.1
theorem dX2_init_21 : decode cX2_init 21 = .ok (.bipush 16, 2) := zb_X2_init_0.2.2.2.2.2.2.2.2.2.2.2
theorem zb_X2_init_23 : (decode cX2_init 23 = .ok (.newarray .int, 2)) ∧ (decode cX2_init 25 = .ok (.putfield 18, 3)) ∧ (decode cX2_init 28 = .ok (.aload_n 0, 1)) ∧ (decode cX2_init 29 = .ok (.bipush 16, 2)) ∧ (decode cX2_init 31 = .ok (.newarray .int, 2)) ∧ (decode cX2_init 33 = .ok (.putfield 21, 3)) ∧ (decode cX2_init 36 = .ok (.aload_n 0, 1)) ∧ (decode cX2_init 37 = .ok (.bipush 16, 2)) ∧ (decode cX2_init 39 = .ok (.newarray .int, 2)) ∧ (decode cX2_init 41 = .ok (.putfield 24, 3)) ∧ (decode cX2_init 44 = .ok (.return_, 1)) := by decide +kernel
theorem dX2_init_23 : decode cX2_init 23 = .ok (.newarray .int, 2) := zb_X2_init_23.1
theorem dX2_init_25 : decode cX2_init 25 = .ok (.putfield 18, 3) := zb_X2_init_23.2.1
theorem dX2_init_28 : decode cX2_init 28 = .ok (.aload_n 0, 1) := zb_X2_init_23.2.2.1
theorem dX2_init_29 : decode cX2_init 29 = .ok (.bipush 16, 2) := zb_X2_init_23.2.2.2.1
theorem dX2_init_31 : decode cX2_init 31 = .ok (.newarray .int, 2) := zb_X2_init_23.2.2.2.2.1
theorem dX2_init_33 : decode cX2_init 33 = .ok (.putfield 21, 3) := zb_X2_init_23.2.2.2.2.2.1
theorem dX2_init_36 : decode cX2_init 36 = .ok (.aload_n 0, 1) := zb_X2_init_23.2.2.2.2.2.2.1
theorem dX2_init_37 : decode cX2_init 37 = .ok (.bipush 16, 2) := zb_X2_init_23.2.2.2.2.2.2.2.1
theorem dX2_init_39 : decode cX2_init 39 = .ok (.newarray .int, 2) := zb_X2_init_23.2.2.2.2.2.2.2.2.1
theorem dX2_init_41 : decode cX2_init 41 = .ok (.putfield 24, 3) := zb_X2_init_23.2.2.2.2.2.2.2.2.2.1
theorem dX2_init_44 : decode cX2_init 44 = .ok (.return_, 1) := zb_X2_init_23.2.2.2.2.2.2.2.2.2.2
theorem zb_X8_init_0 : (decode cX8_init 0 = .ok (.aload_n 0, 1)) ∧ (decode cX8_init 1 = .ok (.invokespecial 3, 3)) ∧ (decode cX8_init 4 = .ok (.aload_n 0, 1)) ∧ (decode cX8_init 5 = .ok (.bipush 20, 2)) ∧ (decode cX8_init 7 = .ok (.newarray .int, 2)) ∧ (decode cX8_init 9 = .ok (.putfield 9, 3)) ∧ (decode cX8_init 12 = .ok (.aload_n 0, 1)) ∧ (decode cX8_init 13 = .ok (.bipush 20, 2)) := by decide +kernel
theorem dX8_init_0 : decode cX8_init 0 = .ok (.aload_n 0, 1) := zb_X8_init_0.1
theorem dX8_init_1 : decode cX8_init 1 = .ok (.invokespecial 3, 3) := zb_X8_init_0.2.1
theorem dX8_init_4 : decode cX8_init 4 = .ok (.aload_n 0, 1) := zb_X8_init_0.2.2.1
theorem dX8_init_5 : decode cX8_init 5 = .ok (.bipush 20, 2) := zb_X8_init_0.2.2.2.1
theorem dX8_init_7 : decode cX8_init 7 = .ok (.newarray .int, 2) := zb_X8_init_0.2.2.2.2.1
theorem dX8_init_9 : decode cX8_init 9 = .ok (.putfield 9, 3) := zb_X8_init_0.2.2.2.2.2.1
theorem dX8_init_12 : decode cX8_init 12 = .ok (.aload_n 0, 1) := zb_X8_init_0.2.2.2.2.2.2.1
theorem dX8_init_13 : decode cX8_init 13 = .ok (.bipush 20, 2) := zb_X8_init_0.2.2.2.2.2.2.2
theorem zb_X8_init_15 : (decode cX8_init 15 = .ok (.newarray .int, 2)) ∧ (decode cX8_init 17 = .ok (.putfield 15, 3)) ∧ (decode cX8_init 20 = .ok (.aload_n 0, 1)) ∧ (decode cX8_init 21 = .ok (.bipush 20, 2)) ∧ (decode cX8_init 23 = .ok (.newarray .int, 2)) ∧ (decode cX8_init 25 = .ok (.putfield 18, 3)) ∧ (decode cX8_init 28 = .ok (.return_, 1)) := by decide +kernel
theorem dX8_init_15 : decode cX8_init 15 = .ok (.newarray .int, 2) := zb_X8_init_15.1
theorem dX8_init_17 : decode cX8_init 17 = .ok (.putfield 15, 3) := zb_X8_init_15.2.1
theorem dX8_init_20 : decode cX8_init 20 = .ok (.aload_n 0, 1) := zb_X8_init_15.2.2.1
theorem dX8_init_21 : decode cX8_init 21 = .ok (.bipush 20, 2) := zb_X8_init_15.2.2.2.1
theorem dX8_init_23 : decode cX8_init 23 = .ok (.newarray .int, 2) := zb_X8_init_15.2.2.2.2.1
theorem dX8_init_25 : decode cX8_init 25 = .ok (.putfield 18, 3) := zb_X8_init_15.2.2.2.2.2.1
theorem dX8_init_28 : decode cX8_init 28 = .ok (.return_, 1) := zb_X8_init_15.2.2.2.2.2.2
theorem zb_X7_init_0 : (decode cX7_init 0 = .ok (.aload_n 0, 1)) ∧ (decode cX7_init 1 = .ok (.invokespecial 3, 3)) ∧ (decode cX7_init 4 = .ok (.aload_n 0, 1)) ∧ (decode cX7_init 5 = .ok (.bipush 40, 2)) ∧ (decode cX7_init 7 = .ok (.newarray .int, 2)) ∧ (decode cX7_init 9 = .ok (.putfield 9, 3)) ∧ (decode cX7_init 12 = .ok (.aload_n 0, 1)) ∧ (decode cX7_init 13 = .ok (.iconst (-1), 1)) ∧ (decode cX7_init 14 = .ok (.putfield 15, 3)) ∧ (decode cX7_init 17 = .ok (.return_, 1)) := by decide +kernel
theorem dX7_init_0 : decode cX7_init 0 = .ok (.aload_n 0, 1) := zb_X7_init_0.1
theorem dX7_init_1 : decode cX7_init 1 = .ok (.invokespecial 3, 3) := zb_X7_init_0.2.1
theorem dX7_init_4 : decode cX7_init 4 = .ok (.aload_n 0, 1) := zb_X7_init_0.2.2.1
theorem dX7_init_5 : decode cX7_init 5 = .ok (.bipush 40, 2) := zb_X7_init_0.2.2.2.1
theorem dX7_init_7 : decode cX7_init 7 = .ok (.newarray .int, 2) := zb_X7_init_0.2.2.2.2.1
theorem dX7_init_9 : decode cX7_init 9 = .ok (.putfield 9, 3) := zb_X7_init_0.2.2.2.2.2.1
theorem dX7_init_12 : decode cX7_init 12 = .ok (.aload_n 0, 1) := zb_X7_init_0.2.2.2.2.2.2.1
theorem dX7_init_13 : decode cX7_init 13 = .ok (.iconst (-1), 1) := zb_X7_init_0.2.2.2.2.2.2.2.1
theorem dX7_init_14 : decode cX7_init 14 = .ok (.putfield 15, 3) := zb_X7_init_0.2.2.2.2.2.2.2.2.1
theorem dX7_init_17 : decode cX7_init 17 = .ok (.return_, 1) := zb_X7_init_0.2.2.2.2.2.2.2.2.2
theorem zb_X9_init_0 : (decode cX9_init 0 = .ok (.aload_n 0, 1)) ∧ (decode cX9_init 1 = .ok (.invokespecial 3, 3)) ∧ (decode cX9_init 4 = .ok (.aload_n 0, 1)) ∧ (decode cX9_init 5 = .ok (.sipush 160, 3)) ∧ (decode cX9_init 8 = .ok (.newarray .int, 2)) ∧ (decode cX9_init 10 = .ok (.putfield 9, 3)) ∧ (decode cX9_init 13 = .ok (.return_, 1)) := by decide +kernel
theorem dX9_init_0 : decode cX9_init 0 = .ok (.aload_n 0, 1) := zb_X9_init_0.1
theorem dX9_init_1 : decode cX9_init 1 = .ok (.invokespecial 3, 3) := zb_X9_init_0.2.1
theorem dX9_init_4 : decode cX9_init 4 = .ok (.aload_n 0, 1) := zb_X9_init_0.2.2.1
theorem dX9_init_5 : decode cX9_init 5 = .ok (.sipush 160, 3) := zb_X9_init_0.2.2.2.1
theorem dX9_init_8 : decode cX9_init 8 = .ok (.newarray .int, 2) := zb_X9_init_0.2.2.2.2.1
theorem dX9_init_10 : decode cX9_init 10 = .ok (.putfield 9, 3) := zb_X9_init_0.2.2.2.2.2.1
theorem dX9_init_13 : decode cX9_init 13 = .ok (.return_, 1) := zb_X9_init_0.2.2.2.2.2.2
theorem zb_X0_init_0 : (decode cX0_init 0 = .ok (.aload_n 0, 1)) ∧ (decode cX0_init 1 = .ok (.invokespecial 3, 3)) ∧ (decode cX0_init 4 = .ok (.aload_n 0, 1)) ∧ (decode cX0_init 5 = .ok (.bipush 40, 2)) ∧ (decode cX0_init 7 = .ok (.newarray .int, 2)) ∧ (decode cX0_init 9 = .ok (.putfield 9, 3)) ∧ (decode cX0_init 12 = .ok (.aload_n 0, 1)) ∧ (decode cX0_init 13 = .ok (.bipush 40, 2)) ∧ (decode cX0_init 15 = .ok (.newarray .int, 2)) ∧ (decode cX0_init 17 = .ok (.putfield 15, 3)) := by decide +kernel
theorem dX0_init_0 : decode cX0_init 0 = .ok (.aload_n 0, 1) := zb_X0_init_0.1
theorem dX0_init_1 : decode cX0_init 1 = .ok (.invokespecial 3, 3) := zb_X0_init_0.2.1
theorem dX0_init_4 : decode cX0_init 4 = .ok (.aload_n 0, 1) := zb_X0_init_0.2.2.1
theorem dX0_init_5 : decode cX0_init 5 = .ok (.bipush 40, 2) := zb_X0_init_0.2.2.2.1
theorem dX0_init_7 : decode cX0_init 7 = .ok (.newarray .int, 2) := zb_X0_init_0.2.2.2.2.1
theorem dX0_init_9 : decode cX0_init 9 = .ok (.putfield 9, 3) := zb_X0_init_0.2.2.2.2.2.1
theorem dX0_init_12 : decode cX0_init 12 = .ok (.aload_n 0, 1) := zb_X0_init_0.2.2.2.2.2.2.1
theorem dX0_init_13 : decode cX0_init 13 = .ok (.bipush 40, 2) := zb_X0_init_0.2.2.2.2.2.2.2.1
theorem dX0_init_15 : decode cX0_init 15 = .ok (.newarray .int, 2) := zb_X0_init_0.2.2.2.2.2.2.2.2.1
theorem dX0_init_17 : decode cX0_init 17 = .ok (.putfield 15, 3) := zb_X0_init_0.2.2.2.2.2.2.2.2.2
theorem zb_X0_init_20 : (decode cX0_init 20 = .ok (.aload_n 0, 1)) ∧ (decode cX0_init 21 = .ok (.bipush 40, 2)) ∧ (decode cX0_init 23 = .ok (.newarray .long, 2)) ∧ (decode cX0_init 25 = .ok (.putfield 18, 3)) ∧ (decode cX0_init 28 = .ok (.aload_n 0, 1)) ∧ (decode cX0_init 29 = .ok (.bipush 6, 2)) ∧ (decode cX0_init 31 = .ok (.newarray .int, 2)) ∧ (decode cX0_init 33 = .ok (.putfield 22, 3)) ∧ (decode cX0_init 36 = .ok (.aload_n 0, 1)) ∧ (decode cX0_init 37 = .ok (.bipush 6, 2)) := by decide +kernel
theorem dX0_init_20 : decode cX0_init 20 = .ok (.aload_n 0, 1) := zb_X0_init_20.1
theorem dX0_init_21 : decode cX0_init 21 = .ok (.bipush 40, 2) := zb_X0_init_20.2.1
theorem dX0_init_23 : decode cX0_init 23 = .ok (.newarray .long, 2) := zb_X0_init_20.2.2.1
theorem dX0_init_25 : decode cX0_init 25 = .ok (.putfield 18, 3) := zb_X0_init_20.2.2.2.1
theorem dX0_init_28 : decode cX0_init 28 = .ok (.aload_n 0, 1) := zb_X0_init_20.2.2.2.2.1
theorem dX0_init_29 : decode cX0_init 29 = .ok (.bipush 6, 2) := zb_X0_init_20.2.2.2.2.2.1
theorem dX0_init_31 : decode cX0_init 31 = .ok (.newarray .int, 2) := zb_X0_init_20.2.2.2.2.2.2.1
theorem dX0_init_33 : decode cX0_init 33 = .ok (.putfield 22, 3) := zb_X0_init_20.2.2.2.2.2.2.2.1
theorem dX0_init_36 : decode cX0_init 36 = .ok (.aload_n 0, 1) := zb_X0_init_20.2.2.2.2.2.2.2.2.1
theorem dX0_init_37 : decode cX0_init 37 = .ok (.bipush 6, 2) := zb_X0_init_20.2.2.2.2.2.2.2.2.2
theorem zb_X0_init_39 : (decode cX0_init 39 = .ok (.newarray .int, 2)) ∧ (decode cX0_init 41 = .ok (.putfield 25, 3)) ∧ (decode cX0_init 44 = .ok (.aload_n 0, 1)) ∧ (decode cX0_init 45 = .ok (.sipush 240, 3)) ∧ (decode cX0_init 48 = .ok (.newarray .long, 2)) ∧ (decode cX0_init 50 = .ok (.putfield 28, 3)) ∧ (decode cX0_init 53 = .ok (.aload_n 0, 1)) ∧ (decode cX0_init 54 = .ok (.iload_n 1, 1)) ∧ (decode cX0_init 55 = .ok (.putfield 31, 3)) ∧ (decode cX0_init 58 = .ok (.aload_n 0, 1)) := by decide +kernel
theorem dX0_init_39 : decode cX0_init 39 = .ok (.newarray .int, 2) := zb_X0_init_39.1
theorem dX0_init_41 : decode cX0_init 41 = .ok (.putfield 25, 3) := zb_X0_init_39.2.1
theorem dX0_init_44 : decode cX0_init 44 = .ok (.aload_n 0, 1) := zb_X0_init_39.2.2.1
theorem dX0_init_45 : decode cX0_init 45 = .ok (.sipush 240, 3) := zb_X0_init_39.2.2.2.1
theorem dX0_init_48 : decode cX0_init 48 = .ok (.newarray .long, 2) := zb_X0_init_39.2.2.2.2.1
theorem dX0_init_50 : decode cX0_init 50 = .ok (.putfield 28, 3) := zb_X0_init_39.2.2.2.2.2.1
theorem dX0_init_53 : decode cX0_init 53 = .ok (.aload_n 0, 1) := zb_X0_init_39.2.2.2.2.2.2.1
theorem dX0_init_54 : decode cX0_init 54 = .ok (.iload_n 1, 1) := zb_X0_init_39.2.2.2.2.2.2.2.1
theorem dX0_init_55 : decode cX0_init 55 = .ok (.putfield 31, 3) := zb_X0_init_39.2.2.2.2.2.2.2.2.1
theorem dX0_init_58 : decode cX0_init 58 = .ok (.aload_n 0, 1) := zb_X0_init_39.2.2.2.2.2.2.2.2.2
theorem zb_X0_init_59 : (decode cX0_init 59 = .ok (.iload_n 2, 1)) ∧ (decode cX0_init 60 = .ok (.putfield 35, 3)) ∧ (decode cX0_init 63 = .ok (.aload_n 0, 1)) ∧ (decode cX0_init 64 = .ok (.iload_n 3, 1)) ∧ (decode cX0_init 65 = .ok (.putfield 38, 3)) ∧ (decode cX0_init 68 = .ok (.aload_n 0, 1)) ∧ (decode cX0_init 69 = .ok (.iload 4, 2)) ∧ (decode cX0_init 71 = .ok (.putfield 41, 3)) ∧ (decode cX0_init 74 = .ok (.aload_n 0, 1)) ∧ (decode cX0_init 75 = .ok (.iload 5, 2)) := by decide +kernel
theorem dX0_init_59 : decode cX0_init 59 = .ok (.iload_n 2, 1) := zb_X0_init_59.1
theorem dX0_init_60 : decode cX0_init 60 = .ok (.putfield 35, 3) := zb_X0_init_59.2.1
theorem dX0_init_63 : decode cX0_init 63 = .ok (.aload_n 0, 1) := zb_X0_init_59.2.2.1
theorem dX0_init_64 : decode cX0_init 64 = .ok (.iload_n 3, 1) := zb_X0_init_59.2.2.2.1
theorem dX0_init_65 : decode cX0_init 65 = .ok (.putfield 38, 3) := zb_X0_init_59.2.2.2.2.1
theorem dX0_init_68 : decode cX0_init 68 = .ok (.aload_n 0, 1) := zb_X0_init_59.2.2.2.2.2.1
theorem dX0_init_69 : decode cX0_init 69 = .ok (.iload 4, 2) := zb_X0_init_59.2.2.2.2.2.2.1
theorem dX0_init_71 : decode cX0_init 71 = .ok (.putfield 41, 3) := zb_X0_init_59.2.2.2.2.2.2.2.1
theorem dX0_init_74 : decode cX0_init 74 = .ok (.aload_n 0, 1) := zb_X0_init_59.2.2.2.2.2.2.2.2.1
theorem dX0_init_75 : decode cX0_init 75 = .ok (.iload 5, 2) := zb_X0_init_59.2.2.2.2.2.2.2.2.2
theorem zb_X0_init_77 : (decode cX0_init 77 = .ok (.putfield 44, 3)) ∧ (decode cX0_init 80 = .ok (.aload_n 0, 1)) ∧ (decode cX0_init 81 = .ok (.iload 6, 2)) ∧ (decode cX0_init 83 = .ok (.putfield 47, 3)) ∧ (decode cX0_init 86 = .ok (.aload_n 0, 1)) ∧ (decode cX0_init 87 = .ok (.iload_n 3, 1)) ∧ (decode cX0_init 88 = .ok (.iconst 1, 1)) ∧ (decode cX0_init 89 = .ok (.isub, 1)) ∧ (decode cX0_init 90 = .ok (.putfield 50, 3)) ∧ (decode cX0_init 93 = .ok (.return_, 1)) := by decide +kernel
theorem dX0_init_77 : decode cX0_init 77 = .ok (.putfield 44, 3) := zb_X0_init_77.1
theorem dX0_init_80 : decode cX0_init 80 = .ok (.aload_n 0, 1) := zb_X0_init_77.2.1
theorem dX0_init_81 : decode cX0_init 81 = .ok (.iload 6, 2) := zb_X0_init_77.2.2.1
theorem dX0_init_83 : decode cX0_init 83 = .ok (.putfield 47, 3) := zb_X0_init_77.2.2.2.1
theorem dX0_init_86 : decode cX0_init 86 = .ok (.aload_n 0, 1) := zb_X0_init_77.2.2.2.2.1
theorem dX0_init_87 : decode cX0_init 87 = .ok (.iload_n 3, 1) := zb_X0_init_77.2.2.2.2.2.1
theorem dX0_init_88 : decode cX0_init 88 = .ok (.iconst 1, 1) := zb_X0_init_77.2.2.2.2.2.2.1
theorem dX0_init_89 : decode cX0_init 89 = .ok (.isub, 1) := zb_X0_init_77.2.2.2.2.2.2.2.1
theorem dX0_init_90 : decode cX0_init 90 = .ok (.putfield 50, 3) := zb_X0_init_77.2.2.2.2.2.2.2.2.1
theorem dX0_init_93 : decode cX0_init 93 = .ok (.return_, 1) := zb_X0_init_77.2.2.2.2.2.2.2.2.2
set_option maxHeartbeats 1000000 in
set_option maxRecDepth 100000 in
theorem rt_X10_init (l : Launch) (dC : Nat → ClassId) (dI : Nat → Nat → Nat) (sz : Nat) (h1 : Nat) : Met l yX10_init wsX10_init ({ frames := 1, cells := 2, slots := 480, locals := 12 }) (va_Pc [.ref h1] (fun U => U.heap.size = sz ∧ va_P (dC, dI) vwCl [(h1, .inr (10, [.null, .null, .int 0, .int 0]))] U.heap ∧ va_K (dC, dI) vwCl [] U ∧ va_D (fun _ => True) [(h1, .inr (10, [.null, .null, .int 0, .int 0]))])) (va_Qv (fun u : (Nat → Int32) => match u with | f2 => ∀ j : Nat, f2 j = 0 ∨ f2 j = 2222) (fun (u : (Nat → Int32)) (t : State) => match u with | f2 => ∃ (aw : Nat → Nat), ∃ (cw : Nat → ClassId), va_P (dC, dI) vwCl [(h1, .inr (10, [.ref (aw 0), .ref (aw 1), .int 0, .int 0])), (aw 0, .inl (cw 0, 240, .inl f2)), (aw 1, .inl (cw 1, 240, .inl (fun _ => (0 : Int32))))] t.heap ∧ va_D (va_A [(h1, .inr (10, [.null, .null, .int 0, .int 0]))] sz) [(h1, .inr (10, [.ref (aw 0), .ref (aw 1), .int 0, .int 0])), (aw 0, .inl (cw 0, 240, .inl f2)), (aw 1, .inl (cw 1, 240, .inl (fun _ => (0 : Int32))))] ∧ va_K (dC, dI) vwCl [(cw 0, .int), (cw 1, .int)] t) (va_A [(h1, .inr (10, [.null, .null, .int 0, .int 0]))] sz)) 2 480 (va_A [(h1, .inr (10, [.null, .null, .int 0, .int 0]))] sz) := by
  refine Met.ofW (cc := cX10_init) (maxL := 2) (ret := none) (by decide) rfl ?_
  intro p e s m args below meth c s₁ B hml hv
  obtain ⟨rfl, hsz, hP, hK, hD0⟩ := hv
  have hx := B.exec
  have hb := B.bytes
  have hr := B.returns
  have hts := atoms_spec (ws := wsX10_init) B.pre
  have hown : s.vm.findClass RX10 = some m.cls := findClass_of_methodNamed B.named
  have hlocks := B.notSynchronized
  have hin : meth.name = "<init>" := (name_of_methodNamed B.named B.method).1
  subst hsz
  have hD := hD0.self (sz := s.heap.size)
  generalize hAe : va_A [(h1, .inr (10, [.null, .null, .int 0, .int 0]))] s.heap.size = A at hD  ⊢
  have hA : ∀ q : Nat, s.heap.size ≤ q → A q := fun q h => by rw [← hAe]; exact Or.inr h
  have hS : va_S A s.heap s.heap [] := va_S.rf
  have hl := lv_entry ([.ref h1]) (n := 2) (Nat.le_of_ble_eq_true rfl)
  rw [lg_entry_eq]
  generalize (lg_sl ([.ref h1]) ++ List.replicate (2 - (lg_sl ([.ref h1])).length) Slot.unset).toArray = ls at hl ⊢
  have hl : lv_has ls 2 [(0, .ref h1)] := hl
  refine lv_aload_n hx hb dX10_init_0 rfl (lv_at hl 0 rfl) ?_
  refine W.objInit hx hb hown (hts (.methodLink RX10 3 objectInit) (List.mem_cons_of_mem _ tw_1_34)) (hts (.instanceMethod objectInit) (List.mem_cons_of_mem _ tw_1_27)) (hts (.code objectInit ⟨#[0xb1]⟩ 1 none) (List.mem_cons_of_mem _ tw_1_28)) rfl (by rw [hml]; exact hl.1) rfl dX10_init_1 (Nat.le_of_ble_eq_true rfl) (Nat.le_of_ble_eq_true rfl) ?_
  refine W.eq (g2 := F0 m 4 ls []) rfl ?_
  refine lv_aload_n hx hb dX10_init_4 rfl (lv_at hl 0 rfl) ?_
  refine lv_sipush (v := 240) hx hb dX10_init_5 (by decide) ?_
  refine va_newa (atype := .int) (ty := .int) (N' := 240) (a0 := (240, .inl (fun _ => (0 : Int32)))) hx hb (hts (.arrayClass .int) (List.mem_cons_of_mem _ tw_1_50)) rfl hK hP hD hS hA (fun _ => rfl) (by decide +kernel) (by decide +kernel) (by decide +kernel) (by decide +kernel) (by decide +kernel) dX10_init_8 (fun q_1 cA_2 H hK hP hD hS => ?_)
  have hP : va_P (dC, dI) vwCl [(h1, .inr (10, [.null, .null, .int 0, .int 0])), (q_1, .inl (cA_2, 240, .inl (fun _ => (0 : Int32))))] H := hP
  have hD : va_D A [(h1, .inr (10, [.null, .null, .int 0, .int 0])), (q_1, .inl (cA_2, 240, .inl (fun _ => (0 : Int32))))] := hD
  have hK : va_K (dC, dI) vwCl [(cA_2, .int)] s := hK
  refine va_putF (D := (dC, dI)) (ci := 10) (v := .ref q_1) (ty := .array .int) (C := RX10) (T := TX10) (N := 4) hx hb hts (fun w h => List.mem_cons_of_mem _ (iT_X10 w h)) tyX10 tyX10_ok nmX10 hown hK hP hD hS 0 rfl rfl 0 (by decide) (hts (.fieldLink RX10 9 "RedTent$Weather" "windBy" "[I") (List.mem_cons_of_mem _ tw_1_35)) (fun _ h9 => h9) rfl hin rfl (by decide +kernel) rfl rfl (Nat.le_of_ble_eq_true rfl) dX10_init_10 (fun H locs hP hD hS => ?_)
  have hP : va_P (dC, dI) vwCl [(h1, .inr (10, [.ref q_1, .null, .int 0, .int 0])), (q_1, .inl (cA_2, 240, .inl (fun _ => (0 : Int32))))] H := hP
  have hD : va_D A [(h1, .inr (10, [.ref q_1, .null, .int 0, .int 0])), (q_1, .inl (cA_2, 240, .inl (fun _ => (0 : Int32))))] := hD
  refine lv_aload_n hx hb dX10_init_13 rfl (lv_at hl 0 rfl) ?_
  refine lv_sipush (v := 240) hx hb dX10_init_14 (by decide) ?_
  refine va_newa (atype := .int) (ty := .int) (N' := 240) (a0 := (240, .inl (fun _ => (0 : Int32)))) hx hb (hts (.arrayClass .int) (List.mem_cons_of_mem _ tw_1_50)) rfl hK hP hD hS hA (fun _ => rfl) (by decide +kernel) (by decide +kernel) (by decide +kernel) (by decide +kernel) (by decide +kernel) dX10_init_17 (fun q_3 cA_4 H hK hP hD hS => ?_)
  have hP : va_P (dC, dI) vwCl [(h1, .inr (10, [.ref q_1, .null, .int 0, .int 0])), (q_1, .inl (cA_2, 240, .inl (fun _ => (0 : Int32)))), (q_3, .inl (cA_4, 240, .inl (fun _ => (0 : Int32))))] H := hP
  have hD : va_D A [(h1, .inr (10, [.ref q_1, .null, .int 0, .int 0])), (q_1, .inl (cA_2, 240, .inl (fun _ => (0 : Int32)))), (q_3, .inl (cA_4, 240, .inl (fun _ => (0 : Int32))))] := hD
  have hK : va_K (dC, dI) vwCl [(cA_2, .int), (cA_4, .int)] s := hK
  refine va_putF (D := (dC, dI)) (ci := 10) (v := .ref q_3) (ty := .array .int) (C := RX10) (T := TX10) (N := 4) hx hb hts (fun w h => List.mem_cons_of_mem _ (iT_X10 w h)) tyX10 tyX10_ok nmX10 hown hK hP hD hS 0 rfl rfl 1 (by decide) (hts (.fieldLink RX10 15 "RedTent$Weather" "fogIn" "[I") (List.mem_cons_of_mem _ tw_1_36)) (fun _ h9 => h9) rfl hin rfl (by decide +kernel) rfl rfl (Nat.le_of_ble_eq_true rfl) dX10_init_19 (fun H locs hP hD hS => ?_)
  have hP : va_P (dC, dI) vwCl [(h1, .inr (10, [.ref q_1, .ref q_3, .int 0, .int 0])), (q_1, .inl (cA_2, 240, .inl (fun _ => (0 : Int32)))), (q_3, .inl (cA_4, 240, .inl (fun _ => (0 : Int32))))] H := hP
  have hD : va_D A [(h1, .inr (10, [.ref q_1, .ref q_3, .int 0, .int 0])), (q_1, .inl (cA_2, 240, .inl (fun _ => (0 : Int32)))), (q_3, .inl (cA_4, 240, .inl (fun _ => (0 : Int32))))] := hD
  refine lv_iconst (v := 0) hx hb dX10_init_22 (by decide) ?_
  refine lv_istore_n (lv' := [(1, .int 0), (0, .ref h1)]) hx hb dX10_init_23 rfl hl (by decide) rfl (fun ls hl => ?_)
  have lp : ∀ (n_lp : Nat) (xlp : Int32) (g0 : Nat → Int32), (240 - xlp.toInt).toNat < n_lp → 0 ≤ xlp.toInt → xlp.toInt ≤ 240 → (∀ j : Nat, g0 j = 0 ∨ g0 j = 2222) → ∀ (H : Heap) (locs : List Loc), va_P (dC, dI) vwCl [(h1, .inr (10, [.ref q_1, .ref q_3, .int 0, .int 0])), (q_1, .inl (cA_2, 240, .inl g0)), (q_3, .inl (cA_4, 240, .inl (fun _ => (0 : Int32))))] H → va_D A [(h1, .inr (10, [.ref q_1, .ref q_3, .int 0, .int 0])), (q_1, .inl (cA_2, 240, .inl g0)), (q_3, .inl (cA_4, 240, .inl (fun _ => (0 : Int32))))] → va_S A s.heap H locs → ∀ (ls : Array Slot), lv_has ls 2 [(1, .int xlp), (0, .ref h1)] → W p l e (headSpec wsX10_init ({ frames := 1, cells := 2, slots := 480, locals := 12 })).room s m ([.ref h1] : List Value).toArray below meth c H locs 2 480 (MQ below (va_Qv (fun u : (Nat → Int32) => match u with | f2 => ∀ j : Nat, f2 j = 0 ∨ f2 j = 2222) (fun (u : (Nat → Int32)) (t : State) => match u with | f2 => ∃ (aw : Nat → Nat), ∃ (cw : Nat → ClassId), va_P (dC, dI) vwCl [(h1, .inr (10, [.ref (aw 0), .ref (aw 1), .int 0, .int 0])), (aw 0, .inl (cw 0, 240, .inl f2)), (aw 1, .inl (cw 1, 240, .inl (fun _ => (0 : Int32))))] t.heap ∧ va_D A [(h1, .inr (10, [.ref (aw 0), .ref (aw 1), .int 0, .int 0])), (aw 0, .inl (cw 0, 240, .inl f2)), (aw 1, .inl (cw 1, 240, .inl (fun _ => (0 : Int32))))] ∧ va_K (dC, dI) vwCl [(cw 0, .int), (cw 1, .int)] t) A) ([.ref h1] : List Value).toArray s 2 480 A) (F0 m 24 ls []) := by
    intro n_lp
    induction n_lp with
    | zero => intro xlp g0 hm; exact absurd hm (Nat.not_lt_zero _)
    | succ n_lp ih_lp =>
      intro xlp g0 hm_lp h0lp h1lp hg H locs hP hD hS ls hl
      refine lv_iload_n hx hb dX10_init_24 rfl (lv_at hl 0 rfl) ?_
      refine lv_sipush (v := 240) hx hb dX10_init_25 (by decide) ?_
      refine lv_icmp_ge (tgt := 46) hx hb dX10_init_28 (by decide) (fun c_5 => ?_) (fun c_5 => ?_)
      · have hP9 := hP.sub (ws' := [(h1, .inr (10, [.ref q_1, .ref q_3, .int 0, .int 0])), (q_1, .inl (cA_2, 240, .inl g0)), (q_3, .inl (cA_4, 240, .inl (fun _ => (0 : Int32))))]) [0, 1, 2] rfl
        have hD9 := hD.sub (ws' := [(h1, .inr (10, [.ref q_1, .ref q_3, .int 0, .int 0])), (q_1, .inl (cA_2, 240, .inl g0)), (q_3, .inl (cA_4, 240, .inl (fun _ => (0 : Int32))))]) [0, 1, 2] (by decide) rfl
        have hK9 := hK.sub (tys' := [(cA_2, .int), (cA_4, .int)]) [0, 1] rfl
        refine W.widen (k := 2) (n := 480) (by decide +kernel) (by decide +kernel) ?_
        exact W.vret hx hb hr (fun t ht hW => ⟨⟨g0, rfl, (fun j => by simpa only [fa_eq, Int32.reduceToInt] using hg j), (fun k => match k with | 0 => q_1 | _ => q_3), (fun k => match k with | 0 => cA_2 | _ => cA_4), by rw [ht]; exact hP9, hD9, va_K.moved hW.alike hK9⟩, hS.F ht⟩) hS.2.2 dX10_init_46
      · refine lv_aload_n hx hb dX10_init_31 rfl (lv_at hl 1 rfl) ?_
        refine va_get (D := (dC, dI)) (ci := 10) (v := .ref q_1) (C := RX10) (T := TX10) (N := 4) hx hb hts (fun w h => List.mem_cons_of_mem _ (iT_X10 w h)) hown hK hP 0 rfl rfl 0 (by decide) (hts (.fieldLink RX10 9 "RedTent$Weather" "windBy" "[I") (List.mem_cons_of_mem _ tw_1_35)) (fun _ h9 => h9) rfl dX10_init_32 ?_
        refine lv_iload_n hx hb dX10_init_35 rfl (lv_at hl 0 rfl) ?_
        refine lv_sipush (v := 2222) hx hb dX10_init_36 (by decide) ?_
        refine va_iast hx hb hK hP hD hS 1 0 rfl rfl (vp_in_iff.mpr (by (try simp only [fa_lt, fa_le, fa_eq, fa_lt64, fa_le64, fa_eq64, Int32.reduceToInt, Int64.reduceToInt, zi_ite] at hm_lp h0lp h1lp hg c_5 ⊢) <;> omega)) dX10_init_39 (fun H locs hP hD hS => ?_)
        have hP : va_P (dC, dI) vwCl [(h1, .inr (10, [.ref q_1, .ref q_3, .int 0, .int 0])), (q_1, .inl (cA_2, 240, .inl (upd g0 xlp.toNatClampNeg 2222))), (q_3, .inl (cA_4, 240, .inl (fun _ => (0 : Int32))))] H := hP
        have hD : va_D A [(h1, .inr (10, [.ref q_1, .ref q_3, .int 0, .int 0])), (q_1, .inl (cA_2, 240, .inl (upd g0 xlp.toNatClampNeg 2222))), (q_3, .inl (cA_4, 240, .inl (fun _ => (0 : Int32))))] := hD
        obtain ⟨x_6, ex_6⟩ : ∃ y : Int32, y = xlp + 1 := ⟨_, rfl⟩
        refine lv_iinc (v := x_6) (lv' := [(1, .int x_6), (0, .ref h1)]) hx hb dX10_init_40 hl (k := 0) rfl (by rw [ex_6]; rfl) (by decide) rfl (fun ls hl => ?_)
        refine lv_goto (tgt := 24) hx hb dX10_init_43 (by decide) ?_
        try simp only [fa_lt, fa_le, fa_eq, fa_lt64, fa_le64, fa_eq64, Int32.reduceToInt, Int64.reduceToInt, zi_ite] at hm_lp
        try simp only [fa_lt, fa_le, fa_eq, fa_lt64, fa_le64, fa_eq64, Int32.reduceToInt, Int64.reduceToInt, zi_ite] at h0lp
        try simp only [fa_lt, fa_le, fa_eq, fa_lt64, fa_le64, fa_eq64, Int32.reduceToInt, Int64.reduceToInt, zi_ite] at h1lp
        try simp only [fa_lt, fa_le, fa_eq, fa_lt64, fa_le64, fa_eq64, Int32.reduceToInt, Int64.reduceToInt, zi_ite] at hg
        try simp only [fa_lt, fa_le, fa_eq, fa_lt64, fa_le64, fa_eq64, Int32.reduceToInt, Int64.reduceToInt, zi_ite] at c_5
        have tx_6 : x_6.toInt = xlp.toInt + 1 := by rw [ex_6]; exact zi_inc (by omega)
        exact ih_lp x_6 (upd g0 xlp.toNatClampNeg 2222) (by omega) (by omega) (by omega) (fun j => by
          unfold upd
          by_cases h9 : j = xlp.toNatClampNeg
          · rw [if_pos h9]; exact Or.inr rfl
          · rw [if_neg h9]; simpa only [fa_eq, Int32.reduceToInt] using hg j) _ _ hP hD hS ls (lv_sub hl [0, 1] rfl)
  exact lp _ 0 (fun _ => (0 : Int32)) (Nat.lt_succ_self _) (by (try simp only [fa_lt, fa_le, fa_eq, fa_lt64, fa_le64, fa_eq64, Int32.reduceToInt, Int64.reduceToInt, zi_ite]) <;> omega) (by (try simp only [fa_lt, fa_le, fa_eq, fa_lt64, fa_le64, fa_eq64, Int32.reduceToInt, Int64.reduceToInt, zi_ite]) <;> omega) (fun _ => Or.inl rfl) _ _ hP hD hS ls hl
set_option maxHeartbeats 1000000 in
set_option maxRecDepth 100000 in
theorem rt_X4_init (l : Launch) (dC : Nat → ClassId) (dI : Nat → Nat → Nat) (sz : Nat) (h1 : Nat) : Met l yX4_init wsX4_init ({ frames := 1, cells := 10, slots := 222, locals := 12 }) (va_Pc [.ref h1] (fun U => U.heap.size = sz ∧ va_P (dC, dI) vwCl [(h1, .inr (4, [.null, .int 0, .null, .null, .null, .null, .null, .null, .int 0, .null, .null, .null, .int 0]))] U.heap ∧ va_K (dC, dI) vwCl [] U ∧ va_D (fun _ => True) [(h1, .inr (4, [.null, .int 0, .null, .null, .null, .null, .null, .null, .int 0, .null, .null, .null, .int 0]))])) (va_Qv (fun u : Unit => match u with | () => True) (fun (u : Unit) (t : State) => match u with | () => ∃ (ar : Nat → Nat), ∃ (cr : Nat → ClassId), va_P (dC, dI) vwCl [(h1, .inr (4, [.ref (ar 0), .int 0, .ref (ar 2), .ref (ar 3), .ref (ar 4), .ref (ar 5), .ref (ar 6), .ref (ar 7), .int 0, .ref (ar 9), .ref (ar 10), .ref (ar 11), .int 0])), (ar 0, .inl (cr 0, 6, .inl (fun _ => (0 : Int32)))), (ar 2, .inl (cr 2, 8, .inl (fun _ => (0 : Int32)))), (ar 3, .inl (cr 3, 8, .inl (fun _ => (0 : Int32)))), (ar 4, .inl (cr 4, 20, .inl (fun _ => (0 : Int32)))), (ar 5, .inl (cr 5, 20, .inl (fun _ => (0 : Int32)))), (ar 6, .inl (cr 6, 20, .inl (fun _ => (0 : Int32)))), (ar 7, .inl (cr 7, 20, .inr (.inl (fun _ => (0 : Int64))))), (ar 9, .inl (cr 9, 40, .inl (fun _ => (0 : Int32)))), (ar 10, .inl (cr 10, 40, .inl (fun _ => (0 : Int32)))), (ar 11, .inl (cr 11, 40, .inr (.inl (fun _ => (0 : Int64)))))] t.heap ∧ va_D (va_A [(h1, .inr (4, [.null, .int 0, .null, .null, .null, .null, .null, .null, .int 0, .null, .null, .null, .int 0]))] sz) [(h1, .inr (4, [.ref (ar 0), .int 0, .ref (ar 2), .ref (ar 3), .ref (ar 4), .ref (ar 5), .ref (ar 6), .ref (ar 7), .int 0, .ref (ar 9), .ref (ar 10), .ref (ar 11), .int 0])), (ar 0, .inl (cr 0, 6, .inl (fun _ => (0 : Int32)))), (ar 2, .inl (cr 2, 8, .inl (fun _ => (0 : Int32)))), (ar 3, .inl (cr 3, 8, .inl (fun _ => (0 : Int32)))), (ar 4, .inl (cr 4, 20, .inl (fun _ => (0 : Int32)))), (ar 5, .inl (cr 5, 20, .inl (fun _ => (0 : Int32)))), (ar 6, .inl (cr 6, 20, .inl (fun _ => (0 : Int32)))), (ar 7, .inl (cr 7, 20, .inr (.inl (fun _ => (0 : Int64))))), (ar 9, .inl (cr 9, 40, .inl (fun _ => (0 : Int32)))), (ar 10, .inl (cr 10, 40, .inl (fun _ => (0 : Int32)))), (ar 11, .inl (cr 11, 40, .inr (.inl (fun _ => (0 : Int64)))))] ∧ va_K (dC, dI) vwCl [(cr 0, .int), (cr 2, .int), (cr 3, .int), (cr 4, .int), (cr 5, .int), (cr 6, .int), (cr 7, .long), (cr 9, .int), (cr 10, .int), (cr 11, .long)] t) (va_A [(h1, .inr (4, [.null, .int 0, .null, .null, .null, .null, .null, .null, .int 0, .null, .null, .null, .int 0]))] sz)) 10 222 (va_A [(h1, .inr (4, [.null, .int 0, .null, .null, .null, .null, .null, .null, .int 0, .null, .null, .null, .int 0]))] sz) := by
  refine Met.ofW (cc := cX4_init) (maxL := 1) (ret := none) (by decide) rfl ?_
  intro p e s m args below meth c s₁ B hml hv
  obtain ⟨rfl, hsz, hP, hK, hD0⟩ := hv
  have hx := B.exec
  have hb := B.bytes
  have hr := B.returns
  have hts := atoms_spec (ws := wsX4_init) B.pre
  have hown : s.vm.findClass RX4 = some m.cls := findClass_of_methodNamed B.named
  have hlocks := B.notSynchronized
  have hin : meth.name = "<init>" := (name_of_methodNamed B.named B.method).1
  subst hsz
  have hD := hD0.self (sz := s.heap.size)
  generalize hAe : va_A [(h1, .inr (4, [.null, .int 0, .null, .null, .null, .null, .null, .null, .int 0, .null, .null, .null, .int 0]))] s.heap.size = A at hD  ⊢
  have hA : ∀ q : Nat, s.heap.size ≤ q → A q := fun q h => by rw [← hAe]; exact Or.inr h
  have hS : va_S A s.heap s.heap [] := va_S.rf
  have hl := lv_entry ([.ref h1]) (n := 1) (Nat.le_of_ble_eq_true rfl)
  rw [lg_entry_eq]
  generalize (lg_sl ([.ref h1]) ++ List.replicate (1 - (lg_sl ([.ref h1])).length) Slot.unset).toArray = ls at hl ⊢
  have hl : lv_has ls 1 [(0, .ref h1)] := hl
  refine lv_aload_n hx hb dX4_init_0 rfl (lv_at hl 0 rfl) ?_
  refine W.objInit hx hb hown (hts (.methodLink RX4 3 objectInit) (List.mem_cons_of_mem _ tw_1_58)) (hts (.instanceMethod objectInit) (List.mem_cons_of_mem _ tw_1_27)) (hts (.code objectInit ⟨#[0xb1]⟩ 1 none) (List.mem_cons_of_mem _ tw_1_28)) rfl (by rw [hml]; exact hl.1) rfl dX4_init_1 (Nat.le_of_ble_eq_true rfl) (Nat.le_of_ble_eq_true rfl) ?_
  refine W.eq (g2 := F0 m 4 ls []) rfl ?_
  refine lv_aload_n hx hb dX4_init_4 rfl (lv_at hl 0 rfl) ?_
  refine lv_bipush (v := 6) hx hb dX4_init_5 (by decide) ?_
  refine va_newa (atype := .int) (ty := .int) (N' := 6) (a0 := (6, .inl (fun _ => (0 : Int32)))) hx hb (hts (.arrayClass .int) (List.mem_cons_of_mem _ tw_1_50)) rfl hK hP hD hS hA (fun _ => rfl) (by decide +kernel) (by decide +kernel) (by decide +kernel) (by decide +kernel) (by decide +kernel) dX4_init_7 (fun q_1 cA_2 H hK hP hD hS => ?_)
  have hP : va_P (dC, dI) vwCl [(h1, .inr (4, [.null, .int 0, .null, .null, .null, .null, .null, .null, .int 0, .null, .null, .null, .int 0])), (q_1, .inl (cA_2, 6, .inl (fun _ => (0 : Int32))))] H := hP
  have hD : va_D A [(h1, .inr (4, [.null, .int 0, .null, .null, .null, .null, .null, .null, .int 0, .null, .null, .null, .int 0])), (q_1, .inl (cA_2, 6, .inl (fun _ => (0 : Int32))))] := hD
  have hK : va_K (dC, dI) vwCl [(cA_2, .int)] s := hK
  refine va_putF (D := (dC, dI)) (ci := 4) (v := .ref q_1) (ty := .array .int) (C := RX4) (T := TX4) (N := 13) hx hb hts (fun w h => List.mem_cons_of_mem _ (iT_X4 w h)) tyX4 tyX4_ok nmX4 hown hK hP hD hS 0 rfl rfl 0 (by decide) (hts (.fieldLink RX4 9 "RedTent$Radio" "hearerCell" "[I") (List.mem_cons_of_mem _ tw_1_59)) (fun _ h9 => h9) rfl hin rfl (by decide +kernel) rfl rfl (Nat.le_of_ble_eq_true rfl) dX4_init_9 (fun H locs hP hD hS => ?_)
  have hP : va_P (dC, dI) vwCl [(h1, .inr (4, [.ref q_1, .int 0, .null, .null, .null, .null, .null, .null, .int 0, .null, .null, .null, .int 0])), (q_1, .inl (cA_2, 6, .inl (fun _ => (0 : Int32))))] H := hP
  have hD : va_D A [(h1, .inr (4, [.ref q_1, .int 0, .null, .null, .null, .null, .null, .null, .int 0, .null, .null, .null, .int 0])), (q_1, .inl (cA_2, 6, .inl (fun _ => (0 : Int32))))] := hD
  refine lv_aload_n hx hb dX4_init_12 rfl (lv_at hl 0 rfl) ?_
  refine lv_bipush (v := 8) hx hb dX4_init_13 (by decide) ?_
  refine va_newa (atype := .int) (ty := .int) (N' := 8) (a0 := (8, .inl (fun _ => (0 : Int32)))) hx hb (hts (.arrayClass .int) (List.mem_cons_of_mem _ tw_1_50)) rfl hK hP hD hS hA (fun _ => rfl) (by decide +kernel) (by decide +kernel) (by decide +kernel) (by decide +kernel) (by decide +kernel) dX4_init_15 (fun q_3 cA_4 H hK hP hD hS => ?_)
  have hP : va_P (dC, dI) vwCl [(h1, .inr (4, [.ref q_1, .int 0, .null, .null, .null, .null, .null, .null, .int 0, .null, .null, .null, .int 0])), (q_1, .inl (cA_2, 6, .inl (fun _ => (0 : Int32)))), (q_3, .inl (cA_4, 8, .inl (fun _ => (0 : Int32))))] H := hP
  have hD : va_D A [(h1, .inr (4, [.ref q_1, .int 0, .null, .null, .null, .null, .null, .null, .int 0, .null, .null, .null, .int 0])), (q_1, .inl (cA_2, 6, .inl (fun _ => (0 : Int32)))), (q_3, .inl (cA_4, 8, .inl (fun _ => (0 : Int32))))] := hD
  have hK : va_K (dC, dI) vwCl [(cA_2, .int), (cA_4, .int)] s := hK
  refine va_putF (D := (dC, dI)) (ci := 4) (v := .ref q_3) (ty := .array .int) (C := RX4) (T := TX4) (N := 13) hx hb hts (fun w h => List.mem_cons_of_mem _ (iT_X4 w h)) tyX4 tyX4_ok nmX4 hown hK hP hD hS 0 rfl rfl 2 (by decide) (hts (.fieldLink RX4 15 "RedTent$Radio" "heardFrom" "[I") (List.mem_cons_of_mem _ tw_1_62)) (fun _ h9 => h9) rfl hin rfl (by decide +kernel) rfl rfl (Nat.le_of_ble_eq_true rfl) dX4_init_17 (fun H locs hP hD hS => ?_)
  have hP : va_P (dC, dI) vwCl [(h1, .inr (4, [.ref q_1, .int 0, .ref q_3, .null, .null, .null, .null, .null, .int 0, .null, .null, .null, .int 0])), (q_1, .inl (cA_2, 6, .inl (fun _ => (0 : Int32)))), (q_3, .inl (cA_4, 8, .inl (fun _ => (0 : Int32))))] H := hP
  have hD : va_D A [(h1, .inr (4, [.ref q_1, .int 0, .ref q_3, .null, .null, .null, .null, .null, .int 0, .null, .null, .null, .int 0])), (q_1, .inl (cA_2, 6, .inl (fun _ => (0 : Int32)))), (q_3, .inl (cA_4, 8, .inl (fun _ => (0 : Int32))))] := hD
  refine lv_aload_n hx hb dX4_init_20 rfl (lv_at hl 0 rfl) ?_
  refine lv_bipush (v := 8) hx hb dX4_init_21 (by decide) ?_
  refine va_newa (atype := .int) (ty := .int) (N' := 8) (a0 := (8, .inl (fun _ => (0 : Int32)))) hx hb (hts (.arrayClass .int) (List.mem_cons_of_mem _ tw_1_50)) rfl hK hP hD hS hA (fun _ => rfl) (by decide +kernel) (by decide +kernel) (by decide +kernel) (by decide +kernel) (by decide +kernel) dX4_init_23 (fun q_5 cA_6 H hK hP hD hS => ?_)
  have hP : va_P (dC, dI) vwCl [(h1, .inr (4, [.ref q_1, .int 0, .ref q_3, .null, .null, .null, .null, .null, .int 0, .null, .null, .null, .int 0])), (q_1, .inl (cA_2, 6, .inl (fun _ => (0 : Int32)))), (q_3, .inl (cA_4, 8, .inl (fun _ => (0 : Int32)))), (q_5, .inl (cA_6, 8, .inl (fun _ => (0 : Int32))))] H := hP
  have hD : va_D A [(h1, .inr (4, [.ref q_1, .int 0, .ref q_3, .null, .null, .null, .null, .null, .int 0, .null, .null, .null, .int 0])), (q_1, .inl (cA_2, 6, .inl (fun _ => (0 : Int32)))), (q_3, .inl (cA_4, 8, .inl (fun _ => (0 : Int32)))), (q_5, .inl (cA_6, 8, .inl (fun _ => (0 : Int32))))] := hD
  have hK : va_K (dC, dI) vwCl [(cA_2, .int), (cA_4, .int), (cA_6, .int)] s := hK
  refine va_putF (D := (dC, dI)) (ci := 4) (v := .ref q_5) (ty := .array .int) (C := RX4) (T := TX4) (N := 13) hx hb hts (fun w h => List.mem_cons_of_mem _ (iT_X4 w h)) tyX4 tyX4_ok nmX4 hown hK hP hD hS 0 rfl rfl 3 (by decide) (hts (.fieldLink RX4 18 "RedTent$Radio" "heardTo" "[I") (List.mem_cons_of_mem _ tw_1_63)) (fun _ h9 => h9) rfl hin rfl (by decide +kernel) rfl rfl (Nat.le_of_ble_eq_true rfl) dX4_init_25 (fun H locs hP hD hS => ?_)
  have hP : va_P (dC, dI) vwCl [(h1, .inr (4, [.ref q_1, .int 0, .ref q_3, .ref q_5, .null, .null, .null, .null, .int 0, .null, .null, .null, .int 0])), (q_1, .inl (cA_2, 6, .inl (fun _ => (0 : Int32)))), (q_3, .inl (cA_4, 8, .inl (fun _ => (0 : Int32)))), (q_5, .inl (cA_6, 8, .inl (fun _ => (0 : Int32))))] H := hP
  have hD : va_D A [(h1, .inr (4, [.ref q_1, .int 0, .ref q_3, .ref q_5, .null, .null, .null, .null, .int 0, .null, .null, .null, .int 0])), (q_1, .inl (cA_2, 6, .inl (fun _ => (0 : Int32)))), (q_3, .inl (cA_4, 8, .inl (fun _ => (0 : Int32)))), (q_5, .inl (cA_6, 8, .inl (fun _ => (0 : Int32))))] := hD
  refine lv_aload_n hx hb dX4_init_28 rfl (lv_at hl 0 rfl) ?_
  refine lv_bipush (v := 20) hx hb dX4_init_29 (by decide) ?_
  refine va_newa (atype := .int) (ty := .int) (N' := 20) (a0 := (20, .inl (fun _ => (0 : Int32)))) hx hb (hts (.arrayClass .int) (List.mem_cons_of_mem _ tw_1_50)) rfl hK hP hD hS hA (fun _ => rfl) (by decide +kernel) (by decide +kernel) (by decide +kernel) (by decide +kernel) (by decide +kernel) dX4_init_31 (fun q_7 cA_8 H hK hP hD hS => ?_)
  have hP : va_P (dC, dI) vwCl [(h1, .inr (4, [.ref q_1, .int 0, .ref q_3, .ref q_5, .null, .null, .null, .null, .int 0, .null, .null, .null, .int 0])), (q_1, .inl (cA_2, 6, .inl (fun _ => (0 : Int32)))), (q_3, .inl (cA_4, 8, .inl (fun _ => (0 : Int32)))), (q_5, .inl (cA_6, 8, .inl (fun _ => (0 : Int32)))), (q_7, .inl (cA_8, 20, .inl (fun _ => (0 : Int32))))] H := hP
  have hD : va_D A [(h1, .inr (4, [.ref q_1, .int 0, .ref q_3, .ref q_5, .null, .null, .null, .null, .int 0, .null, .null, .null, .int 0])), (q_1, .inl (cA_2, 6, .inl (fun _ => (0 : Int32)))), (q_3, .inl (cA_4, 8, .inl (fun _ => (0 : Int32)))), (q_5, .inl (cA_6, 8, .inl (fun _ => (0 : Int32)))), (q_7, .inl (cA_8, 20, .inl (fun _ => (0 : Int32))))] := hD
  have hK : va_K (dC, dI) vwCl [(cA_2, .int), (cA_4, .int), (cA_6, .int), (cA_8, .int)] s := hK
  refine va_putF (D := (dC, dI)) (ci := 4) (v := .ref q_7) (ty := .array .int) (C := RX4) (T := TX4) (N := 13) hx hb hts (fun w h => List.mem_cons_of_mem _ (iT_X4 w h)) tyX4 tyX4_ok nmX4 hown hK hP hD hS 0 rfl rfl 4 (by decide) (hts (.fieldLink RX4 21 "RedTent$Radio" "callBody" "[I") (List.mem_cons_of_mem _ tw_1_64)) (fun _ h9 => h9) rfl hin rfl (by decide +kernel) rfl rfl (Nat.le_of_ble_eq_true rfl) dX4_init_33 (fun H locs hP hD hS => ?_)
  have hP : va_P (dC, dI) vwCl [(h1, .inr (4, [.ref q_1, .int 0, .ref q_3, .ref q_5, .ref q_7, .null, .null, .null, .int 0, .null, .null, .null, .int 0])), (q_1, .inl (cA_2, 6, .inl (fun _ => (0 : Int32)))), (q_3, .inl (cA_4, 8, .inl (fun _ => (0 : Int32)))), (q_5, .inl (cA_6, 8, .inl (fun _ => (0 : Int32)))), (q_7, .inl (cA_8, 20, .inl (fun _ => (0 : Int32))))] H := hP
  have hD : va_D A [(h1, .inr (4, [.ref q_1, .int 0, .ref q_3, .ref q_5, .ref q_7, .null, .null, .null, .int 0, .null, .null, .null, .int 0])), (q_1, .inl (cA_2, 6, .inl (fun _ => (0 : Int32)))), (q_3, .inl (cA_4, 8, .inl (fun _ => (0 : Int32)))), (q_5, .inl (cA_6, 8, .inl (fun _ => (0 : Int32)))), (q_7, .inl (cA_8, 20, .inl (fun _ => (0 : Int32))))] := hD
  refine lv_aload_n hx hb dX4_init_36 rfl (lv_at hl 0 rfl) ?_
  refine lv_bipush (v := 20) hx hb dX4_init_37 (by decide) ?_
  refine va_newa (atype := .int) (ty := .int) (N' := 20) (a0 := (20, .inl (fun _ => (0 : Int32)))) hx hb (hts (.arrayClass .int) (List.mem_cons_of_mem _ tw_1_50)) rfl hK hP hD hS hA (fun _ => rfl) (by decide +kernel) (by decide +kernel) (by decide +kernel) (by decide +kernel) (by decide +kernel) dX4_init_39 (fun q_9 cA_10 H hK hP hD hS => ?_)
  have hP : va_P (dC, dI) vwCl [(h1, .inr (4, [.ref q_1, .int 0, .ref q_3, .ref q_5, .ref q_7, .null, .null, .null, .int 0, .null, .null, .null, .int 0])), (q_1, .inl (cA_2, 6, .inl (fun _ => (0 : Int32)))), (q_3, .inl (cA_4, 8, .inl (fun _ => (0 : Int32)))), (q_5, .inl (cA_6, 8, .inl (fun _ => (0 : Int32)))), (q_7, .inl (cA_8, 20, .inl (fun _ => (0 : Int32)))), (q_9, .inl (cA_10, 20, .inl (fun _ => (0 : Int32))))] H := hP
  have hD : va_D A [(h1, .inr (4, [.ref q_1, .int 0, .ref q_3, .ref q_5, .ref q_7, .null, .null, .null, .int 0, .null, .null, .null, .int 0])), (q_1, .inl (cA_2, 6, .inl (fun _ => (0 : Int32)))), (q_3, .inl (cA_4, 8, .inl (fun _ => (0 : Int32)))), (q_5, .inl (cA_6, 8, .inl (fun _ => (0 : Int32)))), (q_7, .inl (cA_8, 20, .inl (fun _ => (0 : Int32)))), (q_9, .inl (cA_10, 20, .inl (fun _ => (0 : Int32))))] := hD
  have hK : va_K (dC, dI) vwCl [(cA_2, .int), (cA_4, .int), (cA_6, .int), (cA_8, .int), (cA_10, .int)] s := hK
  refine va_putF (D := (dC, dI)) (ci := 4) (v := .ref q_9) (ty := .array .int) (C := RX4) (T := TX4) (N := 13) hx hb hts (fun w h => List.mem_cons_of_mem _ (iT_X4 w h)) tyX4 tyX4_ok nmX4 hown hK hP hD hS 0 rfl rfl 5 (by decide) (hts (.fieldLink RX4 24 "RedTent$Radio" "callWave" "[I") (List.mem_cons_of_mem _ tw_1_66)) (fun _ h9 => h9) rfl hin rfl (by decide +kernel) rfl rfl (Nat.le_of_ble_eq_true rfl) dX4_init_41 (fun H locs hP hD hS => ?_)
  have hP : va_P (dC, dI) vwCl [(h1, .inr (4, [.ref q_1, .int 0, .ref q_3, .ref q_5, .ref q_7, .ref q_9, .null, .null, .int 0, .null, .null, .null, .int 0])), (q_1, .inl (cA_2, 6, .inl (fun _ => (0 : Int32)))), (q_3, .inl (cA_4, 8, .inl (fun _ => (0 : Int32)))), (q_5, .inl (cA_6, 8, .inl (fun _ => (0 : Int32)))), (q_7, .inl (cA_8, 20, .inl (fun _ => (0 : Int32)))), (q_9, .inl (cA_10, 20, .inl (fun _ => (0 : Int32))))] H := hP
  have hD : va_D A [(h1, .inr (4, [.ref q_1, .int 0, .ref q_3, .ref q_5, .ref q_7, .ref q_9, .null, .null, .int 0, .null, .null, .null, .int 0])), (q_1, .inl (cA_2, 6, .inl (fun _ => (0 : Int32)))), (q_3, .inl (cA_4, 8, .inl (fun _ => (0 : Int32)))), (q_5, .inl (cA_6, 8, .inl (fun _ => (0 : Int32)))), (q_7, .inl (cA_8, 20, .inl (fun _ => (0 : Int32)))), (q_9, .inl (cA_10, 20, .inl (fun _ => (0 : Int32))))] := hD
  refine lv_aload_n hx hb dX4_init_44 rfl (lv_at hl 0 rfl) ?_
  refine lv_bipush (v := 20) hx hb dX4_init_45 (by decide) ?_
  refine va_newa (atype := .int) (ty := .int) (N' := 20) (a0 := (20, .inl (fun _ => (0 : Int32)))) hx hb (hts (.arrayClass .int) (List.mem_cons_of_mem _ tw_1_50)) rfl hK hP hD hS hA (fun _ => rfl) (by decide +kernel) (by decide +kernel) (by decide +kernel) (by decide +kernel) (by decide +kernel) dX4_init_47 (fun q_11 cA_12 H hK hP hD hS => ?_)
  have hP : va_P (dC, dI) vwCl [(h1, .inr (4, [.ref q_1, .int 0, .ref q_3, .ref q_5, .ref q_7, .ref q_9, .null, .null, .int 0, .null, .null, .null, .int 0])), (q_1, .inl (cA_2, 6, .inl (fun _ => (0 : Int32)))), (q_3, .inl (cA_4, 8, .inl (fun _ => (0 : Int32)))), (q_5, .inl (cA_6, 8, .inl (fun _ => (0 : Int32)))), (q_7, .inl (cA_8, 20, .inl (fun _ => (0 : Int32)))), (q_9, .inl (cA_10, 20, .inl (fun _ => (0 : Int32)))), (q_11, .inl (cA_12, 20, .inl (fun _ => (0 : Int32))))] H := hP
  have hD : va_D A [(h1, .inr (4, [.ref q_1, .int 0, .ref q_3, .ref q_5, .ref q_7, .ref q_9, .null, .null, .int 0, .null, .null, .null, .int 0])), (q_1, .inl (cA_2, 6, .inl (fun _ => (0 : Int32)))), (q_3, .inl (cA_4, 8, .inl (fun _ => (0 : Int32)))), (q_5, .inl (cA_6, 8, .inl (fun _ => (0 : Int32)))), (q_7, .inl (cA_8, 20, .inl (fun _ => (0 : Int32)))), (q_9, .inl (cA_10, 20, .inl (fun _ => (0 : Int32)))), (q_11, .inl (cA_12, 20, .inl (fun _ => (0 : Int32))))] := hD
  have hK : va_K (dC, dI) vwCl [(cA_2, .int), (cA_4, .int), (cA_6, .int), (cA_8, .int), (cA_10, .int), (cA_12, .int)] s := hK
  refine va_putF (D := (dC, dI)) (ci := 4) (v := .ref q_11) (ty := .array .int) (C := RX4) (T := TX4) (N := 13) hx hb hts (fun w h => List.mem_cons_of_mem _ (iT_X4 w h)) tyX4 tyX4_ok nmX4 hown hK hP hD hS 0 rfl rfl 6 (by decide) (hts (.fieldLink RX4 27 "RedTent$Radio" "callHour" "[I") (List.mem_cons_of_mem _ tw_1_67)) (fun _ h9 => h9) rfl hin rfl (by decide +kernel) rfl rfl (Nat.le_of_ble_eq_true rfl) dX4_init_49 (fun H locs hP hD hS => ?_)
  have hP : va_P (dC, dI) vwCl [(h1, .inr (4, [.ref q_1, .int 0, .ref q_3, .ref q_5, .ref q_7, .ref q_9, .ref q_11, .null, .int 0, .null, .null, .null, .int 0])), (q_1, .inl (cA_2, 6, .inl (fun _ => (0 : Int32)))), (q_3, .inl (cA_4, 8, .inl (fun _ => (0 : Int32)))), (q_5, .inl (cA_6, 8, .inl (fun _ => (0 : Int32)))), (q_7, .inl (cA_8, 20, .inl (fun _ => (0 : Int32)))), (q_9, .inl (cA_10, 20, .inl (fun _ => (0 : Int32)))), (q_11, .inl (cA_12, 20, .inl (fun _ => (0 : Int32))))] H := hP
  have hD : va_D A [(h1, .inr (4, [.ref q_1, .int 0, .ref q_3, .ref q_5, .ref q_7, .ref q_9, .ref q_11, .null, .int 0, .null, .null, .null, .int 0])), (q_1, .inl (cA_2, 6, .inl (fun _ => (0 : Int32)))), (q_3, .inl (cA_4, 8, .inl (fun _ => (0 : Int32)))), (q_5, .inl (cA_6, 8, .inl (fun _ => (0 : Int32)))), (q_7, .inl (cA_8, 20, .inl (fun _ => (0 : Int32)))), (q_9, .inl (cA_10, 20, .inl (fun _ => (0 : Int32)))), (q_11, .inl (cA_12, 20, .inl (fun _ => (0 : Int32))))] := hD
  refine lv_aload_n hx hb dX4_init_52 rfl (lv_at hl 0 rfl) ?_
  refine lv_bipush (v := 20) hx hb dX4_init_53 (by decide) ?_
  refine va_newa (atype := .long) (ty := .long) (N' := 20) (a0 := (20, .inr (.inl (fun _ => (0 : Int64))))) hx hb (hts (.arrayClass .long) (List.mem_cons_of_mem _ tw_1_104)) rfl hK hP hD hS hA (fun _ => rfl) (by decide +kernel) (by decide +kernel) (by decide +kernel) (by decide +kernel) (by decide +kernel) dX4_init_55 (fun q_13 cA_14 H hK hP hD hS => ?_)
  have hP : va_P (dC, dI) vwCl [(h1, .inr (4, [.ref q_1, .int 0, .ref q_3, .ref q_5, .ref q_7, .ref q_9, .ref q_11, .null, .int 0, .null, .null, .null, .int 0])), (q_1, .inl (cA_2, 6, .inl (fun _ => (0 : Int32)))), (q_3, .inl (cA_4, 8, .inl (fun _ => (0 : Int32)))), (q_5, .inl (cA_6, 8, .inl (fun _ => (0 : Int32)))), (q_7, .inl (cA_8, 20, .inl (fun _ => (0 : Int32)))), (q_9, .inl (cA_10, 20, .inl (fun _ => (0 : Int32)))), (q_11, .inl (cA_12, 20, .inl (fun _ => (0 : Int32)))), (q_13, .inl (cA_14, 20, .inr (.inl (fun _ => (0 : Int64)))))] H := hP
  have hD : va_D A [(h1, .inr (4, [.ref q_1, .int 0, .ref q_3, .ref q_5, .ref q_7, .ref q_9, .ref q_11, .null, .int 0, .null, .null, .null, .int 0])), (q_1, .inl (cA_2, 6, .inl (fun _ => (0 : Int32)))), (q_3, .inl (cA_4, 8, .inl (fun _ => (0 : Int32)))), (q_5, .inl (cA_6, 8, .inl (fun _ => (0 : Int32)))), (q_7, .inl (cA_8, 20, .inl (fun _ => (0 : Int32)))), (q_9, .inl (cA_10, 20, .inl (fun _ => (0 : Int32)))), (q_11, .inl (cA_12, 20, .inl (fun _ => (0 : Int32)))), (q_13, .inl (cA_14, 20, .inr (.inl (fun _ => (0 : Int64)))))] := hD
  have hK : va_K (dC, dI) vwCl [(cA_2, .int), (cA_4, .int), (cA_6, .int), (cA_8, .int), (cA_10, .int), (cA_12, .int), (cA_14, .long)] s := hK
  refine va_putF (D := (dC, dI)) (ci := 4) (v := .ref q_13) (ty := .array .long) (C := RX4) (T := TX4) (N := 13) hx hb hts (fun w h => List.mem_cons_of_mem _ (iT_X4 w h)) tyX4 tyX4_ok nmX4 hown hK hP hD hS 0 rfl rfl 7 (by decide) (hts (.fieldLink RX4 30 "RedTent$Radio" "callWords" "[J") (List.mem_cons_of_mem _ tw_1_69)) (fun _ h9 => h9) rfl hin rfl (by decide +kernel) rfl rfl (Nat.le_of_ble_eq_true rfl) dX4_init_57 (fun H locs hP hD hS => ?_)
  have hP : va_P (dC, dI) vwCl [(h1, .inr (4, [.ref q_1, .int 0, .ref q_3, .ref q_5, .ref q_7, .ref q_9, .ref q_11, .ref q_13, .int 0, .null, .null, .null, .int 0])), (q_1, .inl (cA_2, 6, .inl (fun _ => (0 : Int32)))), (q_3, .inl (cA_4, 8, .inl (fun _ => (0 : Int32)))), (q_5, .inl (cA_6, 8, .inl (fun _ => (0 : Int32)))), (q_7, .inl (cA_8, 20, .inl (fun _ => (0 : Int32)))), (q_9, .inl (cA_10, 20, .inl (fun _ => (0 : Int32)))), (q_11, .inl (cA_12, 20, .inl (fun _ => (0 : Int32)))), (q_13, .inl (cA_14, 20, .inr (.inl (fun _ => (0 : Int64)))))] H := hP
  have hD : va_D A [(h1, .inr (4, [.ref q_1, .int 0, .ref q_3, .ref q_5, .ref q_7, .ref q_9, .ref q_11, .ref q_13, .int 0, .null, .null, .null, .int 0])), (q_1, .inl (cA_2, 6, .inl (fun _ => (0 : Int32)))), (q_3, .inl (cA_4, 8, .inl (fun _ => (0 : Int32)))), (q_5, .inl (cA_6, 8, .inl (fun _ => (0 : Int32)))), (q_7, .inl (cA_8, 20, .inl (fun _ => (0 : Int32)))), (q_9, .inl (cA_10, 20, .inl (fun _ => (0 : Int32)))), (q_11, .inl (cA_12, 20, .inl (fun _ => (0 : Int32)))), (q_13, .inl (cA_14, 20, .inr (.inl (fun _ => (0 : Int64)))))] := hD
  refine lv_aload_n hx hb dX4_init_60 rfl (lv_at hl 0 rfl) ?_
  refine lv_bipush (v := 40) hx hb dX4_init_61 (by decide) ?_
  refine va_newa (atype := .int) (ty := .int) (N' := 40) (a0 := (40, .inl (fun _ => (0 : Int32)))) hx hb (hts (.arrayClass .int) (List.mem_cons_of_mem _ tw_1_50)) rfl hK hP hD hS hA (fun _ => rfl) (by decide +kernel) (by decide +kernel) (by decide +kernel) (by decide +kernel) (by decide +kernel) dX4_init_63 (fun q_15 cA_16 H hK hP hD hS => ?_)
  have hP : va_P (dC, dI) vwCl [(h1, .inr (4, [.ref q_1, .int 0, .ref q_3, .ref q_5, .ref q_7, .ref q_9, .ref q_11, .ref q_13, .int 0, .null, .null, .null, .int 0])), (q_1, .inl (cA_2, 6, .inl (fun _ => (0 : Int32)))), (q_3, .inl (cA_4, 8, .inl (fun _ => (0 : Int32)))), (q_5, .inl (cA_6, 8, .inl (fun _ => (0 : Int32)))), (q_7, .inl (cA_8, 20, .inl (fun _ => (0 : Int32)))), (q_9, .inl (cA_10, 20, .inl (fun _ => (0 : Int32)))), (q_11, .inl (cA_12, 20, .inl (fun _ => (0 : Int32)))), (q_13, .inl (cA_14, 20, .inr (.inl (fun _ => (0 : Int64))))), (q_15, .inl (cA_16, 40, .inl (fun _ => (0 : Int32))))] H := hP
  have hD : va_D A [(h1, .inr (4, [.ref q_1, .int 0, .ref q_3, .ref q_5, .ref q_7, .ref q_9, .ref q_11, .ref q_13, .int 0, .null, .null, .null, .int 0])), (q_1, .inl (cA_2, 6, .inl (fun _ => (0 : Int32)))), (q_3, .inl (cA_4, 8, .inl (fun _ => (0 : Int32)))), (q_5, .inl (cA_6, 8, .inl (fun _ => (0 : Int32)))), (q_7, .inl (cA_8, 20, .inl (fun _ => (0 : Int32)))), (q_9, .inl (cA_10, 20, .inl (fun _ => (0 : Int32)))), (q_11, .inl (cA_12, 20, .inl (fun _ => (0 : Int32)))), (q_13, .inl (cA_14, 20, .inr (.inl (fun _ => (0 : Int64))))), (q_15, .inl (cA_16, 40, .inl (fun _ => (0 : Int32))))] := hD
  have hK : va_K (dC, dI) vwCl [(cA_2, .int), (cA_4, .int), (cA_6, .int), (cA_8, .int), (cA_10, .int), (cA_12, .int), (cA_14, .long), (cA_16, .int)] s := hK
  refine va_putF (D := (dC, dI)) (ci := 4) (v := .ref q_15) (ty := .array .int) (C := RX4) (T := TX4) (N := 13) hx hb hts (fun w h => List.mem_cons_of_mem _ (iT_X4 w h)) tyX4 tyX4_ok nmX4 hown hK hP hD hS 0 rfl rfl 9 (by decide) (hts (.fieldLink RX4 34 "RedTent$Radio" "partCall" "[I") (List.mem_cons_of_mem _ tw_1_72)) (fun _ h9 => h9) rfl hin rfl (by decide +kernel) rfl rfl (Nat.le_of_ble_eq_true rfl) dX4_init_65 (fun H locs hP hD hS => ?_)
  have hP : va_P (dC, dI) vwCl [(h1, .inr (4, [.ref q_1, .int 0, .ref q_3, .ref q_5, .ref q_7, .ref q_9, .ref q_11, .ref q_13, .int 0, .ref q_15, .null, .null, .int 0])), (q_1, .inl (cA_2, 6, .inl (fun _ => (0 : Int32)))), (q_3, .inl (cA_4, 8, .inl (fun _ => (0 : Int32)))), (q_5, .inl (cA_6, 8, .inl (fun _ => (0 : Int32)))), (q_7, .inl (cA_8, 20, .inl (fun _ => (0 : Int32)))), (q_9, .inl (cA_10, 20, .inl (fun _ => (0 : Int32)))), (q_11, .inl (cA_12, 20, .inl (fun _ => (0 : Int32)))), (q_13, .inl (cA_14, 20, .inr (.inl (fun _ => (0 : Int64))))), (q_15, .inl (cA_16, 40, .inl (fun _ => (0 : Int32))))] H := hP
  have hD : va_D A [(h1, .inr (4, [.ref q_1, .int 0, .ref q_3, .ref q_5, .ref q_7, .ref q_9, .ref q_11, .ref q_13, .int 0, .ref q_15, .null, .null, .int 0])), (q_1, .inl (cA_2, 6, .inl (fun _ => (0 : Int32)))), (q_3, .inl (cA_4, 8, .inl (fun _ => (0 : Int32)))), (q_5, .inl (cA_6, 8, .inl (fun _ => (0 : Int32)))), (q_7, .inl (cA_8, 20, .inl (fun _ => (0 : Int32)))), (q_9, .inl (cA_10, 20, .inl (fun _ => (0 : Int32)))), (q_11, .inl (cA_12, 20, .inl (fun _ => (0 : Int32)))), (q_13, .inl (cA_14, 20, .inr (.inl (fun _ => (0 : Int64))))), (q_15, .inl (cA_16, 40, .inl (fun _ => (0 : Int32))))] := hD
  refine lv_aload_n hx hb dX4_init_68 rfl (lv_at hl 0 rfl) ?_
  refine lv_bipush (v := 40) hx hb dX4_init_69 (by decide) ?_
  refine va_newa (atype := .int) (ty := .int) (N' := 40) (a0 := (40, .inl (fun _ => (0 : Int32)))) hx hb (hts (.arrayClass .int) (List.mem_cons_of_mem _ tw_1_50)) rfl hK hP hD hS hA (fun _ => rfl) (by decide +kernel) (by decide +kernel) (by decide +kernel) (by decide +kernel) (by decide +kernel) dX4_init_71 (fun q_17 cA_18 H hK hP hD hS => ?_)
  have hP : va_P (dC, dI) vwCl [(h1, .inr (4, [.ref q_1, .int 0, .ref q_3, .ref q_5, .ref q_7, .ref q_9, .ref q_11, .ref q_13, .int 0, .ref q_15, .null, .null, .int 0])), (q_1, .inl (cA_2, 6, .inl (fun _ => (0 : Int32)))), (q_3, .inl (cA_4, 8, .inl (fun _ => (0 : Int32)))), (q_5, .inl (cA_6, 8, .inl (fun _ => (0 : Int32)))), (q_7, .inl (cA_8, 20, .inl (fun _ => (0 : Int32)))), (q_9, .inl (cA_10, 20, .inl (fun _ => (0 : Int32)))), (q_11, .inl (cA_12, 20, .inl (fun _ => (0 : Int32)))), (q_13, .inl (cA_14, 20, .inr (.inl (fun _ => (0 : Int64))))), (q_15, .inl (cA_16, 40, .inl (fun _ => (0 : Int32)))), (q_17, .inl (cA_18, 40, .inl (fun _ => (0 : Int32))))] H := hP
  have hD : va_D A [(h1, .inr (4, [.ref q_1, .int 0, .ref q_3, .ref q_5, .ref q_7, .ref q_9, .ref q_11, .ref q_13, .int 0, .ref q_15, .null, .null, .int 0])), (q_1, .inl (cA_2, 6, .inl (fun _ => (0 : Int32)))), (q_3, .inl (cA_4, 8, .inl (fun _ => (0 : Int32)))), (q_5, .inl (cA_6, 8, .inl (fun _ => (0 : Int32)))), (q_7, .inl (cA_8, 20, .inl (fun _ => (0 : Int32)))), (q_9, .inl (cA_10, 20, .inl (fun _ => (0 : Int32)))), (q_11, .inl (cA_12, 20, .inl (fun _ => (0 : Int32)))), (q_13, .inl (cA_14, 20, .inr (.inl (fun _ => (0 : Int64))))), (q_15, .inl (cA_16, 40, .inl (fun _ => (0 : Int32)))), (q_17, .inl (cA_18, 40, .inl (fun _ => (0 : Int32))))] := hD
  have hK : va_K (dC, dI) vwCl [(cA_2, .int), (cA_4, .int), (cA_6, .int), (cA_8, .int), (cA_10, .int), (cA_12, .int), (cA_14, .long), (cA_16, .int), (cA_18, .int)] s := hK
  refine va_putF (D := (dC, dI)) (ci := 4) (v := .ref q_17) (ty := .array .int) (C := RX4) (T := TX4) (N := 13) hx hb hts (fun w h => List.mem_cons_of_mem _ (iT_X4 w h)) tyX4 tyX4_ok nmX4 hown hK hP hD hS 0 rfl rfl 10 (by decide) (hts (.fieldLink RX4 37 "RedTent$Radio" "partHeard" "[I") (List.mem_cons_of_mem _ tw_1_73)) (fun _ h9 => h9) rfl hin rfl (by decide +kernel) rfl rfl (Nat.le_of_ble_eq_true rfl) dX4_init_73 (fun H locs hP hD hS => ?_)
  have hP : va_P (dC, dI) vwCl [(h1, .inr (4, [.ref q_1, .int 0, .ref q_3, .ref q_5, .ref q_7, .ref q_9, .ref q_11, .ref q_13, .int 0, .ref q_15, .ref q_17, .null, .int 0])), (q_1, .inl (cA_2, 6, .inl (fun _ => (0 : Int32)))), (q_3, .inl (cA_4, 8, .inl (fun _ => (0 : Int32)))), (q_5, .inl (cA_6, 8, .inl (fun _ => (0 : Int32)))), (q_7, .inl (cA_8, 20, .inl (fun _ => (0 : Int32)))), (q_9, .inl (cA_10, 20, .inl (fun _ => (0 : Int32)))), (q_11, .inl (cA_12, 20, .inl (fun _ => (0 : Int32)))), (q_13, .inl (cA_14, 20, .inr (.inl (fun _ => (0 : Int64))))), (q_15, .inl (cA_16, 40, .inl (fun _ => (0 : Int32)))), (q_17, .inl (cA_18, 40, .inl (fun _ => (0 : Int32))))] H := hP
  have hD : va_D A [(h1, .inr (4, [.ref q_1, .int 0, .ref q_3, .ref q_5, .ref q_7, .ref q_9, .ref q_11, .ref q_13, .int 0, .ref q_15, .ref q_17, .null, .int 0])), (q_1, .inl (cA_2, 6, .inl (fun _ => (0 : Int32)))), (q_3, .inl (cA_4, 8, .inl (fun _ => (0 : Int32)))), (q_5, .inl (cA_6, 8, .inl (fun _ => (0 : Int32)))), (q_7, .inl (cA_8, 20, .inl (fun _ => (0 : Int32)))), (q_9, .inl (cA_10, 20, .inl (fun _ => (0 : Int32)))), (q_11, .inl (cA_12, 20, .inl (fun _ => (0 : Int32)))), (q_13, .inl (cA_14, 20, .inr (.inl (fun _ => (0 : Int64))))), (q_15, .inl (cA_16, 40, .inl (fun _ => (0 : Int32)))), (q_17, .inl (cA_18, 40, .inl (fun _ => (0 : Int32))))] := hD
  refine lv_aload_n hx hb dX4_init_76 rfl (lv_at hl 0 rfl) ?_
  refine lv_bipush (v := 40) hx hb dX4_init_77 (by decide) ?_
  refine va_newa (atype := .long) (ty := .long) (N' := 40) (a0 := (40, .inr (.inl (fun _ => (0 : Int64))))) hx hb (hts (.arrayClass .long) (List.mem_cons_of_mem _ tw_1_104)) rfl hK hP hD hS hA (fun _ => rfl) (by decide +kernel) (by decide +kernel) (by decide +kernel) (by decide +kernel) (by decide +kernel) dX4_init_79 (fun q_19 cA_20 H hK hP hD hS => ?_)
  have hP : va_P (dC, dI) vwCl [(h1, .inr (4, [.ref q_1, .int 0, .ref q_3, .ref q_5, .ref q_7, .ref q_9, .ref q_11, .ref q_13, .int 0, .ref q_15, .ref q_17, .null, .int 0])), (q_1, .inl (cA_2, 6, .inl (fun _ => (0 : Int32)))), (q_3, .inl (cA_4, 8, .inl (fun _ => (0 : Int32)))), (q_5, .inl (cA_6, 8, .inl (fun _ => (0 : Int32)))), (q_7, .inl (cA_8, 20, .inl (fun _ => (0 : Int32)))), (q_9, .inl (cA_10, 20, .inl (fun _ => (0 : Int32)))), (q_11, .inl (cA_12, 20, .inl (fun _ => (0 : Int32)))), (q_13, .inl (cA_14, 20, .inr (.inl (fun _ => (0 : Int64))))), (q_15, .inl (cA_16, 40, .inl (fun _ => (0 : Int32)))), (q_17, .inl (cA_18, 40, .inl (fun _ => (0 : Int32)))), (q_19, .inl (cA_20, 40, .inr (.inl (fun _ => (0 : Int64)))))] H := hP
  have hD : va_D A [(h1, .inr (4, [.ref q_1, .int 0, .ref q_3, .ref q_5, .ref q_7, .ref q_9, .ref q_11, .ref q_13, .int 0, .ref q_15, .ref q_17, .null, .int 0])), (q_1, .inl (cA_2, 6, .inl (fun _ => (0 : Int32)))), (q_3, .inl (cA_4, 8, .inl (fun _ => (0 : Int32)))), (q_5, .inl (cA_6, 8, .inl (fun _ => (0 : Int32)))), (q_7, .inl (cA_8, 20, .inl (fun _ => (0 : Int32)))), (q_9, .inl (cA_10, 20, .inl (fun _ => (0 : Int32)))), (q_11, .inl (cA_12, 20, .inl (fun _ => (0 : Int32)))), (q_13, .inl (cA_14, 20, .inr (.inl (fun _ => (0 : Int64))))), (q_15, .inl (cA_16, 40, .inl (fun _ => (0 : Int32)))), (q_17, .inl (cA_18, 40, .inl (fun _ => (0 : Int32)))), (q_19, .inl (cA_20, 40, .inr (.inl (fun _ => (0 : Int64)))))] := hD
  have hK : va_K (dC, dI) vwCl [(cA_2, .int), (cA_4, .int), (cA_6, .int), (cA_8, .int), (cA_10, .int), (cA_12, .int), (cA_14, .long), (cA_16, .int), (cA_18, .int), (cA_20, .long)] s := hK
  refine va_putF (D := (dC, dI)) (ci := 4) (v := .ref q_19) (ty := .array .long) (C := RX4) (T := TX4) (N := 13) hx hb hts (fun w h => List.mem_cons_of_mem _ (iT_X4 w h)) tyX4 tyX4_ok nmX4 hown hK hP hD hS 0 rfl rfl 11 (by decide) (hts (.fieldLink RX4 40 "RedTent$Radio" "partWords" "[J") (List.mem_cons_of_mem _ tw_1_74)) (fun _ h9 => h9) rfl hin rfl (by decide +kernel) rfl rfl (Nat.le_of_ble_eq_true rfl) dX4_init_81 (fun H locs hP hD hS => ?_)
  have hP : va_P (dC, dI) vwCl [(h1, .inr (4, [.ref q_1, .int 0, .ref q_3, .ref q_5, .ref q_7, .ref q_9, .ref q_11, .ref q_13, .int 0, .ref q_15, .ref q_17, .ref q_19, .int 0])), (q_1, .inl (cA_2, 6, .inl (fun _ => (0 : Int32)))), (q_3, .inl (cA_4, 8, .inl (fun _ => (0 : Int32)))), (q_5, .inl (cA_6, 8, .inl (fun _ => (0 : Int32)))), (q_7, .inl (cA_8, 20, .inl (fun _ => (0 : Int32)))), (q_9, .inl (cA_10, 20, .inl (fun _ => (0 : Int32)))), (q_11, .inl (cA_12, 20, .inl (fun _ => (0 : Int32)))), (q_13, .inl (cA_14, 20, .inr (.inl (fun _ => (0 : Int64))))), (q_15, .inl (cA_16, 40, .inl (fun _ => (0 : Int32)))), (q_17, .inl (cA_18, 40, .inl (fun _ => (0 : Int32)))), (q_19, .inl (cA_20, 40, .inr (.inl (fun _ => (0 : Int64)))))] H := hP
  have hD : va_D A [(h1, .inr (4, [.ref q_1, .int 0, .ref q_3, .ref q_5, .ref q_7, .ref q_9, .ref q_11, .ref q_13, .int 0, .ref q_15, .ref q_17, .ref q_19, .int 0])), (q_1, .inl (cA_2, 6, .inl (fun _ => (0 : Int32)))), (q_3, .inl (cA_4, 8, .inl (fun _ => (0 : Int32)))), (q_5, .inl (cA_6, 8, .inl (fun _ => (0 : Int32)))), (q_7, .inl (cA_8, 20, .inl (fun _ => (0 : Int32)))), (q_9, .inl (cA_10, 20, .inl (fun _ => (0 : Int32)))), (q_11, .inl (cA_12, 20, .inl (fun _ => (0 : Int32)))), (q_13, .inl (cA_14, 20, .inr (.inl (fun _ => (0 : Int64))))), (q_15, .inl (cA_16, 40, .inl (fun _ => (0 : Int32)))), (q_17, .inl (cA_18, 40, .inl (fun _ => (0 : Int32)))), (q_19, .inl (cA_20, 40, .inr (.inl (fun _ => (0 : Int64)))))] := hD
  have hP9 := hP.sub (ws' := [(h1, .inr (4, [.ref q_1, .int 0, .ref q_3, .ref q_5, .ref q_7, .ref q_9, .ref q_11, .ref q_13, .int 0, .ref q_15, .ref q_17, .ref q_19, .int 0])), (q_1, .inl (cA_2, 6, .inl (fun _ => (0 : Int32)))), (q_3, .inl (cA_4, 8, .inl (fun _ => (0 : Int32)))), (q_5, .inl (cA_6, 8, .inl (fun _ => (0 : Int32)))), (q_7, .inl (cA_8, 20, .inl (fun _ => (0 : Int32)))), (q_9, .inl (cA_10, 20, .inl (fun _ => (0 : Int32)))), (q_11, .inl (cA_12, 20, .inl (fun _ => (0 : Int32)))), (q_13, .inl (cA_14, 20, .inr (.inl (fun _ => (0 : Int64))))), (q_15, .inl (cA_16, 40, .inl (fun _ => (0 : Int32)))), (q_17, .inl (cA_18, 40, .inl (fun _ => (0 : Int32)))), (q_19, .inl (cA_20, 40, .inr (.inl (fun _ => (0 : Int64)))))]) [0, 1, 2, 3, 4, 5, 6, 7, 8, 9, 10] rfl
  have hD9 := hD.sub (ws' := [(h1, .inr (4, [.ref q_1, .int 0, .ref q_3, .ref q_5, .ref q_7, .ref q_9, .ref q_11, .ref q_13, .int 0, .ref q_15, .ref q_17, .ref q_19, .int 0])), (q_1, .inl (cA_2, 6, .inl (fun _ => (0 : Int32)))), (q_3, .inl (cA_4, 8, .inl (fun _ => (0 : Int32)))), (q_5, .inl (cA_6, 8, .inl (fun _ => (0 : Int32)))), (q_7, .inl (cA_8, 20, .inl (fun _ => (0 : Int32)))), (q_9, .inl (cA_10, 20, .inl (fun _ => (0 : Int32)))), (q_11, .inl (cA_12, 20, .inl (fun _ => (0 : Int32)))), (q_13, .inl (cA_14, 20, .inr (.inl (fun _ => (0 : Int64))))), (q_15, .inl (cA_16, 40, .inl (fun _ => (0 : Int32)))), (q_17, .inl (cA_18, 40, .inl (fun _ => (0 : Int32)))), (q_19, .inl (cA_20, 40, .inr (.inl (fun _ => (0 : Int64)))))]) [0, 1, 2, 3, 4, 5, 6, 7, 8, 9, 10] (by decide) rfl
  have hK9 := hK.sub (tys' := [(cA_2, .int), (cA_4, .int), (cA_6, .int), (cA_8, .int), (cA_10, .int), (cA_12, .int), (cA_14, .long), (cA_16, .int), (cA_18, .int), (cA_20, .long)]) [0, 1, 2, 3, 4, 5, 6, 7, 8, 9] rfl
  refine W.widen (k := 10) (n := 222) (by decide +kernel) (by decide +kernel) ?_
  exact W.vret hx hb hr (fun t ht hW => ⟨⟨(), rfl, trivial, (fun k => match k with | 0 => q_1 | 2 => q_3 | 3 => q_5 | 4 => q_7 | 5 => q_9 | 6 => q_11 | 7 => q_13 | 9 => q_15 | 10 => q_17 | _ => q_19), (fun k => match k with | 0 => cA_2 | 2 => cA_4 | 3 => cA_6 | 4 => cA_8 | 5 => cA_10 | 6 => cA_12 | 7 => cA_14 | 9 => cA_16 | 10 => cA_18 | _ => cA_20), by rw [ht]; exact hP9, hD9, va_K.moved hW.alike hK9⟩, hS.F ht⟩) hS.2.2 dX4_init_84
set_option maxHeartbeats 1000000 in
set_option maxRecDepth 100000 in
theorem rt_X6_init (l : Launch) (dC : Nat → ClassId) (dI : Nat → Nat → Nat) (sz : Nat) (h1 : Nat) : Met l yX6_init wsX6_init ({ frames := 1, cells := 4, slots := 86, locals := 12 }) (va_Pc [.ref h1] (fun U => U.heap.size = sz ∧ va_P (dC, dI) vwCl [(h1, .inr (6, [.null, .int 0, .null, .long 0, .null, .null, .long 0]))] U.heap ∧ va_K (dC, dI) vwCl [] U ∧ va_D (fun _ => True) [(h1, .inr (6, [.null, .int 0, .null, .long 0, .null, .null, .long 0]))])) (va_Qv (fun u : Unit => match u with | () => True) (fun (u : Unit) (t : State) => match u with | () => ∃ (ae : Nat → Nat), ∃ (ce : Nat → ClassId), va_P (dC, dI) vwCl [(h1, .inr (6, [.ref (ae 0), .int 0, .ref (ae 2), .long 0, .ref (ae 4), .ref (ae 5), .long 0])), (ae 0, .inl (ce 0, 16, .inr (.inl (fun _ => (0 : Int64))))), (ae 2, .inl (ce 2, 64, .inr (.inl (fun _ => (0 : Int64))))), (ae 4, .inl (ce 4, 3, .inl (fun _ => (0 : Int32)))), (ae 5, .inl (ce 5, 3, .inl (fun _ => (0 : Int32))))] t.heap ∧ va_D (va_A [(h1, .inr (6, [.null, .int 0, .null, .long 0, .null, .null, .long 0]))] sz) [(h1, .inr (6, [.ref (ae 0), .int 0, .ref (ae 2), .long 0, .ref (ae 4), .ref (ae 5), .long 0])), (ae 0, .inl (ce 0, 16, .inr (.inl (fun _ => (0 : Int64))))), (ae 2, .inl (ce 2, 64, .inr (.inl (fun _ => (0 : Int64))))), (ae 4, .inl (ce 4, 3, .inl (fun _ => (0 : Int32)))), (ae 5, .inl (ce 5, 3, .inl (fun _ => (0 : Int32))))] ∧ va_K (dC, dI) vwCl [(ce 0, .long), (ce 2, .long), (ce 4, .int), (ce 5, .int)] t) (va_A [(h1, .inr (6, [.null, .int 0, .null, .long 0, .null, .null, .long 0]))] sz)) 4 86 (va_A [(h1, .inr (6, [.null, .int 0, .null, .long 0, .null, .null, .long 0]))] sz) := by
  refine Met.ofW (cc := cX6_init) (maxL := 1) (ret := none) (by decide) rfl ?_
  intro p e s m args below meth c s₁ B hml hv
  obtain ⟨rfl, hsz, hP, hK, hD0⟩ := hv
  have hx := B.exec
  have hb := B.bytes
  have hr := B.returns
  have hts := atoms_spec (ws := wsX6_init) B.pre
  have hown : s.vm.findClass RX6 = some m.cls := findClass_of_methodNamed B.named
  have hlocks := B.notSynchronized
  have hin : meth.name = "<init>" := (name_of_methodNamed B.named B.method).1
  subst hsz
  have hD := hD0.self (sz := s.heap.size)
  generalize hAe : va_A [(h1, .inr (6, [.null, .int 0, .null, .long 0, .null, .null, .long 0]))] s.heap.size = A at hD  ⊢
  have hA : ∀ q : Nat, s.heap.size ≤ q → A q := fun q h => by rw [← hAe]; exact Or.inr h
  have hS : va_S A s.heap s.heap [] := va_S.rf
  have hl := lv_entry ([.ref h1]) (n := 1) (Nat.le_of_ble_eq_true rfl)
  rw [lg_entry_eq]
  generalize (lg_sl ([.ref h1]) ++ List.replicate (1 - (lg_sl ([.ref h1])).length) Slot.unset).toArray = ls at hl ⊢
  have hl : lv_has ls 1 [(0, .ref h1)] := hl
  refine lv_aload_n hx hb dX6_init_0 rfl (lv_at hl 0 rfl) ?_
  refine W.objInit hx hb hown (hts (.methodLink RX6 3 objectInit) (List.mem_cons_of_mem _ tw_1_110)) (hts (.instanceMethod objectInit) (List.mem_cons_of_mem _ tw_1_27)) (hts (.code objectInit ⟨#[0xb1]⟩ 1 none) (List.mem_cons_of_mem _ tw_1_28)) rfl (by rw [hml]; exact hl.1) rfl dX6_init_1 (Nat.le_of_ble_eq_true rfl) (Nat.le_of_ble_eq_true rfl) ?_
  refine W.eq (g2 := F0 m 4 ls []) rfl ?_
  refine lv_aload_n hx hb dX6_init_4 rfl (lv_at hl 0 rfl) ?_
  refine lv_bipush (v := 16) hx hb dX6_init_5 (by decide) ?_
  refine va_newa (atype := .long) (ty := .long) (N' := 16) (a0 := (16, .inr (.inl (fun _ => (0 : Int64))))) hx hb (hts (.arrayClass .long) (List.mem_cons_of_mem _ tw_1_104)) rfl hK hP hD hS hA (fun _ => rfl) (by decide +kernel) (by decide +kernel) (by decide +kernel) (by decide +kernel) (by decide +kernel) dX6_init_7 (fun q_1 cA_2 H hK hP hD hS => ?_)
  have hP : va_P (dC, dI) vwCl [(h1, .inr (6, [.null, .int 0, .null, .long 0, .null, .null, .long 0])), (q_1, .inl (cA_2, 16, .inr (.inl (fun _ => (0 : Int64)))))] H := hP
  have hD : va_D A [(h1, .inr (6, [.null, .int 0, .null, .long 0, .null, .null, .long 0])), (q_1, .inl (cA_2, 16, .inr (.inl (fun _ => (0 : Int64)))))] := hD
  have hK : va_K (dC, dI) vwCl [(cA_2, .long)] s := hK
  refine va_putF (D := (dC, dI)) (ci := 6) (v := .ref q_1) (ty := .array .long) (C := RX6) (T := TX6) (N := 7) hx hb hts (fun w h => List.mem_cons_of_mem _ (iT_X6 w h)) tyX6 tyX6_ok nmX6 hown hK hP hD hS 0 rfl rfl 0 (by decide) (hts (.fieldLink RX6 9 "RedTent$Search" "lanes" "[J") (List.mem_cons_of_mem _ tw_1_111)) (fun _ h9 => h9) rfl hin rfl (by decide +kernel) rfl rfl (Nat.le_of_ble_eq_true rfl) dX6_init_9 (fun H locs hP hD hS => ?_)
  have hP : va_P (dC, dI) vwCl [(h1, .inr (6, [.ref q_1, .int 0, .null, .long 0, .null, .null, .long 0])), (q_1, .inl (cA_2, 16, .inr (.inl (fun _ => (0 : Int64)))))] H := hP
  have hD : va_D A [(h1, .inr (6, [.ref q_1, .int 0, .null, .long 0, .null, .null, .long 0])), (q_1, .inl (cA_2, 16, .inr (.inl (fun _ => (0 : Int64)))))] := hD
  refine lv_aload_n hx hb dX6_init_12 rfl (lv_at hl 0 rfl) ?_
  refine lv_bipush (v := 64) hx hb dX6_init_13 (by decide) ?_
  refine va_newa (atype := .long) (ty := .long) (N' := 64) (a0 := (64, .inr (.inl (fun _ => (0 : Int64))))) hx hb (hts (.arrayClass .long) (List.mem_cons_of_mem _ tw_1_104)) rfl hK hP hD hS hA (fun _ => rfl) (by decide +kernel) (by decide +kernel) (by decide +kernel) (by decide +kernel) (by decide +kernel) dX6_init_15 (fun q_3 cA_4 H hK hP hD hS => ?_)
  have hP : va_P (dC, dI) vwCl [(h1, .inr (6, [.ref q_1, .int 0, .null, .long 0, .null, .null, .long 0])), (q_1, .inl (cA_2, 16, .inr (.inl (fun _ => (0 : Int64))))), (q_3, .inl (cA_4, 64, .inr (.inl (fun _ => (0 : Int64)))))] H := hP
  have hD : va_D A [(h1, .inr (6, [.ref q_1, .int 0, .null, .long 0, .null, .null, .long 0])), (q_1, .inl (cA_2, 16, .inr (.inl (fun _ => (0 : Int64))))), (q_3, .inl (cA_4, 64, .inr (.inl (fun _ => (0 : Int64)))))] := hD
  have hK : va_K (dC, dI) vwCl [(cA_2, .long), (cA_4, .long)] s := hK
  refine va_putF (D := (dC, dI)) (ci := 6) (v := .ref q_3) (ty := .array .long) (C := RX6) (T := TX6) (N := 7) hx hb hts (fun w h => List.mem_cons_of_mem _ (iT_X6 w h)) tyX6 tyX6_ok nmX6 hown hK hP hD hS 0 rfl rfl 2 (by decide) (hts (.fieldLink RX6 15 "RedTent$Search" "weights" "[J") (List.mem_cons_of_mem _ tw_1_114)) (fun _ h9 => h9) rfl hin rfl (by decide +kernel) rfl rfl (Nat.le_of_ble_eq_true rfl) dX6_init_17 (fun H locs hP hD hS => ?_)
  have hP : va_P (dC, dI) vwCl [(h1, .inr (6, [.ref q_1, .int 0, .ref q_3, .long 0, .null, .null, .long 0])), (q_1, .inl (cA_2, 16, .inr (.inl (fun _ => (0 : Int64))))), (q_3, .inl (cA_4, 64, .inr (.inl (fun _ => (0 : Int64)))))] H := hP
  have hD : va_D A [(h1, .inr (6, [.ref q_1, .int 0, .ref q_3, .long 0, .null, .null, .long 0])), (q_1, .inl (cA_2, 16, .inr (.inl (fun _ => (0 : Int64))))), (q_3, .inl (cA_4, 64, .inr (.inl (fun _ => (0 : Int64)))))] := hD
  refine lv_aload_n hx hb dX6_init_20 rfl (lv_at hl 0 rfl) ?_
  refine lv_iconst (v := 3) hx hb dX6_init_21 (by decide) ?_
  refine va_newa (atype := .int) (ty := .int) (N' := 3) (a0 := (3, .inl (fun _ => (0 : Int32)))) hx hb (hts (.arrayClass .int) (List.mem_cons_of_mem _ tw_1_50)) rfl hK hP hD hS hA (fun _ => rfl) (by decide +kernel) (by decide +kernel) (by decide +kernel) (by decide +kernel) (by decide +kernel) dX6_init_22 (fun q_5 cA_6 H hK hP hD hS => ?_)
  have hP : va_P (dC, dI) vwCl [(h1, .inr (6, [.ref q_1, .int 0, .ref q_3, .long 0, .null, .null, .long 0])), (q_1, .inl (cA_2, 16, .inr (.inl (fun _ => (0 : Int64))))), (q_3, .inl (cA_4, 64, .inr (.inl (fun _ => (0 : Int64))))), (q_5, .inl (cA_6, 3, .inl (fun _ => (0 : Int32))))] H := hP
  have hD : va_D A [(h1, .inr (6, [.ref q_1, .int 0, .ref q_3, .long 0, .null, .null, .long 0])), (q_1, .inl (cA_2, 16, .inr (.inl (fun _ => (0 : Int64))))), (q_3, .inl (cA_4, 64, .inr (.inl (fun _ => (0 : Int64))))), (q_5, .inl (cA_6, 3, .inl (fun _ => (0 : Int32))))] := hD
  have hK : va_K (dC, dI) vwCl [(cA_2, .long), (cA_4, .long), (cA_6, .int)] s := hK
  refine va_putF (D := (dC, dI)) (ci := 6) (v := .ref q_5) (ty := .array .int) (C := RX6) (T := TX6) (N := 7) hx hb hts (fun w h => List.mem_cons_of_mem _ (iT_X6 w h)) tyX6 tyX6_ok nmX6 hown hK hP hD hS 0 rfl rfl 4 (by decide) (hts (.fieldLink RX6 18 "RedTent$Search" "tried" "[I") (List.mem_cons_of_mem _ tw_1_116)) (fun _ h9 => h9) rfl hin rfl (by decide +kernel) rfl rfl (Nat.le_of_ble_eq_true rfl) dX6_init_24 (fun H locs hP hD hS => ?_)
  have hP : va_P (dC, dI) vwCl [(h1, .inr (6, [.ref q_1, .int 0, .ref q_3, .long 0, .ref q_5, .null, .long 0])), (q_1, .inl (cA_2, 16, .inr (.inl (fun _ => (0 : Int64))))), (q_3, .inl (cA_4, 64, .inr (.inl (fun _ => (0 : Int64))))), (q_5, .inl (cA_6, 3, .inl (fun _ => (0 : Int32))))] H := hP
  have hD : va_D A [(h1, .inr (6, [.ref q_1, .int 0, .ref q_3, .long 0, .ref q_5, .null, .long 0])), (q_1, .inl (cA_2, 16, .inr (.inl (fun _ => (0 : Int64))))), (q_3, .inl (cA_4, 64, .inr (.inl (fun _ => (0 : Int64))))), (q_5, .inl (cA_6, 3, .inl (fun _ => (0 : Int32))))] := hD
  refine lv_aload_n hx hb dX6_init_27 rfl (lv_at hl 0 rfl) ?_
  refine lv_iconst (v := 3) hx hb dX6_init_28 (by decide) ?_
  refine va_newa (atype := .int) (ty := .int) (N' := 3) (a0 := (3, .inl (fun _ => (0 : Int32)))) hx hb (hts (.arrayClass .int) (List.mem_cons_of_mem _ tw_1_50)) rfl hK hP hD hS hA (fun _ => rfl) (by decide +kernel) (by decide +kernel) (by decide +kernel) (by decide +kernel) (by decide +kernel) dX6_init_29 (fun q_7 cA_8 H hK hP hD hS => ?_)
  have hP : va_P (dC, dI) vwCl [(h1, .inr (6, [.ref q_1, .int 0, .ref q_3, .long 0, .ref q_5, .null, .long 0])), (q_1, .inl (cA_2, 16, .inr (.inl (fun _ => (0 : Int64))))), (q_3, .inl (cA_4, 64, .inr (.inl (fun _ => (0 : Int64))))), (q_5, .inl (cA_6, 3, .inl (fun _ => (0 : Int32)))), (q_7, .inl (cA_8, 3, .inl (fun _ => (0 : Int32))))] H := hP
  have hD : va_D A [(h1, .inr (6, [.ref q_1, .int 0, .ref q_3, .long 0, .ref q_5, .null, .long 0])), (q_1, .inl (cA_2, 16, .inr (.inl (fun _ => (0 : Int64))))), (q_3, .inl (cA_4, 64, .inr (.inl (fun _ => (0 : Int64))))), (q_5, .inl (cA_6, 3, .inl (fun _ => (0 : Int32)))), (q_7, .inl (cA_8, 3, .inl (fun _ => (0 : Int32))))] := hD
  have hK : va_K (dC, dI) vwCl [(cA_2, .long), (cA_4, .long), (cA_6, .int), (cA_8, .int)] s := hK
  refine va_putF (D := (dC, dI)) (ci := 6) (v := .ref q_7) (ty := .array .int) (C := RX6) (T := TX6) (N := 7) hx hb hts (fun w h => List.mem_cons_of_mem _ (iT_X6 w h)) tyX6 tyX6_ok nmX6 hown hK hP hD hS 0 rfl rfl 5 (by decide) (hts (.fieldLink RX6 22 "RedTent$Search" "chosen" "[I") (List.mem_cons_of_mem _ tw_1_117)) (fun _ h9 => h9) rfl hin rfl (by decide +kernel) rfl rfl (Nat.le_of_ble_eq_true rfl) dX6_init_31 (fun H locs hP hD hS => ?_)
  have hP : va_P (dC, dI) vwCl [(h1, .inr (6, [.ref q_1, .int 0, .ref q_3, .long 0, .ref q_5, .ref q_7, .long 0])), (q_1, .inl (cA_2, 16, .inr (.inl (fun _ => (0 : Int64))))), (q_3, .inl (cA_4, 64, .inr (.inl (fun _ => (0 : Int64))))), (q_5, .inl (cA_6, 3, .inl (fun _ => (0 : Int32)))), (q_7, .inl (cA_8, 3, .inl (fun _ => (0 : Int32))))] H := hP
  have hD : va_D A [(h1, .inr (6, [.ref q_1, .int 0, .ref q_3, .long 0, .ref q_5, .ref q_7, .long 0])), (q_1, .inl (cA_2, 16, .inr (.inl (fun _ => (0 : Int64))))), (q_3, .inl (cA_4, 64, .inr (.inl (fun _ => (0 : Int64))))), (q_5, .inl (cA_6, 3, .inl (fun _ => (0 : Int32)))), (q_7, .inl (cA_8, 3, .inl (fun _ => (0 : Int32))))] := hD
  have hP9 := hP.sub (ws' := [(h1, .inr (6, [.ref q_1, .int 0, .ref q_3, .long 0, .ref q_5, .ref q_7, .long 0])), (q_1, .inl (cA_2, 16, .inr (.inl (fun _ => (0 : Int64))))), (q_3, .inl (cA_4, 64, .inr (.inl (fun _ => (0 : Int64))))), (q_5, .inl (cA_6, 3, .inl (fun _ => (0 : Int32)))), (q_7, .inl (cA_8, 3, .inl (fun _ => (0 : Int32))))]) [0, 1, 2, 3, 4] rfl
  have hD9 := hD.sub (ws' := [(h1, .inr (6, [.ref q_1, .int 0, .ref q_3, .long 0, .ref q_5, .ref q_7, .long 0])), (q_1, .inl (cA_2, 16, .inr (.inl (fun _ => (0 : Int64))))), (q_3, .inl (cA_4, 64, .inr (.inl (fun _ => (0 : Int64))))), (q_5, .inl (cA_6, 3, .inl (fun _ => (0 : Int32)))), (q_7, .inl (cA_8, 3, .inl (fun _ => (0 : Int32))))]) [0, 1, 2, 3, 4] (by decide) rfl
  have hK9 := hK.sub (tys' := [(cA_2, .long), (cA_4, .long), (cA_6, .int), (cA_8, .int)]) [0, 1, 2, 3] rfl
  refine W.widen (k := 4) (n := 86) (by decide +kernel) (by decide +kernel) ?_
  exact W.vret hx hb hr (fun t ht hW => ⟨⟨(), rfl, trivial, (fun k => match k with | 0 => q_1 | 2 => q_3 | 4 => q_5 | _ => q_7), (fun k => match k with | 0 => cA_2 | 2 => cA_4 | 4 => cA_6 | _ => cA_8), by rw [ht]; exact hP9, hD9, va_K.moved hW.alike hK9⟩, hS.F ht⟩) hS.2.2 dX6_init_34
set_option maxHeartbeats 1000000 in
set_option maxRecDepth 100000 in
theorem rt_X2_init (l : Launch) (dC : Nat → ClassId) (dI : Nat → Nat → Nat) (sz : Nat) (h1 : Nat) : Met l yX2_init wsX2_init ({ frames := 1, cells := 5, slots := 80, locals := 12 }) (va_Pc [.ref h1] (fun U => U.heap.size = sz ∧ va_P (dC, dI) vwCl [(h1, .inr (2, [.null, .null, .null, .null, .null, .int 0]))] U.heap ∧ va_K (dC, dI) vwCl [] U ∧ va_D (fun _ => True) [(h1, .inr (2, [.null, .null, .null, .null, .null, .int 0]))])) (va_Qv (fun u : Unit => match u with | () => True) (fun (u : Unit) (t : State) => match u with | () => ∃ (ac : Nat → Nat), ∃ (cc : Nat → ClassId), va_P (dC, dI) vwCl [(h1, .inr (2, [.ref (ac 0), .ref (ac 1), .ref (ac 2), .ref (ac 3), .ref (ac 4), .int 0])), (ac 0, .inl (cc 0, 16, .inl (fun _ => (0 : Int32)))), (ac 1, .inl (cc 1, 16, .inl (fun _ => (0 : Int32)))), (ac 2, .inl (cc 2, 16, .inl (fun _ => (0 : Int32)))), (ac 3, .inl (cc 3, 16, .inl (fun _ => (0 : Int32)))), (ac 4, .inl (cc 4, 16, .inl (fun _ => (0 : Int32))))] t.heap ∧ va_D (va_A [(h1, .inr (2, [.null, .null, .null, .null, .null, .int 0]))] sz) [(h1, .inr (2, [.ref (ac 0), .ref (ac 1), .ref (ac 2), .ref (ac 3), .ref (ac 4), .int 0])), (ac 0, .inl (cc 0, 16, .inl (fun _ => (0 : Int32)))), (ac 1, .inl (cc 1, 16, .inl (fun _ => (0 : Int32)))), (ac 2, .inl (cc 2, 16, .inl (fun _ => (0 : Int32)))), (ac 3, .inl (cc 3, 16, .inl (fun _ => (0 : Int32)))), (ac 4, .inl (cc 4, 16, .inl (fun _ => (0 : Int32))))] ∧ va_K (dC, dI) vwCl [(cc 0, .int), (cc 1, .int), (cc 2, .int), (cc 3, .int), (cc 4, .int)] t) (va_A [(h1, .inr (2, [.null, .null, .null, .null, .null, .int 0]))] sz)) 5 80 (va_A [(h1, .inr (2, [.null, .null, .null, .null, .null, .int 0]))] sz) := by
  refine Met.ofW (cc := cX2_init) (maxL := 1) (ret := none) (by decide) rfl ?_
  intro p e s m args below meth c s₁ B hml hv
  obtain ⟨rfl, hsz, hP, hK, hD0⟩ := hv
  have hx := B.exec
  have hb := B.bytes
  have hr := B.returns
  have hts := atoms_spec (ws := wsX2_init) B.pre
  have hown : s.vm.findClass RX2 = some m.cls := findClass_of_methodNamed B.named
  have hlocks := B.notSynchronized
  have hin : meth.name = "<init>" := (name_of_methodNamed B.named B.method).1
  subst hsz
  have hD := hD0.self (sz := s.heap.size)
  generalize hAe : va_A [(h1, .inr (2, [.null, .null, .null, .null, .null, .int 0]))] s.heap.size = A at hD  ⊢
  have hA : ∀ q : Nat, s.heap.size ≤ q → A q := fun q h => by rw [← hAe]; exact Or.inr h
  have hS : va_S A s.heap s.heap [] := va_S.rf
  have hl := lv_entry ([.ref h1]) (n := 1) (Nat.le_of_ble_eq_true rfl)
  rw [lg_entry_eq]
  generalize (lg_sl ([.ref h1]) ++ List.replicate (1 - (lg_sl ([.ref h1])).length) Slot.unset).toArray = ls at hl ⊢
  have hl : lv_has ls 1 [(0, .ref h1)] := hl
  refine lv_aload_n hx hb dX2_init_0 rfl (lv_at hl 0 rfl) ?_
  refine W.objInit hx hb hown (hts (.methodLink RX2 3 objectInit) (List.mem_cons_of_mem _ tw_1_140)) (hts (.instanceMethod objectInit) (List.mem_cons_of_mem _ tw_1_27)) (hts (.code objectInit ⟨#[0xb1]⟩ 1 none) (List.mem_cons_of_mem _ tw_1_28)) rfl (by rw [hml]; exact hl.1) rfl dX2_init_1 (Nat.le_of_ble_eq_true rfl) (Nat.le_of_ble_eq_true rfl) ?_
  refine W.eq (g2 := F0 m 4 ls []) rfl ?_
  refine lv_aload_n hx hb dX2_init_4 rfl (lv_at hl 0 rfl) ?_
  refine lv_bipush (v := 16) hx hb dX2_init_5 (by decide) ?_
  refine va_newa (atype := .int) (ty := .int) (N' := 16) (a0 := (16, .inl (fun _ => (0 : Int32)))) hx hb (hts (.arrayClass .int) (List.mem_cons_of_mem _ tw_1_50)) rfl hK hP hD hS hA (fun _ => rfl) (by decide +kernel) (by decide +kernel) (by decide +kernel) (by decide +kernel) (by decide +kernel) dX2_init_7 (fun q_1 cA_2 H hK hP hD hS => ?_)
  have hP : va_P (dC, dI) vwCl [(h1, .inr (2, [.null, .null, .null, .null, .null, .int 0])), (q_1, .inl (cA_2, 16, .inl (fun _ => (0 : Int32))))] H := hP
  have hD : va_D A [(h1, .inr (2, [.null, .null, .null, .null, .null, .int 0])), (q_1, .inl (cA_2, 16, .inl (fun _ => (0 : Int32))))] := hD
  have hK : va_K (dC, dI) vwCl [(cA_2, .int)] s := hK
  refine va_putF (D := (dC, dI)) (ci := 2) (v := .ref q_1) (ty := .array .int) (C := RX2) (T := TX2) (N := 6) hx hb hts (fun w h => List.mem_cons_of_mem _ (iT_X2 w h)) tyX2 tyX2_ok nmX2 hown hK hP hD hS 0 rfl rfl 0 (by decide) (hts (.fieldLink RX2 9 "RedTent$Crew" "body" "[I") (List.mem_cons_of_mem _ tw_1_141)) (fun _ h9 => h9) rfl hin rfl (by decide +kernel) rfl rfl (Nat.le_of_ble_eq_true rfl) dX2_init_9 (fun H locs hP hD hS => ?_)
  have hP : va_P (dC, dI) vwCl [(h1, .inr (2, [.ref q_1, .null, .null, .null, .null, .int 0])), (q_1, .inl (cA_2, 16, .inl (fun _ => (0 : Int32))))] H := hP
  have hD : va_D A [(h1, .inr (2, [.ref q_1, .null, .null, .null, .null, .int 0])), (q_1, .inl (cA_2, 16, .inl (fun _ => (0 : Int32))))] := hD
  refine lv_aload_n hx hb dX2_init_12 rfl (lv_at hl 0 rfl) ?_
  refine lv_bipush (v := 16) hx hb dX2_init_13 (by decide) ?_
  refine va_newa (atype := .int) (ty := .int) (N' := 16) (a0 := (16, .inl (fun _ => (0 : Int32)))) hx hb (hts (.arrayClass .int) (List.mem_cons_of_mem _ tw_1_50)) rfl hK hP hD hS hA (fun _ => rfl) (by decide +kernel) (by decide +kernel) (by decide +kernel) (by decide +kernel) (by decide +kernel) dX2_init_15 (fun q_3 cA_4 H hK hP hD hS => ?_)
  have hP : va_P (dC, dI) vwCl [(h1, .inr (2, [.ref q_1, .null, .null, .null, .null, .int 0])), (q_1, .inl (cA_2, 16, .inl (fun _ => (0 : Int32)))), (q_3, .inl (cA_4, 16, .inl (fun _ => (0 : Int32))))] H := hP
  have hD : va_D A [(h1, .inr (2, [.ref q_1, .null, .null, .null, .null, .int 0])), (q_1, .inl (cA_2, 16, .inl (fun _ => (0 : Int32)))), (q_3, .inl (cA_4, 16, .inl (fun _ => (0 : Int32))))] := hD
  have hK : va_K (dC, dI) vwCl [(cA_2, .int), (cA_4, .int)] s := hK
  refine va_putF (D := (dC, dI)) (ci := 2) (v := .ref q_3) (ty := .array .int) (C := RX2) (T := TX2) (N := 6) hx hb hts (fun w h => List.mem_cons_of_mem _ (iT_X2 w h)) tyX2 tyX2_ok nmX2 hown hK hP hD hS 0 rfl rfl 1 (by decide) (hts (.fieldLink RX2 15 "RedTent$Crew" "strength" "[I") (List.mem_cons_of_mem _ tw_1_143)) (fun _ h9 => h9) rfl hin rfl (by decide +kernel) rfl rfl (Nat.le_of_ble_eq_true rfl) dX2_init_17 (fun H locs hP hD hS => ?_)
  have hP : va_P (dC, dI) vwCl [(h1, .inr (2, [.ref q_1, .ref q_3, .null, .null, .null, .int 0])), (q_1, .inl (cA_2, 16, .inl (fun _ => (0 : Int32)))), (q_3, .inl (cA_4, 16, .inl (fun _ => (0 : Int32))))] H := hP
  have hD : va_D A [(h1, .inr (2, [.ref q_1, .ref q_3, .null, .null, .null, .int 0])), (q_1, .inl (cA_2, 16, .inl (fun _ => (0 : Int32)))), (q_3, .inl (cA_4, 16, .inl (fun _ => (0 : Int32))))] := hD
  refine lv_aload_n hx hb dX2_init_20 rfl (lv_at hl 0 rfl) ?_
  refine lv_bipush (v := 16) hx hb dX2_init_21 (by decide) ?_
  refine va_newa (atype := .int) (ty := .int) (N' := 16) (a0 := (16, .inl (fun _ => (0 : Int32)))) hx hb (hts (.arrayClass .int) (List.mem_cons_of_mem _ tw_1_50)) rfl hK hP hD hS hA (fun _ => rfl) (by decide +kernel) (by decide +kernel) (by decide +kernel) (by decide +kernel) (by decide +kernel) dX2_init_23 (fun q_5 cA_6 H hK hP hD hS => ?_)
  have hP : va_P (dC, dI) vwCl [(h1, .inr (2, [.ref q_1, .ref q_3, .null, .null, .null, .int 0])), (q_1, .inl (cA_2, 16, .inl (fun _ => (0 : Int32)))), (q_3, .inl (cA_4, 16, .inl (fun _ => (0 : Int32)))), (q_5, .inl (cA_6, 16, .inl (fun _ => (0 : Int32))))] H := hP
  have hD : va_D A [(h1, .inr (2, [.ref q_1, .ref q_3, .null, .null, .null, .int 0])), (q_1, .inl (cA_2, 16, .inl (fun _ => (0 : Int32)))), (q_3, .inl (cA_4, 16, .inl (fun _ => (0 : Int32)))), (q_5, .inl (cA_6, 16, .inl (fun _ => (0 : Int32))))] := hD
  have hK : va_K (dC, dI) vwCl [(cA_2, .int), (cA_4, .int), (cA_6, .int)] s := hK
  refine va_putF (D := (dC, dI)) (ci := 2) (v := .ref q_5) (ty := .array .int) (C := RX2) (T := TX2) (N := 6) hx hb hts (fun w h => List.mem_cons_of_mem _ (iT_X2 w h)) tyX2 tyX2_ok nmX2 hown hK hP hD hS 0 rfl rfl 2 (by decide) (hts (.fieldLink RX2 18 "RedTent$Crew" "hurt" "[I") (List.mem_cons_of_mem _ tw_1_145)) (fun _ h9 => h9) rfl hin rfl (by decide +kernel) rfl rfl (Nat.le_of_ble_eq_true rfl) dX2_init_25 (fun H locs hP hD hS => ?_)
  have hP : va_P (dC, dI) vwCl [(h1, .inr (2, [.ref q_1, .ref q_3, .ref q_5, .null, .null, .int 0])), (q_1, .inl (cA_2, 16, .inl (fun _ => (0 : Int32)))), (q_3, .inl (cA_4, 16, .inl (fun _ => (0 : Int32)))), (q_5, .inl (cA_6, 16, .inl (fun _ => (0 : Int32))))] H := hP
  have hD : va_D A [(h1, .inr (2, [.ref q_1, .ref q_3, .ref q_5, .null, .null, .int 0])), (q_1, .inl (cA_2, 16, .inl (fun _ => (0 : Int32)))), (q_3, .inl (cA_4, 16, .inl (fun _ => (0 : Int32)))), (q_5, .inl (cA_6, 16, .inl (fun _ => (0 : Int32))))] := hD
  refine lv_aload_n hx hb dX2_init_28 rfl (lv_at hl 0 rfl) ?_
  refine lv_bipush (v := 16) hx hb dX2_init_29 (by decide) ?_
  refine va_newa (atype := .int) (ty := .int) (N' := 16) (a0 := (16, .inl (fun _ => (0 : Int32)))) hx hb (hts (.arrayClass .int) (List.mem_cons_of_mem _ tw_1_50)) rfl hK hP hD hS hA (fun _ => rfl) (by decide +kernel) (by decide +kernel) (by decide +kernel) (by decide +kernel) (by decide +kernel) dX2_init_31 (fun q_7 cA_8 H hK hP hD hS => ?_)
  have hP : va_P (dC, dI) vwCl [(h1, .inr (2, [.ref q_1, .ref q_3, .ref q_5, .null, .null, .int 0])), (q_1, .inl (cA_2, 16, .inl (fun _ => (0 : Int32)))), (q_3, .inl (cA_4, 16, .inl (fun _ => (0 : Int32)))), (q_5, .inl (cA_6, 16, .inl (fun _ => (0 : Int32)))), (q_7, .inl (cA_8, 16, .inl (fun _ => (0 : Int32))))] H := hP
  have hD : va_D A [(h1, .inr (2, [.ref q_1, .ref q_3, .ref q_5, .null, .null, .int 0])), (q_1, .inl (cA_2, 16, .inl (fun _ => (0 : Int32)))), (q_3, .inl (cA_4, 16, .inl (fun _ => (0 : Int32)))), (q_5, .inl (cA_6, 16, .inl (fun _ => (0 : Int32)))), (q_7, .inl (cA_8, 16, .inl (fun _ => (0 : Int32))))] := hD
  have hK : va_K (dC, dI) vwCl [(cA_2, .int), (cA_4, .int), (cA_6, .int), (cA_8, .int)] s := hK
  refine va_putF (D := (dC, dI)) (ci := 2) (v := .ref q_7) (ty := .array .int) (C := RX2) (T := TX2) (N := 6) hx hb hts (fun w h => List.mem_cons_of_mem _ (iT_X2 w h)) tyX2 tyX2_ok nmX2 hown hK hP hD hS 0 rfl rfl 3 (by decide) (hts (.fieldLink RX2 21 "RedTent$Crew" "skill" "[I") (List.mem_cons_of_mem _ tw_1_147)) (fun _ h9 => h9) rfl hin rfl (by decide +kernel) rfl rfl (Nat.le_of_ble_eq_true rfl) dX2_init_33 (fun H locs hP hD hS => ?_)
  have hP : va_P (dC, dI) vwCl [(h1, .inr (2, [.ref q_1, .ref q_3, .ref q_5, .ref q_7, .null, .int 0])), (q_1, .inl (cA_2, 16, .inl (fun _ => (0 : Int32)))), (q_3, .inl (cA_4, 16, .inl (fun _ => (0 : Int32)))), (q_5, .inl (cA_6, 16, .inl (fun _ => (0 : Int32)))), (q_7, .inl (cA_8, 16, .inl (fun _ => (0 : Int32))))] H := hP
  have hD : va_D A [(h1, .inr (2, [.ref q_1, .ref q_3, .ref q_5, .ref q_7, .null, .int 0])), (q_1, .inl (cA_2, 16, .inl (fun _ => (0 : Int32)))), (q_3, .inl (cA_4, 16, .inl (fun _ => (0 : Int32)))), (q_5, .inl (cA_6, 16, .inl (fun _ => (0 : Int32)))), (q_7, .inl (cA_8, 16, .inl (fun _ => (0 : Int32))))] := hD
  refine lv_aload_n hx hb dX2_init_36 rfl (lv_at hl 0 rfl) ?_
  refine lv_bipush (v := 16) hx hb dX2_init_37 (by decide) ?_
  refine va_newa (atype := .int) (ty := .int) (N' := 16) (a0 := (16, .inl (fun _ => (0 : Int32)))) hx hb (hts (.arrayClass .int) (List.mem_cons_of_mem _ tw_1_50)) rfl hK hP hD hS hA (fun _ => rfl) (by decide +kernel) (by decide +kernel) (by decide +kernel) (by decide +kernel) (by decide +kernel) dX2_init_39 (fun q_9 cA_10 H hK hP hD hS => ?_)
  have hP : va_P (dC, dI) vwCl [(h1, .inr (2, [.ref q_1, .ref q_3, .ref q_5, .ref q_7, .null, .int 0])), (q_1, .inl (cA_2, 16, .inl (fun _ => (0 : Int32)))), (q_3, .inl (cA_4, 16, .inl (fun _ => (0 : Int32)))), (q_5, .inl (cA_6, 16, .inl (fun _ => (0 : Int32)))), (q_7, .inl (cA_8, 16, .inl (fun _ => (0 : Int32)))), (q_9, .inl (cA_10, 16, .inl (fun _ => (0 : Int32))))] H := hP
  have hD : va_D A [(h1, .inr (2, [.ref q_1, .ref q_3, .ref q_5, .ref q_7, .null, .int 0])), (q_1, .inl (cA_2, 16, .inl (fun _ => (0 : Int32)))), (q_3, .inl (cA_4, 16, .inl (fun _ => (0 : Int32)))), (q_5, .inl (cA_6, 16, .inl (fun _ => (0 : Int32)))), (q_7, .inl (cA_8, 16, .inl (fun _ => (0 : Int32)))), (q_9, .inl (cA_10, 16, .inl (fun _ => (0 : Int32))))] := hD
  have hK : va_K (dC, dI) vwCl [(cA_2, .int), (cA_4, .int), (cA_6, .int), (cA_8, .int), (cA_10, .int)] s := hK
  refine va_putF (D := (dC, dI)) (ci := 2) (v := .ref q_9) (ty := .array .int) (C := RX2) (T := TX2) (N := 6) hx hb hts (fun w h => List.mem_cons_of_mem _ (iT_X2 w h)) tyX2 tyX2_ok nmX2 hown hK hP hD hS 0 rfl rfl 4 (by decide) (hts (.fieldLink RX2 24 "RedTent$Crew" "takes" "[I") (List.mem_cons_of_mem _ tw_1_149)) (fun _ h9 => h9) rfl hin rfl (by decide +kernel) rfl rfl (Nat.le_of_ble_eq_true rfl) dX2_init_41 (fun H locs hP hD hS => ?_)
  have hP : va_P (dC, dI) vwCl [(h1, .inr (2, [.ref q_1, .ref q_3, .ref q_5, .ref q_7, .ref q_9, .int 0])), (q_1, .inl (cA_2, 16, .inl (fun _ => (0 : Int32)))), (q_3, .inl (cA_4, 16, .inl (fun _ => (0 : Int32)))), (q_5, .inl (cA_6, 16, .inl (fun _ => (0 : Int32)))), (q_7, .inl (cA_8, 16, .inl (fun _ => (0 : Int32)))), (q_9, .inl (cA_10, 16, .inl (fun _ => (0 : Int32))))] H := hP
  have hD : va_D A [(h1, .inr (2, [.ref q_1, .ref q_3, .ref q_5, .ref q_7, .ref q_9, .int 0])), (q_1, .inl (cA_2, 16, .inl (fun _ => (0 : Int32)))), (q_3, .inl (cA_4, 16, .inl (fun _ => (0 : Int32)))), (q_5, .inl (cA_6, 16, .inl (fun _ => (0 : Int32)))), (q_7, .inl (cA_8, 16, .inl (fun _ => (0 : Int32)))), (q_9, .inl (cA_10, 16, .inl (fun _ => (0 : Int32))))] := hD
  have hP9 := hP.sub (ws' := [(h1, .inr (2, [.ref q_1, .ref q_3, .ref q_5, .ref q_7, .ref q_9, .int 0])), (q_1, .inl (cA_2, 16, .inl (fun _ => (0 : Int32)))), (q_3, .inl (cA_4, 16, .inl (fun _ => (0 : Int32)))), (q_5, .inl (cA_6, 16, .inl (fun _ => (0 : Int32)))), (q_7, .inl (cA_8, 16, .inl (fun _ => (0 : Int32)))), (q_9, .inl (cA_10, 16, .inl (fun _ => (0 : Int32))))]) [0, 1, 2, 3, 4, 5] rfl
  have hD9 := hD.sub (ws' := [(h1, .inr (2, [.ref q_1, .ref q_3, .ref q_5, .ref q_7, .ref q_9, .int 0])), (q_1, .inl (cA_2, 16, .inl (fun _ => (0 : Int32)))), (q_3, .inl (cA_4, 16, .inl (fun _ => (0 : Int32)))), (q_5, .inl (cA_6, 16, .inl (fun _ => (0 : Int32)))), (q_7, .inl (cA_8, 16, .inl (fun _ => (0 : Int32)))), (q_9, .inl (cA_10, 16, .inl (fun _ => (0 : Int32))))]) [0, 1, 2, 3, 4, 5] (by decide) rfl
  have hK9 := hK.sub (tys' := [(cA_2, .int), (cA_4, .int), (cA_6, .int), (cA_8, .int), (cA_10, .int)]) [0, 1, 2, 3, 4] rfl
  refine W.widen (k := 5) (n := 80) (by decide +kernel) (by decide +kernel) ?_
  exact W.vret hx hb hr (fun t ht hW => ⟨⟨(), rfl, trivial, (fun k => match k with | 0 => q_1 | 1 => q_3 | 2 => q_5 | 3 => q_7 | _ => q_9), (fun k => match k with | 0 => cA_2 | 1 => cA_4 | 2 => cA_6 | 3 => cA_8 | _ => cA_10), by rw [ht]; exact hP9, hD9, va_K.moved hW.alike hK9⟩, hS.F ht⟩) hS.2.2 dX2_init_44
set_option maxHeartbeats 1000000 in
set_option maxRecDepth 100000 in
theorem rt_X8_init (l : Launch) (dC : Nat → ClassId) (dI : Nat → Nat → Nat) (sz : Nat) (h1 : Nat) : Met l yX8_init wsX8_init ({ frames := 1, cells := 3, slots := 60, locals := 12 }) (va_Pc [.ref h1] (fun U => U.heap.size = sz ∧ va_P (dC, dI) vwCl [(h1, .inr (8, [.null, .null, .null, .int 0]))] U.heap ∧ va_K (dC, dI) vwCl [] U ∧ va_D (fun _ => True) [(h1, .inr (8, [.null, .null, .null, .int 0]))])) (va_Qv (fun u : Unit => match u with | () => True) (fun (u : Unit) (t : State) => match u with | () => ∃ (at_ : Nat → Nat), ∃ (ct : Nat → ClassId), va_P (dC, dI) vwCl [(h1, .inr (8, [.ref (at_ 0), .ref (at_ 1), .ref (at_ 2), .int 0])), (at_ 0, .inl (ct 0, 20, .inl (fun _ => (0 : Int32)))), (at_ 1, .inl (ct 1, 20, .inl (fun _ => (0 : Int32)))), (at_ 2, .inl (ct 2, 20, .inl (fun _ => (0 : Int32))))] t.heap ∧ va_D (va_A [(h1, .inr (8, [.null, .null, .null, .int 0]))] sz) [(h1, .inr (8, [.ref (at_ 0), .ref (at_ 1), .ref (at_ 2), .int 0])), (at_ 0, .inl (ct 0, 20, .inl (fun _ => (0 : Int32)))), (at_ 1, .inl (ct 1, 20, .inl (fun _ => (0 : Int32)))), (at_ 2, .inl (ct 2, 20, .inl (fun _ => (0 : Int32))))] ∧ va_K (dC, dI) vwCl [(ct 0, .int), (ct 1, .int), (ct 2, .int)] t) (va_A [(h1, .inr (8, [.null, .null, .null, .int 0]))] sz)) 3 60 (va_A [(h1, .inr (8, [.null, .null, .null, .int 0]))] sz) := by
  refine Met.ofW (cc := cX8_init) (maxL := 1) (ret := none) (by decide) rfl ?_
  intro p e s m args below meth c s₁ B hml hv
  obtain ⟨rfl, hsz, hP, hK, hD0⟩ := hv
  have hx := B.exec
  have hb := B.bytes
  have hr := B.returns
  have hts := atoms_spec (ws := wsX8_init) B.pre
  have hown : s.vm.findClass RX8 = some m.cls := findClass_of_methodNamed B.named
  have hlocks := B.notSynchronized
  have hin : meth.name = "<init>" := (name_of_methodNamed B.named B.method).1
  subst hsz
  have hD := hD0.self (sz := s.heap.size)
  generalize hAe : va_A [(h1, .inr (8, [.null, .null, .null, .int 0]))] s.heap.size = A at hD  ⊢
  have hA : ∀ q : Nat, s.heap.size ≤ q → A q := fun q h => by rw [← hAe]; exact Or.inr h
  have hS : va_S A s.heap s.heap [] := va_S.rf
  have hl := lv_entry ([.ref h1]) (n := 1) (Nat.le_of_ble_eq_true rfl)
  rw [lg_entry_eq]
  generalize (lg_sl ([.ref h1]) ++ List.replicate (1 - (lg_sl ([.ref h1])).length) Slot.unset).toArray = ls at hl ⊢
  have hl : lv_has ls 1 [(0, .ref h1)] := hl
  refine lv_aload_n hx hb dX8_init_0 rfl (lv_at hl 0 rfl) ?_
  refine W.objInit hx hb hown (hts (.methodLink RX8 3 objectInit) (List.mem_cons_of_mem _ tw_2_34)) (hts (.instanceMethod objectInit) (List.mem_cons_of_mem _ tw_1_27)) (hts (.code objectInit ⟨#[0xb1]⟩ 1 none) (List.mem_cons_of_mem _ tw_1_28)) rfl (by rw [hml]; exact hl.1) rfl dX8_init_1 (Nat.le_of_ble_eq_true rfl) (Nat.le_of_ble_eq_true rfl) ?_
  refine W.eq (g2 := F0 m 4 ls []) rfl ?_
  refine lv_aload_n hx hb dX8_init_4 rfl (lv_at hl 0 rfl) ?_
  refine lv_bipush (v := 20) hx hb dX8_init_5 (by decide) ?_
  refine va_newa (atype := .int) (ty := .int) (N' := 20) (a0 := (20, .inl (fun _ => (0 : Int32)))) hx hb (hts (.arrayClass .int) (List.mem_cons_of_mem _ tw_1_50)) rfl hK hP hD hS hA (fun _ => rfl) (by decide +kernel) (by decide +kernel) (by decide +kernel) (by decide +kernel) (by decide +kernel) dX8_init_7 (fun q_1 cA_2 H hK hP hD hS => ?_)
  have hP : va_P (dC, dI) vwCl [(h1, .inr (8, [.null, .null, .null, .int 0])), (q_1, .inl (cA_2, 20, .inl (fun _ => (0 : Int32))))] H := hP
  have hD : va_D A [(h1, .inr (8, [.null, .null, .null, .int 0])), (q_1, .inl (cA_2, 20, .inl (fun _ => (0 : Int32))))] := hD
  have hK : va_K (dC, dI) vwCl [(cA_2, .int)] s := hK
  refine va_putF (D := (dC, dI)) (ci := 8) (v := .ref q_1) (ty := .array .int) (C := RX8) (T := TX8) (N := 4) hx hb hts (fun w h => List.mem_cons_of_mem _ (iT_X8 w h)) tyX8 tyX8_ok nmX8 hown hK hP hD hS 0 rfl rfl 0 (by decide) (hts (.fieldLink RX8 9 "RedTent$Stories" "body" "[I") (List.mem_cons_of_mem _ tw_2_35)) (fun _ h9 => h9) rfl hin rfl (by decide +kernel) rfl rfl (Nat.le_of_ble_eq_true rfl) dX8_init_9 (fun H locs hP hD hS => ?_)
  have hP : va_P (dC, dI) vwCl [(h1, .inr (8, [.ref q_1, .null, .null, .int 0])), (q_1, .inl (cA_2, 20, .inl (fun _ => (0 : Int32))))] H := hP
  have hD : va_D A [(h1, .inr (8, [.ref q_1, .null, .null, .int 0])), (q_1, .inl (cA_2, 20, .inl (fun _ => (0 : Int32))))] := hD
  refine lv_aload_n hx hb dX8_init_12 rfl (lv_at hl 0 rfl) ?_
  refine lv_bipush (v := 20) hx hb dX8_init_13 (by decide) ?_
  refine va_newa (atype := .int) (ty := .int) (N' := 20) (a0 := (20, .inl (fun _ => (0 : Int32)))) hx hb (hts (.arrayClass .int) (List.mem_cons_of_mem _ tw_1_50)) rfl hK hP hD hS hA (fun _ => rfl) (by decide +kernel) (by decide +kernel) (by decide +kernel) (by decide +kernel) (by decide +kernel) dX8_init_15 (fun q_3 cA_4 H hK hP hD hS => ?_)
  have hP : va_P (dC, dI) vwCl [(h1, .inr (8, [.ref q_1, .null, .null, .int 0])), (q_1, .inl (cA_2, 20, .inl (fun _ => (0 : Int32)))), (q_3, .inl (cA_4, 20, .inl (fun _ => (0 : Int32))))] H := hP
  have hD : va_D A [(h1, .inr (8, [.ref q_1, .null, .null, .int 0])), (q_1, .inl (cA_2, 20, .inl (fun _ => (0 : Int32)))), (q_3, .inl (cA_4, 20, .inl (fun _ => (0 : Int32))))] := hD
  have hK : va_K (dC, dI) vwCl [(cA_2, .int), (cA_4, .int)] s := hK
  refine va_putF (D := (dC, dI)) (ci := 8) (v := .ref q_3) (ty := .array .int) (C := RX8) (T := TX8) (N := 4) hx hb hts (fun w h => List.mem_cons_of_mem _ (iT_X8 w h)) tyX8 tyX8_ok nmX8 hown hK hP hD hS 0 rfl rfl 1 (by decide) (hts (.fieldLink RX8 15 "RedTent$Stories" "cell" "[I") (List.mem_cons_of_mem _ tw_2_37)) (fun _ h9 => h9) rfl hin rfl (by decide +kernel) rfl rfl (Nat.le_of_ble_eq_true rfl) dX8_init_17 (fun H locs hP hD hS => ?_)
  have hP : va_P (dC, dI) vwCl [(h1, .inr (8, [.ref q_1, .ref q_3, .null, .int 0])), (q_1, .inl (cA_2, 20, .inl (fun _ => (0 : Int32)))), (q_3, .inl (cA_4, 20, .inl (fun _ => (0 : Int32))))] H := hP
  have hD : va_D A [(h1, .inr (8, [.ref q_1, .ref q_3, .null, .int 0])), (q_1, .inl (cA_2, 20, .inl (fun _ => (0 : Int32)))), (q_3, .inl (cA_4, 20, .inl (fun _ => (0 : Int32))))] := hD
  refine lv_aload_n hx hb dX8_init_20 rfl (lv_at hl 0 rfl) ?_
  refine lv_bipush (v := 20) hx hb dX8_init_21 (by decide) ?_
  refine va_newa (atype := .int) (ty := .int) (N' := 20) (a0 := (20, .inl (fun _ => (0 : Int32)))) hx hb (hts (.arrayClass .int) (List.mem_cons_of_mem _ tw_1_50)) rfl hK hP hD hS hA (fun _ => rfl) (by decide +kernel) (by decide +kernel) (by decide +kernel) (by decide +kernel) (by decide +kernel) dX8_init_23 (fun q_5 cA_6 H hK hP hD hS => ?_)
  have hP : va_P (dC, dI) vwCl [(h1, .inr (8, [.ref q_1, .ref q_3, .null, .int 0])), (q_1, .inl (cA_2, 20, .inl (fun _ => (0 : Int32)))), (q_3, .inl (cA_4, 20, .inl (fun _ => (0 : Int32)))), (q_5, .inl (cA_6, 20, .inl (fun _ => (0 : Int32))))] H := hP
  have hD : va_D A [(h1, .inr (8, [.ref q_1, .ref q_3, .null, .int 0])), (q_1, .inl (cA_2, 20, .inl (fun _ => (0 : Int32)))), (q_3, .inl (cA_4, 20, .inl (fun _ => (0 : Int32)))), (q_5, .inl (cA_6, 20, .inl (fun _ => (0 : Int32))))] := hD
  have hK : va_K (dC, dI) vwCl [(cA_2, .int), (cA_4, .int), (cA_6, .int)] s := hK
  refine va_putF (D := (dC, dI)) (ci := 8) (v := .ref q_5) (ty := .array .int) (C := RX8) (T := TX8) (N := 4) hx hb hts (fun w h => List.mem_cons_of_mem _ (iT_X8 w h)) tyX8 tyX8_ok nmX8 hown hK hP hD hS 0 rfl rfl 2 (by decide) (hts (.fieldLink RX8 18 "RedTent$Stories" "hour" "[I") (List.mem_cons_of_mem _ tw_2_39)) (fun _ h9 => h9) rfl hin rfl (by decide +kernel) rfl rfl (Nat.le_of_ble_eq_true rfl) dX8_init_25 (fun H locs hP hD hS => ?_)
  have hP : va_P (dC, dI) vwCl [(h1, .inr (8, [.ref q_1, .ref q_3, .ref q_5, .int 0])), (q_1, .inl (cA_2, 20, .inl (fun _ => (0 : Int32)))), (q_3, .inl (cA_4, 20, .inl (fun _ => (0 : Int32)))), (q_5, .inl (cA_6, 20, .inl (fun _ => (0 : Int32))))] H := hP
  have hD : va_D A [(h1, .inr (8, [.ref q_1, .ref q_3, .ref q_5, .int 0])), (q_1, .inl (cA_2, 20, .inl (fun _ => (0 : Int32)))), (q_3, .inl (cA_4, 20, .inl (fun _ => (0 : Int32)))), (q_5, .inl (cA_6, 20, .inl (fun _ => (0 : Int32))))] := hD
  have hP9 := hP.sub (ws' := [(h1, .inr (8, [.ref q_1, .ref q_3, .ref q_5, .int 0])), (q_1, .inl (cA_2, 20, .inl (fun _ => (0 : Int32)))), (q_3, .inl (cA_4, 20, .inl (fun _ => (0 : Int32)))), (q_5, .inl (cA_6, 20, .inl (fun _ => (0 : Int32))))]) [0, 1, 2, 3] rfl
  have hD9 := hD.sub (ws' := [(h1, .inr (8, [.ref q_1, .ref q_3, .ref q_5, .int 0])), (q_1, .inl (cA_2, 20, .inl (fun _ => (0 : Int32)))), (q_3, .inl (cA_4, 20, .inl (fun _ => (0 : Int32)))), (q_5, .inl (cA_6, 20, .inl (fun _ => (0 : Int32))))]) [0, 1, 2, 3] (by decide) rfl
  have hK9 := hK.sub (tys' := [(cA_2, .int), (cA_4, .int), (cA_6, .int)]) [0, 1, 2] rfl
  refine W.widen (k := 3) (n := 60) (by decide +kernel) (by decide +kernel) ?_
  exact W.vret hx hb hr (fun t ht hW => ⟨⟨(), rfl, trivial, (fun k => match k with | 0 => q_1 | 1 => q_3 | _ => q_5), (fun k => match k with | 0 => cA_2 | 1 => cA_4 | _ => cA_6), by rw [ht]; exact hP9, hD9, va_K.moved hW.alike hK9⟩, hS.F ht⟩) hS.2.2 dX8_init_28
set_option maxHeartbeats 1000000 in
set_option maxRecDepth 100000 in
theorem rt_X7_init (l : Launch) (dC : Nat → ClassId) (dI : Nat → Nat → Nat) (sz : Nat) (h1 : Nat) : Met l yX7_init wsX7_init ({ frames := 1, cells := 1, slots := 40, locals := 12 }) (va_Pc [.ref h1] (fun U => U.heap.size = sz ∧ va_P (dC, dI) vwCl [(h1, .inr (7, [.null, .int 0, .int 0]))] U.heap ∧ va_K (dC, dI) vwCl [] U ∧ va_D (fun _ => True) [(h1, .inr (7, [.null, .int 0, .int 0]))])) (va_Qv (fun u : Unit => match u with | () => True) (fun (u : Unit) (t : State) => match u with | () => ∃ (ah : Nat → Nat), ∃ (ch : Nat → ClassId), va_P (dC, dI) vwCl [(h1, .inr (7, [.ref (ah 0), .int (-1), .int 0])), (ah 0, .inl (ch 0, 40, .inl (fun _ => (0 : Int32))))] t.heap ∧ va_D (va_A [(h1, .inr (7, [.null, .int 0, .int 0]))] sz) [(h1, .inr (7, [.ref (ah 0), .int (-1), .int 0])), (ah 0, .inl (ch 0, 40, .inl (fun _ => (0 : Int32))))] ∧ va_K (dC, dI) vwCl [(ch 0, .int)] t) (va_A [(h1, .inr (7, [.null, .int 0, .int 0]))] sz)) 1 40 (va_A [(h1, .inr (7, [.null, .int 0, .int 0]))] sz) := by
  refine Met.ofW (cc := cX7_init) (maxL := 1) (ret := none) (by decide) rfl ?_
  intro p e s m args below meth c s₁ B hml hv
  obtain ⟨rfl, hsz, hP, hK, hD0⟩ := hv
  have hx := B.exec
  have hb := B.bytes
  have hr := B.returns
  have hts := atoms_spec (ws := wsX7_init) B.pre
  have hown : s.vm.findClass RX7 = some m.cls := findClass_of_methodNamed B.named
  have hlocks := B.notSynchronized
  have hin : meth.name = "<init>" := (name_of_methodNamed B.named B.method).1
  subst hsz
  have hD := hD0.self (sz := s.heap.size)
  generalize hAe : va_A [(h1, .inr (7, [.null, .int 0, .int 0]))] s.heap.size = A at hD  ⊢
  have hA : ∀ q : Nat, s.heap.size ≤ q → A q := fun q h => by rw [← hAe]; exact Or.inr h
  have hS : va_S A s.heap s.heap [] := va_S.rf
  have hl := lv_entry ([.ref h1]) (n := 1) (Nat.le_of_ble_eq_true rfl)
  rw [lg_entry_eq]
  generalize (lg_sl ([.ref h1]) ++ List.replicate (1 - (lg_sl ([.ref h1])).length) Slot.unset).toArray = ls at hl ⊢
  have hl : lv_has ls 1 [(0, .ref h1)] := hl
  refine lv_aload_n hx hb dX7_init_0 rfl (lv_at hl 0 rfl) ?_
  refine W.objInit hx hb hown (hts (.methodLink RX7 3 objectInit) (List.mem_cons_of_mem _ tw_2_82)) (hts (.instanceMethod objectInit) (List.mem_cons_of_mem _ tw_1_27)) (hts (.code objectInit ⟨#[0xb1]⟩ 1 none) (List.mem_cons_of_mem _ tw_1_28)) rfl (by rw [hml]; exact hl.1) rfl dX7_init_1 (Nat.le_of_ble_eq_true rfl) (Nat.le_of_ble_eq_true rfl) ?_
  refine W.eq (g2 := F0 m 4 ls []) rfl ?_
  refine lv_aload_n hx hb dX7_init_4 rfl (lv_at hl 0 rfl) ?_
  refine lv_bipush (v := 40) hx hb dX7_init_5 (by decide) ?_
  refine va_newa (atype := .int) (ty := .int) (N' := 40) (a0 := (40, .inl (fun _ => (0 : Int32)))) hx hb (hts (.arrayClass .int) (List.mem_cons_of_mem _ tw_1_50)) rfl hK hP hD hS hA (fun _ => rfl) (by decide +kernel) (by decide +kernel) (by decide +kernel) (by decide +kernel) (by decide +kernel) dX7_init_7 (fun q_1 cA_2 H hK hP hD hS => ?_)
  have hP : va_P (dC, dI) vwCl [(h1, .inr (7, [.null, .int 0, .int 0])), (q_1, .inl (cA_2, 40, .inl (fun _ => (0 : Int32))))] H := hP
  have hD : va_D A [(h1, .inr (7, [.null, .int 0, .int 0])), (q_1, .inl (cA_2, 40, .inl (fun _ => (0 : Int32))))] := hD
  have hK : va_K (dC, dI) vwCl [(cA_2, .int)] s := hK
  refine va_putF (D := (dC, dI)) (ci := 7) (v := .ref q_1) (ty := .array .int) (C := RX7) (T := TX7) (N := 3) hx hb hts (fun w h => List.mem_cons_of_mem _ (iT_X7 w h)) tyX7 tyX7_ok nmX7 hown hK hP hD hS 0 rfl rfl 0 (by decide) (hts (.fieldLink RX7 9 "RedTent$Sheet" "items" "[I") (List.mem_cons_of_mem _ tw_2_83)) (fun _ h9 => h9) rfl hin rfl (by decide +kernel) rfl rfl (Nat.le_of_ble_eq_true rfl) dX7_init_9 (fun H locs hP hD hS => ?_)
  have hP : va_P (dC, dI) vwCl [(h1, .inr (7, [.ref q_1, .int 0, .int 0])), (q_1, .inl (cA_2, 40, .inl (fun _ => (0 : Int32))))] H := hP
  have hD : va_D A [(h1, .inr (7, [.ref q_1, .int 0, .int 0])), (q_1, .inl (cA_2, 40, .inl (fun _ => (0 : Int32))))] := hD
  refine lv_aload_n hx hb dX7_init_12 rfl (lv_at hl 0 rfl) ?_
  refine lv_iconst (v := (-1)) hx hb dX7_init_13 (by decide) ?_
  refine va_put (D := (dC, dI)) (ci := 7) (v := .int (-1)) (ty := .int) (C := RX7) (T := TX7) (N := 3) hx hb hts (fun w h => List.mem_cons_of_mem _ (iT_X7 w h)) tyX7 tyX7_ok nmX7 hown hK hP hD hS 0 rfl rfl 1 (by decide) (hts (.fieldLink RX7 15 "RedTent$Sheet" "sort" "I") (List.mem_cons_of_mem _ tw_2_85)) (fun _ h9 => h9) rfl (by decide +kernel) rfl rfl (Nat.le_of_ble_eq_true rfl) dX7_init_14 (fun H locs hP hD hS => ?_)
  have hP : va_P (dC, dI) vwCl [(h1, .inr (7, [.ref q_1, .int (-1), .int 0])), (q_1, .inl (cA_2, 40, .inl (fun _ => (0 : Int32))))] H := hP
  have hD : va_D A [(h1, .inr (7, [.ref q_1, .int (-1), .int 0])), (q_1, .inl (cA_2, 40, .inl (fun _ => (0 : Int32))))] := hD
  have hP9 := hP.sub (ws' := [(h1, .inr (7, [.ref q_1, .int (-1), .int 0])), (q_1, .inl (cA_2, 40, .inl (fun _ => (0 : Int32))))]) [0, 1] rfl
  have hD9 := hD.sub (ws' := [(h1, .inr (7, [.ref q_1, .int (-1), .int 0])), (q_1, .inl (cA_2, 40, .inl (fun _ => (0 : Int32))))]) [0, 1] (by decide) rfl
  have hK9 := hK.sub (tys' := [(cA_2, .int)]) [0] rfl
  refine W.widen (k := 1) (n := 40) (by decide +kernel) (by decide +kernel) ?_
  exact W.vret hx hb hr (fun t ht hW => ⟨⟨(), rfl, trivial, (fun k => match k with  | _ => q_1), (fun k => match k with  | _ => cA_2), by rw [ht]; exact hP9, hD9, va_K.moved hW.alike hK9⟩, hS.F ht⟩) hS.2.2 dX7_init_17
set_option maxHeartbeats 1000000 in
set_option maxRecDepth 100000 in
theorem rt_X9_init (l : Launch) (dC : Nat → ClassId) (dI : Nat → Nat → Nat) (sz : Nat) (h1 : Nat) : Met l yX9_init wsX9_init ({ frames := 1, cells := 1, slots := 160, locals := 12 }) (va_Pc [.ref h1] (fun U => U.heap.size = sz ∧ va_P (dC, dI) vwCl [(h1, .inr (9, [.null, .int 0, .int 0]))] U.heap ∧ va_K (dC, dI) vwCl [] U ∧ va_D (fun _ => True) [(h1, .inr (9, [.null, .int 0, .int 0]))])) (va_Qv (fun u : Unit => match u with | () => True) (fun (u : Unit) (t : State) => match u with | () => ∃ (ay : Nat → Nat), ∃ (cy : Nat → ClassId), va_P (dC, dI) vwCl [(h1, .inr (9, [.ref (ay 0), .int 0, .int 0])), (ay 0, .inl (cy 0, 160, .inl (fun _ => (0 : Int32))))] t.heap ∧ va_D (va_A [(h1, .inr (9, [.null, .int 0, .int 0]))] sz) [(h1, .inr (9, [.ref (ay 0), .int 0, .int 0])), (ay 0, .inl (cy 0, 160, .inl (fun _ => (0 : Int32))))] ∧ va_K (dC, dI) vwCl [(cy 0, .int)] t) (va_A [(h1, .inr (9, [.null, .int 0, .int 0]))] sz)) 1 160 (va_A [(h1, .inr (9, [.null, .int 0, .int 0]))] sz) := by
  refine Met.ofW (cc := cX9_init) (maxL := 1) (ret := none) (by decide) rfl ?_
  intro p e s m args below meth c s₁ B hml hv
  obtain ⟨rfl, hsz, hP, hK, hD0⟩ := hv
  have hx := B.exec
  have hb := B.bytes
  have hr := B.returns
  have hts := atoms_spec (ws := wsX9_init) B.pre
  have hown : s.vm.findClass RX9 = some m.cls := findClass_of_methodNamed B.named
  have hlocks := B.notSynchronized
  have hin : meth.name = "<init>" := (name_of_methodNamed B.named B.method).1
  subst hsz
  have hD := hD0.self (sz := s.heap.size)
  generalize hAe : va_A [(h1, .inr (9, [.null, .int 0, .int 0]))] s.heap.size = A at hD  ⊢
  have hA : ∀ q : Nat, s.heap.size ≤ q → A q := fun q h => by rw [← hAe]; exact Or.inr h
  have hS : va_S A s.heap s.heap [] := va_S.rf
  have hl := lv_entry ([.ref h1]) (n := 1) (Nat.le_of_ble_eq_true rfl)
  rw [lg_entry_eq]
  generalize (lg_sl ([.ref h1]) ++ List.replicate (1 - (lg_sl ([.ref h1])).length) Slot.unset).toArray = ls at hl ⊢
  have hl : lv_has ls 1 [(0, .ref h1)] := hl
  refine lv_aload_n hx hb dX9_init_0 rfl (lv_at hl 0 rfl) ?_
  refine W.objInit hx hb hown (hts (.methodLink RX9 3 objectInit) (List.mem_cons_of_mem _ tw_1_185)) (hts (.instanceMethod objectInit) (List.mem_cons_of_mem _ tw_1_27)) (hts (.code objectInit ⟨#[0xb1]⟩ 1 none) (List.mem_cons_of_mem _ tw_1_28)) rfl (by rw [hml]; exact hl.1) rfl dX9_init_1 (Nat.le_of_ble_eq_true rfl) (Nat.le_of_ble_eq_true rfl) ?_
  refine W.eq (g2 := F0 m 4 ls []) rfl ?_
  refine lv_aload_n hx hb dX9_init_4 rfl (lv_at hl 0 rfl) ?_
  refine lv_sipush (v := 160) hx hb dX9_init_5 (by decide) ?_
  refine va_newa (atype := .int) (ty := .int) (N' := 160) (a0 := (160, .inl (fun _ => (0 : Int32)))) hx hb (hts (.arrayClass .int) (List.mem_cons_of_mem _ tw_1_50)) rfl hK hP hD hS hA (fun _ => rfl) (by decide +kernel) (by decide +kernel) (by decide +kernel) (by decide +kernel) (by decide +kernel) dX9_init_8 (fun q_1 cA_2 H hK hP hD hS => ?_)
  have hP : va_P (dC, dI) vwCl [(h1, .inr (9, [.null, .int 0, .int 0])), (q_1, .inl (cA_2, 160, .inl (fun _ => (0 : Int32))))] H := hP
  have hD : va_D A [(h1, .inr (9, [.null, .int 0, .int 0])), (q_1, .inl (cA_2, 160, .inl (fun _ => (0 : Int32))))] := hD
  have hK : va_K (dC, dI) vwCl [(cA_2, .int)] s := hK
  refine va_putF (D := (dC, dI)) (ci := 9) (v := .ref q_1) (ty := .array .int) (C := RX9) (T := TX9) (N := 3) hx hb hts (fun w h => List.mem_cons_of_mem _ (iT_X9 w h)) tyX9 tyX9_ok nmX9 hown hK hP hD hS 0 rfl rfl 0 (by decide) (hts (.fieldLink RX9 9 "RedTent$Text" "steps" "[I") (List.mem_cons_of_mem _ tw_1_186)) (fun _ h9 => h9) rfl hin rfl (by decide +kernel) rfl rfl (Nat.le_of_ble_eq_true rfl) dX9_init_10 (fun H locs hP hD hS => ?_)
  have hP : va_P (dC, dI) vwCl [(h1, .inr (9, [.ref q_1, .int 0, .int 0])), (q_1, .inl (cA_2, 160, .inl (fun _ => (0 : Int32))))] H := hP
  have hD : va_D A [(h1, .inr (9, [.ref q_1, .int 0, .int 0])), (q_1, .inl (cA_2, 160, .inl (fun _ => (0 : Int32))))] := hD
  have hP9 := hP.sub (ws' := [(h1, .inr (9, [.ref q_1, .int 0, .int 0])), (q_1, .inl (cA_2, 160, .inl (fun _ => (0 : Int32))))]) [0, 1] rfl
  have hD9 := hD.sub (ws' := [(h1, .inr (9, [.ref q_1, .int 0, .int 0])), (q_1, .inl (cA_2, 160, .inl (fun _ => (0 : Int32))))]) [0, 1] (by decide) rfl
  have hK9 := hK.sub (tys' := [(cA_2, .int)]) [0] rfl
  refine W.widen (k := 1) (n := 160) (by decide +kernel) (by decide +kernel) ?_
  exact W.vret hx hb hr (fun t ht hW => ⟨⟨(), rfl, trivial, (fun k => match k with  | _ => q_1), (fun k => match k with  | _ => cA_2), by rw [ht]; exact hP9, hD9, va_K.moved hW.alike hK9⟩, hS.F ht⟩) hS.2.2 dX9_init_13
set_option maxHeartbeats 1000000 in
set_option maxRecDepth 100000 in
theorem rt_X0_init (l : Launch) (dC : Nat → ClassId) (dI : Nat → Nat → Nat) (sz : Nat) (h1 : Nat) (p0 p1 p2 p3 p4 p5 : Int32) : Met l yX0_init wsX0_init ({ frames := 1, cells := 6, slots := 372, locals := 12 }) (va_Pc [.ref h1, .int p0, .int p1, .int p2, .int p3, .int p4, .int p5] (fun U => U.heap.size = sz ∧ va_P (dC, dI) vwCl [(h1, .inr (0, [.int 0, .int 0, .int 0, .int 0, .int 0, .int 0, .null, .null, .null, .int 0, .null, .null, .int 0, .null, .int 0]))] U.heap ∧ va_K (dC, dI) vwCl [] U ∧ va_D (fun _ => True) [(h1, .inr (0, [.int 0, .int 0, .int 0, .int 0, .int 0, .int 0, .null, .null, .null, .int 0, .null, .null, .int 0, .null, .int 0]))])) (va_Qv (fun u : Int32 => match u with | p6 => p6 = p2 - 1) (fun (u : Int32) (t : State) => match u with | p6 => ∃ (ab : Nat → Nat), ∃ (cb : Nat → ClassId), va_P (dC, dI) vwCl [(h1, .inr (0, [.int p0, .int p1, .int p2, .int p3, .int p5, .int p4, .ref (ab 6), .ref (ab 7), .ref (ab 8), .int 0, .ref (ab 10), .ref (ab 11), .int 0, .ref (ab 13), .int p6])), (ab 6, .inl (cb 6, 40, .inl (fun _ => (0 : Int32)))), (ab 7, .inl (cb 7, 40, .inl (fun _ => (0 : Int32)))), (ab 8, .inl (cb 8, 40, .inr (.inl (fun _ => (0 : Int64))))), (ab 10, .inl (cb 10, 6, .inl (fun _ => (0 : Int32)))), (ab 11, .inl (cb 11, 6, .inl (fun _ => (0 : Int32)))), (ab 13, .inl (cb 13, 240, .inr (.inl (fun _ => (0 : Int64)))))] t.heap ∧ va_D (va_A [(h1, .inr (0, [.int 0, .int 0, .int 0, .int 0, .int 0, .int 0, .null, .null, .null, .int 0, .null, .null, .int 0, .null, .int 0]))] sz) [(h1, .inr (0, [.int p0, .int p1, .int p2, .int p3, .int p5, .int p4, .ref (ab 6), .ref (ab 7), .ref (ab 8), .int 0, .ref (ab 10), .ref (ab 11), .int 0, .ref (ab 13), .int p6])), (ab 6, .inl (cb 6, 40, .inl (fun _ => (0 : Int32)))), (ab 7, .inl (cb 7, 40, .inl (fun _ => (0 : Int32)))), (ab 8, .inl (cb 8, 40, .inr (.inl (fun _ => (0 : Int64))))), (ab 10, .inl (cb 10, 6, .inl (fun _ => (0 : Int32)))), (ab 11, .inl (cb 11, 6, .inl (fun _ => (0 : Int32)))), (ab 13, .inl (cb 13, 240, .inr (.inl (fun _ => (0 : Int64)))))] ∧ va_K (dC, dI) vwCl [(cb 6, .int), (cb 7, .int), (cb 8, .long), (cb 10, .int), (cb 11, .int), (cb 13, .long)] t) (va_A [(h1, .inr (0, [.int 0, .int 0, .int 0, .int 0, .int 0, .int 0, .null, .null, .null, .int 0, .null, .null, .int 0, .null, .int 0]))] sz)) 6 372 (va_A [(h1, .inr (0, [.int 0, .int 0, .int 0, .int 0, .int 0, .int 0, .null, .null, .null, .int 0, .null, .null, .int 0, .null, .int 0]))] sz) := by
  refine Met.ofW (cc := cX0_init) (maxL := 7) (ret := none) (by decide) rfl ?_
  intro p e s m args below meth c s₁ B hml hv
  obtain ⟨rfl, hsz, hP, hK, hD0⟩ := hv
  have hx := B.exec
  have hb := B.bytes
  have hr := B.returns
  have hts := atoms_spec (ws := wsX0_init) B.pre
  have hown : s.vm.findClass RX0 = some m.cls := findClass_of_methodNamed B.named
  have hlocks := B.notSynchronized
  have hin : meth.name = "<init>" := (name_of_methodNamed B.named B.method).1
  subst hsz
  have hD := hD0.self (sz := s.heap.size)
  generalize hAe : va_A [(h1, .inr (0, [.int 0, .int 0, .int 0, .int 0, .int 0, .int 0, .null, .null, .null, .int 0, .null, .null, .int 0, .null, .int 0]))] s.heap.size = A at hD  ⊢
  have hA : ∀ q : Nat, s.heap.size ≤ q → A q := fun q h => by rw [← hAe]; exact Or.inr h
  have hS : va_S A s.heap s.heap [] := va_S.rf
  have hl := lv_entry ([.ref h1, .int p0, .int p1, .int p2, .int p3, .int p4, .int p5]) (n := 7) (Nat.le_of_ble_eq_true rfl)
  rw [lg_entry_eq]
  generalize (lg_sl ([.ref h1, .int p0, .int p1, .int p2, .int p3, .int p4, .int p5]) ++ List.replicate (7 - (lg_sl ([.ref h1, .int p0, .int p1, .int p2, .int p3, .int p4, .int p5])).length) Slot.unset).toArray = ls at hl ⊢
  have hl : lv_has ls 7 [(0, .ref h1), (1, .int p0), (2, .int p1), (3, .int p2), (4, .int p3), (5, .int p4), (6, .int p5)] := hl
  refine lv_aload_n hx hb dX0_init_0 rfl (lv_at hl 0 rfl) ?_
  refine W.objInit hx hb hown (hts (.methodLink RX0 3 objectInit) (List.mem_cons_of_mem _ tw_2_202)) (hts (.instanceMethod objectInit) (List.mem_cons_of_mem _ tw_1_27)) (hts (.code objectInit ⟨#[0xb1]⟩ 1 none) (List.mem_cons_of_mem _ tw_1_28)) rfl (by rw [hml]; exact hl.1) rfl dX0_init_1 (Nat.le_of_ble_eq_true rfl) (Nat.le_of_ble_eq_true rfl) ?_
  refine W.eq (g2 := F0 m 4 ls []) rfl ?_
  refine lv_aload_n hx hb dX0_init_4 rfl (lv_at hl 0 rfl) ?_
  refine lv_bipush (v := 40) hx hb dX0_init_5 (by decide) ?_
  refine va_newa (atype := .int) (ty := .int) (N' := 40) (a0 := (40, .inl (fun _ => (0 : Int32)))) hx hb (hts (.arrayClass .int) (List.mem_cons_of_mem _ tw_1_50)) rfl hK hP hD hS hA (fun _ => rfl) (by decide +kernel) (by decide +kernel) (by decide +kernel) (by decide +kernel) (by decide +kernel) dX0_init_7 (fun q_1 cA_2 H hK hP hD hS => ?_)
  have hP : va_P (dC, dI) vwCl [(h1, .inr (0, [.int 0, .int 0, .int 0, .int 0, .int 0, .int 0, .null, .null, .null, .int 0, .null, .null, .int 0, .null, .int 0])), (q_1, .inl (cA_2, 40, .inl (fun _ => (0 : Int32))))] H := hP
  have hD : va_D A [(h1, .inr (0, [.int 0, .int 0, .int 0, .int 0, .int 0, .int 0, .null, .null, .null, .int 0, .null, .null, .int 0, .null, .int 0])), (q_1, .inl (cA_2, 40, .inl (fun _ => (0 : Int32))))] := hD
  have hK : va_K (dC, dI) vwCl [(cA_2, .int)] s := hK
  refine va_putF (D := (dC, dI)) (ci := 0) (v := .ref q_1) (ty := .array .int) (C := RX0) (T := TX0) (N := 15) hx hb hts (fun w h => List.mem_cons_of_mem _ (iT_X0 w h)) tyX0 tyX0_ok nmX0 hown hK hP hD hS 0 rfl rfl 6 (by decide) (hts (.fieldLink RX0 9 "RedTent$Body" "fixHour" "[I") (List.mem_cons_of_mem _ tw_2_215)) (fun _ h9 => h9) rfl hin rfl (by decide +kernel) rfl rfl (Nat.le_of_ble_eq_true rfl) dX0_init_9 (fun H locs hP hD hS => ?_)
  have hP : va_P (dC, dI) vwCl [(h1, .inr (0, [.int 0, .int 0, .int 0, .int 0, .int 0, .int 0, .ref q_1, .null, .null, .int 0, .null, .null, .int 0, .null, .int 0])), (q_1, .inl (cA_2, 40, .inl (fun _ => (0 : Int32))))] H := hP
  have hD : va_D A [(h1, .inr (0, [.int 0, .int 0, .int 0, .int 0, .int 0, .int 0, .ref q_1, .null, .null, .int 0, .null, .null, .int 0, .null, .int 0])), (q_1, .inl (cA_2, 40, .inl (fun _ => (0 : Int32))))] := hD
  refine lv_aload_n hx hb dX0_init_12 rfl (lv_at hl 0 rfl) ?_
  refine lv_bipush (v := 40) hx hb dX0_init_13 (by decide) ?_
  refine va_newa (atype := .int) (ty := .int) (N' := 40) (a0 := (40, .inl (fun _ => (0 : Int32)))) hx hb (hts (.arrayClass .int) (List.mem_cons_of_mem _ tw_1_50)) rfl hK hP hD hS hA (fun _ => rfl) (by decide +kernel) (by decide +kernel) (by decide +kernel) (by decide +kernel) (by decide +kernel) dX0_init_15 (fun q_3 cA_4 H hK hP hD hS => ?_)
  have hP : va_P (dC, dI) vwCl [(h1, .inr (0, [.int 0, .int 0, .int 0, .int 0, .int 0, .int 0, .ref q_1, .null, .null, .int 0, .null, .null, .int 0, .null, .int 0])), (q_1, .inl (cA_2, 40, .inl (fun _ => (0 : Int32)))), (q_3, .inl (cA_4, 40, .inl (fun _ => (0 : Int32))))] H := hP
  have hD : va_D A [(h1, .inr (0, [.int 0, .int 0, .int 0, .int 0, .int 0, .int 0, .ref q_1, .null, .null, .int 0, .null, .null, .int 0, .null, .int 0])), (q_1, .inl (cA_2, 40, .inl (fun _ => (0 : Int32)))), (q_3, .inl (cA_4, 40, .inl (fun _ => (0 : Int32))))] := hD
  have hK : va_K (dC, dI) vwCl [(cA_2, .int), (cA_4, .int)] s := hK
  refine va_putF (D := (dC, dI)) (ci := 0) (v := .ref q_3) (ty := .array .int) (C := RX0) (T := TX0) (N := 15) hx hb hts (fun w h => List.mem_cons_of_mem _ (iT_X0 w h)) tyX0 tyX0_ok nmX0 hown hK hP hD hS 0 rfl rfl 7 (by decide) (hts (.fieldLink RX0 15 "RedTent$Body" "fixTold" "[I") (List.mem_cons_of_mem _ tw_2_216)) (fun _ h9 => h9) rfl hin rfl (by decide +kernel) rfl rfl (Nat.le_of_ble_eq_true rfl) dX0_init_17 (fun H locs hP hD hS => ?_)
  have hP : va_P (dC, dI) vwCl [(h1, .inr (0, [.int 0, .int 0, .int 0, .int 0, .int 0, .int 0, .ref q_1, .ref q_3, .null, .int 0, .null, .null, .int 0, .null, .int 0])), (q_1, .inl (cA_2, 40, .inl (fun _ => (0 : Int32)))), (q_3, .inl (cA_4, 40, .inl (fun _ => (0 : Int32))))] H := hP
  have hD : va_D A [(h1, .inr (0, [.int 0, .int 0, .int 0, .int 0, .int 0, .int 0, .ref q_1, .ref q_3, .null, .int 0, .null, .null, .int 0, .null, .int 0])), (q_1, .inl (cA_2, 40, .inl (fun _ => (0 : Int32)))), (q_3, .inl (cA_4, 40, .inl (fun _ => (0 : Int32))))] := hD
  refine lv_aload_n hx hb dX0_init_20 rfl (lv_at hl 0 rfl) ?_
  refine lv_bipush (v := 40) hx hb dX0_init_21 (by decide) ?_
  refine va_newa (atype := .long) (ty := .long) (N' := 40) (a0 := (40, .inr (.inl (fun _ => (0 : Int64))))) hx hb (hts (.arrayClass .long) (List.mem_cons_of_mem _ tw_1_104)) rfl hK hP hD hS hA (fun _ => rfl) (by decide +kernel) (by decide +kernel) (by decide +kernel) (by decide +kernel) (by decide +kernel) dX0_init_23 (fun q_5 cA_6 H hK hP hD hS => ?_)
  have hP : va_P (dC, dI) vwCl [(h1, .inr (0, [.int 0, .int 0, .int 0, .int 0, .int 0, .int 0, .ref q_1, .ref q_3, .null, .int 0, .null, .null, .int 0, .null, .int 0])), (q_1, .inl (cA_2, 40, .inl (fun _ => (0 : Int32)))), (q_3, .inl (cA_4, 40, .inl (fun _ => (0 : Int32)))), (q_5, .inl (cA_6, 40, .inr (.inl (fun _ => (0 : Int64)))))] H := hP
  have hD : va_D A [(h1, .inr (0, [.int 0, .int 0, .int 0, .int 0, .int 0, .int 0, .ref q_1, .ref q_3, .null, .int 0, .null, .null, .int 0, .null, .int 0])), (q_1, .inl (cA_2, 40, .inl (fun _ => (0 : Int32)))), (q_3, .inl (cA_4, 40, .inl (fun _ => (0 : Int32)))), (q_5, .inl (cA_6, 40, .inr (.inl (fun _ => (0 : Int64)))))] := hD
  have hK : va_K (dC, dI) vwCl [(cA_2, .int), (cA_4, .int), (cA_6, .long)] s := hK
  refine va_putF (D := (dC, dI)) (ci := 0) (v := .ref q_5) (ty := .array .long) (C := RX0) (T := TX0) (N := 15) hx hb hts (fun w h => List.mem_cons_of_mem _ (iT_X0 w h)) tyX0 tyX0_ok nmX0 hown hK hP hD hS 0 rfl rfl 8 (by decide) (hts (.fieldLink RX0 18 "RedTent$Body" "fixCells" "[J") (List.mem_cons_of_mem _ tw_2_217)) (fun _ h9 => h9) rfl hin rfl (by decide +kernel) rfl rfl (Nat.le_of_ble_eq_true rfl) dX0_init_25 (fun H locs hP hD hS => ?_)
  have hP : va_P (dC, dI) vwCl [(h1, .inr (0, [.int 0, .int 0, .int 0, .int 0, .int 0, .int 0, .ref q_1, .ref q_3, .ref q_5, .int 0, .null, .null, .int 0, .null, .int 0])), (q_1, .inl (cA_2, 40, .inl (fun _ => (0 : Int32)))), (q_3, .inl (cA_4, 40, .inl (fun _ => (0 : Int32)))), (q_5, .inl (cA_6, 40, .inr (.inl (fun _ => (0 : Int64)))))] H := hP
  have hD : va_D A [(h1, .inr (0, [.int 0, .int 0, .int 0, .int 0, .int 0, .int 0, .ref q_1, .ref q_3, .ref q_5, .int 0, .null, .null, .int 0, .null, .int 0])), (q_1, .inl (cA_2, 40, .inl (fun _ => (0 : Int32)))), (q_3, .inl (cA_4, 40, .inl (fun _ => (0 : Int32)))), (q_5, .inl (cA_6, 40, .inr (.inl (fun _ => (0 : Int64)))))] := hD
  refine lv_aload_n hx hb dX0_init_28 rfl (lv_at hl 0 rfl) ?_
  refine lv_bipush (v := 6) hx hb dX0_init_29 (by decide) ?_
  refine va_newa (atype := .int) (ty := .int) (N' := 6) (a0 := (6, .inl (fun _ => (0 : Int32)))) hx hb (hts (.arrayClass .int) (List.mem_cons_of_mem _ tw_1_50)) rfl hK hP hD hS hA (fun _ => rfl) (by decide +kernel) (by decide +kernel) (by decide +kernel) (by decide +kernel) (by decide +kernel) dX0_init_31 (fun q_7 cA_8 H hK hP hD hS => ?_)
  have hP : va_P (dC, dI) vwCl [(h1, .inr (0, [.int 0, .int 0, .int 0, .int 0, .int 0, .int 0, .ref q_1, .ref q_3, .ref q_5, .int 0, .null, .null, .int 0, .null, .int 0])), (q_1, .inl (cA_2, 40, .inl (fun _ => (0 : Int32)))), (q_3, .inl (cA_4, 40, .inl (fun _ => (0 : Int32)))), (q_5, .inl (cA_6, 40, .inr (.inl (fun _ => (0 : Int64))))), (q_7, .inl (cA_8, 6, .inl (fun _ => (0 : Int32))))] H := hP
  have hD : va_D A [(h1, .inr (0, [.int 0, .int 0, .int 0, .int 0, .int 0, .int 0, .ref q_1, .ref q_3, .ref q_5, .int 0, .null, .null, .int 0, .null, .int 0])), (q_1, .inl (cA_2, 40, .inl (fun _ => (0 : Int32)))), (q_3, .inl (cA_4, 40, .inl (fun _ => (0 : Int32)))), (q_5, .inl (cA_6, 40, .inr (.inl (fun _ => (0 : Int64))))), (q_7, .inl (cA_8, 6, .inl (fun _ => (0 : Int32))))] := hD
  have hK : va_K (dC, dI) vwCl [(cA_2, .int), (cA_4, .int), (cA_6, .long), (cA_8, .int)] s := hK
  refine va_putF (D := (dC, dI)) (ci := 0) (v := .ref q_7) (ty := .array .int) (C := RX0) (T := TX0) (N := 15) hx hb hts (fun w h => List.mem_cons_of_mem _ (iT_X0 w h)) tyX0 tyX0_ok nmX0 hown hK hP hD hS 0 rfl rfl 10 (by decide) (hts (.fieldLink RX0 22 "RedTent$Body" "flownLane" "[I") (List.mem_cons_of_mem _ tw_2_219)) (fun _ h9 => h9) rfl hin rfl (by decide +kernel) rfl rfl (Nat.le_of_ble_eq_true rfl) dX0_init_33 (fun H locs hP hD hS => ?_)
  have hP : va_P (dC, dI) vwCl [(h1, .inr (0, [.int 0, .int 0, .int 0, .int 0, .int 0, .int 0, .ref q_1, .ref q_3, .ref q_5, .int 0, .ref q_7, .null, .int 0, .null, .int 0])), (q_1, .inl (cA_2, 40, .inl (fun _ => (0 : Int32)))), (q_3, .inl (cA_4, 40, .inl (fun _ => (0 : Int32)))), (q_5, .inl (cA_6, 40, .inr (.inl (fun _ => (0 : Int64))))), (q_7, .inl (cA_8, 6, .inl (fun _ => (0 : Int32))))] H := hP
  have hD : va_D A [(h1, .inr (0, [.int 0, .int 0, .int 0, .int 0, .int 0, .int 0, .ref q_1, .ref q_3, .ref q_5, .int 0, .ref q_7, .null, .int 0, .null, .int 0])), (q_1, .inl (cA_2, 40, .inl (fun _ => (0 : Int32)))), (q_3, .inl (cA_4, 40, .inl (fun _ => (0 : Int32)))), (q_5, .inl (cA_6, 40, .inr (.inl (fun _ => (0 : Int64))))), (q_7, .inl (cA_8, 6, .inl (fun _ => (0 : Int32))))] := hD
  refine lv_aload_n hx hb dX0_init_36 rfl (lv_at hl 0 rfl) ?_
  refine lv_bipush (v := 6) hx hb dX0_init_37 (by decide) ?_
  refine va_newa (atype := .int) (ty := .int) (N' := 6) (a0 := (6, .inl (fun _ => (0 : Int32)))) hx hb (hts (.arrayClass .int) (List.mem_cons_of_mem _ tw_1_50)) rfl hK hP hD hS hA (fun _ => rfl) (by decide +kernel) (by decide +kernel) (by decide +kernel) (by decide +kernel) (by decide +kernel) dX0_init_39 (fun q_9 cA_10 H hK hP hD hS => ?_)
  have hP : va_P (dC, dI) vwCl [(h1, .inr (0, [.int 0, .int 0, .int 0, .int 0, .int 0, .int 0, .ref q_1, .ref q_3, .ref q_5, .int 0, .ref q_7, .null, .int 0, .null, .int 0])), (q_1, .inl (cA_2, 40, .inl (fun _ => (0 : Int32)))), (q_3, .inl (cA_4, 40, .inl (fun _ => (0 : Int32)))), (q_5, .inl (cA_6, 40, .inr (.inl (fun _ => (0 : Int64))))), (q_7, .inl (cA_8, 6, .inl (fun _ => (0 : Int32)))), (q_9, .inl (cA_10, 6, .inl (fun _ => (0 : Int32))))] H := hP
  have hD : va_D A [(h1, .inr (0, [.int 0, .int 0, .int 0, .int 0, .int 0, .int 0, .ref q_1, .ref q_3, .ref q_5, .int 0, .ref q_7, .null, .int 0, .null, .int 0])), (q_1, .inl (cA_2, 40, .inl (fun _ => (0 : Int32)))), (q_3, .inl (cA_4, 40, .inl (fun _ => (0 : Int32)))), (q_5, .inl (cA_6, 40, .inr (.inl (fun _ => (0 : Int64))))), (q_7, .inl (cA_8, 6, .inl (fun _ => (0 : Int32)))), (q_9, .inl (cA_10, 6, .inl (fun _ => (0 : Int32))))] := hD
  have hK : va_K (dC, dI) vwCl [(cA_2, .int), (cA_4, .int), (cA_6, .long), (cA_8, .int), (cA_10, .int)] s := hK
  refine va_putF (D := (dC, dI)) (ci := 0) (v := .ref q_9) (ty := .array .int) (C := RX0) (T := TX0) (N := 15) hx hb hts (fun w h => List.mem_cons_of_mem _ (iT_X0 w h)) tyX0 tyX0_ok nmX0 hown hK hP hD hS 0 rfl rfl 11 (by decide) (hts (.fieldLink RX0 25 "RedTent$Body" "flownHour" "[I") (List.mem_cons_of_mem _ tw_2_221)) (fun _ h9 => h9) rfl hin rfl (by decide +kernel) rfl rfl (Nat.le_of_ble_eq_true rfl) dX0_init_41 (fun H locs hP hD hS => ?_)
  have hP : va_P (dC, dI) vwCl [(h1, .inr (0, [.int 0, .int 0, .int 0, .int 0, .int 0, .int 0, .ref q_1, .ref q_3, .ref q_5, .int 0, .ref q_7, .ref q_9, .int 0, .null, .int 0])), (q_1, .inl (cA_2, 40, .inl (fun _ => (0 : Int32)))), (q_3, .inl (cA_4, 40, .inl (fun _ => (0 : Int32)))), (q_5, .inl (cA_6, 40, .inr (.inl (fun _ => (0 : Int64))))), (q_7, .inl (cA_8, 6, .inl (fun _ => (0 : Int32)))), (q_9, .inl (cA_10, 6, .inl (fun _ => (0 : Int32))))] H := hP
  have hD : va_D A [(h1, .inr (0, [.int 0, .int 0, .int 0, .int 0, .int 0, .int 0, .ref q_1, .ref q_3, .ref q_5, .int 0, .ref q_7, .ref q_9, .int 0, .null, .int 0])), (q_1, .inl (cA_2, 40, .inl (fun _ => (0 : Int32)))), (q_3, .inl (cA_4, 40, .inl (fun _ => (0 : Int32)))), (q_5, .inl (cA_6, 40, .inr (.inl (fun _ => (0 : Int64))))), (q_7, .inl (cA_8, 6, .inl (fun _ => (0 : Int32)))), (q_9, .inl (cA_10, 6, .inl (fun _ => (0 : Int32))))] := hD
  refine lv_aload_n hx hb dX0_init_44 rfl (lv_at hl 0 rfl) ?_
  refine lv_sipush (v := 240) hx hb dX0_init_45 (by decide) ?_
  refine va_newa (atype := .long) (ty := .long) (N' := 240) (a0 := (240, .inr (.inl (fun _ => (0 : Int64))))) hx hb (hts (.arrayClass .long) (List.mem_cons_of_mem _ tw_1_104)) rfl hK hP hD hS hA (fun _ => rfl) (by decide +kernel) (by decide +kernel) (by decide +kernel) (by decide +kernel) (by decide +kernel) dX0_init_48 (fun q_11 cA_12 H hK hP hD hS => ?_)
  have hP : va_P (dC, dI) vwCl [(h1, .inr (0, [.int 0, .int 0, .int 0, .int 0, .int 0, .int 0, .ref q_1, .ref q_3, .ref q_5, .int 0, .ref q_7, .ref q_9, .int 0, .null, .int 0])), (q_1, .inl (cA_2, 40, .inl (fun _ => (0 : Int32)))), (q_3, .inl (cA_4, 40, .inl (fun _ => (0 : Int32)))), (q_5, .inl (cA_6, 40, .inr (.inl (fun _ => (0 : Int64))))), (q_7, .inl (cA_8, 6, .inl (fun _ => (0 : Int32)))), (q_9, .inl (cA_10, 6, .inl (fun _ => (0 : Int32)))), (q_11, .inl (cA_12, 240, .inr (.inl (fun _ => (0 : Int64)))))] H := hP
  have hD : va_D A [(h1, .inr (0, [.int 0, .int 0, .int 0, .int 0, .int 0, .int 0, .ref q_1, .ref q_3, .ref q_5, .int 0, .ref q_7, .ref q_9, .int 0, .null, .int 0])), (q_1, .inl (cA_2, 40, .inl (fun _ => (0 : Int32)))), (q_3, .inl (cA_4, 40, .inl (fun _ => (0 : Int32)))), (q_5, .inl (cA_6, 40, .inr (.inl (fun _ => (0 : Int64))))), (q_7, .inl (cA_8, 6, .inl (fun _ => (0 : Int32)))), (q_9, .inl (cA_10, 6, .inl (fun _ => (0 : Int32)))), (q_11, .inl (cA_12, 240, .inr (.inl (fun _ => (0 : Int64)))))] := hD
  have hK : va_K (dC, dI) vwCl [(cA_2, .int), (cA_4, .int), (cA_6, .long), (cA_8, .int), (cA_10, .int), (cA_12, .long)] s := hK
  refine va_putF (D := (dC, dI)) (ci := 0) (v := .ref q_11) (ty := .array .long) (C := RX0) (T := TX0) (N := 15) hx hb hts (fun w h => List.mem_cons_of_mem _ (iT_X0 w h)) tyX0 tyX0_ok nmX0 hown hK hP hD hS 0 rfl rfl 13 (by decide) (hts (.fieldLink RX0 28 "RedTent$Body" "patches" "[J") (List.mem_cons_of_mem _ tw_2_226)) (fun _ h9 => h9) rfl hin rfl (by decide +kernel) rfl rfl (Nat.le_of_ble_eq_true rfl) dX0_init_50 (fun H locs hP hD hS => ?_)
  have hP : va_P (dC, dI) vwCl [(h1, .inr (0, [.int 0, .int 0, .int 0, .int 0, .int 0, .int 0, .ref q_1, .ref q_3, .ref q_5, .int 0, .ref q_7, .ref q_9, .int 0, .ref q_11, .int 0])), (q_1, .inl (cA_2, 40, .inl (fun _ => (0 : Int32)))), (q_3, .inl (cA_4, 40, .inl (fun _ => (0 : Int32)))), (q_5, .inl (cA_6, 40, .inr (.inl (fun _ => (0 : Int64))))), (q_7, .inl (cA_8, 6, .inl (fun _ => (0 : Int32)))), (q_9, .inl (cA_10, 6, .inl (fun _ => (0 : Int32)))), (q_11, .inl (cA_12, 240, .inr (.inl (fun _ => (0 : Int64)))))] H := hP
  have hD : va_D A [(h1, .inr (0, [.int 0, .int 0, .int 0, .int 0, .int 0, .int 0, .ref q_1, .ref q_3, .ref q_5, .int 0, .ref q_7, .ref q_9, .int 0, .ref q_11, .int 0])), (q_1, .inl (cA_2, 40, .inl (fun _ => (0 : Int32)))), (q_3, .inl (cA_4, 40, .inl (fun _ => (0 : Int32)))), (q_5, .inl (cA_6, 40, .inr (.inl (fun _ => (0 : Int64))))), (q_7, .inl (cA_8, 6, .inl (fun _ => (0 : Int32)))), (q_9, .inl (cA_10, 6, .inl (fun _ => (0 : Int32)))), (q_11, .inl (cA_12, 240, .inr (.inl (fun _ => (0 : Int64)))))] := hD
  refine lv_aload_n hx hb dX0_init_53 rfl (lv_at hl 0 rfl) ?_
  refine lv_iload_n hx hb dX0_init_54 rfl (lv_at hl 1 rfl) ?_
  refine va_putF (D := (dC, dI)) (ci := 0) (v := .int p0) (ty := .int) (C := RX0) (T := TX0) (N := 15) hx hb hts (fun w h => List.mem_cons_of_mem _ (iT_X0 w h)) tyX0 tyX0_ok nmX0 hown hK hP hD hS 0 rfl rfl 0 (by decide) (hts (.fieldLink RX0 31 "RedTent$Body" "kind" "I") (List.mem_cons_of_mem _ tw_2_203)) (fun _ h9 => h9) rfl hin rfl (by decide +kernel) rfl rfl (Nat.le_of_ble_eq_true rfl) dX0_init_55 (fun H locs hP hD hS => ?_)
  have hP : va_P (dC, dI) vwCl [(h1, .inr (0, [.int p0, .int 0, .int 0, .int 0, .int 0, .int 0, .ref q_1, .ref q_3, .ref q_5, .int 0, .ref q_7, .ref q_9, .int 0, .ref q_11, .int 0])), (q_1, .inl (cA_2, 40, .inl (fun _ => (0 : Int32)))), (q_3, .inl (cA_4, 40, .inl (fun _ => (0 : Int32)))), (q_5, .inl (cA_6, 40, .inr (.inl (fun _ => (0 : Int64))))), (q_7, .inl (cA_8, 6, .inl (fun _ => (0 : Int32)))), (q_9, .inl (cA_10, 6, .inl (fun _ => (0 : Int32)))), (q_11, .inl (cA_12, 240, .inr (.inl (fun _ => (0 : Int64)))))] H := hP
  have hD : va_D A [(h1, .inr (0, [.int p0, .int 0, .int 0, .int 0, .int 0, .int 0, .ref q_1, .ref q_3, .ref q_5, .int 0, .ref q_7, .ref q_9, .int 0, .ref q_11, .int 0])), (q_1, .inl (cA_2, 40, .inl (fun _ => (0 : Int32)))), (q_3, .inl (cA_4, 40, .inl (fun _ => (0 : Int32)))), (q_5, .inl (cA_6, 40, .inr (.inl (fun _ => (0 : Int64))))), (q_7, .inl (cA_8, 6, .inl (fun _ => (0 : Int32)))), (q_9, .inl (cA_10, 6, .inl (fun _ => (0 : Int32)))), (q_11, .inl (cA_12, 240, .inr (.inl (fun _ => (0 : Int64)))))] := hD
  refine lv_aload_n hx hb dX0_init_58 rfl (lv_at hl 0 rfl) ?_
  refine lv_iload_n hx hb dX0_init_59 rfl (lv_at hl 2 rfl) ?_
  refine va_putF (D := (dC, dI)) (ci := 0) (v := .int p1) (ty := .int) (C := RX0) (T := TX0) (N := 15) hx hb hts (fun w h => List.mem_cons_of_mem _ (iT_X0 w h)) tyX0 tyX0_ok nmX0 hown hK hP hD hS 0 rfl rfl 1 (by decide) (hts (.fieldLink RX0 35 "RedTent$Body" "start" "I") (List.mem_cons_of_mem _ tw_2_205)) (fun _ h9 => h9) rfl hin rfl (by decide +kernel) rfl rfl (Nat.le_of_ble_eq_true rfl) dX0_init_60 (fun H locs hP hD hS => ?_)
  have hP : va_P (dC, dI) vwCl [(h1, .inr (0, [.int p0, .int p1, .int 0, .int 0, .int 0, .int 0, .ref q_1, .ref q_3, .ref q_5, .int 0, .ref q_7, .ref q_9, .int 0, .ref q_11, .int 0])), (q_1, .inl (cA_2, 40, .inl (fun _ => (0 : Int32)))), (q_3, .inl (cA_4, 40, .inl (fun _ => (0 : Int32)))), (q_5, .inl (cA_6, 40, .inr (.inl (fun _ => (0 : Int64))))), (q_7, .inl (cA_8, 6, .inl (fun _ => (0 : Int32)))), (q_9, .inl (cA_10, 6, .inl (fun _ => (0 : Int32)))), (q_11, .inl (cA_12, 240, .inr (.inl (fun _ => (0 : Int64)))))] H := hP
  have hD : va_D A [(h1, .inr (0, [.int p0, .int p1, .int 0, .int 0, .int 0, .int 0, .ref q_1, .ref q_3, .ref q_5, .int 0, .ref q_7, .ref q_9, .int 0, .ref q_11, .int 0])), (q_1, .inl (cA_2, 40, .inl (fun _ => (0 : Int32)))), (q_3, .inl (cA_4, 40, .inl (fun _ => (0 : Int32)))), (q_5, .inl (cA_6, 40, .inr (.inl (fun _ => (0 : Int64))))), (q_7, .inl (cA_8, 6, .inl (fun _ => (0 : Int32)))), (q_9, .inl (cA_10, 6, .inl (fun _ => (0 : Int32)))), (q_11, .inl (cA_12, 240, .inr (.inl (fun _ => (0 : Int64)))))] := hD
  refine lv_aload_n hx hb dX0_init_63 rfl (lv_at hl 0 rfl) ?_
  refine lv_iload_n hx hb dX0_init_64 rfl (lv_at hl 3 rfl) ?_
  refine va_putF (D := (dC, dI)) (ci := 0) (v := .int p2) (ty := .int) (C := RX0) (T := TX0) (N := 15) hx hb hts (fun w h => List.mem_cons_of_mem _ (iT_X0 w h)) tyX0 tyX0_ok nmX0 hown hK hP hD hS 0 rfl rfl 2 (by decide) (hts (.fieldLink RX0 38 "RedTent$Body" "begin" "I") (List.mem_cons_of_mem _ tw_2_207)) (fun _ h9 => h9) rfl hin rfl (by decide +kernel) rfl rfl (Nat.le_of_ble_eq_true rfl) dX0_init_65 (fun H locs hP hD hS => ?_)
  have hP : va_P (dC, dI) vwCl [(h1, .inr (0, [.int p0, .int p1, .int p2, .int 0, .int 0, .int 0, .ref q_1, .ref q_3, .ref q_5, .int 0, .ref q_7, .ref q_9, .int 0, .ref q_11, .int 0])), (q_1, .inl (cA_2, 40, .inl (fun _ => (0 : Int32)))), (q_3, .inl (cA_4, 40, .inl (fun _ => (0 : Int32)))), (q_5, .inl (cA_6, 40, .inr (.inl (fun _ => (0 : Int64))))), (q_7, .inl (cA_8, 6, .inl (fun _ => (0 : Int32)))), (q_9, .inl (cA_10, 6, .inl (fun _ => (0 : Int32)))), (q_11, .inl (cA_12, 240, .inr (.inl (fun _ => (0 : Int64)))))] H := hP
  have hD : va_D A [(h1, .inr (0, [.int p0, .int p1, .int p2, .int 0, .int 0, .int 0, .ref q_1, .ref q_3, .ref q_5, .int 0, .ref q_7, .ref q_9, .int 0, .ref q_11, .int 0])), (q_1, .inl (cA_2, 40, .inl (fun _ => (0 : Int32)))), (q_3, .inl (cA_4, 40, .inl (fun _ => (0 : Int32)))), (q_5, .inl (cA_6, 40, .inr (.inl (fun _ => (0 : Int64))))), (q_7, .inl (cA_8, 6, .inl (fun _ => (0 : Int32)))), (q_9, .inl (cA_10, 6, .inl (fun _ => (0 : Int32)))), (q_11, .inl (cA_12, 240, .inr (.inl (fun _ => (0 : Int64)))))] := hD
  refine lv_aload_n hx hb dX0_init_68 rfl (lv_at hl 0 rfl) ?_
  refine lv_iload hx hb dX0_init_69 (lv_at hl 4 rfl) ?_
  refine va_putF (D := (dC, dI)) (ci := 0) (v := .int p3) (ty := .int) (C := RX0) (T := TX0) (N := 15) hx hb hts (fun w h => List.mem_cons_of_mem _ (iT_X0 w h)) tyX0 tyX0_ok nmX0 hown hK hP hD hS 0 rfl rfl 3 (by decide) (hts (.fieldLink RX0 41 "RedTent$Body" "men" "I") (List.mem_cons_of_mem _ tw_2_209)) (fun _ h9 => h9) rfl hin rfl (by decide +kernel) rfl rfl (Nat.le_of_ble_eq_true rfl) dX0_init_71 (fun H locs hP hD hS => ?_)
  have hP : va_P (dC, dI) vwCl [(h1, .inr (0, [.int p0, .int p1, .int p2, .int p3, .int 0, .int 0, .ref q_1, .ref q_3, .ref q_5, .int 0, .ref q_7, .ref q_9, .int 0, .ref q_11, .int 0])), (q_1, .inl (cA_2, 40, .inl (fun _ => (0 : Int32)))), (q_3, .inl (cA_4, 40, .inl (fun _ => (0 : Int32)))), (q_5, .inl (cA_6, 40, .inr (.inl (fun _ => (0 : Int64))))), (q_7, .inl (cA_8, 6, .inl (fun _ => (0 : Int32)))), (q_9, .inl (cA_10, 6, .inl (fun _ => (0 : Int32)))), (q_11, .inl (cA_12, 240, .inr (.inl (fun _ => (0 : Int64)))))] H := hP
  have hD : va_D A [(h1, .inr (0, [.int p0, .int p1, .int p2, .int p3, .int 0, .int 0, .ref q_1, .ref q_3, .ref q_5, .int 0, .ref q_7, .ref q_9, .int 0, .ref q_11, .int 0])), (q_1, .inl (cA_2, 40, .inl (fun _ => (0 : Int32)))), (q_3, .inl (cA_4, 40, .inl (fun _ => (0 : Int32)))), (q_5, .inl (cA_6, 40, .inr (.inl (fun _ => (0 : Int64))))), (q_7, .inl (cA_8, 6, .inl (fun _ => (0 : Int32)))), (q_9, .inl (cA_10, 6, .inl (fun _ => (0 : Int32)))), (q_11, .inl (cA_12, 240, .inr (.inl (fun _ => (0 : Int64)))))] := hD
  refine lv_aload_n hx hb dX0_init_74 rfl (lv_at hl 0 rfl) ?_
  refine lv_iload hx hb dX0_init_75 (lv_at hl 5 rfl) ?_
  refine va_put (D := (dC, dI)) (ci := 0) (v := .int p4) (ty := .int) (C := RX0) (T := TX0) (N := 15) hx hb hts (fun w h => List.mem_cons_of_mem _ (iT_X0 w h)) tyX0 tyX0_ok nmX0 hown hK hP hD hS 0 rfl rfl 5 (by decide) (hts (.fieldLink RX0 44 "RedTent$Body" "food" "I") (List.mem_cons_of_mem _ tw_2_213)) (fun _ h9 => h9) rfl (by decide +kernel) rfl rfl (Nat.le_of_ble_eq_true rfl) dX0_init_77 (fun H locs hP hD hS => ?_)
  have hP : va_P (dC, dI) vwCl [(h1, .inr (0, [.int p0, .int p1, .int p2, .int p3, .int 0, .int p4, .ref q_1, .ref q_3, .ref q_5, .int 0, .ref q_7, .ref q_9, .int 0, .ref q_11, .int 0])), (q_1, .inl (cA_2, 40, .inl (fun _ => (0 : Int32)))), (q_3, .inl (cA_4, 40, .inl (fun _ => (0 : Int32)))), (q_5, .inl (cA_6, 40, .inr (.inl (fun _ => (0 : Int64))))), (q_7, .inl (cA_8, 6, .inl (fun _ => (0 : Int32)))), (q_9, .inl (cA_10, 6, .inl (fun _ => (0 : Int32)))), (q_11, .inl (cA_12, 240, .inr (.inl (fun _ => (0 : Int64)))))] H := hP
  have hD : va_D A [(h1, .inr (0, [.int p0, .int p1, .int p2, .int p3, .int 0, .int p4, .ref q_1, .ref q_3, .ref q_5, .int 0, .ref q_7, .ref q_9, .int 0, .ref q_11, .int 0])), (q_1, .inl (cA_2, 40, .inl (fun _ => (0 : Int32)))), (q_3, .inl (cA_4, 40, .inl (fun _ => (0 : Int32)))), (q_5, .inl (cA_6, 40, .inr (.inl (fun _ => (0 : Int64))))), (q_7, .inl (cA_8, 6, .inl (fun _ => (0 : Int32)))), (q_9, .inl (cA_10, 6, .inl (fun _ => (0 : Int32)))), (q_11, .inl (cA_12, 240, .inr (.inl (fun _ => (0 : Int64)))))] := hD
  refine lv_aload_n hx hb dX0_init_80 rfl (lv_at hl 0 rfl) ?_
  refine lv_iload hx hb dX0_init_81 (lv_at hl 6 rfl) ?_
  refine va_putF (D := (dC, dI)) (ci := 0) (v := .int p5) (ty := .int) (C := RX0) (T := TX0) (N := 15) hx hb hts (fun w h => List.mem_cons_of_mem _ (iT_X0 w h)) tyX0 tyX0_ok nmX0 hown hK hP hD hS 0 rfl rfl 4 (by decide) (hts (.fieldLink RX0 47 "RedTent$Body" "fuel" "I") (List.mem_cons_of_mem _ tw_2_211)) (fun _ h9 => h9) rfl hin rfl (by decide +kernel) rfl rfl (Nat.le_of_ble_eq_true rfl) dX0_init_83 (fun H locs hP hD hS => ?_)
  have hP : va_P (dC, dI) vwCl [(h1, .inr (0, [.int p0, .int p1, .int p2, .int p3, .int p5, .int p4, .ref q_1, .ref q_3, .ref q_5, .int 0, .ref q_7, .ref q_9, .int 0, .ref q_11, .int 0])), (q_1, .inl (cA_2, 40, .inl (fun _ => (0 : Int32)))), (q_3, .inl (cA_4, 40, .inl (fun _ => (0 : Int32)))), (q_5, .inl (cA_6, 40, .inr (.inl (fun _ => (0 : Int64))))), (q_7, .inl (cA_8, 6, .inl (fun _ => (0 : Int32)))), (q_9, .inl (cA_10, 6, .inl (fun _ => (0 : Int32)))), (q_11, .inl (cA_12, 240, .inr (.inl (fun _ => (0 : Int64)))))] H := hP
  have hD : va_D A [(h1, .inr (0, [.int p0, .int p1, .int p2, .int p3, .int p5, .int p4, .ref q_1, .ref q_3, .ref q_5, .int 0, .ref q_7, .ref q_9, .int 0, .ref q_11, .int 0])), (q_1, .inl (cA_2, 40, .inl (fun _ => (0 : Int32)))), (q_3, .inl (cA_4, 40, .inl (fun _ => (0 : Int32)))), (q_5, .inl (cA_6, 40, .inr (.inl (fun _ => (0 : Int64))))), (q_7, .inl (cA_8, 6, .inl (fun _ => (0 : Int32)))), (q_9, .inl (cA_10, 6, .inl (fun _ => (0 : Int32)))), (q_11, .inl (cA_12, 240, .inr (.inl (fun _ => (0 : Int64)))))] := hD
  refine lv_aload_n hx hb dX0_init_86 rfl (lv_at hl 0 rfl) ?_
  refine lv_iload_n hx hb dX0_init_87 rfl (lv_at hl 3 rfl) ?_
  refine lv_iconst (v := 1) hx hb dX0_init_88 (by decide) ?_
  refine lv_isub hx hb dX0_init_89 ?_
  refine lv_topi (fun f_13 ef_13 => ?_)
  refine va_put (D := (dC, dI)) (ci := 0) (v := .int f_13) (ty := .int) (C := RX0) (T := TX0) (N := 15) hx hb hts (fun w h => List.mem_cons_of_mem _ (iT_X0 w h)) tyX0 tyX0_ok nmX0 hown hK hP hD hS 0 rfl rfl 14 (by decide) (hts (.fieldLink RX0 50 "RedTent$Body" "sureTo" "I") (List.mem_cons_of_mem _ tw_2_227)) (fun _ h9 => h9) rfl (by decide +kernel) rfl rfl (Nat.le_of_ble_eq_true rfl) dX0_init_90 (fun H locs hP hD hS => ?_)
  have hP : va_P (dC, dI) vwCl [(h1, .inr (0, [.int p0, .int p1, .int p2, .int p3, .int p5, .int p4, .ref q_1, .ref q_3, .ref q_5, .int 0, .ref q_7, .ref q_9, .int 0, .ref q_11, .int f_13])), (q_1, .inl (cA_2, 40, .inl (fun _ => (0 : Int32)))), (q_3, .inl (cA_4, 40, .inl (fun _ => (0 : Int32)))), (q_5, .inl (cA_6, 40, .inr (.inl (fun _ => (0 : Int64))))), (q_7, .inl (cA_8, 6, .inl (fun _ => (0 : Int32)))), (q_9, .inl (cA_10, 6, .inl (fun _ => (0 : Int32)))), (q_11, .inl (cA_12, 240, .inr (.inl (fun _ => (0 : Int64)))))] H := hP
  have hD : va_D A [(h1, .inr (0, [.int p0, .int p1, .int p2, .int p3, .int p5, .int p4, .ref q_1, .ref q_3, .ref q_5, .int 0, .ref q_7, .ref q_9, .int 0, .ref q_11, .int f_13])), (q_1, .inl (cA_2, 40, .inl (fun _ => (0 : Int32)))), (q_3, .inl (cA_4, 40, .inl (fun _ => (0 : Int32)))), (q_5, .inl (cA_6, 40, .inr (.inl (fun _ => (0 : Int64))))), (q_7, .inl (cA_8, 6, .inl (fun _ => (0 : Int32)))), (q_9, .inl (cA_10, 6, .inl (fun _ => (0 : Int32)))), (q_11, .inl (cA_12, 240, .inr (.inl (fun _ => (0 : Int64)))))] := hD
  have hP9 := hP.sub (ws' := [(h1, .inr (0, [.int p0, .int p1, .int p2, .int p3, .int p5, .int p4, .ref q_1, .ref q_3, .ref q_5, .int 0, .ref q_7, .ref q_9, .int 0, .ref q_11, .int f_13])), (q_1, .inl (cA_2, 40, .inl (fun _ => (0 : Int32)))), (q_3, .inl (cA_4, 40, .inl (fun _ => (0 : Int32)))), (q_5, .inl (cA_6, 40, .inr (.inl (fun _ => (0 : Int64))))), (q_7, .inl (cA_8, 6, .inl (fun _ => (0 : Int32)))), (q_9, .inl (cA_10, 6, .inl (fun _ => (0 : Int32)))), (q_11, .inl (cA_12, 240, .inr (.inl (fun _ => (0 : Int64)))))]) [0, 1, 2, 3, 4, 5, 6] rfl
  have hD9 := hD.sub (ws' := [(h1, .inr (0, [.int p0, .int p1, .int p2, .int p3, .int p5, .int p4, .ref q_1, .ref q_3, .ref q_5, .int 0, .ref q_7, .ref q_9, .int 0, .ref q_11, .int f_13])), (q_1, .inl (cA_2, 40, .inl (fun _ => (0 : Int32)))), (q_3, .inl (cA_4, 40, .inl (fun _ => (0 : Int32)))), (q_5, .inl (cA_6, 40, .inr (.inl (fun _ => (0 : Int64))))), (q_7, .inl (cA_8, 6, .inl (fun _ => (0 : Int32)))), (q_9, .inl (cA_10, 6, .inl (fun _ => (0 : Int32)))), (q_11, .inl (cA_12, 240, .inr (.inl (fun _ => (0 : Int64)))))]) [0, 1, 2, 3, 4, 5, 6] (by decide) rfl
  have hK9 := hK.sub (tys' := [(cA_2, .int), (cA_4, .int), (cA_6, .long), (cA_8, .int), (cA_10, .int), (cA_12, .long)]) [0, 1, 2, 3, 4, 5] rfl
  refine W.widen (k := 6) (n := 372) (by decide +kernel) (by decide +kernel) ?_
  exact W.vret hx hb hr (fun t ht hW => ⟨⟨f_13, rfl, ef_13, (fun k => match k with | 6 => q_1 | 7 => q_3 | 8 => q_5 | 10 => q_7 | 11 => q_9 | _ => q_11), (fun k => match k with | 6 => cA_2 | 7 => cA_4 | 8 => cA_6 | 10 => cA_8 | 11 => cA_10 | _ => cA_12), by rw [ht]; exact hP9, hD9, va_K.moved hW.alike hK9⟩, hS.F ht⟩) hS.2.2 dX0_init_93

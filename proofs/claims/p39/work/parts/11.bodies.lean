theorem zb_X0_eats_0 : (decode cX0_eats 0 = .ok (.aload_n 0, 1)) ∧ (decode cX0_eats 1 = .ok (.getfield 41, 3)) ∧ (decode cX0_eats 4 = .ok (.getstatic 53, 3)) ∧ (decode cX0_eats 7 = .ok (.aload_n 0, 1)) ∧ (decode cX0_eats 8 = .ok (.getfield 31, 3)) ∧ (decode cX0_eats 11 = .ok (.iaload, 1)) ∧ (decode cX0_eats 12 = .ok (.imul, 1)) := by decide +kernel
theorem dX0_eats_0 : decode cX0_eats 0 = .ok (.aload_n 0, 1) := zb_X0_eats_0.1
theorem dX0_eats_1 : decode cX0_eats 1 = .ok (.getfield 41, 3) := zb_X0_eats_0.2.1
theorem dX0_eats_4 : decode cX0_eats 4 = .ok (.getstatic 53, 3) := zb_X0_eats_0.2.2.1
theorem dX0_eats_7 : decode cX0_eats 7 = .ok (.aload_n 0, 1) := zb_X0_eats_0.2.2.2.1
theorem dX0_eats_8 : decode cX0_eats 8 = .ok (.getfield 31, 3) := zb_X0_eats_0.2.2.2.2.1
theorem dX0_eats_11 : decode cX0_eats 11 = .ok (.iaload, 1) := zb_X0_eats_0.2.2.2.2.2.1
theorem dX0_eats_12 : decode cX0_eats 12 = .ok (.imul, 1) := zb_X0_eats_0.2.2.2.2.2.2
theorem zb_X0_eats_13 : (decode cX0_eats 13 = .ok (.getstatic 56, 3)) ∧ (decode cX0_eats 16 = .ok (.aload_n 0, 1)) ∧ (decode cX0_eats 17 = .ok (.getfield 31, 3)) ∧ (decode cX0_eats 20 = .ok (.iaload, 1)) ∧ (decode cX0_eats 21 = .ok (.iadd, 1)) ∧ (decode cX0_eats 22 = .ok (.ireturn, 1)) := by decide +kernel
theorem dX0_eats_13 : decode cX0_eats 13 = .ok (.getstatic 56, 3) := zb_X0_eats_13.1
theorem dX0_eats_16 : decode cX0_eats 16 = .ok (.aload_n 0, 1) := zb_X0_eats_13.2.1
theorem dX0_eats_17 : decode cX0_eats 17 = .ok (.getfield 31, 3) := zb_X0_eats_13.2.2.1
theorem dX0_eats_20 : decode cX0_eats 20 = .ok (.iaload, 1) := zb_X0_eats_13.2.2.2.1
theorem dX0_eats_21 : decode cX0_eats 21 = .ok (.iadd, 1) := zb_X0_eats_13.2.2.2.2.1
theorem dX0_eats_22 : decode cX0_eats 22 = .ok (.ireturn, 1) := zb_X0_eats_13.2.2.2.2.2
theorem zb_X0_eatFor_0 : (decode cX0_eatFor 0 = .ok (.aload_n 0, 1)) ∧ (decode cX0_eatFor 1 = .ok (.iconst 0, 1)) ∧ (decode cX0_eatFor 2 = .ok (.aload_n 0, 1)) ∧ (decode cX0_eatFor 3 = .ok (.getfield 44, 3)) ∧ (decode cX0_eatFor 6 = .ok (.iload_n 1, 1)) ∧ (decode cX0_eatFor 7 = .ok (.aload_n 0, 1)) ∧ (decode cX0_eatFor 8 = .ok (.invokevirtual 62, 3)) ∧ (decode cX0_eatFor 11 = .ok (.imul, 1)) ∧ (decode cX0_eatFor 12 = .ok (.isub, 1)) ∧ (decode cX0_eatFor 13 = .ok (.invokestatic 66, 3)) ∧ (decode cX0_eatFor 16 = .ok (.putfield 44, 3)) ∧ (decode cX0_eatFor 19 = .ok (.return_, 1)) := by decide +kernel
theorem dX0_eatFor_0 : decode cX0_eatFor 0 = .ok (.aload_n 0, 1) := zb_X0_eatFor_0.1
theorem dX0_eatFor_1 : decode cX0_eatFor 1 = .ok (.iconst 0, 1) := zb_X0_eatFor_0.2.1
theorem dX0_eatFor_2 : decode cX0_eatFor 2 = .ok (.aload_n 0, 1) := zb_X0_eatFor_0.2.2.1
theorem dX0_eatFor_3 : decode cX0_eatFor 3 = .ok (.getfield 44, 3) := zb_X0_eatFor_0.2.2.2.1
theorem dX0_eatFor_6 : decode cX0_eatFor 6 = .ok (.iload_n 1, 1) := zb_X0_eatFor_0.2.2.2.2.1
theorem dX0_eatFor_7 : decode cX0_eatFor 7 = .ok (.aload_n 0, 1) := zb_X0_eatFor_0.2.2.2.2.2.1
theorem dX0_eatFor_8 : decode cX0_eatFor 8 = .ok (.invokevirtual 62, 3) := zb_X0_eatFor_0.2.2.2.2.2.2.1
theorem dX0_eatFor_11 : decode cX0_eatFor 11 = .ok (.imul, 1) := zb_X0_eatFor_0.2.2.2.2.2.2.2.1
theorem dX0_eatFor_12 : decode cX0_eatFor 12 = .ok (.isub, 1) := zb_X0_eatFor_0.2.2.2.2.2.2.2.2.1
theorem dX0_eatFor_13 : decode cX0_eatFor 13 = .ok (.invokestatic 66, 3) := zb_X0_eatFor_0.2.2.2.2.2.2.2.2.2.1
theorem dX0_eatFor_16 : decode cX0_eatFor 16 = .ok (.putfield 44, 3) := zb_X0_eatFor_0.2.2.2.2.2.2.2.2.2.2.1
theorem dX0_eatFor_19 : decode cX0_eatFor 19 = .ok (.return_, 1) := zb_X0_eatFor_0.2.2.2.2.2.2.2.2.2.2.2
theorem zb_X0_foodLasts_0 : (decode cX0_foodLasts 0 = .ok (.aload_n 0, 1)) ∧ (decode cX0_foodLasts 1 = .ok (.invokevirtual 62, 3)) ∧ (decode cX0_foodLasts 4 = .ok (.istore_n 2, 1)) ∧ (decode cX0_foodLasts 5 = .ok (.iload_n 2, 1)) ∧ (decode cX0_foodLasts 6 = .ok (.ifCond .ne 9, 3)) ∧ (decode cX0_foodLasts 15 = .ok (.iload_n 1, 1)) ∧ (decode cX0_foodLasts 16 = .ok (.aload_n 0, 1)) := by decide +kernel
theorem dX0_foodLasts_0 : decode cX0_foodLasts 0 = .ok (.aload_n 0, 1) := zb_X0_foodLasts_0.1
theorem dX0_foodLasts_1 : decode cX0_foodLasts 1 = .ok (.invokevirtual 62, 3) := zb_X0_foodLasts_0.2.1
theorem dX0_foodLasts_4 : decode cX0_foodLasts 4 = .ok (.istore_n 2, 1) := zb_X0_foodLasts_0.2.2.1
theorem dX0_foodLasts_5 : decode cX0_foodLasts 5 = .ok (.iload_n 2, 1) := zb_X0_foodLasts_0.2.2.2.1
theorem dX0_foodLasts_6 : decode cX0_foodLasts 6 = .ok (.ifCond .ne 9, 3) := zb_X0_foodLasts_0.2.2.2.2.1
theorem dX0_foodLasts_15 : decode cX0_foodLasts 15 = .ok (.iload_n 1, 1) := zb_X0_foodLasts_0.2.2.2.2.2.1
theorem dX0_foodLasts_16 : decode cX0_foodLasts 16 = .ok (.aload_n 0, 1) := zb_X0_foodLasts_0.2.2.2.2.2.2
theorem zb_X0_foodLasts_17 : (decode cX0_foodLasts 17 = .ok (.getfield 44, 3)) ∧ (decode cX0_foodLasts 20 = .ok (.iload_n 2, 1)) ∧ (decode cX0_foodLasts 21 = .ok (.idiv, 1)) ∧ (decode cX0_foodLasts 22 = .ok (.iadd, 1)) ∧ (decode cX0_foodLasts 23 = .ok (.ireturn, 1)) ∧ (decode cX0_foodLasts 9 = .ok (.sipush 9999, 3)) ∧ (decode cX0_foodLasts 12 = .ok (.goto 11, 3)) := by decide +kernel
theorem dX0_foodLasts_17 : decode cX0_foodLasts 17 = .ok (.getfield 44, 3) := zb_X0_foodLasts_17.1
theorem dX0_foodLasts_20 : decode cX0_foodLasts 20 = .ok (.iload_n 2, 1) := zb_X0_foodLasts_17.2.1
theorem dX0_foodLasts_21 : decode cX0_foodLasts 21 = .ok (.idiv, 1) := zb_X0_foodLasts_17.2.2.1
theorem dX0_foodLasts_22 : decode cX0_foodLasts 22 = .ok (.iadd, 1) := zb_X0_foodLasts_17.2.2.2.1
theorem dX0_foodLasts_23 : decode cX0_foodLasts 23 = .ok (.ireturn, 1) := zb_X0_foodLasts_17.2.2.2.2.1
theorem dX0_foodLasts_9 : decode cX0_foodLasts 9 = .ok (.sipush 9999, 3) := zb_X0_foodLasts_17.2.2.2.2.2.1
theorem dX0_foodLasts_12 : decode cX0_foodLasts 12 = .ok (.goto 11, 3) := zb_X0_foodLasts_17.2.2.2.2.2.2
theorem zb_X0_isUnder_0 : (decode cX0_isUnder 0 = .ok (.aload_n 0, 1)) ∧ (decode cX0_isUnder 1 = .ok (.getfield 31, 3)) ∧ (decode cX0_isUnder 4 = .ok (.istore_n 2, 1)) ∧ (decode cX0_isUnder 5 = .ok (.iconst 0, 1)) ∧ (decode cX0_isUnder 6 = .ok (.istore_n 3, 1)) ∧ (decode cX0_isUnder 7 = .ok (.iload_n 3, 1)) ∧ (decode cX0_isUnder 8 = .ok (.bipush 6, 2)) ∧ (decode cX0_isUnder 10 = .ok (.if_icmp .ge 24, 3)) ∧ (decode cX0_isUnder 34 = .ok (.iload_n 2, 1)) := by decide +kernel
theorem dX0_isUnder_0 : decode cX0_isUnder 0 = .ok (.aload_n 0, 1) := zb_X0_isUnder_0.1
theorem dX0_isUnder_1 : decode cX0_isUnder 1 = .ok (.getfield 31, 3) := zb_X0_isUnder_0.2.1
theorem dX0_isUnder_4 : decode cX0_isUnder 4 = .ok (.istore_n 2, 1) := zb_X0_isUnder_0.2.2.1
theorem dX0_isUnder_5 : decode cX0_isUnder 5 = .ok (.iconst 0, 1) := zb_X0_isUnder_0.2.2.2.1
theorem dX0_isUnder_6 : decode cX0_isUnder 6 = .ok (.istore_n 3, 1) := zb_X0_isUnder_0.2.2.2.2.1
theorem dX0_isUnder_7 : decode cX0_isUnder 7 = .ok (.iload_n 3, 1) := zb_X0_isUnder_0.2.2.2.2.2.1
theorem dX0_isUnder_8 : decode cX0_isUnder 8 = .ok (.bipush 6, 2) := zb_X0_isUnder_0.2.2.2.2.2.2.1
theorem dX0_isUnder_10 : decode cX0_isUnder 10 = .ok (.if_icmp .ge 24, 3) := zb_X0_isUnder_0.2.2.2.2.2.2.2.1
theorem dX0_isUnder_34 : decode cX0_isUnder 34 = .ok (.iload_n 2, 1) := zb_X0_isUnder_0.2.2.2.2.2.2.2.2
theorem zb_X0_isUnder_35 : (decode cX0_isUnder 35 = .ok (.iload_n 1, 1)) ∧ (decode cX0_isUnder 36 = .ok (.if_icmp .ne 7, 3)) ∧ (decode cX0_isUnder 43 = .ok (.iconst 0, 1)) ∧ (decode cX0_isUnder 44 = .ok (.ireturn, 1)) ∧ (decode cX0_isUnder 39 = .ok (.iconst 1, 1)) ∧ (decode cX0_isUnder 40 = .ok (.goto 4, 3)) ∧ (decode cX0_isUnder 13 = .ok (.iload_n 2, 1)) ∧ (decode cX0_isUnder 14 = .ok (.ifCond .le 20, 3)) ∧ (decode cX0_isUnder 17 = .ok (.iload_n 2, 1)) := by decide +kernel
theorem dX0_isUnder_35 : decode cX0_isUnder 35 = .ok (.iload_n 1, 1) := zb_X0_isUnder_35.1
theorem dX0_isUnder_36 : decode cX0_isUnder 36 = .ok (.if_icmp .ne 7, 3) := zb_X0_isUnder_35.2.1
theorem dX0_isUnder_43 : decode cX0_isUnder 43 = .ok (.iconst 0, 1) := zb_X0_isUnder_35.2.2.1
theorem dX0_isUnder_44 : decode cX0_isUnder 44 = .ok (.ireturn, 1) := zb_X0_isUnder_35.2.2.2.1
theorem dX0_isUnder_39 : decode cX0_isUnder 39 = .ok (.iconst 1, 1) := zb_X0_isUnder_35.2.2.2.2.1
theorem dX0_isUnder_40 : decode cX0_isUnder 40 = .ok (.goto 4, 3) := zb_X0_isUnder_35.2.2.2.2.2.1
theorem dX0_isUnder_13 : decode cX0_isUnder 13 = .ok (.iload_n 2, 1) := zb_X0_isUnder_35.2.2.2.2.2.2.1
theorem dX0_isUnder_14 : decode cX0_isUnder 14 = .ok (.ifCond .le 20, 3) := zb_X0_isUnder_35.2.2.2.2.2.2.2.1
theorem dX0_isUnder_17 : decode cX0_isUnder 17 = .ok (.iload_n 2, 1) := zb_X0_isUnder_35.2.2.2.2.2.2.2.2
theorem zb_X0_isUnder_18 : (decode cX0_isUnder 18 = .ok (.iload_n 1, 1)) ∧ (decode cX0_isUnder 19 = .ok (.if_icmp .eq 15, 3)) ∧ (decode cX0_isUnder 22 = .ok (.getstatic 72, 3)) ∧ (decode cX0_isUnder 25 = .ok (.iload_n 2, 1)) ∧ (decode cX0_isUnder 26 = .ok (.iaload, 1)) ∧ (decode cX0_isUnder 27 = .ok (.istore_n 2, 1)) ∧ (decode cX0_isUnder 28 = .ok (.iinc 3 1, 3)) ∧ (decode cX0_isUnder 31 = .ok (.goto (-24), 3)) := by decide +kernel
theorem dX0_isUnder_18 : decode cX0_isUnder 18 = .ok (.iload_n 1, 1) := zb_X0_isUnder_18.1
theorem dX0_isUnder_19 : decode cX0_isUnder 19 = .ok (.if_icmp .eq 15, 3) := zb_X0_isUnder_18.2.1
theorem dX0_isUnder_22 : decode cX0_isUnder 22 = .ok (.getstatic 72, 3) := zb_X0_isUnder_18.2.2.1
theorem dX0_isUnder_25 : decode cX0_isUnder 25 = .ok (.iload_n 2, 1) := zb_X0_isUnder_18.2.2.2.1
theorem dX0_isUnder_26 : decode cX0_isUnder 26 = .ok (.iaload, 1) := zb_X0_isUnder_18.2.2.2.2.1
theorem dX0_isUnder_27 : decode cX0_isUnder 27 = .ok (.istore_n 2, 1) := zb_X0_isUnder_18.2.2.2.2.2.1
theorem dX0_isUnder_28 : decode cX0_isUnder 28 = .ok (.iinc 3 1, 3) := zb_X0_isUnder_18.2.2.2.2.2.2.1
theorem dX0_isUnder_31 : decode cX0_isUnder 31 = .ok (.goto (-24), 3) := zb_X0_isUnder_18.2.2.2.2.2.2.2
theorem zb_X10_blow_23 : (decode cX10_blow 23 = .ok (.istore 5, 2)) ∧ (decode cX10_blow 41 = .ok (.lstore 6, 2)) ∧ (decode cX10_blow 43 = .ok (.iload 5, 2)) ∧ (decode cX10_blow 48 = .ok (.idiv, 1)) ∧ (decode cX10_blow 51 = .ok (.iload 4, 2)) ∧ (decode cX10_blow 54 = .ok (.istore 8, 2)) ∧ (decode cX10_blow 56 = .ok (.iload 8, 2)) ∧ (decode cX10_blow 58 = .ok (.iload 5, 2)) ∧ (decode cX10_blow 62 = .ok (.idiv, 1)) ∧ (decode cX10_blow 65 = .ok (.irem, 1)) := by decide +kernel
theorem dX10_blow_23 : decode cX10_blow 23 = .ok (.istore 5, 2) := zb_X10_blow_23.1
theorem dX10_blow_41 : decode cX10_blow 41 = .ok (.lstore 6, 2) := zb_X10_blow_23.2.1
theorem dX10_blow_43 : decode cX10_blow 43 = .ok (.iload 5, 2) := zb_X10_blow_23.2.2.1
theorem dX10_blow_48 : decode cX10_blow 48 = .ok (.idiv, 1) := zb_X10_blow_23.2.2.2.1
theorem dX10_blow_51 : decode cX10_blow 51 = .ok (.iload 4, 2) := zb_X10_blow_23.2.2.2.2.1
theorem dX10_blow_54 : decode cX10_blow 54 = .ok (.istore 8, 2) := zb_X10_blow_23.2.2.2.2.2.1
theorem dX10_blow_56 : decode cX10_blow 56 = .ok (.iload 8, 2) := zb_X10_blow_23.2.2.2.2.2.2.1
theorem dX10_blow_58 : decode cX10_blow 58 = .ok (.iload 5, 2) := zb_X10_blow_23.2.2.2.2.2.2.2.1
theorem dX10_blow_62 : decode cX10_blow 62 = .ok (.idiv, 1) := zb_X10_blow_23.2.2.2.2.2.2.2.2.1
theorem dX10_blow_65 : decode cX10_blow 65 = .ok (.irem, 1) := zb_X10_blow_23.2.2.2.2.2.2.2.2.2
theorem zb_X10_blow_68 : (decode cX10_blow 68 = .ok (.iload 4, 2)) ∧ (decode cX10_blow 92 = .ok (.lstore 8, 2)) ∧ (decode cX10_blow 94 = .ok (.iload 5, 2)) ∧ (decode cX10_blow 98 = .ok (.idiv, 1)) ∧ (decode cX10_blow 101 = .ok (.irem, 1)) ∧ (decode cX10_blow 104 = .ok (.iload 4, 2)) ∧ (decode cX10_blow 107 = .ok (.istore 10, 2)) ∧ (decode cX10_blow 109 = .ok (.iload 10, 2)) ∧ (decode cX10_blow 111 = .ok (.iload 5, 2)) ∧ (decode cX10_blow 115 = .ok (.irem, 1)) := by decide +kernel
theorem dX10_blow_68 : decode cX10_blow 68 = .ok (.iload 4, 2) := zb_X10_blow_68.1
theorem dX10_blow_92 : decode cX10_blow 92 = .ok (.lstore 8, 2) := zb_X10_blow_68.2.1
theorem dX10_blow_94 : decode cX10_blow 94 = .ok (.iload 5, 2) := zb_X10_blow_68.2.2.1
theorem dX10_blow_98 : decode cX10_blow 98 = .ok (.idiv, 1) := zb_X10_blow_68.2.2.2.1
theorem dX10_blow_101 : decode cX10_blow 101 = .ok (.irem, 1) := zb_X10_blow_68.2.2.2.2.1
theorem dX10_blow_104 : decode cX10_blow 104 = .ok (.iload 4, 2) := zb_X10_blow_68.2.2.2.2.2.1
theorem dX10_blow_107 : decode cX10_blow 107 = .ok (.istore 10, 2) := zb_X10_blow_68.2.2.2.2.2.2.1
theorem dX10_blow_109 : decode cX10_blow 109 = .ok (.iload 10, 2) := zb_X10_blow_68.2.2.2.2.2.2.2.1
theorem dX10_blow_111 : decode cX10_blow 111 = .ok (.iload 5, 2) := zb_X10_blow_68.2.2.2.2.2.2.2.2.1
theorem dX10_blow_115 : decode cX10_blow 115 = .ok (.irem, 1) := zb_X10_blow_68.2.2.2.2.2.2.2.2.2
theorem zb_X10_blow_118 : (decode cX10_blow 118 = .ok (.iload 4, 2)) ∧ (decode cX10_blow 142 = .ok (.lload 8, 2)) ∧ (decode cX10_blow 144 = .ok (.lreturn, 1)) ∧ (decode cX10_blow 124 = .ok (.lload 8, 2)) ∧ (decode cX10_blow 126 = .ok (.lload 6, 2)) ∧ (decode cX10_blow 128 = .ok (.iload 10, 2)) ∧ (decode cX10_blow 134 = .ok (.lstore 8, 2)) ∧ (decode cX10_blow 136 = .ok (.iinc 10 1, 3)) ∧ (decode cX10_blow 74 = .ok (.lload 6, 2)) ∧ (decode cX10_blow 76 = .ok (.lload_n 2, 1)) := by decide +kernel
theorem dX10_blow_118 : decode cX10_blow 118 = .ok (.iload 4, 2) := zb_X10_blow_118.1
theorem dX10_blow_142 : decode cX10_blow 142 = .ok (.lload 8, 2) := zb_X10_blow_118.2.1
theorem dX10_blow_144 : decode cX10_blow 144 = .ok (.lreturn, 1) := zb_X10_blow_118.2.2.1
theorem dX10_blow_124 : decode cX10_blow 124 = .ok (.lload 8, 2) := zb_X10_blow_118.2.2.2.1
theorem dX10_blow_126 : decode cX10_blow 126 = .ok (.lload 6, 2) := zb_X10_blow_118.2.2.2.2.1
theorem dX10_blow_128 : decode cX10_blow 128 = .ok (.iload 10, 2) := zb_X10_blow_118.2.2.2.2.2.1
theorem dX10_blow_134 : decode cX10_blow 134 = .ok (.lstore 8, 2) := zb_X10_blow_118.2.2.2.2.2.2.1
theorem dX10_blow_136 : decode cX10_blow 136 = .ok (.iinc 10 1, 3) := zb_X10_blow_118.2.2.2.2.2.2.2.1
theorem dX10_blow_74 : decode cX10_blow 74 = .ok (.lload 6, 2) := zb_X10_blow_118.2.2.2.2.2.2.2.2.1
theorem dX10_blow_76 : decode cX10_blow 76 = .ok (.lload_n 2, 1) := zb_X10_blow_118.2.2.2.2.2.2.2.2.2
theorem zb_X10_blow_77 : (decode cX10_blow 77 = .ok (.iload 8, 2)) ∧ (decode cX10_blow 83 = .ok (.lstore 6, 2)) ∧ (decode cX10_blow 85 = .ok (.iinc 8 1, 3)) ∧ (decode cX10_blow 25 = .ok (.iload 5, 2)) ∧ (decode cX10_blow 33 = .ok (.iload 4, 2)) ∧ (decode cX10_blow 38 = .ok (.lload_n 2, 1)) ∧ (decode cX10_blow 39 = .ok (.lreturn, 1)) := by decide +kernel
theorem dX10_blow_77 : decode cX10_blow 77 = .ok (.iload 8, 2) := zb_X10_blow_77.1
theorem dX10_blow_83 : decode cX10_blow 83 = .ok (.lstore 6, 2) := zb_X10_blow_77.2.1
theorem dX10_blow_85 : decode cX10_blow 85 = .ok (.iinc 8 1, 3) := zb_X10_blow_77.2.2.1
theorem dX10_blow_25 : decode cX10_blow 25 = .ok (.iload 5, 2) := zb_X10_blow_77.2.2.2.1
theorem dX10_blow_33 : decode cX10_blow 33 = .ok (.iload 4, 2) := zb_X10_blow_77.2.2.2.2.1
theorem dX10_blow_38 : decode cX10_blow 38 = .ok (.lload_n 2, 1) := zb_X10_blow_77.2.2.2.2.2.1
theorem dX10_blow_39 : decode cX10_blow 39 = .ok (.lreturn, 1) := zb_X10_blow_77.2.2.2.2.2.2
theorem zb_X0_driftIn_0 : (decode cX0_driftIn 0 = .ok (.aload_n 0, 1)) ∧ (decode cX0_driftIn 1 = .ok (.getfield 31, 3)) ∧ (decode cX0_driftIn 4 = .ok (.iconst 2, 1)) ∧ (decode cX0_driftIn 5 = .ok (.if_icmp .ne 5, 3)) ∧ (decode cX0_driftIn 10 = .ok (.aload_n 0, 1)) ∧ (decode cX0_driftIn 11 = .ok (.getfield 31, 3)) ∧ (decode cX0_driftIn 14 = .ok (.iconst 3, 1)) ∧ (decode cX0_driftIn 15 = .ok (.if_icmp .eq 17, 3)) ∧ (decode cX0_driftIn 32 = .ok (.iconst 1, 1)) ∧ (decode cX0_driftIn 33 = .ok (.goto 4, 3)) ∧ (decode cX0_driftIn 37 = .ok (.istore 5, 2)) := by decide +kernel
theorem dX0_driftIn_0 : decode cX0_driftIn 0 = .ok (.aload_n 0, 1) := zb_X0_driftIn_0.1
theorem dX0_driftIn_1 : decode cX0_driftIn 1 = .ok (.getfield 31, 3) := zb_X0_driftIn_0.2.1
theorem dX0_driftIn_4 : decode cX0_driftIn 4 = .ok (.iconst 2, 1) := zb_X0_driftIn_0.2.2.1
theorem dX0_driftIn_5 : decode cX0_driftIn 5 = .ok (.if_icmp .ne 5, 3) := zb_X0_driftIn_0.2.2.2.1
theorem dX0_driftIn_10 : decode cX0_driftIn 10 = .ok (.aload_n 0, 1) := zb_X0_driftIn_0.2.2.2.2.1
theorem dX0_driftIn_11 : decode cX0_driftIn 11 = .ok (.getfield 31, 3) := zb_X0_driftIn_0.2.2.2.2.2.1
theorem dX0_driftIn_14 : decode cX0_driftIn 14 = .ok (.iconst 3, 1) := zb_X0_driftIn_0.2.2.2.2.2.2.1
theorem dX0_driftIn_15 : decode cX0_driftIn 15 = .ok (.if_icmp .eq 17, 3) := zb_X0_driftIn_0.2.2.2.2.2.2.2.1
theorem dX0_driftIn_32 : decode cX0_driftIn 32 = .ok (.iconst 1, 1) := zb_X0_driftIn_0.2.2.2.2.2.2.2.2.1
theorem dX0_driftIn_33 : decode cX0_driftIn 33 = .ok (.goto 4, 3) := zb_X0_driftIn_0.2.2.2.2.2.2.2.2.2.1
theorem dX0_driftIn_37 : decode cX0_driftIn 37 = .ok (.istore 5, 2) := zb_X0_driftIn_0.2.2.2.2.2.2.2.2.2.2
theorem zb_X0_driftIn_39 : (decode cX0_driftIn 39 = .ok (.aload_n 1, 1)) ∧ (decode cX0_driftIn 40 = .ok (.iload_n 2, 1)) ∧ (decode cX0_driftIn 41 = .ok (.lload_n 3, 1)) ∧ (decode cX0_driftIn 42 = .ok (.iload 5, 2)) ∧ (decode cX0_driftIn 44 = .ok (.ifCond .eq 7, 3)) ∧ (decode cX0_driftIn 47 = .ok (.iconst 1, 1)) ∧ (decode cX0_driftIn 48 = .ok (.goto 4, 3)) ∧ (decode cX0_driftIn 52 = .ok (.invokevirtual 75, 3)) ∧ (decode cX0_driftIn 55 = .ok (.lreturn, 1)) ∧ (decode cX0_driftIn 18 = .ok (.aload_n 0, 1)) ∧ (decode cX0_driftIn 19 = .ok (.getfield 31, 3)) := by decide +kernel
theorem dX0_driftIn_39 : decode cX0_driftIn 39 = .ok (.aload_n 1, 1) := zb_X0_driftIn_39.1
theorem dX0_driftIn_40 : decode cX0_driftIn 40 = .ok (.iload_n 2, 1) := zb_X0_driftIn_39.2.1
theorem dX0_driftIn_41 : decode cX0_driftIn 41 = .ok (.lload_n 3, 1) := zb_X0_driftIn_39.2.2.1
theorem dX0_driftIn_42 : decode cX0_driftIn 42 = .ok (.iload 5, 2) := zb_X0_driftIn_39.2.2.2.1
theorem dX0_driftIn_44 : decode cX0_driftIn 44 = .ok (.ifCond .eq 7, 3) := zb_X0_driftIn_39.2.2.2.2.1
theorem dX0_driftIn_47 : decode cX0_driftIn 47 = .ok (.iconst 1, 1) := zb_X0_driftIn_39.2.2.2.2.2.1
theorem dX0_driftIn_48 : decode cX0_driftIn 48 = .ok (.goto 4, 3) := zb_X0_driftIn_39.2.2.2.2.2.2.1
theorem dX0_driftIn_52 : decode cX0_driftIn 52 = .ok (.invokevirtual 75, 3) := zb_X0_driftIn_39.2.2.2.2.2.2.2.1
theorem dX0_driftIn_55 : decode cX0_driftIn 55 = .ok (.lreturn, 1) := zb_X0_driftIn_39.2.2.2.2.2.2.2.2.1
theorem dX0_driftIn_18 : decode cX0_driftIn 18 = .ok (.aload_n 0, 1) := zb_X0_driftIn_39.2.2.2.2.2.2.2.2.2.1
theorem dX0_driftIn_19 : decode cX0_driftIn 19 = .ok (.getfield 31, 3) := zb_X0_driftIn_39.2.2.2.2.2.2.2.2.2.2
theorem zb_X0_driftIn_22 : (decode cX0_driftIn 22 = .ok (.iconst 4, 1)) ∧ (decode cX0_driftIn 23 = .ok (.if_icmp .ne 13, 3)) ∧ (decode cX0_driftIn 36 = .ok (.iconst 0, 1)) ∧ (decode cX0_driftIn 51 = .ok (.iconst 0, 1)) ∧ (decode cX0_driftIn 26 = .ok (.iload_n 2, 1)) ∧ (decode cX0_driftIn 27 = .ok (.iconst 4, 1)) ∧ (decode cX0_driftIn 28 = .ok (.irem, 1)) ∧ (decode cX0_driftIn 29 = .ok (.ifCond .ne 7, 3)) ∧ (decode cX0_driftIn 8 = .ok (.lload_n 3, 1)) ∧ (decode cX0_driftIn 9 = .ok (.lreturn, 1)) := by decide +kernel
theorem dX0_driftIn_22 : decode cX0_driftIn 22 = .ok (.iconst 4, 1) := zb_X0_driftIn_22.1
theorem dX0_driftIn_23 : decode cX0_driftIn 23 = .ok (.if_icmp .ne 13, 3) := zb_X0_driftIn_22.2.1
theorem dX0_driftIn_36 : decode cX0_driftIn 36 = .ok (.iconst 0, 1) := zb_X0_driftIn_22.2.2.1
theorem dX0_driftIn_51 : decode cX0_driftIn 51 = .ok (.iconst 0, 1) := zb_X0_driftIn_22.2.2.2.1
theorem dX0_driftIn_26 : decode cX0_driftIn 26 = .ok (.iload_n 2, 1) := zb_X0_driftIn_22.2.2.2.2.1
theorem dX0_driftIn_27 : decode cX0_driftIn 27 = .ok (.iconst 4, 1) := zb_X0_driftIn_22.2.2.2.2.2.1
theorem dX0_driftIn_28 : decode cX0_driftIn 28 = .ok (.irem, 1) := zb_X0_driftIn_22.2.2.2.2.2.2.1
theorem dX0_driftIn_29 : decode cX0_driftIn 29 = .ok (.ifCond .ne 7, 3) := zb_X0_driftIn_22.2.2.2.2.2.2.2.1
theorem dX0_driftIn_8 : decode cX0_driftIn 8 = .ok (.lload_n 3, 1) := zb_X0_driftIn_22.2.2.2.2.2.2.2.2.1
theorem dX0_driftIn_9 : decode cX0_driftIn 9 = .ok (.lreturn, 1) := zb_X0_driftIn_22.2.2.2.2.2.2.2.2.2
theorem zb_X0_narrowed_0 : (decode cX0_narrowed 0 = .ok (.lload_n 1, 1)) ∧ (decode cX0_narrowed 1 = .ok (.lstore 5, 2)) ∧ (decode cX0_narrowed 3 = .ok (.iconst 0, 1)) ∧ (decode cX0_narrowed 4 = .ok (.istore 7, 2)) ∧ (decode cX0_narrowed 6 = .ok (.iload 7, 2)) ∧ (decode cX0_narrowed 8 = .ok (.iload 4, 2)) ∧ (decode cX0_narrowed 10 = .ok (.if_icmp .ge 32, 3)) ∧ (decode cX0_narrowed 42 = .ok (.lload 5, 2)) ∧ (decode cX0_narrowed 44 = .ok (.lreturn, 1)) ∧ (decode cX0_narrowed 13 = .ok (.aload_n 0, 1)) ∧ (decode cX0_narrowed 14 = .ok (.getfield 9, 3)) ∧ (decode cX0_narrowed 17 = .ok (.iload 7, 2)) := by decide +kernel
theorem dX0_narrowed_0 : decode cX0_narrowed 0 = .ok (.lload_n 1, 1) := zb_X0_narrowed_0.1
theorem dX0_narrowed_1 : decode cX0_narrowed 1 = .ok (.lstore 5, 2) := zb_X0_narrowed_0.2.1
theorem dX0_narrowed_3 : decode cX0_narrowed 3 = .ok (.iconst 0, 1) := zb_X0_narrowed_0.2.2.1
theorem dX0_narrowed_4 : decode cX0_narrowed 4 = .ok (.istore 7, 2) := zb_X0_narrowed_0.2.2.2.1
theorem dX0_narrowed_6 : decode cX0_narrowed 6 = .ok (.iload 7, 2) := zb_X0_narrowed_0.2.2.2.2.1
theorem dX0_narrowed_8 : decode cX0_narrowed 8 = .ok (.iload 4, 2) := zb_X0_narrowed_0.2.2.2.2.2.1
theorem dX0_narrowed_10 : decode cX0_narrowed 10 = .ok (.if_icmp .ge 32, 3) := zb_X0_narrowed_0.2.2.2.2.2.2.1
theorem dX0_narrowed_42 : decode cX0_narrowed 42 = .ok (.lload 5, 2) := zb_X0_narrowed_0.2.2.2.2.2.2.2.1
theorem dX0_narrowed_44 : decode cX0_narrowed 44 = .ok (.lreturn, 1) := zb_X0_narrowed_0.2.2.2.2.2.2.2.2.1
theorem dX0_narrowed_13 : decode cX0_narrowed 13 = .ok (.aload_n 0, 1) := zb_X0_narrowed_0.2.2.2.2.2.2.2.2.2.1
theorem dX0_narrowed_14 : decode cX0_narrowed 14 = .ok (.getfield 9, 3) := zb_X0_narrowed_0.2.2.2.2.2.2.2.2.2.2.1
theorem dX0_narrowed_17 : decode cX0_narrowed 17 = .ok (.iload 7, 2) := zb_X0_narrowed_0.2.2.2.2.2.2.2.2.2.2.2
theorem zb_X0_narrowed_19 : (decode cX0_narrowed 19 = .ok (.iaload, 1)) ∧ (decode cX0_narrowed 20 = .ok (.iload_n 3, 1)) ∧ (decode cX0_narrowed 21 = .ok (.if_icmp .ne 15, 3)) ∧ (decode cX0_narrowed 36 = .ok (.iinc 7 1, 3)) ∧ (decode cX0_narrowed 39 = .ok (.goto (-33), 3)) ∧ (decode cX0_narrowed 24 = .ok (.lload 5, 2)) ∧ (decode cX0_narrowed 26 = .ok (.aload_n 0, 1)) ∧ (decode cX0_narrowed 27 = .ok (.getfield 18, 3)) ∧ (decode cX0_narrowed 30 = .ok (.iload 7, 2)) ∧ (decode cX0_narrowed 32 = .ok (.laload, 1)) ∧ (decode cX0_narrowed 33 = .ok (.land, 1)) ∧ (decode cX0_narrowed 34 = .ok (.lstore 5, 2)) := by decide +kernel
theorem dX0_narrowed_19 : decode cX0_narrowed 19 = .ok (.iaload, 1) := zb_X0_narrowed_19.1
theorem dX0_narrowed_20 : decode cX0_narrowed 20 = .ok (.iload_n 3, 1) := zb_X0_narrowed_19.2.1
theorem dX0_narrowed_21 : decode cX0_narrowed 21 = .ok (.if_icmp .ne 15, 3) := zb_X0_narrowed_19.2.2.1
theorem dX0_narrowed_36 : decode cX0_narrowed 36 = .ok (.iinc 7 1, 3) := zb_X0_narrowed_19.2.2.2.1
theorem dX0_narrowed_39 : decode cX0_narrowed 39 = .ok (.goto (-33), 3) := zb_X0_narrowed_19.2.2.2.2.1
theorem dX0_narrowed_24 : decode cX0_narrowed 24 = .ok (.lload 5, 2) := zb_X0_narrowed_19.2.2.2.2.2.1
theorem dX0_narrowed_26 : decode cX0_narrowed 26 = .ok (.aload_n 0, 1) := zb_X0_narrowed_19.2.2.2.2.2.2.1
theorem dX0_narrowed_27 : decode cX0_narrowed 27 = .ok (.getfield 18, 3) := zb_X0_narrowed_19.2.2.2.2.2.2.2.1
theorem dX0_narrowed_30 : decode cX0_narrowed 30 = .ok (.iload 7, 2) := zb_X0_narrowed_19.2.2.2.2.2.2.2.2.1
theorem dX0_narrowed_32 : decode cX0_narrowed 32 = .ok (.laload, 1) := zb_X0_narrowed_19.2.2.2.2.2.2.2.2.2.1
theorem dX0_narrowed_33 : decode cX0_narrowed 33 = .ok (.land, 1) := zb_X0_narrowed_19.2.2.2.2.2.2.2.2.2.2.1
theorem dX0_narrowed_34 : decode cX0_narrowed 34 = .ok (.lstore 5, 2) := zb_X0_narrowed_19.2.2.2.2.2.2.2.2.2.2.2
theorem zb_X0_forgetBehind_0 : (decode cX0_forgetBehind 0 = .ok (.aload_n 0, 1)) ∧ (decode cX0_forgetBehind 1 = .ok (.aload_n 0, 1)) ∧ (decode cX0_forgetBehind 2 = .ok (.getfield 38, 3)) ∧ (decode cX0_forgetBehind 5 = .ok (.iconst 1, 1)) ∧ (decode cX0_forgetBehind 6 = .ok (.isub, 1)) ∧ (decode cX0_forgetBehind 7 = .ok (.aload_n 0, 1)) ∧ (decode cX0_forgetBehind 8 = .ok (.getfield 50, 3)) ∧ (decode cX0_forgetBehind 11 = .ok (.iload_n 1, 1)) ∧ (decode cX0_forgetBehind 12 = .ok (.invokestatic 88, 3)) ∧ (decode cX0_forgetBehind 15 = .ok (.invokestatic 66, 3)) ∧ (decode cX0_forgetBehind 18 = .ok (.putfield 50, 3)) ∧ (decode cX0_forgetBehind 21 = .ok (.return_, 1)) := by decide +kernel
theorem dX0_forgetBehind_0 : decode cX0_forgetBehind 0 = .ok (.aload_n 0, 1) := zb_X0_forgetBehind_0.1
theorem dX0_forgetBehind_1 : decode cX0_forgetBehind 1 = .ok (.aload_n 0, 1) := zb_X0_forgetBehind_0.2.1
theorem dX0_forgetBehind_2 : decode cX0_forgetBehind 2 = .ok (.getfield 38, 3) := zb_X0_forgetBehind_0.2.2.1
theorem dX0_forgetBehind_5 : decode cX0_forgetBehind 5 = .ok (.iconst 1, 1) := zb_X0_forgetBehind_0.2.2.2.1
theorem dX0_forgetBehind_6 : decode cX0_forgetBehind 6 = .ok (.isub, 1) := zb_X0_forgetBehind_0.2.2.2.2.1
theorem dX0_forgetBehind_7 : decode cX0_forgetBehind 7 = .ok (.aload_n 0, 1) := zb_X0_forgetBehind_0.2.2.2.2.2.1
theorem dX0_forgetBehind_8 : decode cX0_forgetBehind 8 = .ok (.getfield 50, 3) := zb_X0_forgetBehind_0.2.2.2.2.2.2.1
theorem dX0_forgetBehind_11 : decode cX0_forgetBehind 11 = .ok (.iload_n 1, 1) := zb_X0_forgetBehind_0.2.2.2.2.2.2.2.1
theorem dX0_forgetBehind_12 : decode cX0_forgetBehind 12 = .ok (.invokestatic 88, 3) := zb_X0_forgetBehind_0.2.2.2.2.2.2.2.2.1
theorem dX0_forgetBehind_15 : decode cX0_forgetBehind 15 = .ok (.invokestatic 66, 3) := zb_X0_forgetBehind_0.2.2.2.2.2.2.2.2.2.1
theorem dX0_forgetBehind_18 : decode cX0_forgetBehind 18 = .ok (.putfield 50, 3) := zb_X0_forgetBehind_0.2.2.2.2.2.2.2.2.2.2.1
theorem dX0_forgetBehind_21 : decode cX0_forgetBehind 21 = .ok (.return_, 1) := zb_X0_forgetBehind_0.2.2.2.2.2.2.2.2.2.2.2
theorem zb_X0_narrowBy_0 : (decode cX0_narrowBy 0 = .ok (.aload_n 0, 1)) ∧ (decode cX0_narrowBy 1 = .ok (.getfield 81, 3)) ∧ (decode cX0_narrowBy 4 = .ok (.bipush 40, 2)) ∧ (decode cX0_narrowBy 6 = .ok (.if_icmp .ge 50, 3)) ∧ (decode cX0_narrowBy 56 = .ok (.return_, 1)) ∧ (decode cX0_narrowBy 9 = .ok (.aload_n 0, 1)) ∧ (decode cX0_narrowBy 10 = .ok (.getfield 9, 3)) ∧ (decode cX0_narrowBy 13 = .ok (.aload_n 0, 1)) ∧ (decode cX0_narrowBy 14 = .ok (.getfield 81, 3)) ∧ (decode cX0_narrowBy 17 = .ok (.iload_n 1, 1)) ∧ (decode cX0_narrowBy 18 = .ok (.iastore, 1)) ∧ (decode cX0_narrowBy 19 = .ok (.aload_n 0, 1)) := by decide +kernel
theorem dX0_narrowBy_0 : decode cX0_narrowBy 0 = .ok (.aload_n 0, 1) := zb_X0_narrowBy_0.1
theorem dX0_narrowBy_1 : decode cX0_narrowBy 1 = .ok (.getfield 81, 3) := zb_X0_narrowBy_0.2.1
theorem dX0_narrowBy_4 : decode cX0_narrowBy 4 = .ok (.bipush 40, 2) := zb_X0_narrowBy_0.2.2.1
theorem dX0_narrowBy_6 : decode cX0_narrowBy 6 = .ok (.if_icmp .ge 50, 3) := zb_X0_narrowBy_0.2.2.2.1
theorem dX0_narrowBy_56 : decode cX0_narrowBy 56 = .ok (.return_, 1) := zb_X0_narrowBy_0.2.2.2.2.1
theorem dX0_narrowBy_9 : decode cX0_narrowBy 9 = .ok (.aload_n 0, 1) := zb_X0_narrowBy_0.2.2.2.2.2.1
theorem dX0_narrowBy_10 : decode cX0_narrowBy 10 = .ok (.getfield 9, 3) := zb_X0_narrowBy_0.2.2.2.2.2.2.1
theorem dX0_narrowBy_13 : decode cX0_narrowBy 13 = .ok (.aload_n 0, 1) := zb_X0_narrowBy_0.2.2.2.2.2.2.2.1
theorem dX0_narrowBy_14 : decode cX0_narrowBy 14 = .ok (.getfield 81, 3) := zb_X0_narrowBy_0.2.2.2.2.2.2.2.2.1
theorem dX0_narrowBy_17 : decode cX0_narrowBy 17 = .ok (.iload_n 1, 1) := zb_X0_narrowBy_0.2.2.2.2.2.2.2.2.2.1
theorem dX0_narrowBy_18 : decode cX0_narrowBy 18 = .ok (.iastore, 1) := zb_X0_narrowBy_0.2.2.2.2.2.2.2.2.2.2.1
theorem dX0_narrowBy_19 : decode cX0_narrowBy 19 = .ok (.aload_n 0, 1) := zb_X0_narrowBy_0.2.2.2.2.2.2.2.2.2.2.2
theorem zb_X0_narrowBy_20 : (decode cX0_narrowBy 20 = .ok (.getfield 15, 3)) ∧ (decode cX0_narrowBy 23 = .ok (.aload_n 0, 1)) ∧ (decode cX0_narrowBy 24 = .ok (.getfield 81, 3)) ∧ (decode cX0_narrowBy 27 = .ok (.iload_n 2, 1)) ∧ (decode cX0_narrowBy 28 = .ok (.iastore, 1)) ∧ (decode cX0_narrowBy 29 = .ok (.aload_n 0, 1)) ∧ (decode cX0_narrowBy 30 = .ok (.getfield 18, 3)) ∧ (decode cX0_narrowBy 33 = .ok (.aload_n 0, 1)) ∧ (decode cX0_narrowBy 34 = .ok (.getfield 81, 3)) ∧ (decode cX0_narrowBy 37 = .ok (.lload_n 3, 1)) ∧ (decode cX0_narrowBy 38 = .ok (.lastore, 1)) ∧ (decode cX0_narrowBy 39 = .ok (.aload_n 0, 1)) := by decide +kernel
theorem dX0_narrowBy_20 : decode cX0_narrowBy 20 = .ok (.getfield 15, 3) := zb_X0_narrowBy_20.1
theorem dX0_narrowBy_23 : decode cX0_narrowBy 23 = .ok (.aload_n 0, 1) := zb_X0_narrowBy_20.2.1
theorem dX0_narrowBy_24 : decode cX0_narrowBy 24 = .ok (.getfield 81, 3) := zb_X0_narrowBy_20.2.2.1
theorem dX0_narrowBy_27 : decode cX0_narrowBy 27 = .ok (.iload_n 2, 1) := zb_X0_narrowBy_20.2.2.2.1
theorem dX0_narrowBy_28 : decode cX0_narrowBy 28 = .ok (.iastore, 1) := zb_X0_narrowBy_20.2.2.2.2.1
theorem dX0_narrowBy_29 : decode cX0_narrowBy 29 = .ok (.aload_n 0, 1) := zb_X0_narrowBy_20.2.2.2.2.2.1
theorem dX0_narrowBy_30 : decode cX0_narrowBy 30 = .ok (.getfield 18, 3) := zb_X0_narrowBy_20.2.2.2.2.2.2.1
theorem dX0_narrowBy_33 : decode cX0_narrowBy 33 = .ok (.aload_n 0, 1) := zb_X0_narrowBy_20.2.2.2.2.2.2.2.1
theorem dX0_narrowBy_34 : decode cX0_narrowBy 34 = .ok (.getfield 81, 3) := zb_X0_narrowBy_20.2.2.2.2.2.2.2.2.1
theorem dX0_narrowBy_37 : decode cX0_narrowBy 37 = .ok (.lload_n 3, 1) := zb_X0_narrowBy_20.2.2.2.2.2.2.2.2.2.1
theorem dX0_narrowBy_38 : decode cX0_narrowBy 38 = .ok (.lastore, 1) := zb_X0_narrowBy_20.2.2.2.2.2.2.2.2.2.2.1
theorem dX0_narrowBy_39 : decode cX0_narrowBy 39 = .ok (.aload_n 0, 1) := zb_X0_narrowBy_20.2.2.2.2.2.2.2.2.2.2.2
theorem zb_X0_narrowBy_40 : (decode cX0_narrowBy 40 = .ok (.dup, 1)) ∧ (decode cX0_narrowBy 41 = .ok (.getfield 81, 3)) ∧ (decode cX0_narrowBy 44 = .ok (.iconst 1, 1)) ∧ (decode cX0_narrowBy 45 = .ok (.iadd, 1)) ∧ (decode cX0_narrowBy 46 = .ok (.putfield 81, 3)) ∧ (decode cX0_narrowBy 49 = .ok (.aload_n 0, 1)) ∧ (decode cX0_narrowBy 50 = .ok (.iload_n 1, 1)) ∧ (decode cX0_narrowBy 51 = .ok (.iconst 1, 1)) ∧ (decode cX0_narrowBy 52 = .ok (.isub, 1)) ∧ (decode cX0_narrowBy 53 = .ok (.invokevirtual 84, 3)) := by decide +kernel
theorem dX0_narrowBy_40 : decode cX0_narrowBy 40 = .ok (.dup, 1) := zb_X0_narrowBy_40.1
theorem dX0_narrowBy_41 : decode cX0_narrowBy 41 = .ok (.getfield 81, 3) := zb_X0_narrowBy_40.2.1
theorem dX0_narrowBy_44 : decode cX0_narrowBy 44 = .ok (.iconst 1, 1) := zb_X0_narrowBy_40.2.2.1
theorem dX0_narrowBy_45 : decode cX0_narrowBy 45 = .ok (.iadd, 1) := zb_X0_narrowBy_40.2.2.2.1
theorem dX0_narrowBy_46 : decode cX0_narrowBy 46 = .ok (.putfield 81, 3) := zb_X0_narrowBy_40.2.2.2.2.1
theorem dX0_narrowBy_49 : decode cX0_narrowBy 49 = .ok (.aload_n 0, 1) := zb_X0_narrowBy_40.2.2.2.2.2.1
theorem dX0_narrowBy_50 : decode cX0_narrowBy 50 = .ok (.iload_n 1, 1) := zb_X0_narrowBy_40.2.2.2.2.2.2.1
theorem dX0_narrowBy_51 : decode cX0_narrowBy 51 = .ok (.iconst 1, 1) := zb_X0_narrowBy_40.2.2.2.2.2.2.2.1
theorem dX0_narrowBy_52 : decode cX0_narrowBy 52 = .ok (.isub, 1) := zb_X0_narrowBy_40.2.2.2.2.2.2.2.2.1
theorem dX0_narrowBy_53 : decode cX0_narrowBy 53 = .ok (.invokevirtual 84, 3) := zb_X0_narrowBy_40.2.2.2.2.2.2.2.2.2
theorem zb_X0_addFlown_0 : (decode cX0_addFlown 0 = .ok (.aload_n 0, 1)) ∧ (decode cX0_addFlown 1 = .ok (.getfield 22, 3)) ∧ (decode cX0_addFlown 4 = .ok (.aload_n 0, 1)) ∧ (decode cX0_addFlown 5 = .ok (.getfield 91, 3)) ∧ (decode cX0_addFlown 8 = .ok (.iload_n 1, 1)) ∧ (decode cX0_addFlown 9 = .ok (.iastore, 1)) ∧ (decode cX0_addFlown 10 = .ok (.aload_n 0, 1)) ∧ (decode cX0_addFlown 11 = .ok (.getfield 25, 3)) ∧ (decode cX0_addFlown 14 = .ok (.aload_n 0, 1)) ∧ (decode cX0_addFlown 15 = .ok (.getfield 91, 3)) := by decide +kernel
theorem dX0_addFlown_0 : decode cX0_addFlown 0 = .ok (.aload_n 0, 1) := zb_X0_addFlown_0.1
theorem dX0_addFlown_1 : decode cX0_addFlown 1 = .ok (.getfield 22, 3) := zb_X0_addFlown_0.2.1
theorem dX0_addFlown_4 : decode cX0_addFlown 4 = .ok (.aload_n 0, 1) := zb_X0_addFlown_0.2.2.1
theorem dX0_addFlown_5 : decode cX0_addFlown 5 = .ok (.getfield 91, 3) := zb_X0_addFlown_0.2.2.2.1
theorem dX0_addFlown_8 : decode cX0_addFlown 8 = .ok (.iload_n 1, 1) := zb_X0_addFlown_0.2.2.2.2.1
theorem dX0_addFlown_9 : decode cX0_addFlown 9 = .ok (.iastore, 1) := zb_X0_addFlown_0.2.2.2.2.2.1
theorem dX0_addFlown_10 : decode cX0_addFlown 10 = .ok (.aload_n 0, 1) := zb_X0_addFlown_0.2.2.2.2.2.2.1
theorem dX0_addFlown_11 : decode cX0_addFlown 11 = .ok (.getfield 25, 3) := zb_X0_addFlown_0.2.2.2.2.2.2.2.1
theorem dX0_addFlown_14 : decode cX0_addFlown 14 = .ok (.aload_n 0, 1) := zb_X0_addFlown_0.2.2.2.2.2.2.2.2.1
theorem dX0_addFlown_15 : decode cX0_addFlown 15 = .ok (.getfield 91, 3) := zb_X0_addFlown_0.2.2.2.2.2.2.2.2.2
theorem zb_X0_addFlown_18 : (decode cX0_addFlown 18 = .ok (.iload_n 2, 1)) ∧ (decode cX0_addFlown 19 = .ok (.iastore, 1)) ∧ (decode cX0_addFlown 20 = .ok (.aload_n 0, 1)) ∧ (decode cX0_addFlown 21 = .ok (.dup, 1)) ∧ (decode cX0_addFlown 22 = .ok (.getfield 91, 3)) ∧ (decode cX0_addFlown 25 = .ok (.iconst 1, 1)) ∧ (decode cX0_addFlown 26 = .ok (.iadd, 1)) ∧ (decode cX0_addFlown 27 = .ok (.dup_x1, 1)) ∧ (decode cX0_addFlown 28 = .ok (.putfield 91, 3)) ∧ (decode cX0_addFlown 31 = .ok (.ireturn, 1)) := by decide +kernel
theorem dX0_addFlown_18 : decode cX0_addFlown 18 = .ok (.iload_n 2, 1) := zb_X0_addFlown_18.1
theorem dX0_addFlown_19 : decode cX0_addFlown 19 = .ok (.iastore, 1) := zb_X0_addFlown_18.2.1
theorem dX0_addFlown_20 : decode cX0_addFlown 20 = .ok (.aload_n 0, 1) := zb_X0_addFlown_18.2.2.1
theorem dX0_addFlown_21 : decode cX0_addFlown 21 = .ok (.dup, 1) := zb_X0_addFlown_18.2.2.2.1
theorem dX0_addFlown_22 : decode cX0_addFlown 22 = .ok (.getfield 91, 3) := zb_X0_addFlown_18.2.2.2.2.1
theorem dX0_addFlown_25 : decode cX0_addFlown 25 = .ok (.iconst 1, 1) := zb_X0_addFlown_18.2.2.2.2.2.1
theorem dX0_addFlown_26 : decode cX0_addFlown 26 = .ok (.iadd, 1) := zb_X0_addFlown_18.2.2.2.2.2.2.1
theorem dX0_addFlown_27 : decode cX0_addFlown 27 = .ok (.dup_x1, 1) := zb_X0_addFlown_18.2.2.2.2.2.2.2.1
theorem dX0_addFlown_28 : decode cX0_addFlown 28 = .ok (.putfield 91, 3) := zb_X0_addFlown_18.2.2.2.2.2.2.2.2.1
theorem dX0_addFlown_31 : decode cX0_addFlown 31 = .ok (.ireturn, 1) := zb_X0_addFlown_18.2.2.2.2.2.2.2.2.2
theorem zb_X0_placesNow_0 : (decode cX0_placesNow 0 = .ok (.iload_n 2, 1)) ∧ (decode cX0_placesNow 1 = .ok (.aload_n 0, 1)) ∧ (decode cX0_placesNow 2 = .ok (.getfield 38, 3)) ∧ (decode cX0_placesNow 5 = .ok (.if_icmp .lt 10, 3)) ∧ (decode cX0_placesNow 15 = .ok (.lconst 0, 1)) ∧ (decode cX0_placesNow 16 = .ok (.lreturn, 1)) ∧ (decode cX0_placesNow 8 = .ok (.iload_n 2, 1)) ∧ (decode cX0_placesNow 9 = .ok (.sipush 240, 3)) ∧ (decode cX0_placesNow 12 = .ok (.if_icmp .lt 5, 3)) ∧ (decode cX0_placesNow 17 = .ok (.aload_n 0, 1)) ∧ (decode cX0_placesNow 18 = .ok (.getfield 50, 3)) := by decide +kernel
theorem dX0_placesNow_0 : decode cX0_placesNow 0 = .ok (.iload_n 2, 1) := zb_X0_placesNow_0.1
theorem dX0_placesNow_1 : decode cX0_placesNow 1 = .ok (.aload_n 0, 1) := zb_X0_placesNow_0.2.1
theorem dX0_placesNow_2 : decode cX0_placesNow 2 = .ok (.getfield 38, 3) := zb_X0_placesNow_0.2.2.1
theorem dX0_placesNow_5 : decode cX0_placesNow 5 = .ok (.if_icmp .lt 10, 3) := zb_X0_placesNow_0.2.2.2.1
theorem dX0_placesNow_15 : decode cX0_placesNow 15 = .ok (.lconst 0, 1) := zb_X0_placesNow_0.2.2.2.2.1
theorem dX0_placesNow_16 : decode cX0_placesNow 16 = .ok (.lreturn, 1) := zb_X0_placesNow_0.2.2.2.2.2.1
theorem dX0_placesNow_8 : decode cX0_placesNow 8 = .ok (.iload_n 2, 1) := zb_X0_placesNow_0.2.2.2.2.2.2.1
theorem dX0_placesNow_9 : decode cX0_placesNow 9 = .ok (.sipush 240, 3) := zb_X0_placesNow_0.2.2.2.2.2.2.2.1
theorem dX0_placesNow_12 : decode cX0_placesNow 12 = .ok (.if_icmp .lt 5, 3) := zb_X0_placesNow_0.2.2.2.2.2.2.2.2.1
theorem dX0_placesNow_17 : decode cX0_placesNow 17 = .ok (.aload_n 0, 1) := zb_X0_placesNow_0.2.2.2.2.2.2.2.2.2.1
theorem dX0_placesNow_18 : decode cX0_placesNow 18 = .ok (.getfield 50, 3) := zb_X0_placesNow_0.2.2.2.2.2.2.2.2.2.2
theorem zb_X0_placesNow_21 : (decode cX0_placesNow 21 = .ok (.iconst 1, 1)) ∧ (decode cX0_placesNow 22 = .ok (.iadd, 1)) ∧ (decode cX0_placesNow 23 = .ok (.istore_n 3, 1)) ∧ (decode cX0_placesNow 24 = .ok (.iload_n 3, 1)) ∧ (decode cX0_placesNow 25 = .ok (.iload_n 2, 1)) ∧ (decode cX0_placesNow 26 = .ok (.if_icmp .gt 61, 3)) ∧ (decode cX0_placesNow 87 = .ok (.aload_n 0, 1)) ∧ (decode cX0_placesNow 88 = .ok (.aload_n 0, 1)) ∧ (decode cX0_placesNow 89 = .ok (.getfield 50, 3)) ∧ (decode cX0_placesNow 92 = .ok (.iload_n 2, 1)) ∧ (decode cX0_placesNow 93 = .ok (.invokestatic 66, 3)) := by decide +kernel
theorem dX0_placesNow_21 : decode cX0_placesNow 21 = .ok (.iconst 1, 1) := zb_X0_placesNow_21.1
theorem dX0_placesNow_22 : decode cX0_placesNow 22 = .ok (.iadd, 1) := zb_X0_placesNow_21.2.1
theorem dX0_placesNow_23 : decode cX0_placesNow 23 = .ok (.istore_n 3, 1) := zb_X0_placesNow_21.2.2.1
theorem dX0_placesNow_24 : decode cX0_placesNow 24 = .ok (.iload_n 3, 1) := zb_X0_placesNow_21.2.2.2.1
theorem dX0_placesNow_25 : decode cX0_placesNow 25 = .ok (.iload_n 2, 1) := zb_X0_placesNow_21.2.2.2.2.1
theorem dX0_placesNow_26 : decode cX0_placesNow 26 = .ok (.if_icmp .gt 61, 3) := zb_X0_placesNow_21.2.2.2.2.2.1
theorem dX0_placesNow_87 : decode cX0_placesNow 87 = .ok (.aload_n 0, 1) := zb_X0_placesNow_21.2.2.2.2.2.2.1
theorem dX0_placesNow_88 : decode cX0_placesNow 88 = .ok (.aload_n 0, 1) := zb_X0_placesNow_21.2.2.2.2.2.2.2.1
theorem dX0_placesNow_89 : decode cX0_placesNow 89 = .ok (.getfield 50, 3) := zb_X0_placesNow_21.2.2.2.2.2.2.2.2.1
theorem dX0_placesNow_92 : decode cX0_placesNow 92 = .ok (.iload_n 2, 1) := zb_X0_placesNow_21.2.2.2.2.2.2.2.2.2.1
theorem dX0_placesNow_93 : decode cX0_placesNow 93 = .ok (.invokestatic 66, 3) := zb_X0_placesNow_21.2.2.2.2.2.2.2.2.2.2
theorem zb_X0_placesNow_96 : (decode cX0_placesNow 96 = .ok (.putfield 50, 3)) ∧ (decode cX0_placesNow 99 = .ok (.aload_n 0, 1)) ∧ (decode cX0_placesNow 100 = .ok (.getfield 28, 3)) ∧ (decode cX0_placesNow 103 = .ok (.iload_n 2, 1)) ∧ (decode cX0_placesNow 104 = .ok (.laload, 1)) ∧ (decode cX0_placesNow 105 = .ok (.lreturn, 1)) ∧ (decode cX0_placesNow 29 = .ok (.iload_n 3, 1)) ∧ (decode cX0_placesNow 30 = .ok (.aload_n 0, 1)) ∧ (decode cX0_placesNow 31 = .ok (.getfield 38, 3)) ∧ (decode cX0_placesNow 34 = .ok (.if_icmp .gt 12, 3)) ∧ (decode cX0_placesNow 46 = .ok (.aload_n 0, 1)) := by decide +kernel
theorem dX0_placesNow_96 : decode cX0_placesNow 96 = .ok (.putfield 50, 3) := zb_X0_placesNow_96.1
theorem dX0_placesNow_99 : decode cX0_placesNow 99 = .ok (.aload_n 0, 1) := zb_X0_placesNow_96.2.1
theorem dX0_placesNow_100 : decode cX0_placesNow 100 = .ok (.getfield 28, 3) := zb_X0_placesNow_96.2.2.1
theorem dX0_placesNow_103 : decode cX0_placesNow 103 = .ok (.iload_n 2, 1) := zb_X0_placesNow_96.2.2.2.1
theorem dX0_placesNow_104 : decode cX0_placesNow 104 = .ok (.laload, 1) := zb_X0_placesNow_96.2.2.2.2.1
theorem dX0_placesNow_105 : decode cX0_placesNow 105 = .ok (.lreturn, 1) := zb_X0_placesNow_96.2.2.2.2.2.1
theorem dX0_placesNow_29 : decode cX0_placesNow 29 = .ok (.iload_n 3, 1) := zb_X0_placesNow_96.2.2.2.2.2.2.1
theorem dX0_placesNow_30 : decode cX0_placesNow 30 = .ok (.aload_n 0, 1) := zb_X0_placesNow_96.2.2.2.2.2.2.2.1
theorem dX0_placesNow_31 : decode cX0_placesNow 31 = .ok (.getfield 38, 3) := zb_X0_placesNow_96.2.2.2.2.2.2.2.2.1
theorem dX0_placesNow_34 : decode cX0_placesNow 34 = .ok (.if_icmp .gt 12, 3) := zb_X0_placesNow_96.2.2.2.2.2.2.2.2.2.1
theorem dX0_placesNow_46 : decode cX0_placesNow 46 = .ok (.aload_n 0, 1) := zb_X0_placesNow_96.2.2.2.2.2.2.2.2.2.2
theorem zb_X0_placesNow_47 : (decode cX0_placesNow 47 = .ok (.aload_n 1, 1)) ∧ (decode cX0_placesNow 48 = .ok (.iload_n 3, 1)) ∧ (decode cX0_placesNow 49 = .ok (.iconst 1, 1)) ∧ (decode cX0_placesNow 50 = .ok (.isub, 1)) ∧ (decode cX0_placesNow 51 = .ok (.aload_n 0, 1)) ∧ (decode cX0_placesNow 52 = .ok (.getfield 28, 3)) ∧ (decode cX0_placesNow 55 = .ok (.iload_n 3, 1)) ∧ (decode cX0_placesNow 56 = .ok (.iconst 1, 1)) ∧ (decode cX0_placesNow 57 = .ok (.isub, 1)) ∧ (decode cX0_placesNow 58 = .ok (.laload, 1)) ∧ (decode cX0_placesNow 59 = .ok (.invokevirtual 102, 3)) := by decide +kernel
theorem dX0_placesNow_47 : decode cX0_placesNow 47 = .ok (.aload_n 1, 1) := zb_X0_placesNow_47.1
theorem dX0_placesNow_48 : decode cX0_placesNow 48 = .ok (.iload_n 3, 1) := zb_X0_placesNow_47.2.1
theorem dX0_placesNow_49 : decode cX0_placesNow 49 = .ok (.iconst 1, 1) := zb_X0_placesNow_47.2.2.1
theorem dX0_placesNow_50 : decode cX0_placesNow 50 = .ok (.isub, 1) := zb_X0_placesNow_47.2.2.2.1
theorem dX0_placesNow_51 : decode cX0_placesNow 51 = .ok (.aload_n 0, 1) := zb_X0_placesNow_47.2.2.2.2.1
theorem dX0_placesNow_52 : decode cX0_placesNow 52 = .ok (.getfield 28, 3) := zb_X0_placesNow_47.2.2.2.2.2.1
theorem dX0_placesNow_55 : decode cX0_placesNow 55 = .ok (.iload_n 3, 1) := zb_X0_placesNow_47.2.2.2.2.2.2.1
theorem dX0_placesNow_56 : decode cX0_placesNow 56 = .ok (.iconst 1, 1) := zb_X0_placesNow_47.2.2.2.2.2.2.2.1
theorem dX0_placesNow_57 : decode cX0_placesNow 57 = .ok (.isub, 1) := zb_X0_placesNow_47.2.2.2.2.2.2.2.2.1
theorem dX0_placesNow_58 : decode cX0_placesNow 58 = .ok (.laload, 1) := zb_X0_placesNow_47.2.2.2.2.2.2.2.2.2.1
theorem dX0_placesNow_59 : decode cX0_placesNow 59 = .ok (.invokevirtual 102, 3) := zb_X0_placesNow_47.2.2.2.2.2.2.2.2.2.2
theorem zb_X0_placesNow_62 : (decode cX0_placesNow 62 = .ok (.lstore 4, 2)) ∧ (decode cX0_placesNow 64 = .ok (.aload_n 0, 1)) ∧ (decode cX0_placesNow 65 = .ok (.getfield 28, 3)) ∧ (decode cX0_placesNow 68 = .ok (.iload_n 3, 1)) ∧ (decode cX0_placesNow 69 = .ok (.aload_n 0, 1)) ∧ (decode cX0_placesNow 70 = .ok (.lload 4, 2)) ∧ (decode cX0_placesNow 72 = .ok (.iload_n 3, 1)) ∧ (decode cX0_placesNow 73 = .ok (.aload_n 0, 1)) ∧ (decode cX0_placesNow 74 = .ok (.getfield 81, 3)) ∧ (decode cX0_placesNow 77 = .ok (.invokevirtual 98, 3)) ∧ (decode cX0_placesNow 80 = .ok (.lastore, 1)) := by decide +kernel
theorem dX0_placesNow_62 : decode cX0_placesNow 62 = .ok (.lstore 4, 2) := zb_X0_placesNow_62.1
theorem dX0_placesNow_64 : decode cX0_placesNow 64 = .ok (.aload_n 0, 1) := zb_X0_placesNow_62.2.1
theorem dX0_placesNow_65 : decode cX0_placesNow 65 = .ok (.getfield 28, 3) := zb_X0_placesNow_62.2.2.1
theorem dX0_placesNow_68 : decode cX0_placesNow 68 = .ok (.iload_n 3, 1) := zb_X0_placesNow_62.2.2.2.1
theorem dX0_placesNow_69 : decode cX0_placesNow 69 = .ok (.aload_n 0, 1) := zb_X0_placesNow_62.2.2.2.2.1
theorem dX0_placesNow_70 : decode cX0_placesNow 70 = .ok (.lload 4, 2) := zb_X0_placesNow_62.2.2.2.2.2.1
theorem dX0_placesNow_72 : decode cX0_placesNow 72 = .ok (.iload_n 3, 1) := zb_X0_placesNow_62.2.2.2.2.2.2.1
theorem dX0_placesNow_73 : decode cX0_placesNow 73 = .ok (.aload_n 0, 1) := zb_X0_placesNow_62.2.2.2.2.2.2.2.1
theorem dX0_placesNow_74 : decode cX0_placesNow 74 = .ok (.getfield 81, 3) := zb_X0_placesNow_62.2.2.2.2.2.2.2.2.1
theorem dX0_placesNow_77 : decode cX0_placesNow 77 = .ok (.invokevirtual 98, 3) := zb_X0_placesNow_62.2.2.2.2.2.2.2.2.2.1
theorem dX0_placesNow_80 : decode cX0_placesNow 80 = .ok (.lastore, 1) := zb_X0_placesNow_62.2.2.2.2.2.2.2.2.2.2
theorem zb_X0_placesNow_81 : (decode cX0_placesNow 81 = .ok (.iinc 3 1, 3)) ∧ (decode cX0_placesNow 84 = .ok (.goto (-60), 3)) ∧ (decode cX0_placesNow 37 = .ok (.lconst 1, 1)) ∧ (decode cX0_placesNow 38 = .ok (.aload_n 0, 1)) ∧ (decode cX0_placesNow 39 = .ok (.getfield 35, 3)) ∧ (decode cX0_placesNow 42 = .ok (.lshl, 1)) ∧ (decode cX0_placesNow 43 = .ok (.goto 19, 3)) := by decide +kernel
theorem dX0_placesNow_81 : decode cX0_placesNow 81 = .ok (.iinc 3 1, 3) := zb_X0_placesNow_81.1
theorem dX0_placesNow_84 : decode cX0_placesNow 84 = .ok (.goto (-60), 3) := zb_X0_placesNow_81.2.1
theorem dX0_placesNow_37 : decode cX0_placesNow 37 = .ok (.lconst 1, 1) := zb_X0_placesNow_81.2.2.1
theorem dX0_placesNow_38 : decode cX0_placesNow 38 = .ok (.aload_n 0, 1) := zb_X0_placesNow_81.2.2.2.1
theorem dX0_placesNow_39 : decode cX0_placesNow 39 = .ok (.getfield 35, 3) := zb_X0_placesNow_81.2.2.2.2.1
theorem dX0_placesNow_42 : decode cX0_placesNow 42 = .ok (.lshl, 1) := zb_X0_placesNow_81.2.2.2.2.2.1
theorem dX0_placesNow_43 : decode cX0_placesNow 43 = .ok (.goto 19, 3) := zb_X0_placesNow_81.2.2.2.2.2.2
theorem zb_X0_placesKnown_0 : (decode cX0_placesKnown 0 = .ok (.iconst 0, 1)) ∧ (decode cX0_placesKnown 1 = .ok (.istore 4, 2)) ∧ (decode cX0_placesKnown 3 = .ok (.iload 4, 2)) ∧ (decode cX0_placesKnown 5 = .ok (.aload_n 0, 1)) ∧ (decode cX0_placesKnown 6 = .ok (.getfield 81, 3)) ∧ (decode cX0_placesKnown 9 = .ok (.if_icmp .ge 20, 3)) ∧ (decode cX0_placesKnown 29 = .ok (.iload 4, 2)) ∧ (decode cX0_placesKnown 31 = .ok (.aload_n 0, 1)) ∧ (decode cX0_placesKnown 32 = .ok (.getfield 81, 3)) ∧ (decode cX0_placesKnown 35 = .ok (.if_icmp .ne 10, 3)) ∧ (decode cX0_placesKnown 45 = .ok (.aload_n 0, 1)) := by decide +kernel
theorem dX0_placesKnown_0 : decode cX0_placesKnown 0 = .ok (.iconst 0, 1) := zb_X0_placesKnown_0.1
theorem dX0_placesKnown_1 : decode cX0_placesKnown 1 = .ok (.istore 4, 2) := zb_X0_placesKnown_0.2.1
theorem dX0_placesKnown_3 : decode cX0_placesKnown 3 = .ok (.iload 4, 2) := zb_X0_placesKnown_0.2.2.1
theorem dX0_placesKnown_5 : decode cX0_placesKnown 5 = .ok (.aload_n 0, 1) := zb_X0_placesKnown_0.2.2.2.1
theorem dX0_placesKnown_6 : decode cX0_placesKnown 6 = .ok (.getfield 81, 3) := zb_X0_placesKnown_0.2.2.2.2.1
theorem dX0_placesKnown_9 : decode cX0_placesKnown 9 = .ok (.if_icmp .ge 20, 3) := zb_X0_placesKnown_0.2.2.2.2.2.1
theorem dX0_placesKnown_29 : decode cX0_placesKnown 29 = .ok (.iload 4, 2) := zb_X0_placesKnown_0.2.2.2.2.2.2.1
theorem dX0_placesKnown_31 : decode cX0_placesKnown 31 = .ok (.aload_n 0, 1) := zb_X0_placesKnown_0.2.2.2.2.2.2.2.1
theorem dX0_placesKnown_32 : decode cX0_placesKnown 32 = .ok (.getfield 81, 3) := zb_X0_placesKnown_0.2.2.2.2.2.2.2.2.1
theorem dX0_placesKnown_35 : decode cX0_placesKnown 35 = .ok (.if_icmp .ne 10, 3) := zb_X0_placesKnown_0.2.2.2.2.2.2.2.2.2.1
theorem dX0_placesKnown_45 : decode cX0_placesKnown 45 = .ok (.aload_n 0, 1) := zb_X0_placesKnown_0.2.2.2.2.2.2.2.2.2.2
theorem zb_X0_placesKnown_46 : (decode cX0_placesKnown 46 = .ok (.lconst 1, 1)) ∧ (decode cX0_placesKnown 47 = .ok (.aload_n 0, 1)) ∧ (decode cX0_placesKnown 48 = .ok (.getfield 35, 3)) ∧ (decode cX0_placesKnown 51 = .ok (.lshl, 1)) ∧ (decode cX0_placesKnown 52 = .ok (.aload_n 0, 1)) ∧ (decode cX0_placesKnown 53 = .ok (.getfield 38, 3)) ∧ (decode cX0_placesKnown 56 = .ok (.iload 4, 2)) ∧ (decode cX0_placesKnown 58 = .ok (.invokevirtual 98, 3)) ∧ (decode cX0_placesKnown 61 = .ok (.lstore 5, 2)) ∧ (decode cX0_placesKnown 63 = .ok (.aload_n 0, 1)) ∧ (decode cX0_placesKnown 64 = .ok (.getfield 38, 3)) := by decide +kernel
theorem dX0_placesKnown_46 : decode cX0_placesKnown 46 = .ok (.lconst 1, 1) := zb_X0_placesKnown_46.1
theorem dX0_placesKnown_47 : decode cX0_placesKnown 47 = .ok (.aload_n 0, 1) := zb_X0_placesKnown_46.2.1
theorem dX0_placesKnown_48 : decode cX0_placesKnown 48 = .ok (.getfield 35, 3) := zb_X0_placesKnown_46.2.2.1
theorem dX0_placesKnown_51 : decode cX0_placesKnown 51 = .ok (.lshl, 1) := zb_X0_placesKnown_46.2.2.2.1
theorem dX0_placesKnown_52 : decode cX0_placesKnown 52 = .ok (.aload_n 0, 1) := zb_X0_placesKnown_46.2.2.2.2.1
theorem dX0_placesKnown_53 : decode cX0_placesKnown 53 = .ok (.getfield 38, 3) := zb_X0_placesKnown_46.2.2.2.2.2.1
theorem dX0_placesKnown_56 : decode cX0_placesKnown 56 = .ok (.iload 4, 2) := zb_X0_placesKnown_46.2.2.2.2.2.2.1
theorem dX0_placesKnown_58 : decode cX0_placesKnown 58 = .ok (.invokevirtual 98, 3) := zb_X0_placesKnown_46.2.2.2.2.2.2.2.1
theorem dX0_placesKnown_61 : decode cX0_placesKnown 61 = .ok (.lstore 5, 2) := zb_X0_placesKnown_46.2.2.2.2.2.2.2.2.1
theorem dX0_placesKnown_63 : decode cX0_placesKnown 63 = .ok (.aload_n 0, 1) := zb_X0_placesKnown_46.2.2.2.2.2.2.2.2.2.1
theorem dX0_placesKnown_64 : decode cX0_placesKnown 64 = .ok (.getfield 38, 3) := zb_X0_placesKnown_46.2.2.2.2.2.2.2.2.2.2
theorem zb_X0_placesKnown_67 : (decode cX0_placesKnown 67 = .ok (.istore 7, 2)) ∧ (decode cX0_placesKnown 69 = .ok (.iload 7, 2)) ∧ (decode cX0_placesKnown 71 = .ok (.iload_n 2, 1)) ∧ (decode cX0_placesKnown 72 = .ok (.if_icmp .ge 30, 3)) ∧ (decode cX0_placesKnown 102 = .ok (.lload 5, 2)) ∧ (decode cX0_placesKnown 104 = .ok (.lreturn, 1)) ∧ (decode cX0_placesKnown 75 = .ok (.aload_n 0, 1)) ∧ (decode cX0_placesKnown 76 = .ok (.aload_n 0, 1)) ∧ (decode cX0_placesKnown 77 = .ok (.aload_n 1, 1)) ∧ (decode cX0_placesKnown 78 = .ok (.iload 7, 2)) ∧ (decode cX0_placesKnown 80 = .ok (.lload 5, 2)) := by decide +kernel
theorem dX0_placesKnown_67 : decode cX0_placesKnown 67 = .ok (.istore 7, 2) := zb_X0_placesKnown_67.1
theorem dX0_placesKnown_69 : decode cX0_placesKnown 69 = .ok (.iload 7, 2) := zb_X0_placesKnown_67.2.1
theorem dX0_placesKnown_71 : decode cX0_placesKnown 71 = .ok (.iload_n 2, 1) := zb_X0_placesKnown_67.2.2.1
theorem dX0_placesKnown_72 : decode cX0_placesKnown 72 = .ok (.if_icmp .ge 30, 3) := zb_X0_placesKnown_67.2.2.2.1
theorem dX0_placesKnown_102 : decode cX0_placesKnown 102 = .ok (.lload 5, 2) := zb_X0_placesKnown_67.2.2.2.2.1
theorem dX0_placesKnown_104 : decode cX0_placesKnown 104 = .ok (.lreturn, 1) := zb_X0_placesKnown_67.2.2.2.2.2.1
theorem dX0_placesKnown_75 : decode cX0_placesKnown 75 = .ok (.aload_n 0, 1) := zb_X0_placesKnown_67.2.2.2.2.2.2.1
theorem dX0_placesKnown_76 : decode cX0_placesKnown 76 = .ok (.aload_n 0, 1) := zb_X0_placesKnown_67.2.2.2.2.2.2.2.1
theorem dX0_placesKnown_77 : decode cX0_placesKnown 77 = .ok (.aload_n 1, 1) := zb_X0_placesKnown_67.2.2.2.2.2.2.2.2.1
theorem dX0_placesKnown_78 : decode cX0_placesKnown 78 = .ok (.iload 7, 2) := zb_X0_placesKnown_67.2.2.2.2.2.2.2.2.2.1
theorem dX0_placesKnown_80 : decode cX0_placesKnown 80 = .ok (.lload 5, 2) := zb_X0_placesKnown_67.2.2.2.2.2.2.2.2.2.2
theorem zb_X0_placesKnown_82 : (decode cX0_placesKnown 82 = .ok (.invokevirtual 102, 3)) ∧ (decode cX0_placesKnown 85 = .ok (.iload 7, 2)) ∧ (decode cX0_placesKnown 87 = .ok (.iconst 1, 1)) ∧ (decode cX0_placesKnown 88 = .ok (.iadd, 1)) ∧ (decode cX0_placesKnown 89 = .ok (.iload 4, 2)) ∧ (decode cX0_placesKnown 91 = .ok (.invokevirtual 98, 3)) ∧ (decode cX0_placesKnown 94 = .ok (.lstore 5, 2)) ∧ (decode cX0_placesKnown 96 = .ok (.iinc 7 1, 3)) ∧ (decode cX0_placesKnown 99 = .ok (.goto (-30), 3)) ∧ (decode cX0_placesKnown 38 = .ok (.aload_n 0, 1)) ∧ (decode cX0_placesKnown 39 = .ok (.aload_n 1, 1)) := by decide +kernel
theorem dX0_placesKnown_82 : decode cX0_placesKnown 82 = .ok (.invokevirtual 102, 3) := zb_X0_placesKnown_82.1
theorem dX0_placesKnown_85 : decode cX0_placesKnown 85 = .ok (.iload 7, 2) := zb_X0_placesKnown_82.2.1
theorem dX0_placesKnown_87 : decode cX0_placesKnown 87 = .ok (.iconst 1, 1) := zb_X0_placesKnown_82.2.2.1
theorem dX0_placesKnown_88 : decode cX0_placesKnown 88 = .ok (.iadd, 1) := zb_X0_placesKnown_82.2.2.2.1
theorem dX0_placesKnown_89 : decode cX0_placesKnown 89 = .ok (.iload 4, 2) := zb_X0_placesKnown_82.2.2.2.2.1
theorem dX0_placesKnown_91 : decode cX0_placesKnown 91 = .ok (.invokevirtual 98, 3) := zb_X0_placesKnown_82.2.2.2.2.2.1
theorem dX0_placesKnown_94 : decode cX0_placesKnown 94 = .ok (.lstore 5, 2) := zb_X0_placesKnown_82.2.2.2.2.2.2.1
theorem dX0_placesKnown_96 : decode cX0_placesKnown 96 = .ok (.iinc 7 1, 3) := zb_X0_placesKnown_82.2.2.2.2.2.2.2.1
theorem dX0_placesKnown_99 : decode cX0_placesKnown 99 = .ok (.goto (-30), 3) := zb_X0_placesKnown_82.2.2.2.2.2.2.2.2.1
theorem dX0_placesKnown_38 : decode cX0_placesKnown 38 = .ok (.aload_n 0, 1) := zb_X0_placesKnown_82.2.2.2.2.2.2.2.2.2.1
theorem dX0_placesKnown_39 : decode cX0_placesKnown 39 = .ok (.aload_n 1, 1) := zb_X0_placesKnown_82.2.2.2.2.2.2.2.2.2.2
theorem zb_X0_placesKnown_40 : (decode cX0_placesKnown 40 = .ok (.iload_n 2, 1)) ∧ (decode cX0_placesKnown 41 = .ok (.invokevirtual 94, 3)) ∧ (decode cX0_placesKnown 44 = .ok (.lreturn, 1)) ∧ (decode cX0_placesKnown 12 = .ok (.aload_n 0, 1)) ∧ (decode cX0_placesKnown 13 = .ok (.getfield 15, 3)) ∧ (decode cX0_placesKnown 16 = .ok (.iload 4, 2)) ∧ (decode cX0_placesKnown 18 = .ok (.iaload, 1)) ∧ (decode cX0_placesKnown 19 = .ok (.iload_n 3, 1)) ∧ (decode cX0_placesKnown 20 = .ok (.if_icmp .gt 9, 3)) ∧ (decode cX0_placesKnown 23 = .ok (.iinc 4 1, 3)) ∧ (decode cX0_placesKnown 26 = .ok (.goto (-23), 3)) := by decide +kernel
theorem dX0_placesKnown_40 : decode cX0_placesKnown 40 = .ok (.iload_n 2, 1) := zb_X0_placesKnown_40.1
theorem dX0_placesKnown_41 : decode cX0_placesKnown 41 = .ok (.invokevirtual 94, 3) := zb_X0_placesKnown_40.2.1
theorem dX0_placesKnown_44 : decode cX0_placesKnown 44 = .ok (.lreturn, 1) := zb_X0_placesKnown_40.2.2.1
theorem dX0_placesKnown_12 : decode cX0_placesKnown 12 = .ok (.aload_n 0, 1) := zb_X0_placesKnown_40.2.2.2.1
theorem dX0_placesKnown_13 : decode cX0_placesKnown 13 = .ok (.getfield 15, 3) := zb_X0_placesKnown_40.2.2.2.2.1
theorem dX0_placesKnown_16 : decode cX0_placesKnown 16 = .ok (.iload 4, 2) := zb_X0_placesKnown_40.2.2.2.2.2.1
theorem dX0_placesKnown_18 : decode cX0_placesKnown 18 = .ok (.iaload, 1) := zb_X0_placesKnown_40.2.2.2.2.2.2.1
theorem dX0_placesKnown_19 : decode cX0_placesKnown 19 = .ok (.iload_n 3, 1) := zb_X0_placesKnown_40.2.2.2.2.2.2.2.1
theorem dX0_placesKnown_20 : decode cX0_placesKnown 20 = .ok (.if_icmp .gt 9, 3) := zb_X0_placesKnown_40.2.2.2.2.2.2.2.2.1
theorem dX0_placesKnown_23 : decode cX0_placesKnown 23 = .ok (.iinc 4 1, 3) := zb_X0_placesKnown_40.2.2.2.2.2.2.2.2.2.1
theorem dX0_placesKnown_26 : decode cX0_placesKnown 26 = .ok (.goto (-23), 3) := zb_X0_placesKnown_40.2.2.2.2.2.2.2.2.2.2
theorem ck_X10_blow_0_11bo : ((cX10_blow.data.toList).drop 0).take 16 = [27, 155, 0, 19, 27, 17, 0, 240, 162, 0, 12, 42, 180, 0, 9, 27] := by decide +kernel
theorem ck_X10_blow_1_11bo : ((cX10_blow.data.toList).drop 16).take 16 = [46, 167, 0, 6, 17, 8, 174, 54, 5, 21, 5, 17, 8, 174, 160, 0] := by decide +kernel
theorem ck_X10_blow_2_11bo : ((cX10_blow.data.toList).drop 32).take 16 = [10, 21, 4, 154, 0, 5, 32, 173, 9, 55, 6, 21, 5, 17, 3, 232] := by decide +kernel
theorem ck_X10_blow_3_11bo : ((cX10_blow.data.toList).drop 48).take 16 = [108, 5, 100, 21, 4, 100, 54, 8, 21, 8, 21, 5, 16, 100, 108, 16] := by decide +kernel
theorem ck_X10_blow_4_11bo : ((cX10_blow.data.toList).drop 64).take 16 = [10, 112, 5, 100, 21, 4, 96, 163, 0, 20, 22, 6, 32, 21, 8, 184] := by decide +kernel
theorem ck_X10_blow_5_11bo : ((cX10_blow.data.toList).drop 80).take 16 = [0, 39, 129, 55, 6, 132, 8, 1, 167, 255, 224, 9, 55, 8, 21, 5] := by decide +kernel
theorem ck_X10_blow_6_11bo : ((cX10_blow.data.toList).drop 96).take 16 = [16, 10, 108, 16, 10, 112, 5, 100, 21, 4, 100, 54, 10, 21, 10, 21] := by decide +kernel
theorem ck_X10_blow_7_11bo : ((cX10_blow.data.toList).drop 112).take 16 = [5, 16, 10, 112, 5, 100, 21, 4, 96, 163, 0, 21, 22, 8, 22, 6] := by decide +kernel
theorem ck_X10_blow_8_11bo : ((cX10_blow.data.toList).drop 128).take 16 = [21, 10, 184, 0, 43, 129, 55, 8, 132, 10, 1, 167, 255, 226, 22, 8] := by decide +kernel
theorem dX0_burns_0 : decode cX0_burns 0 = .ok (.getstatic 59, 3) := by decide +kernel
theorem dX0_burns_3 : decode cX0_burns 3 = .ok (.aload_n 0, 1) := by decide +kernel
theorem dX0_burns_4 : decode cX0_burns 4 = .ok (.getfield 31, 3) := by decide +kernel
theorem dX0_burns_7 : decode cX0_burns 7 = .ok (.iaload, 1) := by decide +kernel
theorem dX0_burns_8 : decode cX0_burns 8 = .ok (.ireturn, 1) := by decide +kernel
theorem gX0_eatFor_X0_eats : GoodIn wsX0_eatFor (wsV RX0 62 RX0 yX0_eats wsX0_eats) := ru_gG (ru_gV tw_2_147 tw_2_148 tw_2_149 tw_1_18 mT_X0_eats)
theorem gX0_foodLasts_X0_eats : GoodIn wsX0_foodLasts (wsV RX0 62 RX0 yX0_eats wsX0_eats) := ru_gG (ru_gV tw_2_147 tw_2_148 tw_2_149 tw_1_18 mT_X0_eats)
theorem dX10_blow_0 : decode cX10_blow 0 = .ok (.iload_n 1, 1) := dk_0 (dk_k27 0) (dk_by (j := 0) rfl ck_X10_blow_0_11bo rfl rfl rfl)
theorem dX10_blow_1 : decode cX10_blow 1 = .ok (.ifCond .lt 19, 3) := dk_s (dk_k155 1) (dk_by (j := 1) rfl ck_X10_blow_0_11bo rfl rfl rfl) (dk_by (j := 2) rfl ck_X10_blow_0_11bo rfl rfl rfl) (dk_by (j := 3) rfl ck_X10_blow_0_11bo rfl rfl rfl) (by decide)
theorem dX10_blow_4 : decode cX10_blow 4 = .ok (.iload_n 1, 1) := dk_0 (dk_k27 4) (dk_by (j := 4) rfl ck_X10_blow_0_11bo rfl rfl rfl)
theorem dX10_blow_5 : decode cX10_blow 5 = .ok (.sipush 240, 3) := dk_s (dk_k17 5) (dk_by (j := 5) rfl ck_X10_blow_0_11bo rfl rfl rfl) (dk_by (j := 6) rfl ck_X10_blow_0_11bo rfl rfl rfl) (dk_by (j := 7) rfl ck_X10_blow_0_11bo rfl rfl rfl) (by decide)
theorem dX10_blow_8 : decode cX10_blow 8 = .ok (.if_icmp .ge 12, 3) := dk_s (dk_k162 8) (dk_by (j := 8) rfl ck_X10_blow_0_11bo rfl rfl rfl) (dk_by (j := 9) rfl ck_X10_blow_0_11bo rfl rfl rfl) (dk_by (j := 10) rfl ck_X10_blow_0_11bo rfl rfl rfl) (by decide)
theorem dX10_blow_11 : decode cX10_blow 11 = .ok (.aload_n 0, 1) := dk_0 (dk_k42 11) (dk_by (j := 11) rfl ck_X10_blow_0_11bo rfl rfl rfl)
theorem dX10_blow_12 : decode cX10_blow 12 = .ok (.getfield 9, 3) := dk_2 (dk_k180 12) (dk_by (j := 12) rfl ck_X10_blow_0_11bo rfl rfl rfl) (dk_by (j := 13) rfl ck_X10_blow_0_11bo rfl rfl rfl) (dk_by (j := 14) rfl ck_X10_blow_0_11bo rfl rfl rfl) (by decide)
theorem dX10_blow_15 : decode cX10_blow 15 = .ok (.iload_n 1, 1) := dk_0 (dk_k27 15) (dk_by (j := 15) rfl ck_X10_blow_0_11bo rfl rfl rfl)
theorem dX10_blow_16 : decode cX10_blow 16 = .ok (.iaload, 1) := dk_0 (dk_k46 16) (dk_by (j := 0) rfl ck_X10_blow_1_11bo rfl rfl rfl)
theorem dX10_blow_17 : decode cX10_blow 17 = .ok (.goto 6, 3) := dk_s (dk_k167 17) (dk_by (j := 1) rfl ck_X10_blow_1_11bo rfl rfl rfl) (dk_by (j := 2) rfl ck_X10_blow_1_11bo rfl rfl rfl) (dk_by (j := 3) rfl ck_X10_blow_1_11bo rfl rfl rfl) (by decide)
theorem dX10_blow_40 : decode cX10_blow 40 = .ok (.lconst 0, 1) := dk_0 (dk_k9 40) (dk_by (j := 8) rfl ck_X10_blow_2_11bo rfl rfl rfl)
theorem dX10_blow_45 : decode cX10_blow 45 = .ok (.sipush 1000, 3) := dk_s (dk_k17 45) (dk_by (j := 13) rfl ck_X10_blow_2_11bo rfl rfl rfl) (dk_by (j := 14) rfl ck_X10_blow_2_11bo rfl rfl rfl) (dk_by (j := 15) rfl ck_X10_blow_2_11bo rfl rfl rfl) (by decide)
theorem dX10_blow_49 : decode cX10_blow 49 = .ok (.iconst 2, 1) := dk_0 (dk_k5 49) (dk_by (j := 1) rfl ck_X10_blow_3_11bo rfl rfl rfl)
theorem dX10_blow_50 : decode cX10_blow 50 = .ok (.isub, 1) := dk_0 (dk_k100 50) (dk_by (j := 2) rfl ck_X10_blow_3_11bo rfl rfl rfl)
theorem dX10_blow_53 : decode cX10_blow 53 = .ok (.isub, 1) := dk_0 (dk_k100 53) (dk_by (j := 5) rfl ck_X10_blow_3_11bo rfl rfl rfl)
theorem dX10_blow_60 : decode cX10_blow 60 = .ok (.bipush 100, 2) := dk_1 (dk_k16 60) (dk_by (j := 12) rfl ck_X10_blow_3_11bo rfl rfl rfl) (dk_by (j := 13) rfl ck_X10_blow_3_11bo rfl rfl rfl) (by decide)
theorem dX10_blow_63 : decode cX10_blow 63 = .ok (.bipush 10, 2) := dk_1 (dk_k16 63) (dk_by (j := 15) rfl ck_X10_blow_3_11bo rfl rfl rfl) (dk_by (j := 0) rfl ck_X10_blow_4_11bo rfl rfl rfl) (by decide)
theorem dX10_blow_66 : decode cX10_blow 66 = .ok (.iconst 2, 1) := dk_0 (dk_k5 66) (dk_by (j := 2) rfl ck_X10_blow_4_11bo rfl rfl rfl)
theorem dX10_blow_67 : decode cX10_blow 67 = .ok (.isub, 1) := dk_0 (dk_k100 67) (dk_by (j := 3) rfl ck_X10_blow_4_11bo rfl rfl rfl)
theorem dX10_blow_70 : decode cX10_blow 70 = .ok (.iadd, 1) := dk_0 (dk_k96 70) (dk_by (j := 6) rfl ck_X10_blow_4_11bo rfl rfl rfl)
theorem dX10_blow_71 : decode cX10_blow 71 = .ok (.if_icmp .gt 20, 3) := dk_s (dk_k163 71) (dk_by (j := 7) rfl ck_X10_blow_4_11bo rfl rfl rfl) (dk_by (j := 8) rfl ck_X10_blow_4_11bo rfl rfl rfl) (dk_by (j := 9) rfl ck_X10_blow_4_11bo rfl rfl rfl) (by decide)
theorem dX10_blow_91 : decode cX10_blow 91 = .ok (.lconst 0, 1) := dk_0 (dk_k9 91) (dk_by (j := 11) rfl ck_X10_blow_5_11bo rfl rfl rfl)
theorem dX10_blow_96 : decode cX10_blow 96 = .ok (.bipush 10, 2) := dk_1 (dk_k16 96) (dk_by (j := 0) rfl ck_X10_blow_6_11bo rfl rfl rfl) (dk_by (j := 1) rfl ck_X10_blow_6_11bo rfl rfl rfl) (by decide)
theorem dX10_blow_99 : decode cX10_blow 99 = .ok (.bipush 10, 2) := dk_1 (dk_k16 99) (dk_by (j := 3) rfl ck_X10_blow_6_11bo rfl rfl rfl) (dk_by (j := 4) rfl ck_X10_blow_6_11bo rfl rfl rfl) (by decide)
theorem dX10_blow_102 : decode cX10_blow 102 = .ok (.iconst 2, 1) := dk_0 (dk_k5 102) (dk_by (j := 6) rfl ck_X10_blow_6_11bo rfl rfl rfl)
theorem dX10_blow_103 : decode cX10_blow 103 = .ok (.isub, 1) := dk_0 (dk_k100 103) (dk_by (j := 7) rfl ck_X10_blow_6_11bo rfl rfl rfl)
theorem dX10_blow_106 : decode cX10_blow 106 = .ok (.isub, 1) := dk_0 (dk_k100 106) (dk_by (j := 10) rfl ck_X10_blow_6_11bo rfl rfl rfl)
theorem dX10_blow_113 : decode cX10_blow 113 = .ok (.bipush 10, 2) := dk_1 (dk_k16 113) (dk_by (j := 1) rfl ck_X10_blow_7_11bo rfl rfl rfl) (dk_by (j := 2) rfl ck_X10_blow_7_11bo rfl rfl rfl) (by decide)
theorem dX10_blow_116 : decode cX10_blow 116 = .ok (.iconst 2, 1) := dk_0 (dk_k5 116) (dk_by (j := 4) rfl ck_X10_blow_7_11bo rfl rfl rfl)
theorem dX10_blow_117 : decode cX10_blow 117 = .ok (.isub, 1) := dk_0 (dk_k100 117) (dk_by (j := 5) rfl ck_X10_blow_7_11bo rfl rfl rfl)
theorem dX10_blow_120 : decode cX10_blow 120 = .ok (.iadd, 1) := dk_0 (dk_k96 120) (dk_by (j := 8) rfl ck_X10_blow_7_11bo rfl rfl rfl)
theorem dX10_blow_121 : decode cX10_blow 121 = .ok (.if_icmp .gt 21, 3) := dk_s (dk_k163 121) (dk_by (j := 9) rfl ck_X10_blow_7_11bo rfl rfl rfl) (dk_by (j := 10) rfl ck_X10_blow_7_11bo rfl rfl rfl) (dk_by (j := 11) rfl ck_X10_blow_7_11bo rfl rfl rfl) (by decide)
theorem gX10_blow_X11_byRows_n43 : GoodIn wsX10_blow (wsX11_byRows) := ru_gG mT_X11_byRows
theorem dX10_blow_130 : decode cX10_blow 130 = .ok (.invokestatic 43, 3) := dk_2 (dk_k184 130) (dk_by (j := 2) rfl ck_X10_blow_8_11bo rfl rfl rfl) (dk_by (j := 3) rfl ck_X10_blow_8_11bo rfl rfl rfl) (dk_by (j := 4) rfl ck_X10_blow_8_11bo rfl rfl rfl) (by decide)
theorem dX10_blow_133 : decode cX10_blow 133 = .ok (.lor, 1) := dk_0 (dk_k129 133) (dk_by (j := 5) rfl ck_X10_blow_8_11bo rfl rfl rfl)
theorem dX10_blow_139 : decode cX10_blow 139 = .ok (.goto (-30), 3) := dk_s (dk_k167 139) (dk_by (j := 11) rfl ck_X10_blow_8_11bo rfl rfl rfl) (dk_by (j := 12) rfl ck_X10_blow_8_11bo rfl rfl rfl) (dk_by (j := 13) rfl ck_X10_blow_8_11bo rfl rfl rfl) (by decide)
theorem gX10_blow_X11_byColumns_n39 : GoodIn wsX10_blow (wsX11_byColumns) := ru_gG mT_X11_byColumns
theorem dX10_blow_79 : decode cX10_blow 79 = .ok (.invokestatic 39, 3) := dk_2 (dk_k184 79) (dk_by (j := 15) rfl ck_X10_blow_4_11bo rfl rfl rfl) (dk_by (j := 0) rfl ck_X10_blow_5_11bo rfl rfl rfl) (dk_by (j := 1) rfl ck_X10_blow_5_11bo rfl rfl rfl) (by decide)
theorem dX10_blow_82 : decode cX10_blow 82 = .ok (.lor, 1) := dk_0 (dk_k129 82) (dk_by (j := 2) rfl ck_X10_blow_5_11bo rfl rfl rfl)
theorem dX10_blow_88 : decode cX10_blow 88 = .ok (.goto (-32), 3) := dk_s (dk_k167 88) (dk_by (j := 8) rfl ck_X10_blow_5_11bo rfl rfl rfl) (dk_by (j := 9) rfl ck_X10_blow_5_11bo rfl rfl rfl) (dk_by (j := 10) rfl ck_X10_blow_5_11bo rfl rfl rfl) (by decide)
theorem dX10_blow_27 : decode cX10_blow 27 = .ok (.sipush 2222, 3) := dk_s (dk_k17 27) (dk_by (j := 11) rfl ck_X10_blow_1_11bo rfl rfl rfl) (dk_by (j := 12) rfl ck_X10_blow_1_11bo rfl rfl rfl) (dk_by (j := 13) rfl ck_X10_blow_1_11bo rfl rfl rfl) (by decide)
theorem dX10_blow_30 : decode cX10_blow 30 = .ok (.if_icmp .ne 10, 3) := dk_s (dk_k160 30) (dk_by (j := 14) rfl ck_X10_blow_1_11bo rfl rfl rfl) (dk_by (j := 15) rfl ck_X10_blow_1_11bo rfl rfl rfl) (dk_by (j := 0) rfl ck_X10_blow_2_11bo rfl rfl rfl) (by decide)
theorem dX10_blow_35 : decode cX10_blow 35 = .ok (.ifCond .ne 5, 3) := dk_s (dk_k154 35) (dk_by (j := 3) rfl ck_X10_blow_2_11bo rfl rfl rfl) (dk_by (j := 4) rfl ck_X10_blow_2_11bo rfl rfl rfl) (dk_by (j := 5) rfl ck_X10_blow_2_11bo rfl rfl rfl) (by decide)
theorem gX0_driftIn_X10_blow : GoodIn wsX0_driftIn (wsV RX0 75 RX10 yX10_blow wsX10_blow) := ru_gG (ru_gV tw_3_55 tw_3_56 tw_3_57 tw_1_2 mT_X10_blow)
theorem gX0_narrowBy_X0_forgetBehind : GoodIn wsX0_narrowBy (wsV RX0 84 RX0 yX0_forgetBehind wsX0_forgetBehind) := ru_gG (ru_gV tw_3_78 tw_2_177 tw_2_178 tw_1_18 mT_X0_forgetBehind)
theorem gX0_placesNow_X0_driftIn : GoodIn wsX0_placesNow (wsV RX0 102 RX0 yX0_driftIn wsX0_driftIn) := ru_gG (ru_gV tw_3_51 tw_3_52 tw_3_53 tw_1_18 mT_X0_driftIn)
theorem gX0_placesNow_X0_narrowed : GoodIn wsX0_placesNow (wsV RX0 98 RX0 yX0_narrowed wsX0_narrowed) := ru_gG (ru_gV tw_3_66 tw_3_68 tw_0_2 tw_1_18 mT_X0_narrowed)
theorem gX0_placesKnown_X0_narrowed : GoodIn wsX0_placesKnown (wsV RX0 98 RX0 yX0_narrowed wsX0_narrowed) := ru_gG (ru_gV tw_3_66 tw_3_68 tw_0_2 tw_1_18 mT_X0_narrowed)
theorem gX0_placesKnown_X0_driftIn : GoodIn wsX0_placesKnown (wsV RX0 102 RX0 yX0_driftIn wsX0_driftIn) := ru_gG (ru_gV tw_3_51 tw_3_52 tw_3_53 tw_1_18 mT_X0_driftIn)
theorem gX0_placesKnown_X0_placesNow : GoodIn wsX0_placesKnown (wsV RX0 94 RX0 yX0_placesNow wsX0_placesNow) := ru_gG (ru_gV tw_3_47 tw_3_48 tw_3_49 tw_1_18 mT_X0_placesNow)
set_option maxHeartbeats 400000 in
set_option maxRecDepth 20000 in
theorem fc_X0_eats (l : Launch) (D : va_G) (ad : Nat → Nat → Nat) (C : Nat → Nat → ClassId) (nb : Nat) (M : fm_M) (hI : fm_I nb ad M) (kb : Nat) (hkb : kb < nb) : Met l yX0_eats wsX0_eats ({ frames := 0, cells := 0, slots := 0, locals := 0 }) (va_Pc [.ref (ad 50 kb)] (fm_P D ad C nb M)) (vp_Si (fun r : Int32 => (0 ≤ r.toInt ∧ r.toInt ≤ 41))) 0 0 (fun _ => False) := by
  refine Met.ofW (cc := cX0_eats) (maxL := 1) (ret := (some .int)) (by decide) rfl ?_
  intro p e s m args below meth c s₁ B hml hv
  obtain ⟨rfl, hw, hc⟩ := hv
  have hx := B.exec
  have hb := B.bytes
  have hr := B.returns
  have hts := atoms_spec (ws := wsX0_eats) B.pre
  have hown : s.vm.findClass RX0 = some m.cls := findClass_of_methodNamed B.named
  have hinX0 : ∀ w ∈ u_ws RX0 TX0 15, w ∈ wsX0_eats := fun w h => List.mem_cons_of_mem _ (iT_X0 w h)
  have hS : va_S (fm_A nb ad) s.heap s.heap [] := va_S.rf
  have hl := lv_entry ([.ref (ad 50 kb)]) (n := 1) (Nat.le_of_ble_eq_true rfl)
  rw [lg_entry_eq]
  generalize (lg_sl ([.ref (ad 50 kb)]) ++ List.replicate (1 - (lg_sl ([.ref (ad 50 kb)])).length) Slot.unset).toArray = ls at hl ⊢
  have hl : lv_has ls 1 [(0, .ref (ad 50 kb))] := hl
  refine lv_aload_n hx hb dX0_eats_0 rfl (lv_at hl 0 rfl) ?_
  refine fm_getI (a := 50) (j := 3) (T := TX0) (N := 15) hx hb hts hinX0 hown hc hw hI (kl_50 hkb) sh_50 rfl (by decide) rfl bd_50_3 (hts (.fieldLink RX0 41 "RedTent$Body" "men" "I") (List.mem_cons_of_mem _ tw_2_209)) (fun _ h9 => h9) dX0_eats_1 (fun x1 ex1 bx1 => ?_)
  obtain ⟨ts2, hZts2, hTts2⟩ := hc.2.2.2.1.2.2.2.2.1
  refine va_getsN hx hb hZts2 hS hown (va_Nw.use rfl hc.2.2.1.2.2.2.2.2.2.2.2.2.2.2.2.2.2.1) (fun _ h9 => h9) dX0_eats_4 ?_
  refine lv_aload_n hx hb dX0_eats_7 rfl (lv_at hl 0 rfl) ?_
  refine fm_getI (a := 50) (j := 0) (T := TX0) (N := 15) hx hb hts hinX0 hown hc hw hI (kl_50 hkb) sh_50 rfl (by decide) rfl bd_50_0 (hts (.fieldLink RX0 31 "RedTent$Body" "kind" "I") (List.mem_cons_of_mem _ tw_2_203)) (fun _ h9 => h9) dX0_eats_8 (fun x3 ex3 bx3 => ?_)
  refine va_ti hx hb hTts2 hS (fm_in (by omega)) rfl dX0_eats_11 ?_
  refine lv_topi (fun x4 ex4 => ?_)
  have bx4 : 0 ≤ x4.toInt ∧ x4.toInt ≤ 2 := by rw [ex4]; exact sb_4 _
  refine fx_imulB (p1 := 20) (q1 := 2) hx hb dX0_eats_12 rfl rfl (by omega) (by omega) (by decide) (fun y5 ey5 ty5 uy5 => ?_)
  obtain ⟨ts6, hZts6, hTts6⟩ := hc.2.2.2.1.2.2.2.2.2.1
  refine va_getsN hx hb hZts6 hS hown (va_Nw.use rfl hc.2.2.1.2.2.2.2.2.2.2.2.2.2.2.2.2.2.2.1) (fun _ h9 => h9) dX0_eats_13 ?_
  refine lv_aload_n hx hb dX0_eats_16 rfl (lv_at hl 0 rfl) ?_
  refine fm_getI (a := 50) (j := 0) (T := TX0) (N := 15) hx hb hts hinX0 hown hc hw hI (kl_50 hkb) sh_50 rfl (by decide) rfl bd_50_0 (hts (.fieldLink RX0 31 "RedTent$Body" "kind" "I") (List.mem_cons_of_mem _ tw_2_203)) (fun _ h9 => h9) dX0_eats_17 (fun x7 ex7 bx7 => ?_)
  obtain rfl : x3 = x7 := by rw [ex7]; exact ex3
  refine va_ti hx hb hTts6 hS (fm_in (by omega)) rfl dX0_eats_20 ?_
  refine lv_topi (fun x8 ex8 => ?_)
  have bx8 : 0 ≤ x8.toInt ∧ x8.toInt ≤ 1 := by rw [ex8]; exact sb_5 _
  refine fx_iadd hx hb dX0_eats_21 rfl rfl (by omega) (fun y9 ey9 ty9 => ?_)
  exact W.iret (v := y9) hx hb hr (fun t ht hW => ⟨y9, rfl, (by omega), ht⟩) (fun _ h => absurd h List.not_mem_nil) dX0_eats_22
set_option maxHeartbeats 400000 in
set_option maxRecDepth 20000 in
theorem fc_X0_burns (l : Launch) (D : va_G) (ad : Nat → Nat → Nat) (C : Nat → Nat → ClassId) (nb : Nat) (M : fm_M) (hI : fm_I nb ad M) (kb : Nat) (hkb : kb < nb) : Met l yX0_burns wsX0_burns ({ frames := 0, cells := 0, slots := 0, locals := 0 }) (va_Pc [.ref (ad 50 kb)] (fm_P D ad C nb M)) (vp_Si (fun r : Int32 => (0 ≤ r.toInt ∧ r.toInt ≤ 6))) 0 0 (fun _ => False) := by
  refine Met.ofW (cc := cX0_burns) (maxL := 1) (ret := (some .int)) (by decide) rfl ?_
  intro p e s m args below meth c s₁ B hml hv
  obtain ⟨rfl, hw, hc⟩ := hv
  have hx := B.exec
  have hb := B.bytes
  have hr := B.returns
  have hts := atoms_spec (ws := wsX0_burns) B.pre
  have hown : s.vm.findClass RX0 = some m.cls := findClass_of_methodNamed B.named
  have hinX0 : ∀ w ∈ u_ws RX0 TX0 15, w ∈ wsX0_burns := fun w h => List.mem_cons_of_mem _ (iT_X0 w h)
  have hS : va_S (fm_A nb ad) s.heap s.heap [] := va_S.rf
  have hl := lv_entry ([.ref (ad 50 kb)]) (n := 1) (Nat.le_of_ble_eq_true rfl)
  rw [lg_entry_eq]
  generalize (lg_sl ([.ref (ad 50 kb)]) ++ List.replicate (1 - (lg_sl ([.ref (ad 50 kb)])).length) Slot.unset).toArray = ls at hl ⊢
  have hl : lv_has ls 1 [(0, .ref (ad 50 kb))] := hl
  obtain ⟨ts1, hZts1, hTts1⟩ := hc.2.2.2.1.2.2.2.2.2.2
  refine va_getsN hx hb hZts1 hS hown (va_Nw.use rfl hc.2.2.1.2.2.2.2.2.2.2.2.2.2.2.2.2.2.2.2.1) (fun _ h9 => h9) dX0_burns_0 ?_
  refine lv_aload_n hx hb dX0_burns_3 rfl (lv_at hl 0 rfl) ?_
  refine fm_getI (a := 50) (j := 0) (T := TX0) (N := 15) hx hb hts hinX0 hown hc hw hI (kl_50 hkb) sh_50 rfl (by decide) rfl bd_50_0 (hts (.fieldLink RX0 31 "RedTent$Body" "kind" "I") (List.mem_cons_of_mem _ tw_2_203)) (fun _ h9 => h9) dX0_burns_4 (fun x2 ex2 bx2 => ?_)
  refine va_ti hx hb hTts1 hS (fm_in (by omega)) rfl dX0_burns_7 ?_
  refine lv_topi (fun x3 ex3 => ?_)
  have bx3 : 0 ≤ x3.toInt ∧ x3.toInt ≤ 6 := by rw [ex3]; exact sb_6 _
  exact W.iret (v := x3) hx hb hr (fun t ht hW => ⟨x3, rfl, (by omega), ht⟩) (fun _ h => absurd h List.not_mem_nil) dX0_burns_8
set_option maxHeartbeats 400000 in
set_option maxRecDepth 20000 in
theorem fc_X0_eatFor (l : Launch) (D : va_G) (ad : Nat → Nat → Nat) (C : Nat → Nat → ClassId) (nb : Nat) (M : fm_M) (hI : fm_I nb ad M) (kb : Nat) (hkb : kb < nb) (p0 : Int32) (b_p0 : 1 ≤ p0.toInt ∧ p0.toInt ≤ 48) : Met l yX0_eatFor wsX0_eatFor ({ frames := 1, cells := 0, slots := 0, locals := 20 }) (va_Pc [.ref (ad 50 kb), .int p0] (fm_P D ad C nb M)) (va_Qv (fun (u : fm_M) => fm_I nb ad u ∧ fm_same [50005] M u ∧ True) (fun u t => fm_at D ad C nb u t.heap) (fm_A nb ad)) 0 0 (fm_A nb ad) := by
  refine Met.ofW (cc := cX0_eatFor) (maxL := 2) (ret := none) (by decide) rfl ?_
  intro p e s m args below meth c s₁ B hml hv
  obtain ⟨rfl, hw, hc⟩ := hv
  have hx := B.exec
  have hb := B.bytes
  have hr := B.returns
  have hts := atoms_spec (ws := wsX0_eatFor) B.pre
  have hown : s.vm.findClass RX0 = some m.cls := findClass_of_methodNamed B.named
  have hinX0 : ∀ w ∈ u_ws RX0 TX0 15, w ∈ wsX0_eatFor := fun w h => List.mem_cons_of_mem _ (iT_X0 w h)
  have hS : va_S (fm_A nb ad) s.heap s.heap [] := va_S.rf
  have hE : fm_same [50005] M M := fm_same.rf
  have hl := lv_entry ([.ref (ad 50 kb), .int p0]) (n := 2) (Nat.le_of_ble_eq_true rfl)
  rw [lg_entry_eq]
  generalize (lg_sl ([.ref (ad 50 kb), .int p0]) ++ List.replicate (2 - (lg_sl ([.ref (ad 50 kb), .int p0])).length) Slot.unset).toArray = ls at hl ⊢
  have hl : lv_has ls 2 [(0, .ref (ad 50 kb)), (1, .int p0)] := hl
  refine lv_aload_n hx hb dX0_eatFor_0 rfl (lv_at hl 0 rfl) ?_
  refine lv_iconst (v := 0) hx hb dX0_eatFor_1 (by decide) ?_
  refine lv_aload_n hx hb dX0_eatFor_2 rfl (lv_at hl 0 rfl) ?_
  refine fm_getI (a := 50) (j := 5) (T := TX0) (N := 15) hx hb hts hinX0 hown hc hw hI (kl_50 hkb) sh_50 rfl (by decide) rfl bd_50_5 (hts (.fieldLink RX0 44 "RedTent$Body" "food" "I") (List.mem_cons_of_mem _ tw_2_213)) (fun _ h9 => h9) dX0_eatFor_3 (fun x1 ex1 bx1 => ?_)
  refine lv_iload_n hx hb dX0_eatFor_6 rfl (lv_at hl 1 rfl) ?_
  refine lv_aload_n hx hb dX0_eatFor_7 rfl (lv_at hl 0 rfl) ?_
  refine vp_callSi (va_Run.run (va_runV (As := []) (rest := [.int p0, .int x1, .int 0, .ref (ad 50 kb)]) ⟨hx, hb, hml, hown, hts⟩ (fc_X0_eats l D ad C nb M hI kb hkb) (cwV 0 hts gX0_eatFor_X0_eats rfl rfl rfl (by decide +kernel) ⟨Nat.le_of_ble_eq_true rfl, Nat.le_of_ble_eq_true rfl⟩) (fm_preV hc hw hS (kl_50 hkb) sh_50 rfl) rfl rfl hl.1 rfl (lv_room (Nat.le_of_ble_eq_true rfl)) dX0_eatFor_8 ⟨by decide +kernel, by decide +kernel⟩)) (fun r2 hr2 => ?_)
  refine fx_imulB (p1 := 48) (q1 := 41) hx hb dX0_eatFor_11 rfl rfl (by omega) (by omega) (by decide) (fun y3 ey3 ty3 uy3 => ?_)
  refine fx_isub hx hb dX0_eatFor_12 rfl rfl (by omega) (fun y4 ey4 ty4 => ?_)
  refine va_mmax hx hb (by rw [hml]; exact hl.1.symm) hown (hts (.methodLink RX0 66 Lib.Math.max.name) (List.mem_cons_of_mem _ tw_2_155)) (hts (.static Lib.Math.max.name) (List.mem_cons_of_mem _ tw_2_156)) (hts (.initialized "java/lang/Math") (List.mem_cons_of_mem _ tw_1_17)) (hts (.code Lib.Math.max.name Lib.Math.max.code 2 (some .int)) (List.mem_cons_of_mem _ tw_2_157)) (Nat.le_of_ble_eq_true rfl) (Nat.le_of_ble_eq_true rfl) (Nat.le_of_ble_eq_true rfl) (Nat.le_of_ble_eq_true rfl) dX0_eatFor_13 ?_
  refine lv_topi (fun y5 ey5 => ?_)
  have ty5 : y5.toInt = if 0 < y4.toInt then y4.toInt else 0 := by rw [ey5]; exact zi_max zk_0 rfl
  refine fm_putI (a := 50) (j := 5) (T := TX0) (N := 15) hx hb hts hinX0 tyX0 tyX0_ok nmX0 hown hc hw hI hE hS (kl_50 hkb) sh_50 od_50 rfl (by decide) rfl bd_50_5 (hts (.fieldLink RX0 44 "RedTent$Body" "food" "I") (List.mem_cons_of_mem _ tw_2_213)) (fun _ h9 => h9) rfl (by decide +kernel) (by omega) (by decide) (by decide) dX0_eatFor_16 (fun M6 H locs eM6 hw hI hE hS => ?_)
  exact W.vret hx hb hr (fun t ht hW => ⟨⟨M6, rfl, ⟨hI, hE, trivial⟩, by show fm_at D ad C nb _ t.heap; rw [ht]; exact hw⟩, hS.F ht⟩) hS.2.2 dX0_eatFor_19
set_option maxHeartbeats 400000 in
set_option maxRecDepth 20000 in
theorem fc_X0_foodLasts (l : Launch) (D : va_G) (ad : Nat → Nat → Nat) (C : Nat → Nat → ClassId) (nb : Nat) (M : fm_M) (hI : fm_I nb ad M) (kb : Nat) (hkb : kb < nb) (p0 : Int32) (b_p0 : 0 ≤ p0.toInt ∧ p0.toInt ≤ 239) : Met l yX0_foodLasts wsX0_foodLasts ({ frames := 1, cells := 0, slots := 0, locals := 20 }) (va_Pc [.ref (ad 50 kb), .int p0] (fm_P D ad C nb M)) (vp_Si (fun r : Int32 => True)) 0 0 (fun _ => False) := by
  refine Met.ofW (cc := cX0_foodLasts) (maxL := 3) (ret := (some .int)) (by decide) rfl ?_
  intro p e s m args below meth c s₁ B hml hv
  obtain ⟨rfl, hw, hc⟩ := hv
  have hx := B.exec
  have hb := B.bytes
  have hr := B.returns
  have hts := atoms_spec (ws := wsX0_foodLasts) B.pre
  have hown : s.vm.findClass RX0 = some m.cls := findClass_of_methodNamed B.named
  have hinX0 : ∀ w ∈ u_ws RX0 TX0 15, w ∈ wsX0_foodLasts := fun w h => List.mem_cons_of_mem _ (iT_X0 w h)
  have hS : va_S (fm_A nb ad) s.heap s.heap [] := va_S.rf
  have hl := lv_entry ([.ref (ad 50 kb), .int p0]) (n := 3) (Nat.le_of_ble_eq_true rfl)
  rw [lg_entry_eq]
  generalize (lg_sl ([.ref (ad 50 kb), .int p0]) ++ List.replicate (3 - (lg_sl ([.ref (ad 50 kb), .int p0])).length) Slot.unset).toArray = ls at hl ⊢
  have hl : lv_has ls 3 [(0, .ref (ad 50 kb)), (1, .int p0)] := hl
  refine lv_aload_n hx hb dX0_foodLasts_0 rfl (lv_at hl 0 rfl) ?_
  refine vp_callSi (va_Run.run (va_runV (As := []) (rest := []) ⟨hx, hb, hml, hown, hts⟩ (fc_X0_eats l D ad C nb M hI kb hkb) (cwV 0 hts gX0_foodLasts_X0_eats rfl rfl rfl (by decide +kernel) ⟨Nat.le_of_ble_eq_true rfl, Nat.le_of_ble_eq_true rfl⟩) (fm_preV hc hw hS (kl_50 hkb) sh_50 rfl) rfl rfl hl.1 rfl (lv_room (Nat.le_of_ble_eq_true rfl)) dX0_foodLasts_1 ⟨by decide +kernel, by decide +kernel⟩)) (fun r1 hr1 => ?_)
  refine lv_istore_n (lv' := [(2, .int r1), (0, .ref (ad 50 kb)), (1, .int p0)]) hx hb dX0_foodLasts_4 rfl hl (by decide) rfl (fun ls hl => ?_)
  refine lv_iload_n hx hb dX0_foodLasts_5 rfl (lv_at hl 0 rfl) ?_
  refine fx_if_ne (tgt := 15) hx hb dX0_foodLasts_6 (by decide) rfl (fun c2 => ?_) (fun c2 => ?_)
  · refine lv_iload_n hx hb dX0_foodLasts_15 rfl (lv_at hl 2 rfl) ?_
    refine lv_aload_n hx hb dX0_foodLasts_16 rfl (lv_at hl 1 rfl) ?_
    refine fm_getI (a := 50) (j := 5) (T := TX0) (N := 15) hx hb hts hinX0 hown hc hw hI (kl_50 hkb) sh_50 rfl (by decide) rfl bd_50_5 (hts (.fieldLink RX0 44 "RedTent$Body" "food" "I") (List.mem_cons_of_mem _ tw_2_213)) (fun _ h9 => h9) dX0_foodLasts_17 (fun x3 ex3 bx3 => ?_)
    refine lv_iload_n hx hb dX0_foodLasts_20 rfl (lv_at hl 0 rfl) ?_
    refine fx_idiv hx hb dX0_foodLasts_21 rfl rfl (by omega) (by omega) (fun y4 ey4 ty4 => ?_)
    have uy4 : 0 ≤ y4.toInt ∧ y4.toInt ≤ x3.toInt := by rw [ty4]; exact ⟨Int.ediv_nonneg (by omega) (by omega), Int.ediv_le_self _ (by omega)⟩
    refine fx_iadd hx hb dX0_foodLasts_22 rfl rfl (by omega) (fun y5 ey5 ty5 => ?_)
    exact W.iret (v := y5) hx hb hr (fun t ht hW => ⟨y5, rfl, trivial, ht⟩) (fun _ h => absurd h List.not_mem_nil) dX0_foodLasts_23
  · refine lv_sipush (v := 9999) hx hb dX0_foodLasts_9 (by decide) ?_
    refine lv_goto (tgt := 23) hx hb dX0_foodLasts_12 (by decide) ?_
    exact W.iret (v := 9999) hx hb hr (fun t ht hW => ⟨9999, rfl, trivial, ht⟩) (fun _ h => absurd h List.not_mem_nil) dX0_foodLasts_23
set_option maxHeartbeats 400000 in
set_option maxRecDepth 20000 in
theorem fc_X0_isUnder (l : Launch) (D : va_G) (ad : Nat → Nat → Nat) (C : Nat → Nat → ClassId) (nb : Nat) (M : fm_M) (hI : fm_I nb ad M) (kb : Nat) (hkb : kb < nb) (p0 : Int32) : Met l yX0_isUnder wsX0_isUnder ({ frames := 0, cells := 0, slots := 0, locals := 0 }) (va_Pc [.ref (ad 50 kb), .int p0] (fm_P D ad C nb M)) (vp_Si (fun r : Int32 => ((r = 1 ∧ (p0.toInt = 0 ∨ (M.1 50 kb 0).toInt = p0.toInt ∨ ((M.1 50 kb 0).toInt = 5 ∧ p0.toInt = 2) ∨ (((M.1 50 kb 0).toInt = 3 ∨ (M.1 50 kb 0).toInt = 4) ∧ p0.toInt = 1))) ∨ (r = 0 ∧ ¬ (p0.toInt = 0 ∨ (M.1 50 kb 0).toInt = p0.toInt ∨ ((M.1 50 kb 0).toInt = 5 ∧ p0.toInt = 2) ∨ (((M.1 50 kb 0).toInt = 3 ∨ (M.1 50 kb 0).toInt = 4) ∧ p0.toInt = 1)))))) 0 0 (fun _ => False) := by
  refine Met.ofW (cc := cX0_isUnder) (maxL := 4) (ret := (some .boolean)) (by decide) rfl ?_
  intro p e s m args below meth c s₁ B hml hv
  obtain ⟨rfl, hw, hc⟩ := hv
  have hx := B.exec
  have hb := B.bytes
  have hr := B.returns
  have hts := atoms_spec (ws := wsX0_isUnder) B.pre
  have hown : s.vm.findClass RX0 = some m.cls := findClass_of_methodNamed B.named
  have hinX0 : ∀ w ∈ u_ws RX0 TX0 15, w ∈ wsX0_isUnder := fun w h => List.mem_cons_of_mem _ (iT_X0 w h)
  have hS : va_S (fm_A nb ad) s.heap s.heap [] := va_S.rf
  have hl := lv_entry ([.ref (ad 50 kb), .int p0]) (n := 4) (Nat.le_of_ble_eq_true rfl)
  rw [lg_entry_eq]
  generalize (lg_sl ([.ref (ad 50 kb), .int p0]) ++ List.replicate (4 - (lg_sl ([.ref (ad 50 kb), .int p0])).length) Slot.unset).toArray = ls at hl ⊢
  have hl : lv_has ls 4 [(0, .ref (ad 50 kb)), (1, .int p0)] := hl
  refine lv_aload_n hx hb dX0_isUnder_0 rfl (lv_at hl 0 rfl) ?_
  refine fm_getI (a := 50) (j := 0) (T := TX0) (N := 15) hx hb hts hinX0 hown hc hw hI (kl_50 hkb) sh_50 rfl (by decide) rfl bd_50_0 (hts (.fieldLink RX0 31 "RedTent$Body" "kind" "I") (List.mem_cons_of_mem _ tw_2_203)) (fun _ h9 => h9) dX0_isUnder_1 (fun x1 ex1 bx1 => ?_)
  refine lv_istore_n (lv' := [(2, .int x1), (0, .ref (ad 50 kb)), (1, .int p0)]) hx hb dX0_isUnder_4 rfl hl (by decide) rfl (fun ls hl => ?_)
  refine lv_iconst (v := 0) hx hb dX0_isUnder_5 (by decide) ?_
  refine lv_istore_n (lv' := [(3, .int 0), (2, .int x1), (0, .ref (ad 50 kb)), (1, .int p0)]) hx hb dX0_isUnder_6 rfl hl (by decide) rfl (fun ls hl => ?_)
  have lp : ∀ (n_lp : Nat) (lp_3 : Int32) (lp_2 : Int32), (6 - lp_3.toInt).toNat < n_lp → (0 ≤ lp_3.toInt ∧ lp_3.toInt ≤ 6) → ((-1) ≤ lp_2.toInt ∧ lp_2.toInt ≤ 5) → (0 ≤ lp_2.toInt ∧ ((lp_3.toInt ≤ 0 ∨ lp_2.toInt ≤ 2) ∧ (lp_3.toInt ≤ 1 ∨ lp_2.toInt ≤ 0))) → ((p0.toInt = 0 ∨ lp_2.toInt = p0.toInt ∨ (lp_2.toInt = 5 ∧ p0.toInt = 2) ∨ ((lp_2.toInt = 3 ∨ lp_2.toInt = 4) ∧ p0.toInt = 1)) ↔ (p0.toInt = 0 ∨ (M.1 50 kb 0).toInt = p0.toInt ∨ ((M.1 50 kb 0).toInt = 5 ∧ p0.toInt = 2) ∨ (((M.1 50 kb 0).toInt = 3 ∨ (M.1 50 kb 0).toInt = 4) ∧ p0.toInt = 1))) → ∀ (ls : Array Slot), lv_has ls 4 [(3, .int lp_3), (2, .int lp_2), (0, .ref (ad 50 kb)), (1, .int p0)] → W p l e (headSpec wsX0_isUnder ({ frames := 0, cells := 0, slots := 0, locals := 0 })).room s m ([.ref (ad 50 kb), .int p0] : List Value).toArray below meth c s.heap [] 0 0 (MQ below (vp_Si (fun r : Int32 => ((r = 1 ∧ (p0.toInt = 0 ∨ (M.1 50 kb 0).toInt = p0.toInt ∨ ((M.1 50 kb 0).toInt = 5 ∧ p0.toInt = 2) ∨ (((M.1 50 kb 0).toInt = 3 ∨ (M.1 50 kb 0).toInt = 4) ∧ p0.toInt = 1))) ∨ (r = 0 ∧ ¬ (p0.toInt = 0 ∨ (M.1 50 kb 0).toInt = p0.toInt ∨ ((M.1 50 kb 0).toInt = 5 ∧ p0.toInt = 2) ∨ (((M.1 50 kb 0).toInt = 3 ∨ (M.1 50 kb 0).toInt = 4) ∧ p0.toInt = 1)))))) ([.ref (ad 50 kb), .int p0] : List Value).toArray s 0 0 (fun _ => False)) (F0 m 7 ls []) := by
    intro n_lp
    induction n_lp with
    | zero => intro lp_3 lp_2 hm_lp b_lp_3 b_lp_2 hu hv ls hl; exact absurd hm_lp (Nat.not_lt_zero _)
    | succ n_lp ih_lp =>
      intro lp_3 lp_2 hm_lp b_lp_3 b_lp_2 hu hv ls hl
      refine lv_iload_n hx hb dX0_isUnder_7 rfl (lv_at hl 0 rfl) ?_
      refine lv_bipush (v := 6) hx hb dX0_isUnder_8 (by decide) ?_
      refine fx_icmp_ge (tgt := 34) hx hb dX0_isUnder_10 (by decide) rfl zk_6 (fun c2 => ?_) (fun c2 => ?_)
      · refine lv_iload_n hx hb dX0_isUnder_34 rfl (lv_at hl 1 rfl) ?_
        refine lv_iload_n hx hb dX0_isUnder_35 rfl (lv_at hl 3 rfl) ?_
        refine fx_icmp_ne (tgt := 43) hx hb dX0_isUnder_36 (by decide) rfl rfl (fun c3 => ?_) (fun c3 => ?_)
        · refine lv_iconst (v := 0) hx hb dX0_isUnder_43 (by decide) ?_
          have qx1 : x1.toInt = (M.1 50 kb 0).toInt := by rw [ex1]
          exact W.zret (v := 0) hx hb hr rfl (fun t ht hW => ⟨0, rfl, Or.inr ⟨rfl, fun z => absurd (hv.mpr z) (by omega)⟩, ht⟩) (fun _ h => absurd h List.not_mem_nil) dX0_isUnder_44
        · refine lv_iconst (v := 1) hx hb dX0_isUnder_39 (by decide) ?_
          refine lv_goto (tgt := 44) hx hb dX0_isUnder_40 (by decide) ?_
          have qx1 : x1.toInt = (M.1 50 kb 0).toInt := by rw [ex1]
          exact W.zret (v := 1) hx hb hr rfl (fun t ht hW => ⟨1, rfl, Or.inl ⟨rfl, hv.mp (by omega)⟩, ht⟩) (fun _ h => absurd h List.not_mem_nil) dX0_isUnder_44
      · refine lv_iload_n hx hb dX0_isUnder_13 rfl (lv_at hl 1 rfl) ?_
        refine fx_if_le (tgt := 34) hx hb dX0_isUnder_14 (by decide) rfl (fun c4 => ?_) (fun c4 => ?_)
        · refine lv_iload_n hx hb dX0_isUnder_34 rfl (lv_at hl 1 rfl) ?_
          refine lv_iload_n hx hb dX0_isUnder_35 rfl (lv_at hl 3 rfl) ?_
          refine fx_icmp_ne (tgt := 43) hx hb dX0_isUnder_36 (by decide) rfl rfl (fun c5 => ?_) (fun c5 => ?_)
          · refine lv_iconst (v := 0) hx hb dX0_isUnder_43 (by decide) ?_
            have qx1 : x1.toInt = (M.1 50 kb 0).toInt := by rw [ex1]
            exact W.zret (v := 0) hx hb hr rfl (fun t ht hW => ⟨0, rfl, Or.inr ⟨rfl, fun z => absurd (hv.mpr z) (by omega)⟩, ht⟩) (fun _ h => absurd h List.not_mem_nil) dX0_isUnder_44
          · refine lv_iconst (v := 1) hx hb dX0_isUnder_39 (by decide) ?_
            refine lv_goto (tgt := 44) hx hb dX0_isUnder_40 (by decide) ?_
            have qx1 : x1.toInt = (M.1 50 kb 0).toInt := by rw [ex1]
            exact W.zret (v := 1) hx hb hr rfl (fun t ht hW => ⟨1, rfl, Or.inl ⟨rfl, hv.mp (by omega)⟩, ht⟩) (fun _ h => absurd h List.not_mem_nil) dX0_isUnder_44
        · refine lv_iload_n hx hb dX0_isUnder_17 rfl (lv_at hl 1 rfl) ?_
          refine lv_iload_n hx hb dX0_isUnder_18 rfl (lv_at hl 3 rfl) ?_
          refine fx_icmp_eq (tgt := 34) hx hb dX0_isUnder_19 (by decide) rfl rfl (fun c6 => ?_) (fun c6 => ?_)
          · refine lv_iload_n hx hb dX0_isUnder_34 rfl (lv_at hl 1 rfl) ?_
            refine lv_iload_n hx hb dX0_isUnder_35 rfl (lv_at hl 3 rfl) ?_
            refine fx_icmp_ne (tgt := 43) hx hb dX0_isUnder_36 (by decide) rfl rfl (fun c7 => ?_) (fun c7 => ?_)
            · refine lv_iconst (v := 0) hx hb dX0_isUnder_43 (by decide) ?_
              have qx1 : x1.toInt = (M.1 50 kb 0).toInt := by rw [ex1]
              exact W.zret (v := 0) hx hb hr rfl (fun t ht hW => ⟨0, rfl, Or.inr ⟨rfl, fun z => absurd (hv.mpr z) (by omega)⟩, ht⟩) (fun _ h => absurd h List.not_mem_nil) dX0_isUnder_44
            · refine lv_iconst (v := 1) hx hb dX0_isUnder_39 (by decide) ?_
              refine lv_goto (tgt := 44) hx hb dX0_isUnder_40 (by decide) ?_
              have qx1 : x1.toInt = (M.1 50 kb 0).toInt := by rw [ex1]
              exact W.zret (v := 1) hx hb hr rfl (fun t ht hW => ⟨1, rfl, Or.inl ⟨rfl, hv.mp (by omega)⟩, ht⟩) (fun _ h => absurd h List.not_mem_nil) dX0_isUnder_44
          · obtain ⟨ts8, hZts8, hTts8⟩ := hc.2.2.2.1.2.2.2.1
            refine va_getsN hx hb hZts8 hS hown (va_Nw.use rfl hc.2.2.1.2.2.2.2.2.2.2.2.2.2.2.2.2.2.2.2.2.1) (fun _ h9 => h9) dX0_isUnder_22 ?_
            refine lv_iload_n hx hb dX0_isUnder_25 rfl (lv_at hl 1 rfl) ?_
            refine va_ti hx hb hTts8 hS (fm_in (by omega)) rfl dX0_isUnder_26 ?_
            refine lv_topi (fun x9 ex9 => ?_)
            have bx9 : (-1) ≤ x9.toInt ∧ x9.toInt ≤ 2 := by rw [ex9]; exact sb_3 _
            refine lv_istore_n (lv' := [(2, .int x9), (3, .int lp_3), (0, .ref (ad 50 kb)), (1, .int p0)]) hx hb dX0_isUnder_27 rfl hl (by decide) rfl (fun ls hl => ?_)
            obtain ⟨y10, ey10⟩ : ∃ y : Int32, y = lp_3 + 1 := ⟨_, rfl⟩
            have ty10 : y10.toInt = lp_3.toInt + 1 := by rw [ey10, zi_add _ _ (by rw [zk_1]; omega) (by rw [zk_1]; omega), zk_1]
            refine lv_iinc (v := y10) (lv' := [(3, .int y10), (2, .int x9), (0, .ref (ad 50 kb)), (1, .int p0)]) hx hb dX0_isUnder_28 hl (k := 1) rfl (by rw [ey10]; rfl) (by decide) rfl (fun ls hl => ?_)
            refine lv_goto (tgt := 7) hx hb dX0_isUnder_31 (by decide) ?_
            exact ih_lp y10 x9 (by omega) (by omega) (by omega) (by have g9 := rt_under (i := lp_2) (by omega); rw [← ex9] at g9; omega) (by have g9 := rt_und (i := lp_2) (w := p0.toInt) (by omega) (by omega); rw [← ex9] at g9; exact g9.trans hv) ls (lv_sub hl [0, 1, 2, 3] rfl)
  exact lp _ 0 x1 (Nat.lt_succ_self _) (by decide) (by omega) (by have g9 : x1.toInt = (M.1 50 kb 0).toInt := (by rw [ex1]); have z9 := zk_0; omega) (by rw [show x1.toInt = (M.1 50 kb 0).toInt by rw [ex1]]) ls (lv_sub hl [0, 1, 2, 3] rfl)
set_option maxHeartbeats 400000 in
set_option maxRecDepth 20000 in
theorem fc_X10_blow (l : Launch) (D : va_G) (ad : Nat → Nat → Nat) (C : Nat → Nat → ClassId) (nb : Nat) (M : fm_M) (hI : fm_I nb ad M) (p0 : Int32) (p1 : Int64) (p2 : Int32) (b_p0 : 0 ≤ p0.toInt ∧ p0.toInt ≤ 239) (b_p2 : 0 ≤ p2.toInt ∧ p2.toInt ≤ 1) : Met l yX10_blow wsX10_blow ({ frames := 1, cells := 0, slots := 0, locals := 24 }) (va_Pc [.ref (ad 1 0), .int p0, .long p1, .int p2] (fm_P D ad C nb M)) (vp_Sl (fun r : Int64 => True)) 0 0 (fun _ => False) := by
  refine Met.ofW (cc := cX10_blow) (maxL := 11) (ret := (some .long)) (by decide) rfl ?_
  intro p e s m args below meth c s₁ B hml hv
  obtain ⟨rfl, hw, hc⟩ := hv
  have hx := B.exec
  have hb := B.bytes
  have hr := B.returns
  have hts := atoms_spec (ws := wsX10_blow) B.pre
  have hown : s.vm.findClass RX10 = some m.cls := findClass_of_methodNamed B.named
  have hinX10 : ∀ w ∈ u_ws RX10 TX10 4, w ∈ wsX10_blow := fun w h => List.mem_cons_of_mem _ (iT_X10 w h)
  have hS : va_S (fm_A nb ad) s.heap s.heap [] := va_S.rf
  have hl := lv_entry ([.ref (ad 1 0), .int p0, .long p1, .int p2]) (n := 11) (Nat.le_of_ble_eq_true rfl)
  rw [lg_entry_eq]
  generalize (lg_sl ([.ref (ad 1 0), .int p0, .long p1, .int p2]) ++ List.replicate (11 - (lg_sl ([.ref (ad 1 0), .int p0, .long p1, .int p2])).length) Slot.unset).toArray = ls at hl ⊢
  have hl : lv_has ls 11 [(0, .ref (ad 1 0)), (1, .int p0), (2, .long p1), (4, .int p2)] := hl
  refine lv_iload_n hx hb dX10_blow_0 rfl (lv_at hl 1 rfl) ?_
  refine fx_if_lt (tgt := 20) hx hb dX10_blow_1 (by decide) rfl (fun c1 => by exfalso; omega) (fun c1 => ?_)
  refine lv_iload_n hx hb dX10_blow_4 rfl (lv_at hl 1 rfl) ?_
  refine lv_sipush (v := 240) hx hb dX10_blow_5 (by decide) ?_
  refine fx_icmp_ge (tgt := 20) hx hb dX10_blow_8 (by decide) rfl zk_240 (fun c2 => by exfalso; omega) (fun c2 => ?_)
  refine lv_aload_n hx hb dX10_blow_11 rfl (lv_at hl 0 rfl) ?_
  refine fm_getG (a := 1) (j := 0) (T := TX10) (N := 4) hx hb hts hinX10 hown hc hw kl_1 sh_1 rfl (by decide) rfl (hI.to kl_1 tg_1_0) (hts (.fieldLink RX10 9 "RedTent$Weather" "windBy" "[I") (List.mem_cons_of_mem _ tw_1_35)) (fun _ h9 => h9) dX10_blow_12 ?_
  refine lv_iload_n hx hb dX10_blow_15 rfl (lv_at hl 1 rfl) ?_
  refine fm_iald (a := 2) hx hb hc hw hI kl_2 sh_2 ty_2 bd_2 (by omega) dX10_blow_16 (fun x3 ex3 bx3 => ?_)
  refine lv_goto (tgt := 23) hx hb dX10_blow_17 (by decide) ?_
  refine lv_istore (lv' := [(5, .int x3), (0, .ref (ad 1 0)), (1, .int p0), (2, .long p1), (4, .int p2)]) hx hb dX10_blow_23 hl (by decide) rfl (fun ls hl => ?_)
  have jt : ∀ (ls : Array Slot), lv_has ls 11 [(5, .int x3), (0, .ref (ad 1 0)), (1, .int p0), (2, .long p1), (4, .int p2)] → W p l e (headSpec wsX10_blow ({ frames := 1, cells := 0, slots := 0, locals := 24 })).room s m ([.ref (ad 1 0), .int p0, .long p1, .int p2] : List Value).toArray below meth c s.heap [] 0 0 (MQ below (vp_Sl (fun r : Int64 => True)) ([.ref (ad 1 0), .int p0, .long p1, .int p2] : List Value).toArray s 0 0 (fun _ => False)) (F0 m 40 ls []) := by
    intro  ls hl
    refine lv_lconst (v := 0) hx hb dX10_blow_40 (by decide) ?_
    refine lv_lstore (lv' := [(6, .long 0), (5, .int x3), (0, .ref (ad 1 0)), (1, .int p0), (2, .long p1), (4, .int p2)]) hx hb dX10_blow_41 hl (by decide) rfl (fun ls hl => ?_)
    refine lv_iload hx hb dX10_blow_43 (lv_at hl 1 rfl) ?_
    refine lv_sipush (v := 1000) hx hb dX10_blow_45 (by decide) ?_
    refine fx_idiv hx hb dX10_blow_48 rfl zk_1000 (by omega) (by omega) (fun y4 ey4 ty4 => ?_)
    refine lv_iconst (v := 2) hx hb dX10_blow_49 (by decide) ?_
    refine fx_isub hx hb dX10_blow_50 rfl zk_2 (by omega) (fun y5 ey5 ty5 => ?_)
    refine lv_iload hx hb dX10_blow_51 (lv_at hl 5 rfl) ?_
    refine fx_isub hx hb dX10_blow_53 rfl rfl (by omega) (fun y6 ey6 ty6 => ?_)
    refine lv_istore (lv' := [(8, .int y6), (6, .long 0), (5, .int x3), (0, .ref (ad 1 0)), (1, .int p0), (2, .long p1), (4, .int p2)]) hx hb dX10_blow_54 hl (by decide) rfl (fun ls hl => ?_)
    have lp : ∀ (n_lp : Nat) (lp_8 : Int32) (lp_6 : Int64), (9 - lp_8.toInt).toNat < n_lp → ((-3) ≤ lp_8.toInt ∧ lp_8.toInt ≤ 9) → ∀ (ls : Array Slot), lv_has ls 11 [(8, .int lp_8), (6, .long lp_6), (5, .int x3), (0, .ref (ad 1 0)), (1, .int p0), (2, .long p1), (4, .int p2)] → W p l e (headSpec wsX10_blow ({ frames := 1, cells := 0, slots := 0, locals := 24 })).room s m ([.ref (ad 1 0), .int p0, .long p1, .int p2] : List Value).toArray below meth c s.heap [] 0 0 (MQ below (vp_Sl (fun r : Int64 => True)) ([.ref (ad 1 0), .int p0, .long p1, .int p2] : List Value).toArray s 0 0 (fun _ => False)) (F0 m 56 ls []) := by
      intro n_lp
      induction n_lp with
      | zero => intro lp_8 lp_6 hm_lp b_lp_8 ls hl; exact absurd hm_lp (Nat.not_lt_zero _)
      | succ n_lp ih_lp =>
        intro lp_8 lp_6 hm_lp b_lp_8 ls hl
        refine lv_iload hx hb dX10_blow_56 (lv_at hl 0 rfl) ?_
        refine lv_iload hx hb dX10_blow_58 (lv_at hl 2 rfl) ?_
        refine lv_bipush (v := 100) hx hb dX10_blow_60 (by decide) ?_
        refine fx_idiv hx hb dX10_blow_62 rfl zk_100 (by omega) (by omega) (fun y7 ey7 ty7 => ?_)
        refine lv_bipush (v := 10) hx hb dX10_blow_63 (by decide) ?_
        refine fx_irem hx hb dX10_blow_65 rfl zk_10 (by omega) (by omega) (fun y8 ey8 ty8 => ?_)
        refine lv_iconst (v := 2) hx hb dX10_blow_66 (by decide) ?_
        refine fx_isub hx hb dX10_blow_67 rfl zk_2 (by omega) (fun y9 ey9 ty9 => ?_)
        refine lv_iload hx hb dX10_blow_68 (lv_at hl 6 rfl) ?_
        refine fx_iadd hx hb dX10_blow_70 rfl rfl (by omega) (fun y10 ey10 ty10 => ?_)
        refine fx_icmp_gt (tgt := 91) hx hb dX10_blow_71 (by decide) rfl rfl (fun c11 => ?_) (fun c11 => ?_)
        · refine lv_lconst (v := 0) hx hb dX10_blow_91 (by decide) ?_
          refine lv_lstore (lv' := [(8, .long 0), (6, .long lp_6), (5, .int x3), (0, .ref (ad 1 0)), (1, .int p0), (2, .long p1), (4, .int p2)]) hx hb dX10_blow_92 hl (by decide) rfl (fun ls hl => ?_)
          refine lv_iload hx hb dX10_blow_94 (lv_at hl 2 rfl) ?_
          refine lv_bipush (v := 10) hx hb dX10_blow_96 (by decide) ?_
          refine fx_idiv hx hb dX10_blow_98 rfl zk_10 (by omega) (by omega) (fun y12 ey12 ty12 => ?_)
          refine lv_bipush (v := 10) hx hb dX10_blow_99 (by decide) ?_
          refine fx_irem hx hb dX10_blow_101 rfl zk_10 (by omega) (by omega) (fun y13 ey13 ty13 => ?_)
          refine lv_iconst (v := 2) hx hb dX10_blow_102 (by decide) ?_
          refine fx_isub hx hb dX10_blow_103 rfl zk_2 (by omega) (fun y14 ey14 ty14 => ?_)
          refine lv_iload hx hb dX10_blow_104 (lv_at hl 6 rfl) ?_
          refine fx_isub hx hb dX10_blow_106 rfl rfl (by omega) (fun y15 ey15 ty15 => ?_)
          refine lv_istore (lv' := [(10, .int y15), (8, .long 0), (6, .long lp_6), (5, .int x3), (0, .ref (ad 1 0)), (1, .int p0), (2, .long p1), (4, .int p2)]) hx hb dX10_blow_107 hl (by decide) rfl (fun ls hl => ?_)
          have lq : ∀ (n_lq : Nat) (lq_10 : Int32) (lq_8 : Int64), (9 - lq_10.toInt).toNat < n_lq → ((-3) ≤ lq_10.toInt ∧ lq_10.toInt ≤ 9) → ∀ (ls : Array Slot), lv_has ls 11 [(10, .int lq_10), (8, .long lq_8), (6, .long lp_6), (5, .int x3), (0, .ref (ad 1 0)), (1, .int p0), (2, .long p1), (4, .int p2)] → W p l e (headSpec wsX10_blow ({ frames := 1, cells := 0, slots := 0, locals := 24 })).room s m ([.ref (ad 1 0), .int p0, .long p1, .int p2] : List Value).toArray below meth c s.heap [] 0 0 (MQ below (vp_Sl (fun r : Int64 => True)) ([.ref (ad 1 0), .int p0, .long p1, .int p2] : List Value).toArray s 0 0 (fun _ => False)) (F0 m 109 ls []) := by
            intro n_lq
            induction n_lq with
            | zero => intro lq_10 lq_8 hm_lq b_lq_10 ls hl; exact absurd hm_lq (Nat.not_lt_zero _)
            | succ n_lq ih_lq =>
              intro lq_10 lq_8 hm_lq b_lq_10 ls hl
              refine lv_iload hx hb dX10_blow_109 (lv_at hl 0 rfl) ?_
              refine lv_iload hx hb dX10_blow_111 (lv_at hl 3 rfl) ?_
              refine lv_bipush (v := 10) hx hb dX10_blow_113 (by decide) ?_
              refine fx_irem hx hb dX10_blow_115 rfl zk_10 (by omega) (by omega) (fun y16 ey16 ty16 => ?_)
              refine lv_iconst (v := 2) hx hb dX10_blow_116 (by decide) ?_
              refine fx_isub hx hb dX10_blow_117 rfl zk_2 (by omega) (fun y17 ey17 ty17 => ?_)
              refine lv_iload hx hb dX10_blow_118 (lv_at hl 7 rfl) ?_
              refine fx_iadd hx hb dX10_blow_120 rfl rfl (by omega) (fun y18 ey18 ty18 => ?_)
              refine fx_icmp_gt (tgt := 142) hx hb dX10_blow_121 (by decide) rfl rfl (fun c19 => ?_) (fun c19 => ?_)
              · refine lv_lload hx hb dX10_blow_142 (lv_at hl 1 rfl) ?_
                exact W.lret (v := lq_8) hx hb hr (fun t ht hW => ⟨lq_8, rfl, trivial, ht⟩) (fun _ h => absurd h List.not_mem_nil) dX10_blow_144
              · refine lv_lload hx hb dX10_blow_124 (lv_at hl 1 rfl) ?_
                refine lv_lload hx hb dX10_blow_126 (lv_at hl 2 rfl) ?_
                refine lv_iload hx hb dX10_blow_128 (lv_at hl 0 rfl) ?_
                refine vp_callSl (va_Run.run (va_runSN (As := [.long lp_6, .int lq_10]) (rest := [.long lq_8]) ⟨hx, hb, hml, hown, hts⟩ (fc_X11_byRows l lp_6 lq_10) ⟨va_cnB 2 hts gX10_blow_X11_byRows_n43 rfl rfl rfl hc.2.2.1.2.2.2.2.2.2.2.2.2.2.1 (hts (.initialized RX11) (List.mem_cons_of_mem _ tw_1_1)) (by decide +kernel) ⟨Nat.le_of_ble_eq_true rfl, Nat.le_of_ble_eq_true rfl⟩, (hts (.static yX11_byRows) (List.mem_cons_of_mem _ tw_3_64)), trivial⟩ ⟨fun a U g mk q => q, fun U hU hW => ⟨rfl, trivial⟩⟩ rfl rfl hl.1 rfl (lv_room (Nat.le_of_ble_eq_true rfl)) dX10_blow_130 ⟨by decide +kernel, by decide +kernel⟩)) (fun r20 hr20 => ?_)
                refine lv_lor hx hb dX10_blow_133 ?_
                refine lv_topl (fun y21 ey21 => ?_)
                refine lv_lstore (lv' := [(8, .long y21), (10, .int lq_10), (6, .long lp_6), (5, .int x3), (0, .ref (ad 1 0)), (1, .int p0), (2, .long p1), (4, .int p2)]) hx hb dX10_blow_134 hl (by decide) rfl (fun ls hl => ?_)
                obtain ⟨y22, ey22⟩ : ∃ y : Int32, y = lq_10 + 1 := ⟨_, rfl⟩
                have ty22 : y22.toInt = lq_10.toInt + 1 := by rw [ey22, zi_add _ _ (by rw [zk_1]; omega) (by rw [zk_1]; omega), zk_1]
                refine lv_iinc (v := y22) (lv' := [(10, .int y22), (8, .long y21), (6, .long lp_6), (5, .int x3), (0, .ref (ad 1 0)), (1, .int p0), (2, .long p1), (4, .int p2)]) hx hb dX10_blow_136 hl (k := 1) rfl (by rw [ey22]; rfl) (by decide) rfl (fun ls hl => ?_)
                refine lv_goto (tgt := 109) hx hb dX10_blow_139 (by decide) ?_
                exact ih_lq y22 y21 (by omega) (by omega) ls (lv_sub hl [0, 1, 2, 3, 4, 5, 6, 7] rfl)
          exact lq _ y15 0 (Nat.lt_succ_self _) (by omega) ls (lv_sub hl [0, 1, 2, 3, 4, 5, 6, 7] rfl)
        · refine lv_lload hx hb dX10_blow_74 (lv_at hl 1 rfl) ?_
          refine lv_lload_n hx hb dX10_blow_76 rfl (lv_at hl 5 rfl) ?_
          refine lv_iload hx hb dX10_blow_77 (lv_at hl 0 rfl) ?_
          refine vp_callSl (va_Run.run (va_runSN (As := [.long p1, .int lp_8]) (rest := [.long lp_6]) ⟨hx, hb, hml, hown, hts⟩ (fc_X11_byColumns l p1 lp_8) ⟨va_cnB 2 hts gX10_blow_X11_byColumns_n39 rfl rfl rfl hc.2.2.1.2.2.2.2.2.2.2.2.2.1 (hts (.initialized RX11) (List.mem_cons_of_mem _ tw_1_1)) (by decide +kernel) ⟨Nat.le_of_ble_eq_true rfl, Nat.le_of_ble_eq_true rfl⟩, (hts (.static yX11_byColumns) (List.mem_cons_of_mem _ tw_3_60)), trivial⟩ ⟨fun a U g mk q => q, fun U hU hW => ⟨rfl, trivial⟩⟩ rfl rfl hl.1 rfl (lv_room (Nat.le_of_ble_eq_true rfl)) dX10_blow_79 ⟨by decide +kernel, by decide +kernel⟩)) (fun r23 hr23 => ?_)
          refine lv_lor hx hb dX10_blow_82 ?_
          refine lv_topl (fun y24 ey24 => ?_)
          refine lv_lstore (lv' := [(6, .long y24), (8, .int lp_8), (5, .int x3), (0, .ref (ad 1 0)), (1, .int p0), (2, .long p1), (4, .int p2)]) hx hb dX10_blow_83 hl (by decide) rfl (fun ls hl => ?_)
          obtain ⟨y25, ey25⟩ : ∃ y : Int32, y = lp_8 + 1 := ⟨_, rfl⟩
          have ty25 : y25.toInt = lp_8.toInt + 1 := by rw [ey25, zi_add _ _ (by rw [zk_1]; omega) (by rw [zk_1]; omega), zk_1]
          refine lv_iinc (v := y25) (lv' := [(8, .int y25), (6, .long y24), (5, .int x3), (0, .ref (ad 1 0)), (1, .int p0), (2, .long p1), (4, .int p2)]) hx hb dX10_blow_85 hl (k := 1) rfl (by rw [ey25]; rfl) (by decide) rfl (fun ls hl => ?_)
          refine lv_goto (tgt := 56) hx hb dX10_blow_88 (by decide) ?_
          exact ih_lp y25 y24 (by omega) (by omega) ls (lv_sub hl [0, 1, 2, 3, 4, 5, 6] rfl)
    exact lp _ y6 0 (Nat.lt_succ_self _) (by omega) ls (lv_sub hl [0, 1, 2, 3, 4, 5, 6] rfl)
  refine lv_iload hx hb dX10_blow_25 (lv_at hl 0 rfl) ?_
  refine lv_sipush (v := 2222) hx hb dX10_blow_27 (by decide) ?_
  refine fx_icmp_ne (tgt := 40) hx hb dX10_blow_30 (by decide) rfl zk_2222 (fun c26 => ?_) (fun c26 => ?_)
  · exact jt ls (lv_sub hl [0, 1, 2, 3, 4] rfl)
  · refine lv_iload hx hb dX10_blow_33 (lv_at hl 4 rfl) ?_
    refine fx_if_ne (tgt := 40) hx hb dX10_blow_35 (by decide) rfl (fun c27 => ?_) (fun c27 => ?_)
    · exact jt ls (lv_sub hl [0, 1, 2, 3, 4] rfl)
    · refine lv_lload_n hx hb dX10_blow_38 rfl (lv_at hl 3 rfl) ?_
      exact W.lret (v := p1) hx hb hr (fun t ht hW => ⟨p1, rfl, trivial, ht⟩) (fun _ h => absurd h List.not_mem_nil) dX10_blow_39
set_option maxHeartbeats 400000 in
set_option maxRecDepth 20000 in
theorem fc_X0_driftIn (l : Launch) (D : va_G) (ad : Nat → Nat → Nat) (C : Nat → Nat → ClassId) (nb : Nat) (M : fm_M) (hI : fm_I nb ad M) (kb : Nat) (hkb : kb < nb) (p0 : Int32) (p1 : Int64) (b_p0 : 0 ≤ p0.toInt ∧ p0.toInt ≤ 239) : Met l yX0_driftIn wsX0_driftIn ({ frames := 2, cells := 0, slots := 0, locals := 54 }) (va_Pc [.ref (ad 50 kb), .ref (ad 1 0), .int p0, .long p1] (fm_P D ad C nb M)) (vp_Sl (fun r : Int64 => True)) 0 0 (fun _ => False) := by
  refine Met.ofW (cc := cX0_driftIn) (maxL := 6) (ret := (some .long)) (by decide) rfl ?_
  intro p e s m args below meth c s₁ B hml hv
  obtain ⟨rfl, hw, hc⟩ := hv
  have hx := B.exec
  have hb := B.bytes
  have hr := B.returns
  have hts := atoms_spec (ws := wsX0_driftIn) B.pre
  have hown : s.vm.findClass RX0 = some m.cls := findClass_of_methodNamed B.named
  have hinX0 : ∀ w ∈ u_ws RX0 TX0 15, w ∈ wsX0_driftIn := fun w h => List.mem_cons_of_mem _ (iT_X0 w h)
  have hS : va_S (fm_A nb ad) s.heap s.heap [] := va_S.rf
  have hl := lv_entry ([.ref (ad 50 kb), .ref (ad 1 0), .int p0, .long p1]) (n := 6) (Nat.le_of_ble_eq_true rfl)
  rw [lg_entry_eq]
  generalize (lg_sl ([.ref (ad 50 kb), .ref (ad 1 0), .int p0, .long p1]) ++ List.replicate (6 - (lg_sl ([.ref (ad 50 kb), .ref (ad 1 0), .int p0, .long p1])).length) Slot.unset).toArray = ls at hl ⊢
  have hl : lv_has ls 6 [(0, .ref (ad 50 kb)), (1, .ref (ad 1 0)), (2, .int p0), (3, .long p1)] := hl
  refine lv_aload_n hx hb dX0_driftIn_0 rfl (lv_at hl 0 rfl) ?_
  refine fm_getI (a := 50) (j := 0) (T := TX0) (N := 15) hx hb hts hinX0 hown hc hw hI (kl_50 hkb) sh_50 rfl (by decide) rfl bd_50_0 (hts (.fieldLink RX0 31 "RedTent$Body" "kind" "I") (List.mem_cons_of_mem _ tw_2_203)) (fun _ h9 => h9) dX0_driftIn_1 (fun x1 ex1 bx1 => ?_)
  refine lv_iconst (v := 2) hx hb dX0_driftIn_4 (by decide) ?_
  refine fx_icmp_ne (tgt := 10) hx hb dX0_driftIn_5 (by decide) rfl zk_2 (fun c2 => ?_) (fun c2 => ?_)
  · refine lv_aload_n hx hb dX0_driftIn_10 rfl (lv_at hl 0 rfl) ?_
    refine fm_getI (a := 50) (j := 0) (T := TX0) (N := 15) hx hb hts hinX0 hown hc hw hI (kl_50 hkb) sh_50 rfl (by decide) rfl bd_50_0 (hts (.fieldLink RX0 31 "RedTent$Body" "kind" "I") (List.mem_cons_of_mem _ tw_2_203)) (fun _ h9 => h9) dX0_driftIn_11 (fun x3 ex3 bx3 => ?_)
    obtain rfl : x1 = x3 := by rw [ex3]; exact ex1
    refine lv_iconst (v := 3) hx hb dX0_driftIn_14 (by decide) ?_
    refine fx_icmp_eq (tgt := 32) hx hb dX0_driftIn_15 (by decide) rfl zk_3 (fun c4 => ?_) (fun c4 => ?_)
    · refine lv_iconst (v := 1) hx hb dX0_driftIn_32 (by decide) ?_
      refine lv_goto (tgt := 37) hx hb dX0_driftIn_33 (by decide) ?_
      refine lv_istore (lv' := [(5, .int 1), (0, .ref (ad 50 kb)), (1, .ref (ad 1 0)), (2, .int p0), (3, .long p1)]) hx hb dX0_driftIn_37 hl (by decide) rfl (fun ls hl => ?_)
      refine lv_aload_n hx hb dX0_driftIn_39 rfl (lv_at hl 2 rfl) ?_
      refine lv_iload_n hx hb dX0_driftIn_40 rfl (lv_at hl 3 rfl) ?_
      refine lv_lload_n hx hb dX0_driftIn_41 rfl (lv_at hl 4 rfl) ?_
      refine lv_iload hx hb dX0_driftIn_42 (lv_at hl 0 rfl) ?_
      refine fx_if_eq (tgt := 51) hx hb dX0_driftIn_44 (by decide) zk_1 (fun c5 => by exfalso; omega) (fun c5 => ?_)
      refine lv_iconst (v := 1) hx hb dX0_driftIn_47 (by decide) ?_
      refine lv_goto (tgt := 52) hx hb dX0_driftIn_48 (by decide) ?_
      refine vp_callSl (va_Run.run (va_runV (As := [.int p0, .long p1, .int 1]) (rest := []) ⟨hx, hb, hml, hown, hts⟩ (fc_X10_blow l D ad C nb M hI p0 p1 1 (by omega) (by decide)) (cwV 3 hts gX0_driftIn_X10_blow rfl rfl rfl (by decide +kernel) ⟨Nat.le_of_ble_eq_true rfl, Nat.le_of_ble_eq_true rfl⟩) (fm_preV hc hw hS kl_1 sh_1 rfl) rfl rfl hl.1 rfl (lv_room (Nat.le_of_ble_eq_true rfl)) dX0_driftIn_52 ⟨by decide +kernel, by decide +kernel⟩)) (fun r6 hr6 => ?_)
      exact W.lret (v := r6) hx hb hr (fun t ht hW => ⟨r6, rfl, trivial, ht⟩) (fun _ h => absurd h List.not_mem_nil) dX0_driftIn_55
    · refine lv_aload_n hx hb dX0_driftIn_18 rfl (lv_at hl 0 rfl) ?_
      refine fm_getI (a := 50) (j := 0) (T := TX0) (N := 15) hx hb hts hinX0 hown hc hw hI (kl_50 hkb) sh_50 rfl (by decide) rfl bd_50_0 (hts (.fieldLink RX0 31 "RedTent$Body" "kind" "I") (List.mem_cons_of_mem _ tw_2_203)) (fun _ h9 => h9) dX0_driftIn_19 (fun x7 ex7 bx7 => ?_)
      obtain rfl : x1 = x7 := by rw [ex7]; exact ex1
      refine lv_iconst (v := 4) hx hb dX0_driftIn_22 (by decide) ?_
      refine fx_icmp_ne (tgt := 36) hx hb dX0_driftIn_23 (by decide) rfl zk_4 (fun c8 => ?_) (fun c8 => ?_)
      · refine lv_iconst (v := 0) hx hb dX0_driftIn_36 (by decide) ?_
        refine lv_istore (lv' := [(5, .int 0), (0, .ref (ad 50 kb)), (1, .ref (ad 1 0)), (2, .int p0), (3, .long p1)]) hx hb dX0_driftIn_37 hl (by decide) rfl (fun ls hl => ?_)
        refine lv_aload_n hx hb dX0_driftIn_39 rfl (lv_at hl 2 rfl) ?_
        refine lv_iload_n hx hb dX0_driftIn_40 rfl (lv_at hl 3 rfl) ?_
        refine lv_lload_n hx hb dX0_driftIn_41 rfl (lv_at hl 4 rfl) ?_
        refine lv_iload hx hb dX0_driftIn_42 (lv_at hl 0 rfl) ?_
        refine fx_if_eq (tgt := 51) hx hb dX0_driftIn_44 (by decide) zk_0 (fun c9 => ?_) (fun c9 => by exfalso; omega)
        refine lv_iconst (v := 0) hx hb dX0_driftIn_51 (by decide) ?_
        refine vp_callSl (va_Run.run (va_runV (As := [.int p0, .long p1, .int 0]) (rest := []) ⟨hx, hb, hml, hown, hts⟩ (fc_X10_blow l D ad C nb M hI p0 p1 0 (by omega) (by decide)) (cwV 3 hts gX0_driftIn_X10_blow rfl rfl rfl (by decide +kernel) ⟨Nat.le_of_ble_eq_true rfl, Nat.le_of_ble_eq_true rfl⟩) (fm_preV hc hw hS kl_1 sh_1 rfl) rfl rfl hl.1 rfl (lv_room (Nat.le_of_ble_eq_true rfl)) dX0_driftIn_52 ⟨by decide +kernel, by decide +kernel⟩)) (fun r10 hr10 => ?_)
        exact W.lret (v := r10) hx hb hr (fun t ht hW => ⟨r10, rfl, trivial, ht⟩) (fun _ h => absurd h List.not_mem_nil) dX0_driftIn_55
      · refine lv_iload_n hx hb dX0_driftIn_26 rfl (lv_at hl 2 rfl) ?_
        refine lv_iconst (v := 4) hx hb dX0_driftIn_27 (by decide) ?_
        refine fx_irem hx hb dX0_driftIn_28 rfl zk_4 (by omega) (by omega) (fun y11 ey11 ty11 => ?_)
        refine fx_if_ne (tgt := 36) hx hb dX0_driftIn_29 (by decide) rfl (fun c12 => ?_) (fun c12 => ?_)
        · refine lv_iconst (v := 0) hx hb dX0_driftIn_36 (by decide) ?_
          refine lv_istore (lv' := [(5, .int 0), (0, .ref (ad 50 kb)), (1, .ref (ad 1 0)), (2, .int p0), (3, .long p1)]) hx hb dX0_driftIn_37 hl (by decide) rfl (fun ls hl => ?_)
          refine lv_aload_n hx hb dX0_driftIn_39 rfl (lv_at hl 2 rfl) ?_
          refine lv_iload_n hx hb dX0_driftIn_40 rfl (lv_at hl 3 rfl) ?_
          refine lv_lload_n hx hb dX0_driftIn_41 rfl (lv_at hl 4 rfl) ?_
          refine lv_iload hx hb dX0_driftIn_42 (lv_at hl 0 rfl) ?_
          refine fx_if_eq (tgt := 51) hx hb dX0_driftIn_44 (by decide) zk_0 (fun c13 => ?_) (fun c13 => by exfalso; omega)
          refine lv_iconst (v := 0) hx hb dX0_driftIn_51 (by decide) ?_
          refine vp_callSl (va_Run.run (va_runV (As := [.int p0, .long p1, .int 0]) (rest := []) ⟨hx, hb, hml, hown, hts⟩ (fc_X10_blow l D ad C nb M hI p0 p1 0 (by omega) (by decide)) (cwV 3 hts gX0_driftIn_X10_blow rfl rfl rfl (by decide +kernel) ⟨Nat.le_of_ble_eq_true rfl, Nat.le_of_ble_eq_true rfl⟩) (fm_preV hc hw hS kl_1 sh_1 rfl) rfl rfl hl.1 rfl (lv_room (Nat.le_of_ble_eq_true rfl)) dX0_driftIn_52 ⟨by decide +kernel, by decide +kernel⟩)) (fun r14 hr14 => ?_)
          exact W.lret (v := r14) hx hb hr (fun t ht hW => ⟨r14, rfl, trivial, ht⟩) (fun _ h => absurd h List.not_mem_nil) dX0_driftIn_55
        · refine lv_iconst (v := 1) hx hb dX0_driftIn_32 (by decide) ?_
          refine lv_goto (tgt := 37) hx hb dX0_driftIn_33 (by decide) ?_
          refine lv_istore (lv' := [(5, .int 1), (0, .ref (ad 50 kb)), (1, .ref (ad 1 0)), (2, .int p0), (3, .long p1)]) hx hb dX0_driftIn_37 hl (by decide) rfl (fun ls hl => ?_)
          refine lv_aload_n hx hb dX0_driftIn_39 rfl (lv_at hl 2 rfl) ?_
          refine lv_iload_n hx hb dX0_driftIn_40 rfl (lv_at hl 3 rfl) ?_
          refine lv_lload_n hx hb dX0_driftIn_41 rfl (lv_at hl 4 rfl) ?_
          refine lv_iload hx hb dX0_driftIn_42 (lv_at hl 0 rfl) ?_
          refine fx_if_eq (tgt := 51) hx hb dX0_driftIn_44 (by decide) zk_1 (fun c15 => by exfalso; omega) (fun c15 => ?_)
          refine lv_iconst (v := 1) hx hb dX0_driftIn_47 (by decide) ?_
          refine lv_goto (tgt := 52) hx hb dX0_driftIn_48 (by decide) ?_
          refine vp_callSl (va_Run.run (va_runV (As := [.int p0, .long p1, .int 1]) (rest := []) ⟨hx, hb, hml, hown, hts⟩ (fc_X10_blow l D ad C nb M hI p0 p1 1 (by omega) (by decide)) (cwV 3 hts gX0_driftIn_X10_blow rfl rfl rfl (by decide +kernel) ⟨Nat.le_of_ble_eq_true rfl, Nat.le_of_ble_eq_true rfl⟩) (fm_preV hc hw hS kl_1 sh_1 rfl) rfl rfl hl.1 rfl (lv_room (Nat.le_of_ble_eq_true rfl)) dX0_driftIn_52 ⟨by decide +kernel, by decide +kernel⟩)) (fun r16 hr16 => ?_)
          exact W.lret (v := r16) hx hb hr (fun t ht hW => ⟨r16, rfl, trivial, ht⟩) (fun _ h => absurd h List.not_mem_nil) dX0_driftIn_55
  · refine lv_lload_n hx hb dX0_driftIn_8 rfl (lv_at hl 3 rfl) ?_
    exact W.lret (v := p1) hx hb hr (fun t ht hW => ⟨p1, rfl, trivial, ht⟩) (fun _ h => absurd h List.not_mem_nil) dX0_driftIn_9
set_option maxHeartbeats 400000 in
set_option maxRecDepth 20000 in
theorem fc_X0_narrowed (l : Launch) (D : va_G) (ad : Nat → Nat → Nat) (C : Nat → Nat → ClassId) (nb : Nat) (M : fm_M) (hI : fm_I nb ad M) (kb : Nat) (hkb : kb < nb) (p0 : Int64) (p1 p2 : Int32) (b_p2 : 0 ≤ p2.toInt ∧ p2.toInt ≤ 40) : Met l yX0_narrowed wsX0_narrowed ({ frames := 0, cells := 0, slots := 0, locals := 0 }) (va_Pc [.ref (ad 50 kb), .long p0, .int p1, .int p2] (fm_P D ad C nb M)) (vp_Sl (fun r : Int64 => True)) 0 0 (fun _ => False) := by
  refine Met.ofW (cc := cX0_narrowed) (maxL := 8) (ret := (some .long)) (by decide) rfl ?_
  intro p e s m args below meth c s₁ B hml hv
  obtain ⟨rfl, hw, hc⟩ := hv
  have hx := B.exec
  have hb := B.bytes
  have hr := B.returns
  have hts := atoms_spec (ws := wsX0_narrowed) B.pre
  have hown : s.vm.findClass RX0 = some m.cls := findClass_of_methodNamed B.named
  have hinX0 : ∀ w ∈ u_ws RX0 TX0 15, w ∈ wsX0_narrowed := fun w h => List.mem_cons_of_mem _ (iT_X0 w h)
  have hS : va_S (fm_A nb ad) s.heap s.heap [] := va_S.rf
  have hl := lv_entry ([.ref (ad 50 kb), .long p0, .int p1, .int p2]) (n := 8) (Nat.le_of_ble_eq_true rfl)
  rw [lg_entry_eq]
  generalize (lg_sl ([.ref (ad 50 kb), .long p0, .int p1, .int p2]) ++ List.replicate (8 - (lg_sl ([.ref (ad 50 kb), .long p0, .int p1, .int p2])).length) Slot.unset).toArray = ls at hl ⊢
  have hl : lv_has ls 8 [(0, .ref (ad 50 kb)), (1, .long p0), (3, .int p1), (4, .int p2)] := hl
  refine lv_lload_n hx hb dX0_narrowed_0 rfl (lv_at hl 1 rfl) ?_
  refine lv_lstore (lv' := [(5, .long p0), (0, .ref (ad 50 kb)), (1, .long p0), (3, .int p1), (4, .int p2)]) hx hb dX0_narrowed_1 hl (by decide) rfl (fun ls hl => ?_)
  refine lv_iconst (v := 0) hx hb dX0_narrowed_3 (by decide) ?_
  refine lv_istore (lv' := [(7, .int 0), (5, .long p0), (0, .ref (ad 50 kb)), (1, .long p0), (3, .int p1), (4, .int p2)]) hx hb dX0_narrowed_4 hl (by decide) rfl (fun ls hl => ?_)
  have lp : ∀ (n_lp : Nat) (lp_7 : Int32) (lp_5 : Int64), (40 - lp_7.toInt).toNat < n_lp → (0 ≤ lp_7.toInt ∧ lp_7.toInt ≤ 40) → ∀ (ls : Array Slot), lv_has ls 8 [(7, .int lp_7), (5, .long lp_5), (0, .ref (ad 50 kb)), (1, .long p0), (3, .int p1), (4, .int p2)] → W p l e (headSpec wsX0_narrowed ({ frames := 0, cells := 0, slots := 0, locals := 0 })).room s m ([.ref (ad 50 kb), .long p0, .int p1, .int p2] : List Value).toArray below meth c s.heap [] 0 0 (MQ below (vp_Sl (fun r : Int64 => True)) ([.ref (ad 50 kb), .long p0, .int p1, .int p2] : List Value).toArray s 0 0 (fun _ => False)) (F0 m 6 ls []) := by
    intro n_lp
    induction n_lp with
    | zero => intro lp_7 lp_5 hm_lp b_lp_7 ls hl; exact absurd hm_lp (Nat.not_lt_zero _)
    | succ n_lp ih_lp =>
      intro lp_7 lp_5 hm_lp b_lp_7 ls hl
      refine lv_iload hx hb dX0_narrowed_6 (lv_at hl 0 rfl) ?_
      refine lv_iload hx hb dX0_narrowed_8 (lv_at hl 5 rfl) ?_
      refine fx_icmp_ge (tgt := 42) hx hb dX0_narrowed_10 (by decide) rfl rfl (fun c1 => ?_) (fun c1 => ?_)
      · refine lv_lload hx hb dX0_narrowed_42 (lv_at hl 1 rfl) ?_
        exact W.lret (v := lp_5) hx hb hr (fun t ht hW => ⟨lp_5, rfl, trivial, ht⟩) (fun _ h => absurd h List.not_mem_nil) dX0_narrowed_44
      · refine lv_aload_n hx hb dX0_narrowed_13 rfl (lv_at hl 2 rfl) ?_
        refine fm_getG (a := 50) (j := 6) (T := TX0) (N := 15) hx hb hts hinX0 hown hc hw (kl_50 hkb) sh_50 rfl (by decide) rfl (hI.to (kl_50 hkb) tg_50_6) (hts (.fieldLink RX0 9 "RedTent$Body" "fixHour" "[I") (List.mem_cons_of_mem _ tw_2_215)) (fun _ h9 => h9) dX0_narrowed_14 ?_
        refine lv_iload hx hb dX0_narrowed_17 (lv_at hl 0 rfl) ?_
        refine fm_iald (a := 51) hx hb hc hw hI (kl_51 hkb) sh_51 ty_51 bd_51 (by omega) dX0_narrowed_19 (fun x2 ex2 bx2 => ?_)
        refine lv_iload_n hx hb dX0_narrowed_20 rfl (lv_at hl 4 rfl) ?_
        refine fx_icmp_ne (tgt := 36) hx hb dX0_narrowed_21 (by decide) rfl rfl (fun c3 => ?_) (fun c3 => ?_)
        · obtain ⟨y4, ey4⟩ : ∃ y : Int32, y = lp_7 + 1 := ⟨_, rfl⟩
          have ty4 : y4.toInt = lp_7.toInt + 1 := by rw [ey4, zi_add _ _ (by rw [zk_1]; omega) (by rw [zk_1]; omega), zk_1]
          refine lv_iinc (v := y4) (lv' := [(7, .int y4), (5, .long lp_5), (0, .ref (ad 50 kb)), (1, .long p0), (3, .int p1), (4, .int p2)]) hx hb dX0_narrowed_36 hl (k := 0) rfl (by rw [ey4]; rfl) (by decide) rfl (fun ls hl => ?_)
          refine lv_goto (tgt := 6) hx hb dX0_narrowed_39 (by decide) ?_
          exact ih_lp y4 lp_5 (by omega) (by omega) ls (lv_sub hl [0, 1, 2, 3, 4, 5] rfl)
        · refine lv_lload hx hb dX0_narrowed_24 (lv_at hl 1 rfl) ?_
          refine lv_aload_n hx hb dX0_narrowed_26 rfl (lv_at hl 2 rfl) ?_
          refine fm_getG (a := 50) (j := 8) (T := TX0) (N := 15) hx hb hts hinX0 hown hc hw (kl_50 hkb) sh_50 rfl (by decide) rfl (hI.to (kl_50 hkb) tg_50_8) (hts (.fieldLink RX0 18 "RedTent$Body" "fixCells" "[J") (List.mem_cons_of_mem _ tw_2_217)) (fun _ h9 => h9) dX0_narrowed_27 ?_
          refine lv_iload hx hb dX0_narrowed_30 (lv_at hl 0 rfl) ?_
          refine fm_lald (a := 53) hx hb hc hw (kl_53 hkb) sh_53 ty_53 (by omega) dX0_narrowed_32 (fun x5 ex5 => ?_)
          refine lv_land hx hb dX0_narrowed_33 ?_
          refine lv_topl (fun y6 ey6 => ?_)
          refine lv_lstore (lv' := [(5, .long y6), (7, .int lp_7), (0, .ref (ad 50 kb)), (1, .long p0), (3, .int p1), (4, .int p2)]) hx hb dX0_narrowed_34 hl (by decide) rfl (fun ls hl => ?_)
          obtain ⟨y7, ey7⟩ : ∃ y : Int32, y = lp_7 + 1 := ⟨_, rfl⟩
          have ty7 : y7.toInt = lp_7.toInt + 1 := by rw [ey7, zi_add _ _ (by rw [zk_1]; omega) (by rw [zk_1]; omega), zk_1]
          refine lv_iinc (v := y7) (lv' := [(7, .int y7), (5, .long y6), (0, .ref (ad 50 kb)), (1, .long p0), (3, .int p1), (4, .int p2)]) hx hb dX0_narrowed_36 hl (k := 1) rfl (by rw [ey7]; rfl) (by decide) rfl (fun ls hl => ?_)
          refine lv_goto (tgt := 6) hx hb dX0_narrowed_39 (by decide) ?_
          exact ih_lp y7 y6 (by omega) (by omega) ls (lv_sub hl [0, 1, 2, 3, 4, 5] rfl)
  exact lp _ 0 p0 (Nat.lt_succ_self _) (by decide) ls (lv_sub hl [0, 1, 2, 3, 4, 5] rfl)
set_option maxHeartbeats 400000 in
set_option maxRecDepth 20000 in
theorem fc_X0_forgetBehind (l : Launch) (D : va_G) (ad : Nat → Nat → Nat) (C : Nat → Nat → ClassId) (nb : Nat) (M : fm_M) (hI : fm_I nb ad M) (kb : Nat) (hkb : kb < nb) (p0 : Int32) : Met l yX0_forgetBehind wsX0_forgetBehind ({ frames := 1, cells := 0, slots := 0, locals := 15 }) (va_Pc [.ref (ad 50 kb), .int p0] (fm_P D ad C nb M)) (va_Qv (fun (u : fm_M) => fm_I nb ad u ∧ fm_same [50014] M u ∧ True) (fun u t => fm_at D ad C nb u t.heap) (fm_A nb ad)) 0 0 (fm_A nb ad) := by
  refine Met.ofW (cc := cX0_forgetBehind) (maxL := 2) (ret := none) (by decide) rfl ?_
  intro p e s m args below meth c s₁ B hml hv
  obtain ⟨rfl, hw, hc⟩ := hv
  have hx := B.exec
  have hb := B.bytes
  have hr := B.returns
  have hts := atoms_spec (ws := wsX0_forgetBehind) B.pre
  have hown : s.vm.findClass RX0 = some m.cls := findClass_of_methodNamed B.named
  have hinX0 : ∀ w ∈ u_ws RX0 TX0 15, w ∈ wsX0_forgetBehind := fun w h => List.mem_cons_of_mem _ (iT_X0 w h)
  have hS : va_S (fm_A nb ad) s.heap s.heap [] := va_S.rf
  have hE : fm_same [50014] M M := fm_same.rf
  have hl := lv_entry ([.ref (ad 50 kb), .int p0]) (n := 2) (Nat.le_of_ble_eq_true rfl)
  rw [lg_entry_eq]
  generalize (lg_sl ([.ref (ad 50 kb), .int p0]) ++ List.replicate (2 - (lg_sl ([.ref (ad 50 kb), .int p0])).length) Slot.unset).toArray = ls at hl ⊢
  have hl : lv_has ls 2 [(0, .ref (ad 50 kb)), (1, .int p0)] := hl
  refine lv_aload_n hx hb dX0_forgetBehind_0 rfl (lv_at hl 0 rfl) ?_
  refine lv_aload_n hx hb dX0_forgetBehind_1 rfl (lv_at hl 0 rfl) ?_
  refine fm_getI (a := 50) (j := 2) (T := TX0) (N := 15) hx hb hts hinX0 hown hc hw hI (kl_50 hkb) sh_50 rfl (by decide) rfl bd_50_2 (hts (.fieldLink RX0 38 "RedTent$Body" "begin" "I") (List.mem_cons_of_mem _ tw_2_207)) (fun _ h9 => h9) dX0_forgetBehind_2 (fun x1 ex1 bx1 => ?_)
  refine lv_iconst (v := 1) hx hb dX0_forgetBehind_5 (by decide) ?_
  refine fx_isub hx hb dX0_forgetBehind_6 rfl zk_1 (by omega) (fun y2 ey2 ty2 => ?_)
  refine lv_aload_n hx hb dX0_forgetBehind_7 rfl (lv_at hl 0 rfl) ?_
  refine fm_getI (a := 50) (j := 14) (T := TX0) (N := 15) hx hb hts hinX0 hown hc hw hI (kl_50 hkb) sh_50 rfl (by decide) rfl bd_50_14 (hts (.fieldLink RX0 50 "RedTent$Body" "sureTo" "I") (List.mem_cons_of_mem _ tw_2_227)) (fun _ h9 => h9) dX0_forgetBehind_8 (fun x3 ex3 bx3 => ?_)
  refine lv_iload_n hx hb dX0_forgetBehind_11 rfl (lv_at hl 1 rfl) ?_
  refine va_mmin hx hb (by rw [hml]; exact hl.1.symm) hown (hts (.methodLink RX0 88 Lib.Math.min.name) (List.mem_cons_of_mem _ tw_2_180)) (hts (.static Lib.Math.min.name) (List.mem_cons_of_mem _ tw_2_181)) (hts (.initialized "java/lang/Math") (List.mem_cons_of_mem _ tw_1_17)) (hts (.code Lib.Math.min.name Lib.Math.min.code 2 (some .int)) (List.mem_cons_of_mem _ tw_2_182)) (Nat.le_of_ble_eq_true rfl) (Nat.le_of_ble_eq_true rfl) (Nat.le_of_ble_eq_true rfl) (Nat.le_of_ble_eq_true rfl) dX0_forgetBehind_12 ?_
  refine lv_topi (fun y4 ey4 => ?_)
  have ty4 : y4.toInt = if p0.toInt < x3.toInt then p0.toInt else x3.toInt := by rw [ey4]; exact zi_min rfl rfl
  refine va_mmax hx hb (by rw [hml]; exact hl.1.symm) hown (hts (.methodLink RX0 66 Lib.Math.max.name) (List.mem_cons_of_mem _ tw_2_155)) (hts (.static Lib.Math.max.name) (List.mem_cons_of_mem _ tw_2_156)) (hts (.initialized "java/lang/Math") (List.mem_cons_of_mem _ tw_1_17)) (hts (.code Lib.Math.max.name Lib.Math.max.code 2 (some .int)) (List.mem_cons_of_mem _ tw_2_157)) (Nat.le_of_ble_eq_true rfl) (Nat.le_of_ble_eq_true rfl) (Nat.le_of_ble_eq_true rfl) (Nat.le_of_ble_eq_true rfl) dX0_forgetBehind_15 ?_
  refine lv_topi (fun y5 ey5 => ?_)
  have ty5 : y5.toInt = if y2.toInt < y4.toInt then y4.toInt else y2.toInt := by rw [ey5]; exact zi_max rfl rfl
  refine fm_putI (a := 50) (j := 14) (T := TX0) (N := 15) hx hb hts hinX0 tyX0 tyX0_ok nmX0 hown hc hw hI hE hS (kl_50 hkb) sh_50 od_50 rfl (by decide) rfl bd_50_14 (hts (.fieldLink RX0 50 "RedTent$Body" "sureTo" "I") (List.mem_cons_of_mem _ tw_2_227)) (fun _ h9 => h9) rfl (by decide +kernel) (by omega) (by decide) (by decide) dX0_forgetBehind_18 (fun M6 H locs eM6 hw hI hE hS => ?_)
  exact W.vret hx hb hr (fun t ht hW => ⟨⟨M6, rfl, ⟨hI, hE, trivial⟩, by show fm_at D ad C nb _ t.heap; rw [ht]; exact hw⟩, hS.F ht⟩) hS.2.2 dX0_forgetBehind_21
set_option maxHeartbeats 400000 in
set_option maxRecDepth 20000 in
theorem fc_X0_narrowBy (l : Launch) (D : va_G) (ad : Nat → Nat → Nat) (C : Nat → Nat → ClassId) (nb : Nat) (M : fm_M) (hI : fm_I nb ad M) (kb : Nat) (hkb : kb < nb) (p0 p1 : Int32) (p2 : Int64) (b_p0 : 0 ≤ p0.toInt ∧ p0.toInt ≤ 239) (b_p1 : 0 ≤ p1.toInt ∧ p1.toInt ≤ 239) : Met l yX0_narrowBy wsX0_narrowBy ({ frames := 2, cells := 0, slots := 0, locals := 36 }) (va_Pc [.ref (ad 50 kb), .int p0, .int p1, .long p2] (fm_P D ad C nb M)) (va_Qv (fun (u : fm_M) => fm_I nb ad u ∧ fm_same [50009, 50014, 51000, 52000, 53000] M u ∧ True) (fun u t => fm_at D ad C nb u t.heap) (fm_A nb ad)) 0 0 (fm_A nb ad) := by
  refine Met.ofW (cc := cX0_narrowBy) (maxL := 5) (ret := none) (by decide) rfl ?_
  intro p e s m args below meth c s₁ B hml hv
  obtain ⟨rfl, hw, hc⟩ := hv
  have hx := B.exec
  have hb := B.bytes
  have hr := B.returns
  have hts := atoms_spec (ws := wsX0_narrowBy) B.pre
  have hown : s.vm.findClass RX0 = some m.cls := findClass_of_methodNamed B.named
  have hinX0 : ∀ w ∈ u_ws RX0 TX0 15, w ∈ wsX0_narrowBy := fun w h => List.mem_cons_of_mem _ (iT_X0 w h)
  have hS : va_S (fm_A nb ad) s.heap s.heap [] := va_S.rf
  have hE : fm_same [50009, 50014, 51000, 52000, 53000] M M := fm_same.rf
  have hl := lv_entry ([.ref (ad 50 kb), .int p0, .int p1, .long p2]) (n := 5) (Nat.le_of_ble_eq_true rfl)
  rw [lg_entry_eq]
  generalize (lg_sl ([.ref (ad 50 kb), .int p0, .int p1, .long p2]) ++ List.replicate (5 - (lg_sl ([.ref (ad 50 kb), .int p0, .int p1, .long p2])).length) Slot.unset).toArray = ls at hl ⊢
  have hl : lv_has ls 5 [(0, .ref (ad 50 kb)), (1, .int p0), (2, .int p1), (3, .long p2)] := hl
  refine lv_aload_n hx hb dX0_narrowBy_0 rfl (lv_at hl 0 rfl) ?_
  refine fm_getI (a := 50) (j := 9) (T := TX0) (N := 15) hx hb hts hinX0 hown hc hw hI (kl_50 hkb) sh_50 rfl (by decide) rfl bd_50_9 (hts (.fieldLink RX0 81 "RedTent$Body" "fixed" "I") (List.mem_cons_of_mem _ tw_2_218)) (fun _ h9 => h9) dX0_narrowBy_1 (fun x1 ex1 bx1 => ?_)
  refine lv_bipush (v := 40) hx hb dX0_narrowBy_4 (by decide) ?_
  refine fx_icmp_ge (tgt := 56) hx hb dX0_narrowBy_6 (by decide) rfl zk_40 (fun c2 => ?_) (fun c2 => ?_)
  · exact W.vret hx hb hr (fun t ht hW => ⟨⟨M, rfl, ⟨hI, hE, trivial⟩, by show fm_at D ad C nb _ t.heap; rw [ht]; exact hw⟩, hS.F ht⟩) hS.2.2 dX0_narrowBy_56
  · refine lv_aload_n hx hb dX0_narrowBy_9 rfl (lv_at hl 0 rfl) ?_
    refine fm_getG (a := 50) (j := 6) (T := TX0) (N := 15) hx hb hts hinX0 hown hc hw (kl_50 hkb) sh_50 rfl (by decide) rfl (hI.to (kl_50 hkb) tg_50_6) (hts (.fieldLink RX0 9 "RedTent$Body" "fixHour" "[I") (List.mem_cons_of_mem _ tw_2_215)) (fun _ h9 => h9) dX0_narrowBy_10 ?_
    refine lv_aload_n hx hb dX0_narrowBy_13 rfl (lv_at hl 0 rfl) ?_
    refine fm_getI (a := 50) (j := 9) (T := TX0) (N := 15) hx hb hts hinX0 hown hc hw hI (kl_50 hkb) sh_50 rfl (by decide) rfl bd_50_9 (hts (.fieldLink RX0 81 "RedTent$Body" "fixed" "I") (List.mem_cons_of_mem _ tw_2_218)) (fun _ h9 => h9) dX0_narrowBy_14 (fun x3 ex3 bx3 => ?_)
    obtain rfl : x1 = x3 := by rw [ex3]; exact ex1
    refine lv_iload_n hx hb dX0_narrowBy_17 rfl (lv_at hl 1 rfl) ?_
    refine fm_iast (a := 51) hx hb hc hw hI hE hS (kl_51 hkb) sh_51 ty_51 bd_51 (by omega) (by omega) cd_51 (by decide) dX0_narrowBy_18 (fun M4 H locs eM4 hw hI hE hS => ?_)
    refine lv_aload_n hx hb dX0_narrowBy_19 rfl (lv_at hl 0 rfl) ?_
    refine fm_getG (a := 50) (j := 7) (T := TX0) (N := 15) hx hb hts hinX0 hown hc hw (kl_50 hkb) sh_50 rfl (by decide) rfl (hI.to (kl_50 hkb) tg_50_7) (hts (.fieldLink RX0 15 "RedTent$Body" "fixTold" "[I") (List.mem_cons_of_mem _ tw_2_216)) (fun _ h9 => h9) dX0_narrowBy_20 ?_
    refine lv_aload_n hx hb dX0_narrowBy_23 rfl (lv_at hl 0 rfl) ?_
    refine fm_getI (a := 50) (j := 9) (T := TX0) (N := 15) hx hb hts hinX0 hown hc hw hI (kl_50 hkb) sh_50 rfl (by decide) rfl bd_50_9 (hts (.fieldLink RX0 81 "RedTent$Body" "fixed" "I") (List.mem_cons_of_mem _ tw_2_218)) (fun _ h9 => h9) dX0_narrowBy_24 (fun x5 ex5 bx5 => ?_)
    obtain rfl : x1 = x5 := by rw [ex5, eM4, fm_wI_nj (fun z => absurd z.1 (by decide))]; exact ex1
    refine lv_iload_n hx hb dX0_narrowBy_27 rfl (lv_at hl 2 rfl) ?_
    refine fm_iast (a := 52) hx hb hc hw hI hE hS (kl_52 hkb) sh_52 ty_52 bd_52 (by omega) (by omega) cd_52 (by decide) dX0_narrowBy_28 (fun M6 H locs eM6 hw hI hE hS => ?_)
    refine lv_aload_n hx hb dX0_narrowBy_29 rfl (lv_at hl 0 rfl) ?_
    refine fm_getG (a := 50) (j := 8) (T := TX0) (N := 15) hx hb hts hinX0 hown hc hw (kl_50 hkb) sh_50 rfl (by decide) rfl (hI.to (kl_50 hkb) tg_50_8) (hts (.fieldLink RX0 18 "RedTent$Body" "fixCells" "[J") (List.mem_cons_of_mem _ tw_2_217)) (fun _ h9 => h9) dX0_narrowBy_30 ?_
    refine lv_aload_n hx hb dX0_narrowBy_33 rfl (lv_at hl 0 rfl) ?_
    refine fm_getI (a := 50) (j := 9) (T := TX0) (N := 15) hx hb hts hinX0 hown hc hw hI (kl_50 hkb) sh_50 rfl (by decide) rfl bd_50_9 (hts (.fieldLink RX0 81 "RedTent$Body" "fixed" "I") (List.mem_cons_of_mem _ tw_2_218)) (fun _ h9 => h9) dX0_narrowBy_34 (fun x7 ex7 bx7 => ?_)
    obtain rfl : x1 = x7 := by rw [ex7, eM6, fm_wI_nj (fun z => absurd z.1 (by decide)), eM4, fm_wI_nj (fun z => absurd z.1 (by decide))]; exact ex1
    refine lv_lload_n hx hb dX0_narrowBy_37 rfl (lv_at hl 3 rfl) ?_
    refine fm_last (a := 53) hx hb hc hw hI hE hS (kl_53 hkb) sh_53 ty_53 (by omega) cd_53 (by decide) dX0_narrowBy_38 (fun M8 H locs eM8 hw hI hE hS => ?_)
    refine lv_aload_n hx hb dX0_narrowBy_39 rfl (lv_at hl 0 rfl) ?_
    refine lv_dup hx hb dX0_narrowBy_40 rfl ?_
    refine fm_getI (a := 50) (j := 9) (T := TX0) (N := 15) hx hb hts hinX0 hown hc hw hI (kl_50 hkb) sh_50 rfl (by decide) rfl bd_50_9 (hts (.fieldLink RX0 81 "RedTent$Body" "fixed" "I") (List.mem_cons_of_mem _ tw_2_218)) (fun _ h9 => h9) dX0_narrowBy_41 (fun x9 ex9 bx9 => ?_)
    obtain rfl : x1 = x9 := by rw [ex9, eM8, fm_wL_1, eM6, fm_wI_nj (fun z => absurd z.1 (by decide)), eM4, fm_wI_nj (fun z => absurd z.1 (by decide))]; exact ex1
    refine lv_iconst (v := 1) hx hb dX0_narrowBy_44 (by decide) ?_
    refine fx_iadd hx hb dX0_narrowBy_45 rfl zk_1 (by omega) (fun y10 ey10 ty10 => ?_)
    refine fm_putI (a := 50) (j := 9) (T := TX0) (N := 15) hx hb hts hinX0 tyX0 tyX0_ok nmX0 hown hc hw hI hE hS (kl_50 hkb) sh_50 od_50 rfl (by decide) rfl bd_50_9 (hts (.fieldLink RX0 81 "RedTent$Body" "fixed" "I") (List.mem_cons_of_mem _ tw_2_218)) (fun _ h9 => h9) rfl (by decide +kernel) (by omega) (by decide) (by decide) dX0_narrowBy_46 (fun M11 H locs eM11 hw hI hE hS => ?_)
    refine lv_aload_n hx hb dX0_narrowBy_49 rfl (lv_at hl 0 rfl) ?_
    refine lv_iload_n hx hb dX0_narrowBy_50 rfl (lv_at hl 1 rfl) ?_
    refine lv_iconst (v := 1) hx hb dX0_narrowBy_51 (by decide) ?_
    refine fx_isub hx hb dX0_narrowBy_52 rfl zk_1 (by omega) (fun y12 ey12 ty12 => ?_)
    refine fm_cv (va_runV (As := [.int y12]) (rest := []) ⟨hx, hb, hml, hown, hts⟩ (fc_X0_forgetBehind l D ad C nb M11 hI kb hkb y12) (cwV 1 hts gX0_narrowBy_X0_forgetBehind rfl rfl rfl (by decide +kernel) ⟨Nat.le_of_ble_eq_true rfl, Nat.le_of_ble_eq_true rfl⟩) (fm_preV hc hw hS (kl_50 hkb) sh_50 rfl) rfl rfl hl.1 rfl (lv_room (Nat.le_of_ble_eq_true rfl)) dX0_narrowBy_53 ⟨by decide +kernel, by decide +kernel⟩) hS hc (fun M14 H locs hr13 hw hS => ?_)
    obtain ⟨hI, hEM14, hr13⟩ := hr13
    have hE := hE.tr hEM14 (by decide)
    exact W.vret hx hb hr (fun t ht hW => ⟨⟨M14, rfl, ⟨hI, hE, trivial⟩, by show fm_at D ad C nb _ t.heap; rw [ht]; exact hw⟩, hS.F ht⟩) hS.2.2 dX0_narrowBy_56
set_option maxHeartbeats 400000 in
set_option maxRecDepth 20000 in
theorem fc_X0_addFlown (l : Launch) (D : va_G) (ad : Nat → Nat → Nat) (C : Nat → Nat → ClassId) (nb : Nat) (M : fm_M) (hI : fm_I nb ad M) (kb : Nat) (hkb : kb < nb) (p0 p1 : Int32) (b_p0 : 0 ≤ p0.toInt ∧ p0.toInt ≤ 15) (b_p1 : 0 ≤ p1.toInt ∧ p1.toInt ≤ 239) (hf : 0 ≤ (M.1 50 kb 12).toInt ∧ (M.1 50 kb 12).toInt ≤ 5) : Met l yX0_addFlown wsX0_addFlown ({ frames := 0, cells := 0, slots := 0, locals := 0 }) (va_Pc [.ref (ad 50 kb), .int p0, .int p1] (fm_P D ad C nb M)) (va_Qi (fun (r : Int32) (u : fm_M) => fm_I nb ad u ∧ fm_same [50012, 54000, 55000] M u ∧ (r.toInt = (M.1 50 kb 12).toInt + 1 ∧ (∀ j : Nat, u.1 50 j 12 = if j = kb then r else M.1 50 j 12))) (fun u t => fm_at D ad C nb u t.heap) (fm_A nb ad)) 0 0 (fm_A nb ad) := by
  refine Met.ofW (cc := cX0_addFlown) (maxL := 3) (ret := (some .int)) (by decide) rfl ?_
  intro p e s m args below meth c s₁ B hml hv
  obtain ⟨rfl, hw, hc⟩ := hv
  have hx := B.exec
  have hb := B.bytes
  have hr := B.returns
  have hts := atoms_spec (ws := wsX0_addFlown) B.pre
  have hown : s.vm.findClass RX0 = some m.cls := findClass_of_methodNamed B.named
  have hinX0 : ∀ w ∈ u_ws RX0 TX0 15, w ∈ wsX0_addFlown := fun w h => List.mem_cons_of_mem _ (iT_X0 w h)
  have hS : va_S (fm_A nb ad) s.heap s.heap [] := va_S.rf
  have hE : fm_same [50012, 54000, 55000] M M := fm_same.rf
  have hl := lv_entry ([.ref (ad 50 kb), .int p0, .int p1]) (n := 3) (Nat.le_of_ble_eq_true rfl)
  rw [lg_entry_eq]
  generalize (lg_sl ([.ref (ad 50 kb), .int p0, .int p1]) ++ List.replicate (3 - (lg_sl ([.ref (ad 50 kb), .int p0, .int p1])).length) Slot.unset).toArray = ls at hl ⊢
  have hl : lv_has ls 3 [(0, .ref (ad 50 kb)), (1, .int p0), (2, .int p1)] := hl
  refine lv_aload_n hx hb dX0_addFlown_0 rfl (lv_at hl 0 rfl) ?_
  refine fm_getG (a := 50) (j := 10) (T := TX0) (N := 15) hx hb hts hinX0 hown hc hw (kl_50 hkb) sh_50 rfl (by decide) rfl (hI.to (kl_50 hkb) tg_50_10) (hts (.fieldLink RX0 22 "RedTent$Body" "flownLane" "[I") (List.mem_cons_of_mem _ tw_2_219)) (fun _ h9 => h9) dX0_addFlown_1 ?_
  refine lv_aload_n hx hb dX0_addFlown_4 rfl (lv_at hl 0 rfl) ?_
  refine fm_getI (a := 50) (j := 12) (T := TX0) (N := 15) hx hb hts hinX0 hown hc hw hI (kl_50 hkb) sh_50 rfl (by decide) rfl bd_50_12 (hts (.fieldLink RX0 91 "RedTent$Body" "flownCount" "I") (List.mem_cons_of_mem _ tw_2_224)) (fun _ h9 => h9) dX0_addFlown_5 (fun x1 ex1 bx1 => ?_)
  have fx1 : 0 ≤ x1.toInt ∧ x1.toInt ≤ 5 := by rw [ex1]; exact hf
  refine lv_iload_n hx hb dX0_addFlown_8 rfl (lv_at hl 1 rfl) ?_
  refine fm_iast (a := 54) hx hb hc hw hI hE hS (kl_54 hkb) sh_54 ty_54 bd_54 (by omega) (by omega) cd_54 (by decide) dX0_addFlown_9 (fun M2 H locs eM2 hw hI hE hS => ?_)
  refine lv_aload_n hx hb dX0_addFlown_10 rfl (lv_at hl 0 rfl) ?_
  refine fm_getG (a := 50) (j := 11) (T := TX0) (N := 15) hx hb hts hinX0 hown hc hw (kl_50 hkb) sh_50 rfl (by decide) rfl (hI.to (kl_50 hkb) tg_50_11) (hts (.fieldLink RX0 25 "RedTent$Body" "flownHour" "[I") (List.mem_cons_of_mem _ tw_2_221)) (fun _ h9 => h9) dX0_addFlown_11 ?_
  refine lv_aload_n hx hb dX0_addFlown_14 rfl (lv_at hl 0 rfl) ?_
  refine fm_getI (a := 50) (j := 12) (T := TX0) (N := 15) hx hb hts hinX0 hown hc hw hI (kl_50 hkb) sh_50 rfl (by decide) rfl bd_50_12 (hts (.fieldLink RX0 91 "RedTent$Body" "flownCount" "I") (List.mem_cons_of_mem _ tw_2_224)) (fun _ h9 => h9) dX0_addFlown_15 (fun x3 ex3 bx3 => ?_)
  obtain rfl : x1 = x3 := by rw [ex3, eM2, fm_wI_nj (fun z => absurd z.1 (by decide))]; exact ex1
  refine lv_iload_n hx hb dX0_addFlown_18 rfl (lv_at hl 2 rfl) ?_
  refine fm_iast (a := 55) hx hb hc hw hI hE hS (kl_55 hkb) sh_55 ty_55 bd_55 (by omega) (by omega) cd_55 (by decide) dX0_addFlown_19 (fun M4 H locs eM4 hw hI hE hS => ?_)
  refine lv_aload_n hx hb dX0_addFlown_20 rfl (lv_at hl 0 rfl) ?_
  refine lv_dup hx hb dX0_addFlown_21 rfl ?_
  refine fm_getI (a := 50) (j := 12) (T := TX0) (N := 15) hx hb hts hinX0 hown hc hw hI (kl_50 hkb) sh_50 rfl (by decide) rfl bd_50_12 (hts (.fieldLink RX0 91 "RedTent$Body" "flownCount" "I") (List.mem_cons_of_mem _ tw_2_224)) (fun _ h9 => h9) dX0_addFlown_22 (fun x5 ex5 bx5 => ?_)
  obtain rfl : x1 = x5 := by rw [ex5, eM4, fm_wI_nj (fun z => absurd z.1 (by decide)), eM2, fm_wI_nj (fun z => absurd z.1 (by decide))]; exact ex1
  refine lv_iconst (v := 1) hx hb dX0_addFlown_25 (by decide) ?_
  refine fx_iadd hx hb dX0_addFlown_26 rfl zk_1 (by omega) (fun y6 ey6 ty6 => ?_)
  refine lv_dup_x1 hx hb dX0_addFlown_27 rfl rfl ?_
  refine fm_putI (a := 50) (j := 12) (T := TX0) (N := 15) hx hb hts hinX0 tyX0 tyX0_ok nmX0 hown hc hw hI hE hS (kl_50 hkb) sh_50 od_50 rfl (by decide) rfl bd_50_12 (hts (.fieldLink RX0 91 "RedTent$Body" "flownCount" "I") (List.mem_cons_of_mem _ tw_2_224)) (fun _ h9 => h9) rfl (by decide +kernel) (by omega) (by decide) (by decide) dX0_addFlown_28 (fun M7 H locs eM7 hw hI hE hS => ?_)
  have qx1 : x1.toInt = (M.1 50 kb 12).toInt := by rw [ex1]
  exact W.iret (v := y6) hx hb hr (fun t ht hW => ⟨⟨y6, M7, rfl, ⟨hI, hE, ⟨by omega, fun j => by rw [eM7, fm_wI_ob, eM4, fm_wI_nj (fun z => absurd z.1 (by decide)), eM2, fm_wI_nj (fun z => absurd z.1 (by decide))]⟩⟩, by show fm_at D ad C nb _ t.heap; rw [ht]; exact hw⟩, hS.F ht⟩) hS.2.2 dX0_addFlown_31
set_option maxHeartbeats 400000 in
set_option maxRecDepth 20000 in
theorem fc_X0_placesNow (l : Launch) (D : va_G) (ad : Nat → Nat → Nat) (C : Nat → Nat → ClassId) (nb : Nat) (M : fm_M) (hI : fm_I nb ad M) (kb : Nat) (hkb : kb < nb) (p0 : Int32) : Met l yX0_placesNow wsX0_placesNow ({ frames := 3, cells := 0, slots := 0, locals := 79 }) (va_Pc [.ref (ad 50 kb), .ref (ad 1 0), .int p0] (fm_P D ad C nb M)) (va_Ql (fun (r : Int64) (u : fm_M) => fm_I nb ad u ∧ fm_same [50014, 56000] M u ∧ True) (fun u t => fm_at D ad C nb u t.heap) (fm_A nb ad)) 0 0 (fm_A nb ad) := by
  refine Met.ofW (cc := cX0_placesNow) (maxL := 6) (ret := (some .long)) (by decide) rfl ?_
  intro p e s m args below meth c s₁ B hml hv
  obtain ⟨rfl, hw, hc⟩ := hv
  have hx := B.exec
  have hb := B.bytes
  have hr := B.returns
  have hts := atoms_spec (ws := wsX0_placesNow) B.pre
  have hown : s.vm.findClass RX0 = some m.cls := findClass_of_methodNamed B.named
  have hinX0 : ∀ w ∈ u_ws RX0 TX0 15, w ∈ wsX0_placesNow := fun w h => List.mem_cons_of_mem _ (iT_X0 w h)
  have hS : va_S (fm_A nb ad) s.heap s.heap [] := va_S.rf
  have hE : fm_same [50014, 56000] M M := fm_same.rf
  have hl := lv_entry ([.ref (ad 50 kb), .ref (ad 1 0), .int p0]) (n := 6) (Nat.le_of_ble_eq_true rfl)
  rw [lg_entry_eq]
  generalize (lg_sl ([.ref (ad 50 kb), .ref (ad 1 0), .int p0]) ++ List.replicate (6 - (lg_sl ([.ref (ad 50 kb), .ref (ad 1 0), .int p0])).length) Slot.unset).toArray = ls at hl ⊢
  have hl : lv_has ls 6 [(0, .ref (ad 50 kb)), (1, .ref (ad 1 0)), (2, .int p0)] := hl
  refine lv_iload_n hx hb dX0_placesNow_0 rfl (lv_at hl 2 rfl) ?_
  refine lv_aload_n hx hb dX0_placesNow_1 rfl (lv_at hl 0 rfl) ?_
  refine fm_getI (a := 50) (j := 2) (T := TX0) (N := 15) hx hb hts hinX0 hown hc hw hI (kl_50 hkb) sh_50 rfl (by decide) rfl bd_50_2 (hts (.fieldLink RX0 38 "RedTent$Body" "begin" "I") (List.mem_cons_of_mem _ tw_2_207)) (fun _ h9 => h9) dX0_placesNow_2 (fun x1 ex1 bx1 => ?_)
  refine fx_icmp_lt (tgt := 15) hx hb dX0_placesNow_5 (by decide) rfl rfl (fun c2 => ?_) (fun c2 => ?_)
  · refine lv_lconst (v := 0) hx hb dX0_placesNow_15 (by decide) ?_
    exact W.lret (v := 0) hx hb hr (fun t ht hW => ⟨⟨0, M, rfl, ⟨hI, hE, trivial⟩, by show fm_at D ad C nb _ t.heap; rw [ht]; exact hw⟩, hS.F ht⟩) hS.2.2 dX0_placesNow_16
  · refine lv_iload_n hx hb dX0_placesNow_8 rfl (lv_at hl 2 rfl) ?_
    refine lv_sipush (v := 240) hx hb dX0_placesNow_9 (by decide) ?_
    refine fx_icmp_lt (tgt := 17) hx hb dX0_placesNow_12 (by decide) rfl zk_240 (fun c3 => ?_) (fun c3 => ?_)
    · refine lv_aload_n hx hb dX0_placesNow_17 rfl (lv_at hl 0 rfl) ?_
      refine fm_getI (a := 50) (j := 14) (T := TX0) (N := 15) hx hb hts hinX0 hown hc hw hI (kl_50 hkb) sh_50 rfl (by decide) rfl bd_50_14 (hts (.fieldLink RX0 50 "RedTent$Body" "sureTo" "I") (List.mem_cons_of_mem _ tw_2_227)) (fun _ h9 => h9) dX0_placesNow_18 (fun x4 ex4 bx4 => ?_)
      refine lv_iconst (v := 1) hx hb dX0_placesNow_21 (by decide) ?_
      refine fx_iadd hx hb dX0_placesNow_22 rfl zk_1 (by omega) (fun y5 ey5 ty5 => ?_)
      refine lv_istore_n (lv' := [(3, .int y5), (0, .ref (ad 50 kb)), (1, .ref (ad 1 0)), (2, .int p0)]) hx hb dX0_placesNow_23 rfl hl (by decide) rfl (fun ls hl => ?_)
      have lp : ∀ (n_lp : Nat) (lp_3 : Int32) (M_lp : fm_M), (240 - lp_3.toInt).toNat < n_lp → (0 ≤ lp_3.toInt ∧ lp_3.toInt ≤ 240) → fm_I nb ad M_lp → fm_same [50014, 56000] M M_lp → ∀ (H : Heap) (locs : List Loc), fm_at D ad C nb M_lp H → va_S (fm_A nb ad) s.heap H locs → ∀ (ls : Array Slot), lv_has ls 6 [(3, .int lp_3), (0, .ref (ad 50 kb)), (1, .ref (ad 1 0)), (2, .int p0)] → W p l e (headSpec wsX0_placesNow ({ frames := 3, cells := 0, slots := 0, locals := 79 })).room s m ([.ref (ad 50 kb), .ref (ad 1 0), .int p0] : List Value).toArray below meth c H locs 0 0 (MQ below (va_Ql (fun (r : Int64) (u : fm_M) => fm_I nb ad u ∧ fm_same [50014, 56000] M u ∧ True) (fun u t => fm_at D ad C nb u t.heap) (fm_A nb ad)) ([.ref (ad 50 kb), .ref (ad 1 0), .int p0] : List Value).toArray s 0 0 (fm_A nb ad)) (F0 m 24 ls []) := by
        intro n_lp
        induction n_lp with
        | zero => intro lp_3 M_lp hm_lp b_lp_3 hI hE H locs hw hS ls hl; exact absurd hm_lp (Nat.not_lt_zero _)
        | succ n_lp ih_lp =>
          intro lp_3 M_lp hm_lp b_lp_3 hI hE H locs hw hS ls hl
          refine lv_iload_n hx hb dX0_placesNow_24 rfl (lv_at hl 0 rfl) ?_
          refine lv_iload_n hx hb dX0_placesNow_25 rfl (lv_at hl 3 rfl) ?_
          refine fx_icmp_gt (tgt := 87) hx hb dX0_placesNow_26 (by decide) rfl rfl (fun c6 => ?_) (fun c6 => ?_)
          · refine lv_aload_n hx hb dX0_placesNow_87 rfl (lv_at hl 1 rfl) ?_
            refine lv_aload_n hx hb dX0_placesNow_88 rfl (lv_at hl 1 rfl) ?_
            refine fm_getI (a := 50) (j := 14) (T := TX0) (N := 15) hx hb hts hinX0 hown hc hw hI (kl_50 hkb) sh_50 rfl (by decide) rfl bd_50_14 (hts (.fieldLink RX0 50 "RedTent$Body" "sureTo" "I") (List.mem_cons_of_mem _ tw_2_227)) (fun _ h9 => h9) dX0_placesNow_89 (fun x7 ex7 bx7 => ?_)
            refine lv_iload_n hx hb dX0_placesNow_92 rfl (lv_at hl 3 rfl) ?_
            refine va_mmax hx hb (by rw [hml]; exact hl.1.symm) hown (hts (.methodLink RX0 66 Lib.Math.max.name) (List.mem_cons_of_mem _ tw_2_155)) (hts (.static Lib.Math.max.name) (List.mem_cons_of_mem _ tw_2_156)) (hts (.initialized "java/lang/Math") (List.mem_cons_of_mem _ tw_1_17)) (hts (.code Lib.Math.max.name Lib.Math.max.code 2 (some .int)) (List.mem_cons_of_mem _ tw_2_157)) (Nat.le_of_ble_eq_true rfl) (Nat.le_of_ble_eq_true rfl) (Nat.le_of_ble_eq_true rfl) (Nat.le_of_ble_eq_true rfl) dX0_placesNow_93 ?_
            refine lv_topi (fun y8 ey8 => ?_)
            have ty8 : y8.toInt = if x7.toInt < p0.toInt then p0.toInt else x7.toInt := by rw [ey8]; exact zi_max rfl rfl
            refine fm_putI (a := 50) (j := 14) (T := TX0) (N := 15) hx hb hts hinX0 tyX0 tyX0_ok nmX0 hown hc hw hI hE hS (kl_50 hkb) sh_50 od_50 rfl (by decide) rfl bd_50_14 (hts (.fieldLink RX0 50 "RedTent$Body" "sureTo" "I") (List.mem_cons_of_mem _ tw_2_227)) (fun _ h9 => h9) rfl (by decide +kernel) (by omega) (by decide) (by decide) dX0_placesNow_96 (fun M9 H locs eM9 hw hI hE hS => ?_)
            refine lv_aload_n hx hb dX0_placesNow_99 rfl (lv_at hl 1 rfl) ?_
            refine fm_getG (a := 50) (j := 13) (T := TX0) (N := 15) hx hb hts hinX0 hown hc hw (kl_50 hkb) sh_50 rfl (by decide) rfl (hI.to (kl_50 hkb) tg_50_13) (hts (.fieldLink RX0 28 "RedTent$Body" "patches" "[J") (List.mem_cons_of_mem _ tw_2_226)) (fun _ h9 => h9) dX0_placesNow_100 ?_
            refine lv_iload_n hx hb dX0_placesNow_103 rfl (lv_at hl 3 rfl) ?_
            refine fm_lald (a := 56) hx hb hc hw (kl_56 hkb) sh_56 ty_56 (by omega) dX0_placesNow_104 (fun x10 ex10 => ?_)
            exact W.lret (v := x10) hx hb hr (fun t ht hW => ⟨⟨x10, M9, rfl, ⟨hI, hE, trivial⟩, by show fm_at D ad C nb _ t.heap; rw [ht]; exact hw⟩, hS.F ht⟩) hS.2.2 dX0_placesNow_105
          · refine lv_iload_n hx hb dX0_placesNow_29 rfl (lv_at hl 0 rfl) ?_
            refine lv_aload_n hx hb dX0_placesNow_30 rfl (lv_at hl 1 rfl) ?_
            refine fm_getI (a := 50) (j := 2) (T := TX0) (N := 15) hx hb hts hinX0 hown hc hw hI (kl_50 hkb) sh_50 rfl (by decide) rfl bd_50_2 (hts (.fieldLink RX0 38 "RedTent$Body" "begin" "I") (List.mem_cons_of_mem _ tw_2_207)) (fun _ h9 => h9) dX0_placesNow_31 (fun x11 ex11 bx11 => ?_)
            refine fx_icmp_gt (tgt := 46) hx hb dX0_placesNow_34 (by decide) rfl rfl (fun c12 => ?_) (fun c12 => ?_)
            · refine lv_aload_n hx hb dX0_placesNow_46 rfl (lv_at hl 1 rfl) ?_
              refine lv_aload_n hx hb dX0_placesNow_47 rfl (lv_at hl 2 rfl) ?_
              refine lv_iload_n hx hb dX0_placesNow_48 rfl (lv_at hl 0 rfl) ?_
              refine lv_iconst (v := 1) hx hb dX0_placesNow_49 (by decide) ?_
              refine fx_isub hx hb dX0_placesNow_50 rfl zk_1 (by omega) (fun y13 ey13 ty13 => ?_)
              refine lv_aload_n hx hb dX0_placesNow_51 rfl (lv_at hl 1 rfl) ?_
              refine fm_getG (a := 50) (j := 13) (T := TX0) (N := 15) hx hb hts hinX0 hown hc hw (kl_50 hkb) sh_50 rfl (by decide) rfl (hI.to (kl_50 hkb) tg_50_13) (hts (.fieldLink RX0 28 "RedTent$Body" "patches" "[J") (List.mem_cons_of_mem _ tw_2_226)) (fun _ h9 => h9) dX0_placesNow_52 ?_
              refine lv_iload_n hx hb dX0_placesNow_55 rfl (lv_at hl 0 rfl) ?_
              refine lv_iconst (v := 1) hx hb dX0_placesNow_56 (by decide) ?_
              refine fx_isub hx hb dX0_placesNow_57 rfl zk_1 (by omega) (fun y14 ey14 ty14 => ?_)
              refine fm_lald (a := 56) hx hb hc hw (kl_56 hkb) sh_56 ty_56 (by omega) dX0_placesNow_58 (fun x15 ex15 => ?_)
              refine vp_callSl (va_Run.run (va_runV (As := [.ref (ad 1 0), .int y13, .long x15]) (rest := []) ⟨hx, hb, hml, hown, hts⟩ (fc_X0_driftIn l D ad C nb M_lp hI kb hkb y13 x15 (by omega)) (cwV 3 hts gX0_placesNow_X0_driftIn rfl rfl rfl (by decide +kernel) ⟨Nat.le_of_ble_eq_true rfl, Nat.le_of_ble_eq_true rfl⟩) (fm_preV hc hw hS (kl_50 hkb) sh_50 rfl) rfl rfl hl.1 rfl (lv_room (Nat.le_of_ble_eq_true rfl)) dX0_placesNow_59 ⟨by decide +kernel, by decide +kernel⟩)) (fun r16 hr16 => ?_)
              refine lv_lstore (lv' := [(4, .long r16), (3, .int lp_3), (0, .ref (ad 50 kb)), (1, .ref (ad 1 0)), (2, .int p0)]) hx hb dX0_placesNow_62 hl (by decide) rfl (fun ls hl => ?_)
              refine lv_aload_n hx hb dX0_placesNow_64 rfl (lv_at hl 2 rfl) ?_
              refine fm_getG (a := 50) (j := 13) (T := TX0) (N := 15) hx hb hts hinX0 hown hc hw (kl_50 hkb) sh_50 rfl (by decide) rfl (hI.to (kl_50 hkb) tg_50_13) (hts (.fieldLink RX0 28 "RedTent$Body" "patches" "[J") (List.mem_cons_of_mem _ tw_2_226)) (fun _ h9 => h9) dX0_placesNow_65 ?_
              refine lv_iload_n hx hb dX0_placesNow_68 rfl (lv_at hl 1 rfl) ?_
              refine lv_aload_n hx hb dX0_placesNow_69 rfl (lv_at hl 2 rfl) ?_
              refine lv_lload hx hb dX0_placesNow_70 (lv_at hl 0 rfl) ?_
              refine lv_iload_n hx hb dX0_placesNow_72 rfl (lv_at hl 1 rfl) ?_
              refine lv_aload_n hx hb dX0_placesNow_73 rfl (lv_at hl 2 rfl) ?_
              refine fm_getI (a := 50) (j := 9) (T := TX0) (N := 15) hx hb hts hinX0 hown hc hw hI (kl_50 hkb) sh_50 rfl (by decide) rfl bd_50_9 (hts (.fieldLink RX0 81 "RedTent$Body" "fixed" "I") (List.mem_cons_of_mem _ tw_2_218)) (fun _ h9 => h9) dX0_placesNow_74 (fun x17 ex17 bx17 => ?_)
              refine vp_callSl (va_Run.run (va_runV (As := [.long r16, .int lp_3, .int x17]) (rest := [.int lp_3, .ref (ad 56 kb)]) ⟨hx, hb, hml, hown, hts⟩ (fc_X0_narrowed l D ad C nb M_lp hI kb hkb r16 lp_3 x17 (by omega)) (cwV 3 hts gX0_placesNow_X0_narrowed rfl rfl rfl (by decide +kernel) ⟨Nat.le_of_ble_eq_true rfl, Nat.le_of_ble_eq_true rfl⟩) (fm_preV hc hw hS (kl_50 hkb) sh_50 rfl) rfl rfl hl.1 rfl (lv_room (Nat.le_of_ble_eq_true rfl)) dX0_placesNow_77 ⟨by decide +kernel, by decide +kernel⟩)) (fun r18 hr18 => ?_)
              refine fm_last (a := 56) hx hb hc hw hI hE hS (kl_56 hkb) sh_56 ty_56 (by omega) cd_56 (by decide) dX0_placesNow_80 (fun M19 H locs eM19 hw hI hE hS => ?_)
              obtain ⟨y20, ey20⟩ : ∃ y : Int32, y = lp_3 + 1 := ⟨_, rfl⟩
              have ty20 : y20.toInt = lp_3.toInt + 1 := by rw [ey20, zi_add _ _ (by rw [zk_1]; omega) (by rw [zk_1]; omega), zk_1]
              refine lv_iinc (v := y20) (lv' := [(3, .int y20), (4, .long r16), (0, .ref (ad 50 kb)), (1, .ref (ad 1 0)), (2, .int p0)]) hx hb dX0_placesNow_81 hl (k := 1) rfl (by rw [ey20]; rfl) (by decide) rfl (fun ls hl => ?_)
              refine lv_goto (tgt := 24) hx hb dX0_placesNow_84 (by decide) ?_
              exact ih_lp y20 M19 (by omega) (by omega) hI hE _ _ hw hS ls (lv_sub hl [0, 2, 3, 4] rfl)
            · refine lv_lconst (v := 1) hx hb dX0_placesNow_37 (by decide) ?_
              refine lv_aload_n hx hb dX0_placesNow_38 rfl (lv_at hl 1 rfl) ?_
              refine fm_getI (a := 50) (j := 1) (T := TX0) (N := 15) hx hb hts hinX0 hown hc hw hI (kl_50 hkb) sh_50 rfl (by decide) rfl bd_50_1 (hts (.fieldLink RX0 35 "RedTent$Body" "start" "I") (List.mem_cons_of_mem _ tw_2_205)) (fun _ h9 => h9) dX0_placesNow_39 (fun x21 ex21 bx21 => ?_)
              refine lv_lshl (v := (1 : Int64) <<< (x21.toInt64 &&& 63)) hx hb dX0_placesNow_42 rfl ?_
              refine lv_topl (fun y22 ey22 => ?_)
              refine lv_goto (tgt := 62) hx hb dX0_placesNow_43 (by decide) ?_
              refine lv_lstore (lv' := [(4, .long y22), (3, .int lp_3), (0, .ref (ad 50 kb)), (1, .ref (ad 1 0)), (2, .int p0)]) hx hb dX0_placesNow_62 hl (by decide) rfl (fun ls hl => ?_)
              refine lv_aload_n hx hb dX0_placesNow_64 rfl (lv_at hl 2 rfl) ?_
              refine fm_getG (a := 50) (j := 13) (T := TX0) (N := 15) hx hb hts hinX0 hown hc hw (kl_50 hkb) sh_50 rfl (by decide) rfl (hI.to (kl_50 hkb) tg_50_13) (hts (.fieldLink RX0 28 "RedTent$Body" "patches" "[J") (List.mem_cons_of_mem _ tw_2_226)) (fun _ h9 => h9) dX0_placesNow_65 ?_
              refine lv_iload_n hx hb dX0_placesNow_68 rfl (lv_at hl 1 rfl) ?_
              refine lv_aload_n hx hb dX0_placesNow_69 rfl (lv_at hl 2 rfl) ?_
              refine lv_lload hx hb dX0_placesNow_70 (lv_at hl 0 rfl) ?_
              refine lv_iload_n hx hb dX0_placesNow_72 rfl (lv_at hl 1 rfl) ?_
              refine lv_aload_n hx hb dX0_placesNow_73 rfl (lv_at hl 2 rfl) ?_
              refine fm_getI (a := 50) (j := 9) (T := TX0) (N := 15) hx hb hts hinX0 hown hc hw hI (kl_50 hkb) sh_50 rfl (by decide) rfl bd_50_9 (hts (.fieldLink RX0 81 "RedTent$Body" "fixed" "I") (List.mem_cons_of_mem _ tw_2_218)) (fun _ h9 => h9) dX0_placesNow_74 (fun x23 ex23 bx23 => ?_)
              refine vp_callSl (va_Run.run (va_runV (As := [.long y22, .int lp_3, .int x23]) (rest := [.int lp_3, .ref (ad 56 kb)]) ⟨hx, hb, hml, hown, hts⟩ (fc_X0_narrowed l D ad C nb M_lp hI kb hkb y22 lp_3 x23 (by omega)) (cwV 3 hts gX0_placesNow_X0_narrowed rfl rfl rfl (by decide +kernel) ⟨Nat.le_of_ble_eq_true rfl, Nat.le_of_ble_eq_true rfl⟩) (fm_preV hc hw hS (kl_50 hkb) sh_50 rfl) rfl rfl hl.1 rfl (lv_room (Nat.le_of_ble_eq_true rfl)) dX0_placesNow_77 ⟨by decide +kernel, by decide +kernel⟩)) (fun r24 hr24 => ?_)
              refine fm_last (a := 56) hx hb hc hw hI hE hS (kl_56 hkb) sh_56 ty_56 (by omega) cd_56 (by decide) dX0_placesNow_80 (fun M25 H locs eM25 hw hI hE hS => ?_)
              obtain ⟨y26, ey26⟩ : ∃ y : Int32, y = lp_3 + 1 := ⟨_, rfl⟩
              have ty26 : y26.toInt = lp_3.toInt + 1 := by rw [ey26, zi_add _ _ (by rw [zk_1]; omega) (by rw [zk_1]; omega), zk_1]
              refine lv_iinc (v := y26) (lv' := [(3, .int y26), (4, .long y22), (0, .ref (ad 50 kb)), (1, .ref (ad 1 0)), (2, .int p0)]) hx hb dX0_placesNow_81 hl (k := 1) rfl (by rw [ey26]; rfl) (by decide) rfl (fun ls hl => ?_)
              refine lv_goto (tgt := 24) hx hb dX0_placesNow_84 (by decide) ?_
              exact ih_lp y26 M25 (by omega) (by omega) hI hE _ _ hw hS ls (lv_sub hl [0, 2, 3, 4] rfl)
      exact lp _ y5 M (Nat.lt_succ_self _) (by omega) hI hE _ _ hw hS ls (lv_sub hl [0, 1, 2, 3] rfl)
    · refine lv_lconst (v := 0) hx hb dX0_placesNow_15 (by decide) ?_
      exact W.lret (v := 0) hx hb hr (fun t ht hW => ⟨⟨0, M, rfl, ⟨hI, hE, trivial⟩, by show fm_at D ad C nb _ t.heap; rw [ht]; exact hw⟩, hS.F ht⟩) hS.2.2 dX0_placesNow_16
set_option maxHeartbeats 400000 in
set_option maxRecDepth 20000 in
theorem fc_X0_placesKnown (l : Launch) (D : va_G) (ad : Nat → Nat → Nat) (C : Nat → Nat → ClassId) (nb : Nat) (M : fm_M) (hI : fm_I nb ad M) (kb : Nat) (hkb : kb < nb) (p0 p1 : Int32) (b_p0 : 0 ≤ p0.toInt ∧ p0.toInt ≤ 239) : Met l yX0_placesKnown wsX0_placesKnown ({ frames := 4, cells := 0, slots := 0, locals := 104 }) (va_Pc [.ref (ad 50 kb), .ref (ad 1 0), .int p0, .int p1] (fm_P D ad C nb M)) (va_Ql (fun (r : Int64) (u : fm_M) => fm_I nb ad u ∧ fm_same [50014, 56000] M u ∧ True) (fun u t => fm_at D ad C nb u t.heap) (fm_A nb ad)) 0 0 (fm_A nb ad) := by
  refine Met.ofW (cc := cX0_placesKnown) (maxL := 8) (ret := (some .long)) (by decide) rfl ?_
  intro p e s m args below meth c s₁ B hml hv
  obtain ⟨rfl, hw, hc⟩ := hv
  have hx := B.exec
  have hb := B.bytes
  have hr := B.returns
  have hts := atoms_spec (ws := wsX0_placesKnown) B.pre
  have hown : s.vm.findClass RX0 = some m.cls := findClass_of_methodNamed B.named
  have hinX0 : ∀ w ∈ u_ws RX0 TX0 15, w ∈ wsX0_placesKnown := fun w h => List.mem_cons_of_mem _ (iT_X0 w h)
  have hS : va_S (fm_A nb ad) s.heap s.heap [] := va_S.rf
  have hE : fm_same [50014, 56000] M M := fm_same.rf
  have hl := lv_entry ([.ref (ad 50 kb), .ref (ad 1 0), .int p0, .int p1]) (n := 8) (Nat.le_of_ble_eq_true rfl)
  rw [lg_entry_eq]
  generalize (lg_sl ([.ref (ad 50 kb), .ref (ad 1 0), .int p0, .int p1]) ++ List.replicate (8 - (lg_sl ([.ref (ad 50 kb), .ref (ad 1 0), .int p0, .int p1])).length) Slot.unset).toArray = ls at hl ⊢
  have hl : lv_has ls 8 [(0, .ref (ad 50 kb)), (1, .ref (ad 1 0)), (2, .int p0), (3, .int p1)] := hl
  refine lv_iconst (v := 0) hx hb dX0_placesKnown_0 (by decide) ?_
  refine lv_istore (lv' := [(4, .int 0), (0, .ref (ad 50 kb)), (1, .ref (ad 1 0)), (2, .int p0), (3, .int p1)]) hx hb dX0_placesKnown_1 hl (by decide) rfl (fun ls hl => ?_)
  have lp : ∀ (n_lp : Nat) (lp_4 : Int32) (M_lp : fm_M), (40 - lp_4.toInt).toNat < n_lp → (0 ≤ lp_4.toInt ∧ lp_4.toInt ≤ 40) → fm_I nb ad M_lp → fm_same [50014, 56000] M M_lp → ∀ (H : Heap) (locs : List Loc), fm_at D ad C nb M_lp H → va_S (fm_A nb ad) s.heap H locs → ∀ (ls : Array Slot), lv_has ls 8 [(4, .int lp_4), (0, .ref (ad 50 kb)), (1, .ref (ad 1 0)), (2, .int p0), (3, .int p1)] → W p l e (headSpec wsX0_placesKnown ({ frames := 4, cells := 0, slots := 0, locals := 104 })).room s m ([.ref (ad 50 kb), .ref (ad 1 0), .int p0, .int p1] : List Value).toArray below meth c H locs 0 0 (MQ below (va_Ql (fun (r : Int64) (u : fm_M) => fm_I nb ad u ∧ fm_same [50014, 56000] M u ∧ True) (fun u t => fm_at D ad C nb u t.heap) (fm_A nb ad)) ([.ref (ad 50 kb), .ref (ad 1 0), .int p0, .int p1] : List Value).toArray s 0 0 (fm_A nb ad)) (F0 m 3 ls []) := by
    intro n_lp
    induction n_lp with
    | zero => intro lp_4 M_lp hm_lp b_lp_4 hI hE H locs hw hS ls hl; exact absurd hm_lp (Nat.not_lt_zero _)
    | succ n_lp ih_lp =>
      intro lp_4 M_lp hm_lp b_lp_4 hI hE H locs hw hS ls hl
      refine lv_iload hx hb dX0_placesKnown_3 (lv_at hl 0 rfl) ?_
      refine lv_aload_n hx hb dX0_placesKnown_5 rfl (lv_at hl 1 rfl) ?_
      refine fm_getI (a := 50) (j := 9) (T := TX0) (N := 15) hx hb hts hinX0 hown hc hw hI (kl_50 hkb) sh_50 rfl (by decide) rfl bd_50_9 (hts (.fieldLink RX0 81 "RedTent$Body" "fixed" "I") (List.mem_cons_of_mem _ tw_2_218)) (fun _ h9 => h9) dX0_placesKnown_6 (fun x1 ex1 bx1 => ?_)
      refine fx_icmp_ge (tgt := 29) hx hb dX0_placesKnown_9 (by decide) rfl rfl (fun c2 => ?_) (fun c2 => ?_)
      · refine lv_iload hx hb dX0_placesKnown_29 (lv_at hl 0 rfl) ?_
        refine lv_aload_n hx hb dX0_placesKnown_31 rfl (lv_at hl 1 rfl) ?_
        refine fm_getI (a := 50) (j := 9) (T := TX0) (N := 15) hx hb hts hinX0 hown hc hw hI (kl_50 hkb) sh_50 rfl (by decide) rfl bd_50_9 (hts (.fieldLink RX0 81 "RedTent$Body" "fixed" "I") (List.mem_cons_of_mem _ tw_2_218)) (fun _ h9 => h9) dX0_placesKnown_32 (fun x3 ex3 bx3 => ?_)
        obtain rfl : x1 = x3 := by rw [ex3]; exact ex1
        refine fx_icmp_ne (tgt := 45) hx hb dX0_placesKnown_35 (by decide) rfl rfl (fun c4 => ?_) (fun c4 => ?_)
        · refine lv_aload_n hx hb dX0_placesKnown_45 rfl (lv_at hl 1 rfl) ?_
          refine lv_lconst (v := 1) hx hb dX0_placesKnown_46 (by decide) ?_
          refine lv_aload_n hx hb dX0_placesKnown_47 rfl (lv_at hl 1 rfl) ?_
          refine fm_getI (a := 50) (j := 1) (T := TX0) (N := 15) hx hb hts hinX0 hown hc hw hI (kl_50 hkb) sh_50 rfl (by decide) rfl bd_50_1 (hts (.fieldLink RX0 35 "RedTent$Body" "start" "I") (List.mem_cons_of_mem _ tw_2_205)) (fun _ h9 => h9) dX0_placesKnown_48 (fun x5 ex5 bx5 => ?_)
          refine lv_lshl (v := (1 : Int64) <<< (x5.toInt64 &&& 63)) hx hb dX0_placesKnown_51 rfl ?_
          refine lv_topl (fun y6 ey6 => ?_)
          refine lv_aload_n hx hb dX0_placesKnown_52 rfl (lv_at hl 1 rfl) ?_
          refine fm_getI (a := 50) (j := 2) (T := TX0) (N := 15) hx hb hts hinX0 hown hc hw hI (kl_50 hkb) sh_50 rfl (by decide) rfl bd_50_2 (hts (.fieldLink RX0 38 "RedTent$Body" "begin" "I") (List.mem_cons_of_mem _ tw_2_207)) (fun _ h9 => h9) dX0_placesKnown_53 (fun x7 ex7 bx7 => ?_)
          refine lv_iload hx hb dX0_placesKnown_56 (lv_at hl 0 rfl) ?_
          refine vp_callSl (va_Run.run (va_runV (As := [.long y6, .int x7, .int lp_4]) (rest := []) ⟨hx, hb, hml, hown, hts⟩ (fc_X0_narrowed l D ad C nb M_lp hI kb hkb y6 x7 lp_4 (by omega)) (cwV 3 hts gX0_placesKnown_X0_narrowed rfl rfl rfl (by decide +kernel) ⟨Nat.le_of_ble_eq_true rfl, Nat.le_of_ble_eq_true rfl⟩) (fm_preV hc hw hS (kl_50 hkb) sh_50 rfl) rfl rfl hl.1 rfl (lv_room (Nat.le_of_ble_eq_true rfl)) dX0_placesKnown_58 ⟨by decide +kernel, by decide +kernel⟩)) (fun r8 hr8 => ?_)
          refine lv_lstore (lv' := [(5, .long r8), (4, .int lp_4), (0, .ref (ad 50 kb)), (1, .ref (ad 1 0)), (2, .int p0), (3, .int p1)]) hx hb dX0_placesKnown_61 hl (by decide) rfl (fun ls hl => ?_)
          refine lv_aload_n hx hb dX0_placesKnown_63 rfl (lv_at hl 2 rfl) ?_
          refine fm_getI (a := 50) (j := 2) (T := TX0) (N := 15) hx hb hts hinX0 hown hc hw hI (kl_50 hkb) sh_50 rfl (by decide) rfl bd_50_2 (hts (.fieldLink RX0 38 "RedTent$Body" "begin" "I") (List.mem_cons_of_mem _ tw_2_207)) (fun _ h9 => h9) dX0_placesKnown_64 (fun x9 ex9 bx9 => ?_)
          obtain rfl : x7 = x9 := by rw [ex9]; exact ex7
          refine lv_istore (lv' := [(7, .int x7), (5, .long r8), (4, .int lp_4), (0, .ref (ad 50 kb)), (1, .ref (ad 1 0)), (2, .int p0), (3, .int p1)]) hx hb dX0_placesKnown_67 hl (by decide) rfl (fun ls hl => ?_)
          have lq : ∀ (n_lq : Nat) (lq_7 : Int32) (lq_5 : Int64) (M_lq : fm_M), (239 - lq_7.toInt).toNat < n_lq → (0 ≤ lq_7.toInt ∧ lq_7.toInt ≤ 239) → fm_I nb ad M_lq → fm_same [50014, 56000] M M_lq → ∀ (H : Heap) (locs : List Loc), fm_at D ad C nb M_lq H → va_S (fm_A nb ad) s.heap H locs → ∀ (ls : Array Slot), lv_has ls 8 [(7, .int lq_7), (5, .long lq_5), (4, .int lp_4), (0, .ref (ad 50 kb)), (1, .ref (ad 1 0)), (2, .int p0), (3, .int p1)] → W p l e (headSpec wsX0_placesKnown ({ frames := 4, cells := 0, slots := 0, locals := 104 })).room s m ([.ref (ad 50 kb), .ref (ad 1 0), .int p0, .int p1] : List Value).toArray below meth c H locs 0 0 (MQ below (va_Ql (fun (r : Int64) (u : fm_M) => fm_I nb ad u ∧ fm_same [50014, 56000] M u ∧ True) (fun u t => fm_at D ad C nb u t.heap) (fm_A nb ad)) ([.ref (ad 50 kb), .ref (ad 1 0), .int p0, .int p1] : List Value).toArray s 0 0 (fm_A nb ad)) (F0 m 69 ls []) := by
            intro n_lq
            induction n_lq with
            | zero => intro lq_7 lq_5 M_lq hm_lq b_lq_7 hI hE H locs hw hS ls hl; exact absurd hm_lq (Nat.not_lt_zero _)
            | succ n_lq ih_lq =>
              intro lq_7 lq_5 M_lq hm_lq b_lq_7 hI hE H locs hw hS ls hl
              refine lv_iload hx hb dX0_placesKnown_69 (lv_at hl 0 rfl) ?_
              refine lv_iload_n hx hb dX0_placesKnown_71 rfl (lv_at hl 5 rfl) ?_
              refine fx_icmp_ge (tgt := 102) hx hb dX0_placesKnown_72 (by decide) rfl rfl (fun c10 => ?_) (fun c10 => ?_)
              · refine lv_lload hx hb dX0_placesKnown_102 (lv_at hl 1 rfl) ?_
                exact W.lret (v := lq_5) hx hb hr (fun t ht hW => ⟨⟨lq_5, M_lq, rfl, ⟨hI, hE, trivial⟩, by show fm_at D ad C nb _ t.heap; rw [ht]; exact hw⟩, hS.F ht⟩) hS.2.2 dX0_placesKnown_104
              · refine lv_aload_n hx hb dX0_placesKnown_75 rfl (lv_at hl 3 rfl) ?_
                refine lv_aload_n hx hb dX0_placesKnown_76 rfl (lv_at hl 3 rfl) ?_
                refine lv_aload_n hx hb dX0_placesKnown_77 rfl (lv_at hl 4 rfl) ?_
                refine lv_iload hx hb dX0_placesKnown_78 (lv_at hl 0 rfl) ?_
                refine lv_lload hx hb dX0_placesKnown_80 (lv_at hl 1 rfl) ?_
                refine vp_callSl (va_Run.run (va_runV (As := [.ref (ad 1 0), .int lq_7, .long lq_5]) (rest := [.ref (ad 50 kb)]) ⟨hx, hb, hml, hown, hts⟩ (fc_X0_driftIn l D ad C nb M_lq hI kb hkb lq_7 lq_5 (by omega)) (cwV 3 hts gX0_placesKnown_X0_driftIn rfl rfl rfl (by decide +kernel) ⟨Nat.le_of_ble_eq_true rfl, Nat.le_of_ble_eq_true rfl⟩) (fm_preV hc hw hS (kl_50 hkb) sh_50 rfl) rfl rfl hl.1 rfl (lv_room (Nat.le_of_ble_eq_true rfl)) dX0_placesKnown_82 ⟨by decide +kernel, by decide +kernel⟩)) (fun r11 hr11 => ?_)
                refine lv_iload hx hb dX0_placesKnown_85 (lv_at hl 0 rfl) ?_
                refine lv_iconst (v := 1) hx hb dX0_placesKnown_87 (by decide) ?_
                refine fx_iadd hx hb dX0_placesKnown_88 rfl zk_1 (by omega) (fun y12 ey12 ty12 => ?_)
                refine lv_iload hx hb dX0_placesKnown_89 (lv_at hl 2 rfl) ?_
                refine vp_callSl (va_Run.run (va_runV (As := [.long r11, .int y12, .int lp_4]) (rest := []) ⟨hx, hb, hml, hown, hts⟩ (fc_X0_narrowed l D ad C nb M_lq hI kb hkb r11 y12 lp_4 (by omega)) (cwV 3 hts gX0_placesKnown_X0_narrowed rfl rfl rfl (by decide +kernel) ⟨Nat.le_of_ble_eq_true rfl, Nat.le_of_ble_eq_true rfl⟩) (fm_preV hc hw hS (kl_50 hkb) sh_50 rfl) rfl rfl hl.1 rfl (lv_room (Nat.le_of_ble_eq_true rfl)) dX0_placesKnown_91 ⟨by decide +kernel, by decide +kernel⟩)) (fun r13 hr13 => ?_)
                refine lv_lstore (lv' := [(5, .long r13), (7, .int lq_7), (4, .int lp_4), (0, .ref (ad 50 kb)), (1, .ref (ad 1 0)), (2, .int p0), (3, .int p1)]) hx hb dX0_placesKnown_94 hl (by decide) rfl (fun ls hl => ?_)
                obtain ⟨y14, ey14⟩ : ∃ y : Int32, y = lq_7 + 1 := ⟨_, rfl⟩
                have ty14 : y14.toInt = lq_7.toInt + 1 := by rw [ey14, zi_add _ _ (by rw [zk_1]; omega) (by rw [zk_1]; omega), zk_1]
                refine lv_iinc (v := y14) (lv' := [(7, .int y14), (5, .long r13), (4, .int lp_4), (0, .ref (ad 50 kb)), (1, .ref (ad 1 0)), (2, .int p0), (3, .int p1)]) hx hb dX0_placesKnown_96 hl (k := 1) rfl (by rw [ey14]; rfl) (by decide) rfl (fun ls hl => ?_)
                refine lv_goto (tgt := 69) hx hb dX0_placesKnown_99 (by decide) ?_
                exact ih_lq y14 r13 M_lq (by omega) (by omega) hI hE _ _ hw hS ls (lv_sub hl [0, 1, 2, 3, 4, 5, 6] rfl)
          exact lq _ x7 r8 M_lp (Nat.lt_succ_self _) (by omega) hI hE _ _ hw hS ls (lv_sub hl [0, 1, 2, 3, 4, 5, 6] rfl)
        · refine lv_aload_n hx hb dX0_placesKnown_38 rfl (lv_at hl 1 rfl) ?_
          refine lv_aload_n hx hb dX0_placesKnown_39 rfl (lv_at hl 2 rfl) ?_
          refine lv_iload_n hx hb dX0_placesKnown_40 rfl (lv_at hl 3 rfl) ?_
          refine fm_cl (va_runV (As := [.ref (ad 1 0), .int p0]) (rest := []) ⟨hx, hb, hml, hown, hts⟩ (fc_X0_placesNow l D ad C nb M_lp hI kb hkb p0) (cwV 2 hts gX0_placesKnown_X0_placesNow rfl rfl rfl (by decide +kernel) ⟨Nat.le_of_ble_eq_true rfl, Nat.le_of_ble_eq_true rfl⟩) (fm_preV hc hw hS (kl_50 hkb) sh_50 rfl) rfl rfl hl.1 rfl (lv_room (Nat.le_of_ble_eq_true rfl)) dX0_placesKnown_41 ⟨by decide +kernel, by decide +kernel⟩) hS hc (fun r15 M16 H locs hr15 hw hS => ?_)
          obtain ⟨hI, hEM16, hr15⟩ := hr15
          have hE := hE.tr hEM16 (by decide)
          exact W.lret (v := r15) hx hb hr (fun t ht hW => ⟨⟨r15, M16, rfl, ⟨hI, hE, trivial⟩, by show fm_at D ad C nb _ t.heap; rw [ht]; exact hw⟩, hS.F ht⟩) hS.2.2 dX0_placesKnown_44
      · refine lv_aload_n hx hb dX0_placesKnown_12 rfl (lv_at hl 1 rfl) ?_
        refine fm_getG (a := 50) (j := 7) (T := TX0) (N := 15) hx hb hts hinX0 hown hc hw (kl_50 hkb) sh_50 rfl (by decide) rfl (hI.to (kl_50 hkb) tg_50_7) (hts (.fieldLink RX0 15 "RedTent$Body" "fixTold" "[I") (List.mem_cons_of_mem _ tw_2_216)) (fun _ h9 => h9) dX0_placesKnown_13 ?_
        refine lv_iload hx hb dX0_placesKnown_16 (lv_at hl 0 rfl) ?_
        refine fm_iald (a := 52) hx hb hc hw hI (kl_52 hkb) sh_52 ty_52 bd_52 (by omega) dX0_placesKnown_18 (fun x17 ex17 bx17 => ?_)
        refine lv_iload_n hx hb dX0_placesKnown_19 rfl (lv_at hl 4 rfl) ?_
        refine fx_icmp_gt (tgt := 29) hx hb dX0_placesKnown_20 (by decide) rfl rfl (fun c18 => ?_) (fun c18 => ?_)
        · refine lv_iload hx hb dX0_placesKnown_29 (lv_at hl 0 rfl) ?_
          refine lv_aload_n hx hb dX0_placesKnown_31 rfl (lv_at hl 1 rfl) ?_
          refine fm_getI (a := 50) (j := 9) (T := TX0) (N := 15) hx hb hts hinX0 hown hc hw hI (kl_50 hkb) sh_50 rfl (by decide) rfl bd_50_9 (hts (.fieldLink RX0 81 "RedTent$Body" "fixed" "I") (List.mem_cons_of_mem _ tw_2_218)) (fun _ h9 => h9) dX0_placesKnown_32 (fun x19 ex19 bx19 => ?_)
          obtain rfl : x1 = x19 := by rw [ex19]; exact ex1
          refine fx_icmp_ne (tgt := 45) hx hb dX0_placesKnown_35 (by decide) rfl rfl (fun c20 => ?_) (fun c20 => ?_)
          · refine lv_aload_n hx hb dX0_placesKnown_45 rfl (lv_at hl 1 rfl) ?_
            refine lv_lconst (v := 1) hx hb dX0_placesKnown_46 (by decide) ?_
            refine lv_aload_n hx hb dX0_placesKnown_47 rfl (lv_at hl 1 rfl) ?_
            refine fm_getI (a := 50) (j := 1) (T := TX0) (N := 15) hx hb hts hinX0 hown hc hw hI (kl_50 hkb) sh_50 rfl (by decide) rfl bd_50_1 (hts (.fieldLink RX0 35 "RedTent$Body" "start" "I") (List.mem_cons_of_mem _ tw_2_205)) (fun _ h9 => h9) dX0_placesKnown_48 (fun x21 ex21 bx21 => ?_)
            refine lv_lshl (v := (1 : Int64) <<< (x21.toInt64 &&& 63)) hx hb dX0_placesKnown_51 rfl ?_
            refine lv_topl (fun y22 ey22 => ?_)
            refine lv_aload_n hx hb dX0_placesKnown_52 rfl (lv_at hl 1 rfl) ?_
            refine fm_getI (a := 50) (j := 2) (T := TX0) (N := 15) hx hb hts hinX0 hown hc hw hI (kl_50 hkb) sh_50 rfl (by decide) rfl bd_50_2 (hts (.fieldLink RX0 38 "RedTent$Body" "begin" "I") (List.mem_cons_of_mem _ tw_2_207)) (fun _ h9 => h9) dX0_placesKnown_53 (fun x23 ex23 bx23 => ?_)
            refine lv_iload hx hb dX0_placesKnown_56 (lv_at hl 0 rfl) ?_
            refine vp_callSl (va_Run.run (va_runV (As := [.long y22, .int x23, .int lp_4]) (rest := []) ⟨hx, hb, hml, hown, hts⟩ (fc_X0_narrowed l D ad C nb M_lp hI kb hkb y22 x23 lp_4 (by omega)) (cwV 3 hts gX0_placesKnown_X0_narrowed rfl rfl rfl (by decide +kernel) ⟨Nat.le_of_ble_eq_true rfl, Nat.le_of_ble_eq_true rfl⟩) (fm_preV hc hw hS (kl_50 hkb) sh_50 rfl) rfl rfl hl.1 rfl (lv_room (Nat.le_of_ble_eq_true rfl)) dX0_placesKnown_58 ⟨by decide +kernel, by decide +kernel⟩)) (fun r24 hr24 => ?_)
            refine lv_lstore (lv' := [(5, .long r24), (4, .int lp_4), (0, .ref (ad 50 kb)), (1, .ref (ad 1 0)), (2, .int p0), (3, .int p1)]) hx hb dX0_placesKnown_61 hl (by decide) rfl (fun ls hl => ?_)
            refine lv_aload_n hx hb dX0_placesKnown_63 rfl (lv_at hl 2 rfl) ?_
            refine fm_getI (a := 50) (j := 2) (T := TX0) (N := 15) hx hb hts hinX0 hown hc hw hI (kl_50 hkb) sh_50 rfl (by decide) rfl bd_50_2 (hts (.fieldLink RX0 38 "RedTent$Body" "begin" "I") (List.mem_cons_of_mem _ tw_2_207)) (fun _ h9 => h9) dX0_placesKnown_64 (fun x25 ex25 bx25 => ?_)
            obtain rfl : x23 = x25 := by rw [ex25]; exact ex23
            refine lv_istore (lv' := [(7, .int x23), (5, .long r24), (4, .int lp_4), (0, .ref (ad 50 kb)), (1, .ref (ad 1 0)), (2, .int p0), (3, .int p1)]) hx hb dX0_placesKnown_67 hl (by decide) rfl (fun ls hl => ?_)
            have lq : ∀ (n_lq : Nat) (lq_7 : Int32) (lq_5 : Int64) (M_lq : fm_M), (239 - lq_7.toInt).toNat < n_lq → (0 ≤ lq_7.toInt ∧ lq_7.toInt ≤ 239) → fm_I nb ad M_lq → fm_same [50014, 56000] M M_lq → ∀ (H : Heap) (locs : List Loc), fm_at D ad C nb M_lq H → va_S (fm_A nb ad) s.heap H locs → ∀ (ls : Array Slot), lv_has ls 8 [(7, .int lq_7), (5, .long lq_5), (4, .int lp_4), (0, .ref (ad 50 kb)), (1, .ref (ad 1 0)), (2, .int p0), (3, .int p1)] → W p l e (headSpec wsX0_placesKnown ({ frames := 4, cells := 0, slots := 0, locals := 104 })).room s m ([.ref (ad 50 kb), .ref (ad 1 0), .int p0, .int p1] : List Value).toArray below meth c H locs 0 0 (MQ below (va_Ql (fun (r : Int64) (u : fm_M) => fm_I nb ad u ∧ fm_same [50014, 56000] M u ∧ True) (fun u t => fm_at D ad C nb u t.heap) (fm_A nb ad)) ([.ref (ad 50 kb), .ref (ad 1 0), .int p0, .int p1] : List Value).toArray s 0 0 (fm_A nb ad)) (F0 m 69 ls []) := by
              intro n_lq
              induction n_lq with
              | zero => intro lq_7 lq_5 M_lq hm_lq b_lq_7 hI hE H locs hw hS ls hl; exact absurd hm_lq (Nat.not_lt_zero _)
              | succ n_lq ih_lq =>
                intro lq_7 lq_5 M_lq hm_lq b_lq_7 hI hE H locs hw hS ls hl
                refine lv_iload hx hb dX0_placesKnown_69 (lv_at hl 0 rfl) ?_
                refine lv_iload_n hx hb dX0_placesKnown_71 rfl (lv_at hl 5 rfl) ?_
                refine fx_icmp_ge (tgt := 102) hx hb dX0_placesKnown_72 (by decide) rfl rfl (fun c26 => ?_) (fun c26 => ?_)
                · refine lv_lload hx hb dX0_placesKnown_102 (lv_at hl 1 rfl) ?_
                  exact W.lret (v := lq_5) hx hb hr (fun t ht hW => ⟨⟨lq_5, M_lq, rfl, ⟨hI, hE, trivial⟩, by show fm_at D ad C nb _ t.heap; rw [ht]; exact hw⟩, hS.F ht⟩) hS.2.2 dX0_placesKnown_104
                · refine lv_aload_n hx hb dX0_placesKnown_75 rfl (lv_at hl 3 rfl) ?_
                  refine lv_aload_n hx hb dX0_placesKnown_76 rfl (lv_at hl 3 rfl) ?_
                  refine lv_aload_n hx hb dX0_placesKnown_77 rfl (lv_at hl 4 rfl) ?_
                  refine lv_iload hx hb dX0_placesKnown_78 (lv_at hl 0 rfl) ?_
                  refine lv_lload hx hb dX0_placesKnown_80 (lv_at hl 1 rfl) ?_
                  refine vp_callSl (va_Run.run (va_runV (As := [.ref (ad 1 0), .int lq_7, .long lq_5]) (rest := [.ref (ad 50 kb)]) ⟨hx, hb, hml, hown, hts⟩ (fc_X0_driftIn l D ad C nb M_lq hI kb hkb lq_7 lq_5 (by omega)) (cwV 3 hts gX0_placesKnown_X0_driftIn rfl rfl rfl (by decide +kernel) ⟨Nat.le_of_ble_eq_true rfl, Nat.le_of_ble_eq_true rfl⟩) (fm_preV hc hw hS (kl_50 hkb) sh_50 rfl) rfl rfl hl.1 rfl (lv_room (Nat.le_of_ble_eq_true rfl)) dX0_placesKnown_82 ⟨by decide +kernel, by decide +kernel⟩)) (fun r27 hr27 => ?_)
                  refine lv_iload hx hb dX0_placesKnown_85 (lv_at hl 0 rfl) ?_
                  refine lv_iconst (v := 1) hx hb dX0_placesKnown_87 (by decide) ?_
                  refine fx_iadd hx hb dX0_placesKnown_88 rfl zk_1 (by omega) (fun y28 ey28 ty28 => ?_)
                  refine lv_iload hx hb dX0_placesKnown_89 (lv_at hl 2 rfl) ?_
                  refine vp_callSl (va_Run.run (va_runV (As := [.long r27, .int y28, .int lp_4]) (rest := []) ⟨hx, hb, hml, hown, hts⟩ (fc_X0_narrowed l D ad C nb M_lq hI kb hkb r27 y28 lp_4 (by omega)) (cwV 3 hts gX0_placesKnown_X0_narrowed rfl rfl rfl (by decide +kernel) ⟨Nat.le_of_ble_eq_true rfl, Nat.le_of_ble_eq_true rfl⟩) (fm_preV hc hw hS (kl_50 hkb) sh_50 rfl) rfl rfl hl.1 rfl (lv_room (Nat.le_of_ble_eq_true rfl)) dX0_placesKnown_91 ⟨by decide +kernel, by decide +kernel⟩)) (fun r29 hr29 => ?_)
                  refine lv_lstore (lv' := [(5, .long r29), (7, .int lq_7), (4, .int lp_4), (0, .ref (ad 50 kb)), (1, .ref (ad 1 0)), (2, .int p0), (3, .int p1)]) hx hb dX0_placesKnown_94 hl (by decide) rfl (fun ls hl => ?_)
                  obtain ⟨y30, ey30⟩ : ∃ y : Int32, y = lq_7 + 1 := ⟨_, rfl⟩
                  have ty30 : y30.toInt = lq_7.toInt + 1 := by rw [ey30, zi_add _ _ (by rw [zk_1]; omega) (by rw [zk_1]; omega), zk_1]
                  refine lv_iinc (v := y30) (lv' := [(7, .int y30), (5, .long r29), (4, .int lp_4), (0, .ref (ad 50 kb)), (1, .ref (ad 1 0)), (2, .int p0), (3, .int p1)]) hx hb dX0_placesKnown_96 hl (k := 1) rfl (by rw [ey30]; rfl) (by decide) rfl (fun ls hl => ?_)
                  refine lv_goto (tgt := 69) hx hb dX0_placesKnown_99 (by decide) ?_
                  exact ih_lq y30 r29 M_lq (by omega) (by omega) hI hE _ _ hw hS ls (lv_sub hl [0, 1, 2, 3, 4, 5, 6] rfl)
            exact lq _ x23 r24 M_lp (Nat.lt_succ_self _) (by omega) hI hE _ _ hw hS ls (lv_sub hl [0, 1, 2, 3, 4, 5, 6] rfl)
          · refine lv_aload_n hx hb dX0_placesKnown_38 rfl (lv_at hl 1 rfl) ?_
            refine lv_aload_n hx hb dX0_placesKnown_39 rfl (lv_at hl 2 rfl) ?_
            refine lv_iload_n hx hb dX0_placesKnown_40 rfl (lv_at hl 3 rfl) ?_
            refine fm_cl (va_runV (As := [.ref (ad 1 0), .int p0]) (rest := []) ⟨hx, hb, hml, hown, hts⟩ (fc_X0_placesNow l D ad C nb M_lp hI kb hkb p0) (cwV 2 hts gX0_placesKnown_X0_placesNow rfl rfl rfl (by decide +kernel) ⟨Nat.le_of_ble_eq_true rfl, Nat.le_of_ble_eq_true rfl⟩) (fm_preV hc hw hS (kl_50 hkb) sh_50 rfl) rfl rfl hl.1 rfl (lv_room (Nat.le_of_ble_eq_true rfl)) dX0_placesKnown_41 ⟨by decide +kernel, by decide +kernel⟩) hS hc (fun r31 M32 H locs hr31 hw hS => ?_)
            obtain ⟨hI, hEM32, hr31⟩ := hr31
            have hE := hE.tr hEM32 (by decide)
            exact W.lret (v := r31) hx hb hr (fun t ht hW => ⟨⟨r31, M32, rfl, ⟨hI, hE, trivial⟩, by show fm_at D ad C nb _ t.heap; rw [ht]; exact hw⟩, hS.F ht⟩) hS.2.2 dX0_placesKnown_44
        · obtain ⟨y33, ey33⟩ : ∃ y : Int32, y = lp_4 + 1 := ⟨_, rfl⟩
          have ty33 : y33.toInt = lp_4.toInt + 1 := by rw [ey33, zi_add _ _ (by rw [zk_1]; omega) (by rw [zk_1]; omega), zk_1]
          refine lv_iinc (v := y33) (lv' := [(4, .int y33), (0, .ref (ad 50 kb)), (1, .ref (ad 1 0)), (2, .int p0), (3, .int p1)]) hx hb dX0_placesKnown_23 hl (k := 0) rfl (by rw [ey33]; rfl) (by decide) rfl (fun ls hl => ?_)
          refine lv_goto (tgt := 3) hx hb dX0_placesKnown_26 (by decide) ?_
          exact ih_lp y33 M_lp (by omega) (by omega) hI hE _ _ hw hS ls (lv_sub hl [0, 1, 2, 3, 4] rfl)
  exact lp _ 0 M (Nat.lt_succ_self _) (by decide) hI hE _ _ hw hS ls (lv_sub hl [0, 1, 2, 3, 4] rfl)

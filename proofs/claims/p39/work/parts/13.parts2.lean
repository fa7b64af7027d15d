theorem zb_X1_wayOn_0 : (decode cX1_wayOn 0 = .ok (.iload_n 3, 1)) ∧ (decode cX1_wayOn 1 = .ok (.getstatic 28, 3)) ∧ (decode cX1_wayOn 4 = .ok (.iload_n 2, 1)) ∧ (decode cX1_wayOn 5 = .ok (.iconst 1, 1)) ∧ (decode cX1_wayOn 6 = .ok (.isub, 1)) ∧ (decode cX1_wayOn 7 = .ok (.iload_n 1, 1)) ∧ (decode cX1_wayOn 8 = .ok (.isub, 1)) ∧ (decode cX1_wayOn 9 = .ok (.iaload, 1)) ∧ (decode cX1_wayOn 10 = .ok (.idiv, 1)) ∧ (decode cX1_wayOn 11 = .ok (.iconst 3, 1)) ∧ (decode cX1_wayOn 12 = .ok (.irem, 1)) ∧ (decode cX1_wayOn 13 = .ok (.ireturn, 1)) := by decide +kernel
theorem dX1_wayOn_0 : decode cX1_wayOn 0 = .ok (.iload_n 3, 1) := zb_X1_wayOn_0.1
theorem dX1_wayOn_1 : decode cX1_wayOn 1 = .ok (.getstatic 28, 3) := zb_X1_wayOn_0.2.1
theorem dX1_wayOn_4 : decode cX1_wayOn 4 = .ok (.iload_n 2, 1) := zb_X1_wayOn_0.2.2.1
theorem dX1_wayOn_5 : decode cX1_wayOn 5 = .ok (.iconst 1, 1) := zb_X1_wayOn_0.2.2.2.1
theorem dX1_wayOn_6 : decode cX1_wayOn 6 = .ok (.isub, 1) := zb_X1_wayOn_0.2.2.2.2.1
theorem dX1_wayOn_7 : decode cX1_wayOn 7 = .ok (.iload_n 1, 1) := zb_X1_wayOn_0.2.2.2.2.2.1
theorem dX1_wayOn_8 : decode cX1_wayOn 8 = .ok (.isub, 1) := zb_X1_wayOn_0.2.2.2.2.2.2.1
theorem dX1_wayOn_9 : decode cX1_wayOn 9 = .ok (.iaload, 1) := zb_X1_wayOn_0.2.2.2.2.2.2.2.1
theorem dX1_wayOn_10 : decode cX1_wayOn 10 = .ok (.idiv, 1) := zb_X1_wayOn_0.2.2.2.2.2.2.2.2.1
theorem dX1_wayOn_11 : decode cX1_wayOn 11 = .ok (.iconst 3, 1) := zb_X1_wayOn_0.2.2.2.2.2.2.2.2.2.1
theorem dX1_wayOn_12 : decode cX1_wayOn 12 = .ok (.irem, 1) := zb_X1_wayOn_0.2.2.2.2.2.2.2.2.2.2.1
theorem dX1_wayOn_13 : decode cX1_wayOn 13 = .ok (.ireturn, 1) := zb_X1_wayOn_0.2.2.2.2.2.2.2.2.2.2.2
theorem zb_X1_cellsThrough_0 : (decode cX1_cellsThrough 0 = .ok (.iconst 0, 1)) ∧ (decode cX1_cellsThrough 1 = .ok (.istore 5, 2)) ∧ (decode cX1_cellsThrough 3 = .ok (.iload_n 3, 1)) ∧ (decode cX1_cellsThrough 4 = .ok (.istore 6, 2)) ∧ (decode cX1_cellsThrough 6 = .ok (.iconst 0, 1)) ∧ (decode cX1_cellsThrough 7 = .ok (.istore 7, 2)) ∧ (decode cX1_cellsThrough 9 = .ok (.iload 7, 2)) ∧ (decode cX1_cellsThrough 11 = .ok (.iload_n 2, 1)) ∧ (decode cX1_cellsThrough 12 = .ok (.if_icmp .ge 60, 3)) ∧ (decode cX1_cellsThrough 72 = .ok (.iload 5, 2)) ∧ (decode cX1_cellsThrough 74 = .ok (.ireturn, 1)) ∧ (decode cX1_cellsThrough 15 = .ok (.aload_n 0, 1)) := by decide +kernel
theorem dX1_cellsThrough_0 : decode cX1_cellsThrough 0 = .ok (.iconst 0, 1) := zb_X1_cellsThrough_0.1
theorem dX1_cellsThrough_1 : decode cX1_cellsThrough 1 = .ok (.istore 5, 2) := zb_X1_cellsThrough_0.2.1
theorem dX1_cellsThrough_3 : decode cX1_cellsThrough 3 = .ok (.iload_n 3, 1) := zb_X1_cellsThrough_0.2.2.1
theorem dX1_cellsThrough_4 : decode cX1_cellsThrough 4 = .ok (.istore 6, 2) := zb_X1_cellsThrough_0.2.2.2.1
theorem dX1_cellsThrough_6 : decode cX1_cellsThrough 6 = .ok (.iconst 0, 1) := zb_X1_cellsThrough_0.2.2.2.2.1
theorem dX1_cellsThrough_7 : decode cX1_cellsThrough 7 = .ok (.istore 7, 2) := zb_X1_cellsThrough_0.2.2.2.2.2.1
theorem dX1_cellsThrough_9 : decode cX1_cellsThrough 9 = .ok (.iload 7, 2) := zb_X1_cellsThrough_0.2.2.2.2.2.2.1
theorem dX1_cellsThrough_11 : decode cX1_cellsThrough 11 = .ok (.iload_n 2, 1) := zb_X1_cellsThrough_0.2.2.2.2.2.2.2.1
theorem dX1_cellsThrough_12 : decode cX1_cellsThrough 12 = .ok (.if_icmp .ge 60, 3) := zb_X1_cellsThrough_0.2.2.2.2.2.2.2.2.1
theorem dX1_cellsThrough_72 : decode cX1_cellsThrough 72 = .ok (.iload 5, 2) := zb_X1_cellsThrough_0.2.2.2.2.2.2.2.2.2.1
theorem dX1_cellsThrough_74 : decode cX1_cellsThrough 74 = .ok (.ireturn, 1) := zb_X1_cellsThrough_0.2.2.2.2.2.2.2.2.2.2.1
theorem dX1_cellsThrough_15 : decode cX1_cellsThrough 15 = .ok (.aload_n 0, 1) := zb_X1_cellsThrough_0.2.2.2.2.2.2.2.2.2.2.2
theorem zb_X1_cellsThrough_16 : (decode cX1_cellsThrough 16 = .ok (.getfield 11, 3)) ∧ (decode cX1_cellsThrough 19 = .ok (.iload_n 1, 1)) ∧ (decode cX1_cellsThrough 20 = .ok (.aaload, 1)) ∧ (decode cX1_cellsThrough 21 = .ok (.iconst 3, 1)) ∧ (decode cX1_cellsThrough 22 = .ok (.iload 7, 2)) ∧ (decode cX1_cellsThrough 24 = .ok (.imul, 1)) ∧ (decode cX1_cellsThrough 25 = .ok (.aload_n 0, 1)) ∧ (decode cX1_cellsThrough 26 = .ok (.iload 7, 2)) ∧ (decode cX1_cellsThrough 28 = .ok (.iload_n 2, 1)) ∧ (decode cX1_cellsThrough 29 = .ok (.iload 4, 2)) ∧ (decode cX1_cellsThrough 31 = .ok (.invokevirtual 46, 3)) ∧ (decode cX1_cellsThrough 34 = .ok (.iadd, 1)) := by decide +kernel
theorem dX1_cellsThrough_16 : decode cX1_cellsThrough 16 = .ok (.getfield 11, 3) := zb_X1_cellsThrough_16.1
theorem dX1_cellsThrough_19 : decode cX1_cellsThrough 19 = .ok (.iload_n 1, 1) := zb_X1_cellsThrough_16.2.1
theorem dX1_cellsThrough_20 : decode cX1_cellsThrough 20 = .ok (.aaload, 1) := zb_X1_cellsThrough_16.2.2.1
theorem dX1_cellsThrough_21 : decode cX1_cellsThrough 21 = .ok (.iconst 3, 1) := zb_X1_cellsThrough_16.2.2.2.1
theorem dX1_cellsThrough_22 : decode cX1_cellsThrough 22 = .ok (.iload 7, 2) := zb_X1_cellsThrough_16.2.2.2.2.1
theorem dX1_cellsThrough_24 : decode cX1_cellsThrough 24 = .ok (.imul, 1) := zb_X1_cellsThrough_16.2.2.2.2.2.1
theorem dX1_cellsThrough_25 : decode cX1_cellsThrough 25 = .ok (.aload_n 0, 1) := zb_X1_cellsThrough_16.2.2.2.2.2.2.1
theorem dX1_cellsThrough_26 : decode cX1_cellsThrough 26 = .ok (.iload 7, 2) := zb_X1_cellsThrough_16.2.2.2.2.2.2.2.1
theorem dX1_cellsThrough_28 : decode cX1_cellsThrough 28 = .ok (.iload_n 2, 1) := zb_X1_cellsThrough_16.2.2.2.2.2.2.2.2.1
theorem dX1_cellsThrough_29 : decode cX1_cellsThrough 29 = .ok (.iload 4, 2) := zb_X1_cellsThrough_16.2.2.2.2.2.2.2.2.2.1
theorem dX1_cellsThrough_31 : decode cX1_cellsThrough 31 = .ok (.invokevirtual 46, 3) := zb_X1_cellsThrough_16.2.2.2.2.2.2.2.2.2.2.1
theorem dX1_cellsThrough_34 : decode cX1_cellsThrough 34 = .ok (.iadd, 1) := zb_X1_cellsThrough_16.2.2.2.2.2.2.2.2.2.2.2
theorem zb_X1_cellsThrough_35 : (decode cX1_cellsThrough 35 = .ok (.iaload, 1)) ∧ (decode cX1_cellsThrough 36 = .ok (.istore 8, 2)) ∧ (decode cX1_cellsThrough 38 = .ok (.iload 6, 2)) ∧ (decode cX1_cellsThrough 40 = .ok (.iload 8, 2)) ∧ (decode cX1_cellsThrough 42 = .ok (.iconst 1, 1)) ∧ (decode cX1_cellsThrough 43 = .ok (.iadd, 1)) ∧ (decode cX1_cellsThrough 44 = .ok (.if_icmp .lt 22, 3)) ∧ (decode cX1_cellsThrough 66 = .ok (.iinc 7 1, 3)) ∧ (decode cX1_cellsThrough 69 = .ok (.goto (-60), 3)) ∧ (decode cX1_cellsThrough 47 = .ok (.iload 6, 2)) ∧ (decode cX1_cellsThrough 49 = .ok (.iload 8, 2)) ∧ (decode cX1_cellsThrough 51 = .ok (.iconst 1, 1)) := by decide +kernel
theorem dX1_cellsThrough_35 : decode cX1_cellsThrough 35 = .ok (.iaload, 1) := zb_X1_cellsThrough_35.1
theorem dX1_cellsThrough_36 : decode cX1_cellsThrough 36 = .ok (.istore 8, 2) := zb_X1_cellsThrough_35.2.1
theorem dX1_cellsThrough_38 : decode cX1_cellsThrough 38 = .ok (.iload 6, 2) := zb_X1_cellsThrough_35.2.2.1
theorem dX1_cellsThrough_40 : decode cX1_cellsThrough 40 = .ok (.iload 8, 2) := zb_X1_cellsThrough_35.2.2.2.1
theorem dX1_cellsThrough_42 : decode cX1_cellsThrough 42 = .ok (.iconst 1, 1) := zb_X1_cellsThrough_35.2.2.2.2.1
theorem dX1_cellsThrough_43 : decode cX1_cellsThrough 43 = .ok (.iadd, 1) := zb_X1_cellsThrough_35.2.2.2.2.2.1
theorem dX1_cellsThrough_44 : decode cX1_cellsThrough 44 = .ok (.if_icmp .lt 22, 3) := zb_X1_cellsThrough_35.2.2.2.2.2.2.1
theorem dX1_cellsThrough_66 : decode cX1_cellsThrough 66 = .ok (.iinc 7 1, 3) := zb_X1_cellsThrough_35.2.2.2.2.2.2.2.1
theorem dX1_cellsThrough_69 : decode cX1_cellsThrough 69 = .ok (.goto (-60), 3) := zb_X1_cellsThrough_35.2.2.2.2.2.2.2.2.1
theorem dX1_cellsThrough_47 : decode cX1_cellsThrough 47 = .ok (.iload 6, 2) := zb_X1_cellsThrough_35.2.2.2.2.2.2.2.2.2.1
theorem dX1_cellsThrough_49 : decode cX1_cellsThrough 49 = .ok (.iload 8, 2) := zb_X1_cellsThrough_35.2.2.2.2.2.2.2.2.2.2.1
theorem dX1_cellsThrough_51 : decode cX1_cellsThrough 51 = .ok (.iconst 1, 1) := zb_X1_cellsThrough_35.2.2.2.2.2.2.2.2.2.2.2
theorem zb_X1_cellsThrough_52 : (decode cX1_cellsThrough 52 = .ok (.iadd, 1)) ∧ (decode cX1_cellsThrough 53 = .ok (.isub, 1)) ∧ (decode cX1_cellsThrough 54 = .ok (.istore 6, 2)) ∧ (decode cX1_cellsThrough 56 = .ok (.iload 5, 2)) ∧ (decode cX1_cellsThrough 58 = .ok (.bipush 9, 2)) ∧ (decode cX1_cellsThrough 60 = .ok (.iload 8, 2)) ∧ (decode cX1_cellsThrough 62 = .ok (.isub, 1)) ∧ (decode cX1_cellsThrough 63 = .ok (.iadd, 1)) ∧ (decode cX1_cellsThrough 64 = .ok (.istore 5, 2)) := by decide +kernel
theorem dX1_cellsThrough_52 : decode cX1_cellsThrough 52 = .ok (.iadd, 1) := zb_X1_cellsThrough_52.1
theorem dX1_cellsThrough_53 : decode cX1_cellsThrough 53 = .ok (.isub, 1) := zb_X1_cellsThrough_52.2.1
theorem dX1_cellsThrough_54 : decode cX1_cellsThrough 54 = .ok (.istore 6, 2) := zb_X1_cellsThrough_52.2.2.1
theorem dX1_cellsThrough_56 : decode cX1_cellsThrough 56 = .ok (.iload 5, 2) := zb_X1_cellsThrough_52.2.2.2.1
theorem dX1_cellsThrough_58 : decode cX1_cellsThrough 58 = .ok (.bipush 9, 2) := zb_X1_cellsThrough_52.2.2.2.2.1
theorem dX1_cellsThrough_60 : decode cX1_cellsThrough 60 = .ok (.iload 8, 2) := zb_X1_cellsThrough_52.2.2.2.2.2.1
theorem dX1_cellsThrough_62 : decode cX1_cellsThrough 62 = .ok (.isub, 1) := zb_X1_cellsThrough_52.2.2.2.2.2.2.1
theorem dX1_cellsThrough_63 : decode cX1_cellsThrough 63 = .ok (.iadd, 1) := zb_X1_cellsThrough_52.2.2.2.2.2.2.2.1
theorem dX1_cellsThrough_64 : decode cX1_cellsThrough 64 = .ok (.istore 5, 2) := zb_X1_cellsThrough_52.2.2.2.2.2.2.2.2
theorem zb_X1_leastCells_0 : (decode cX1_leastCells 0 = .ok (.aload_n 0, 1)) ∧ (decode cX1_leastCells 1 = .ok (.getfield 16, 3)) ∧ (decode cX1_leastCells 4 = .ok (.ifCond .ne 7, 3)) ∧ (decode cX1_leastCells 11 = .ok (.bipush 45, 2)) ∧ (decode cX1_leastCells 13 = .ok (.istore 4, 2)) ∧ (decode cX1_leastCells 15 = .ok (.iconst 0, 1)) ∧ (decode cX1_leastCells 16 = .ok (.istore 5, 2)) ∧ (decode cX1_leastCells 18 = .ok (.iload 5, 2)) ∧ (decode cX1_leastCells 20 = .ok (.aload_n 0, 1)) := by decide +kernel
theorem dX1_leastCells_0 : decode cX1_leastCells 0 = .ok (.aload_n 0, 1) := zb_X1_leastCells_0.1
theorem dX1_leastCells_1 : decode cX1_leastCells 1 = .ok (.getfield 16, 3) := zb_X1_leastCells_0.2.1
theorem dX1_leastCells_4 : decode cX1_leastCells 4 = .ok (.ifCond .ne 7, 3) := zb_X1_leastCells_0.2.2.1
theorem dX1_leastCells_11 : decode cX1_leastCells 11 = .ok (.bipush 45, 2) := zb_X1_leastCells_0.2.2.2.1
theorem dX1_leastCells_13 : decode cX1_leastCells 13 = .ok (.istore 4, 2) := zb_X1_leastCells_0.2.2.2.2.1
theorem dX1_leastCells_15 : decode cX1_leastCells 15 = .ok (.iconst 0, 1) := zb_X1_leastCells_0.2.2.2.2.2.1
theorem dX1_leastCells_16 : decode cX1_leastCells 16 = .ok (.istore 5, 2) := zb_X1_leastCells_0.2.2.2.2.2.2.1
theorem dX1_leastCells_18 : decode cX1_leastCells 18 = .ok (.iload 5, 2) := zb_X1_leastCells_0.2.2.2.2.2.2.2.1
theorem dX1_leastCells_20 : decode cX1_leastCells 20 = .ok (.aload_n 0, 1) := zb_X1_leastCells_0.2.2.2.2.2.2.2.2
theorem zb_X1_leastCells_21 : (decode cX1_leastCells 21 = .ok (.getfield 16, 3)) ∧ (decode cX1_leastCells 24 = .ok (.if_icmp .ge 25, 3)) ∧ (decode cX1_leastCells 49 = .ok (.iload 4, 2)) ∧ (decode cX1_leastCells 51 = .ok (.ireturn, 1)) ∧ (decode cX1_leastCells 27 = .ok (.iload 4, 2)) ∧ (decode cX1_leastCells 29 = .ok (.aload_n 0, 1)) ∧ (decode cX1_leastCells 30 = .ok (.iload 5, 2)) ∧ (decode cX1_leastCells 32 = .ok (.iload_n 1, 1)) ∧ (decode cX1_leastCells 33 = .ok (.iload_n 2, 1)) := by decide +kernel
theorem dX1_leastCells_21 : decode cX1_leastCells 21 = .ok (.getfield 16, 3) := zb_X1_leastCells_21.1
theorem dX1_leastCells_24 : decode cX1_leastCells 24 = .ok (.if_icmp .ge 25, 3) := zb_X1_leastCells_21.2.1
theorem dX1_leastCells_49 : decode cX1_leastCells 49 = .ok (.iload 4, 2) := zb_X1_leastCells_21.2.2.1
theorem dX1_leastCells_51 : decode cX1_leastCells 51 = .ok (.ireturn, 1) := zb_X1_leastCells_21.2.2.2.1
theorem dX1_leastCells_27 : decode cX1_leastCells 27 = .ok (.iload 4, 2) := zb_X1_leastCells_21.2.2.2.2.1
theorem dX1_leastCells_29 : decode cX1_leastCells 29 = .ok (.aload_n 0, 1) := zb_X1_leastCells_21.2.2.2.2.2.1
theorem dX1_leastCells_30 : decode cX1_leastCells 30 = .ok (.iload 5, 2) := zb_X1_leastCells_21.2.2.2.2.2.2.1
theorem dX1_leastCells_32 : decode cX1_leastCells 32 = .ok (.iload_n 1, 1) := zb_X1_leastCells_21.2.2.2.2.2.2.2.1
theorem dX1_leastCells_33 : decode cX1_leastCells 33 = .ok (.iload_n 2, 1) := zb_X1_leastCells_21.2.2.2.2.2.2.2.2
theorem zb_X1_leastCells_34 : (decode cX1_leastCells 34 = .ok (.iload_n 3, 1)) ∧ (decode cX1_leastCells 35 = .ok (.invokevirtual 36, 3)) ∧ (decode cX1_leastCells 38 = .ok (.invokestatic 40, 3)) ∧ (decode cX1_leastCells 41 = .ok (.istore 4, 2)) ∧ (decode cX1_leastCells 43 = .ok (.iinc 5 1, 3)) ∧ (decode cX1_leastCells 46 = .ok (.goto (-28), 3)) ∧ (decode cX1_leastCells 7 = .ok (.iconst 0, 1)) ∧ (decode cX1_leastCells 8 = .ok (.goto 5, 3)) := by decide +kernel
theorem dX1_leastCells_34 : decode cX1_leastCells 34 = .ok (.iload_n 3, 1) := zb_X1_leastCells_34.1
theorem dX1_leastCells_35 : decode cX1_leastCells 35 = .ok (.invokevirtual 36, 3) := zb_X1_leastCells_34.2.1
theorem dX1_leastCells_38 : decode cX1_leastCells 38 = .ok (.invokestatic 40, 3) := zb_X1_leastCells_34.2.2.1
theorem dX1_leastCells_41 : decode cX1_leastCells 41 = .ok (.istore 4, 2) := zb_X1_leastCells_34.2.2.2.1
theorem dX1_leastCells_43 : decode cX1_leastCells 43 = .ok (.iinc 5 1, 3) := zb_X1_leastCells_34.2.2.2.2.1
theorem dX1_leastCells_46 : decode cX1_leastCells 46 = .ok (.goto (-28), 3) := zb_X1_leastCells_34.2.2.2.2.2.1
theorem dX1_leastCells_7 : decode cX1_leastCells 7 = .ok (.iconst 0, 1) := zb_X1_leastCells_34.2.2.2.2.2.2.1
theorem dX1_leastCells_8 : decode cX1_leastCells 8 = .ok (.goto 5, 3) := zb_X1_leastCells_34.2.2.2.2.2.2.2
theorem zb_X1_plan_0 : (decode cX1_plan 0 = .ok (.aload_n 0, 1)) ∧ (decode cX1_plan 1 = .ok (.iconst (-1), 1)) ∧ (decode cX1_plan 2 = .ok (.putfield 22, 3)) ∧ (decode cX1_plan 5 = .ok (.aload_n 0, 1)) ∧ (decode cX1_plan 6 = .ok (.iconst 0, 1)) ∧ (decode cX1_plan 7 = .ok (.putfield 25, 3)) ∧ (decode cX1_plan 10 = .ok (.iconst 0, 1)) ∧ (decode cX1_plan 11 = .ok (.istore_n 3, 1)) ∧ (decode cX1_plan 12 = .ok (.iload_n 3, 1)) ∧ (decode cX1_plan 13 = .ok (.getstatic 28, 3)) ∧ (decode cX1_plan 16 = .ok (.iload_n 1, 1)) := by decide +kernel
theorem dX1_plan_0 : decode cX1_plan 0 = .ok (.aload_n 0, 1) := zb_X1_plan_0.1
theorem dX1_plan_1 : decode cX1_plan 1 = .ok (.iconst (-1), 1) := zb_X1_plan_0.2.1
theorem dX1_plan_2 : decode cX1_plan 2 = .ok (.putfield 22, 3) := zb_X1_plan_0.2.2.1
theorem dX1_plan_5 : decode cX1_plan 5 = .ok (.aload_n 0, 1) := zb_X1_plan_0.2.2.2.1
theorem dX1_plan_6 : decode cX1_plan 6 = .ok (.iconst 0, 1) := zb_X1_plan_0.2.2.2.2.1
theorem dX1_plan_7 : decode cX1_plan 7 = .ok (.putfield 25, 3) := zb_X1_plan_0.2.2.2.2.2.1
theorem dX1_plan_10 : decode cX1_plan 10 = .ok (.iconst 0, 1) := zb_X1_plan_0.2.2.2.2.2.2.1
theorem dX1_plan_11 : decode cX1_plan 11 = .ok (.istore_n 3, 1) := zb_X1_plan_0.2.2.2.2.2.2.2.1
theorem dX1_plan_12 : decode cX1_plan 12 = .ok (.iload_n 3, 1) := zb_X1_plan_0.2.2.2.2.2.2.2.2.1
theorem dX1_plan_13 : decode cX1_plan 13 = .ok (.getstatic 28, 3) := zb_X1_plan_0.2.2.2.2.2.2.2.2.2.1
theorem dX1_plan_16 : decode cX1_plan 16 = .ok (.iload_n 1, 1) := zb_X1_plan_0.2.2.2.2.2.2.2.2.2.2
theorem zb_X1_plan_17 : (decode cX1_plan 17 = .ok (.iaload, 1)) ∧ (decode cX1_plan 18 = .ok (.if_icmp .ge 38, 3)) ∧ (decode cX1_plan 56 = .ok (.return_, 1)) ∧ (decode cX1_plan 21 = .ok (.aload_n 0, 1)) ∧ (decode cX1_plan 22 = .ok (.iload_n 1, 1)) ∧ (decode cX1_plan 23 = .ok (.iload_n 2, 1)) ∧ (decode cX1_plan 24 = .ok (.iload_n 3, 1)) ∧ (decode cX1_plan 25 = .ok (.invokevirtual 32, 3)) ∧ (decode cX1_plan 28 = .ok (.istore 4, 2)) ∧ (decode cX1_plan 30 = .ok (.iload 4, 2)) ∧ (decode cX1_plan 32 = .ok (.aload_n 0, 1)) := by decide +kernel
theorem dX1_plan_17 : decode cX1_plan 17 = .ok (.iaload, 1) := zb_X1_plan_17.1
theorem dX1_plan_18 : decode cX1_plan 18 = .ok (.if_icmp .ge 38, 3) := zb_X1_plan_17.2.1
theorem dX1_plan_56 : decode cX1_plan 56 = .ok (.return_, 1) := zb_X1_plan_17.2.2.1
theorem dX1_plan_21 : decode cX1_plan 21 = .ok (.aload_n 0, 1) := zb_X1_plan_17.2.2.2.1
theorem dX1_plan_22 : decode cX1_plan 22 = .ok (.iload_n 1, 1) := zb_X1_plan_17.2.2.2.2.1
theorem dX1_plan_23 : decode cX1_plan 23 = .ok (.iload_n 2, 1) := zb_X1_plan_17.2.2.2.2.2.1
theorem dX1_plan_24 : decode cX1_plan 24 = .ok (.iload_n 3, 1) := zb_X1_plan_17.2.2.2.2.2.2.1
theorem dX1_plan_25 : decode cX1_plan 25 = .ok (.invokevirtual 32, 3) := zb_X1_plan_17.2.2.2.2.2.2.2.1
theorem dX1_plan_28 : decode cX1_plan 28 = .ok (.istore 4, 2) := zb_X1_plan_17.2.2.2.2.2.2.2.2.1
theorem dX1_plan_30 : decode cX1_plan 30 = .ok (.iload 4, 2) := zb_X1_plan_17.2.2.2.2.2.2.2.2.2.1
theorem dX1_plan_32 : decode cX1_plan 32 = .ok (.aload_n 0, 1) := zb_X1_plan_17.2.2.2.2.2.2.2.2.2.2
theorem zb_X1_plan_33 : (decode cX1_plan 33 = .ok (.getfield 22, 3)) ∧ (decode cX1_plan 36 = .ok (.if_icmp .le 14, 3)) ∧ (decode cX1_plan 50 = .ok (.iinc 3 1, 3)) ∧ (decode cX1_plan 53 = .ok (.goto (-41), 3)) ∧ (decode cX1_plan 39 = .ok (.aload_n 0, 1)) ∧ (decode cX1_plan 40 = .ok (.iload 4, 2)) ∧ (decode cX1_plan 42 = .ok (.putfield 22, 3)) ∧ (decode cX1_plan 45 = .ok (.aload_n 0, 1)) ∧ (decode cX1_plan 46 = .ok (.iload_n 3, 1)) ∧ (decode cX1_plan 47 = .ok (.putfield 25, 3)) := by decide +kernel
theorem dX1_plan_33 : decode cX1_plan 33 = .ok (.getfield 22, 3) := zb_X1_plan_33.1
theorem dX1_plan_36 : decode cX1_plan 36 = .ok (.if_icmp .le 14, 3) := zb_X1_plan_33.2.1
theorem dX1_plan_50 : decode cX1_plan 50 = .ok (.iinc 3 1, 3) := zb_X1_plan_33.2.2.1
theorem dX1_plan_53 : decode cX1_plan 53 = .ok (.goto (-41), 3) := zb_X1_plan_33.2.2.2.1
theorem dX1_plan_39 : decode cX1_plan 39 = .ok (.aload_n 0, 1) := zb_X1_plan_33.2.2.2.2.1
theorem dX1_plan_40 : decode cX1_plan 40 = .ok (.iload 4, 2) := zb_X1_plan_33.2.2.2.2.2.1
theorem dX1_plan_42 : decode cX1_plan 42 = .ok (.putfield 22, 3) := zb_X1_plan_33.2.2.2.2.2.2.1
theorem dX1_plan_45 : decode cX1_plan 45 = .ok (.aload_n 0, 1) := zb_X1_plan_33.2.2.2.2.2.2.2.1
theorem dX1_plan_46 : decode cX1_plan 46 = .ok (.iload_n 3, 1) := zb_X1_plan_33.2.2.2.2.2.2.2.2.1
theorem dX1_plan_47 : decode cX1_plan 47 = .ok (.putfield 25, 3) := zb_X1_plan_33.2.2.2.2.2.2.2.2.2
theorem zb_X1_addRow_0 : (decode cX1_addRow 0 = .ok (.lload_n 1, 1)) ∧ (decode cX1_addRow 1 = .ok (.lstore_n 3, 1)) ∧ (decode cX1_addRow 2 = .ok (.iconst 0, 1)) ∧ (decode cX1_addRow 3 = .ok (.istore 5, 2)) ∧ (decode cX1_addRow 5 = .ok (.iload 5, 2)) ∧ (decode cX1_addRow 7 = .ok (.bipush 15, 2)) ∧ (decode cX1_addRow 9 = .ok (.if_icmp .ge 33, 3)) ∧ (decode cX1_addRow 42 = .ok (.aload_n 0, 1)) ∧ (decode cX1_addRow 43 = .ok (.dup, 1)) ∧ (decode cX1_addRow 44 = .ok (.getfield 16, 3)) ∧ (decode cX1_addRow 47 = .ok (.dup_x1, 1)) := by decide +kernel
theorem dX1_addRow_0 : decode cX1_addRow 0 = .ok (.lload_n 1, 1) := zb_X1_addRow_0.1
theorem dX1_addRow_1 : decode cX1_addRow 1 = .ok (.lstore_n 3, 1) := zb_X1_addRow_0.2.1
theorem dX1_addRow_2 : decode cX1_addRow 2 = .ok (.iconst 0, 1) := zb_X1_addRow_0.2.2.1
theorem dX1_addRow_3 : decode cX1_addRow 3 = .ok (.istore 5, 2) := zb_X1_addRow_0.2.2.2.1
theorem dX1_addRow_5 : decode cX1_addRow 5 = .ok (.iload 5, 2) := zb_X1_addRow_0.2.2.2.2.1
theorem dX1_addRow_7 : decode cX1_addRow 7 = .ok (.bipush 15, 2) := zb_X1_addRow_0.2.2.2.2.2.1
theorem dX1_addRow_9 : decode cX1_addRow 9 = .ok (.if_icmp .ge 33, 3) := zb_X1_addRow_0.2.2.2.2.2.2.1
theorem dX1_addRow_42 : decode cX1_addRow 42 = .ok (.aload_n 0, 1) := zb_X1_addRow_0.2.2.2.2.2.2.2.1
theorem dX1_addRow_43 : decode cX1_addRow 43 = .ok (.dup, 1) := zb_X1_addRow_0.2.2.2.2.2.2.2.2.1
theorem dX1_addRow_44 : decode cX1_addRow 44 = .ok (.getfield 16, 3) := zb_X1_addRow_0.2.2.2.2.2.2.2.2.2.1
theorem dX1_addRow_47 : decode cX1_addRow 47 = .ok (.dup_x1, 1) := zb_X1_addRow_0.2.2.2.2.2.2.2.2.2.2
theorem zb_X1_addRow_48 : (decode cX1_addRow 48 = .ok (.iconst 1, 1)) ∧ (decode cX1_addRow 49 = .ok (.iadd, 1)) ∧ (decode cX1_addRow 50 = .ok (.putfield 16, 3)) ∧ (decode cX1_addRow 53 = .ok (.ireturn, 1)) ∧ (decode cX1_addRow 12 = .ok (.aload_n 0, 1)) ∧ (decode cX1_addRow 13 = .ok (.getfield 11, 3)) ∧ (decode cX1_addRow 16 = .ok (.aload_n 0, 1)) ∧ (decode cX1_addRow 17 = .ok (.getfield 16, 3)) ∧ (decode cX1_addRow 20 = .ok (.aaload, 1)) ∧ (decode cX1_addRow 21 = .ok (.iload 5, 2)) ∧ (decode cX1_addRow 23 = .ok (.lload_n 3, 1)) := by decide +kernel
theorem dX1_addRow_48 : decode cX1_addRow 48 = .ok (.iconst 1, 1) := zb_X1_addRow_48.1
theorem dX1_addRow_49 : decode cX1_addRow 49 = .ok (.iadd, 1) := zb_X1_addRow_48.2.1
theorem dX1_addRow_50 : decode cX1_addRow 50 = .ok (.putfield 16, 3) := zb_X1_addRow_48.2.2.1
theorem dX1_addRow_53 : decode cX1_addRow 53 = .ok (.ireturn, 1) := zb_X1_addRow_48.2.2.2.1
theorem dX1_addRow_12 : decode cX1_addRow 12 = .ok (.aload_n 0, 1) := zb_X1_addRow_48.2.2.2.2.1
theorem dX1_addRow_13 : decode cX1_addRow 13 = .ok (.getfield 11, 3) := zb_X1_addRow_48.2.2.2.2.2.1
theorem dX1_addRow_16 : decode cX1_addRow 16 = .ok (.aload_n 0, 1) := zb_X1_addRow_48.2.2.2.2.2.2.1
theorem dX1_addRow_17 : decode cX1_addRow 17 = .ok (.getfield 16, 3) := zb_X1_addRow_48.2.2.2.2.2.2.2.1
theorem dX1_addRow_20 : decode cX1_addRow 20 = .ok (.aaload, 1) := zb_X1_addRow_48.2.2.2.2.2.2.2.2.1
theorem dX1_addRow_21 : decode cX1_addRow 21 = .ok (.iload 5, 2) := zb_X1_addRow_48.2.2.2.2.2.2.2.2.2.1
theorem dX1_addRow_23 : decode cX1_addRow 23 = .ok (.lload_n 3, 1) := zb_X1_addRow_48.2.2.2.2.2.2.2.2.2.2
theorem zb_X1_addRow_24 : (decode cX1_addRow 24 = .ok (.ldc2_w 20, 3)) ∧ (decode cX1_addRow 27 = .ok (.lrem, 1)) ∧ (decode cX1_addRow 28 = .ok (.l2i, 1)) ∧ (decode cX1_addRow 29 = .ok (.iastore, 1)) ∧ (decode cX1_addRow 30 = .ok (.lload_n 3, 1)) ∧ (decode cX1_addRow 31 = .ok (.ldc2_w 20, 3)) ∧ (decode cX1_addRow 34 = .ok (.ldiv, 1)) ∧ (decode cX1_addRow 35 = .ok (.lstore_n 3, 1)) ∧ (decode cX1_addRow 36 = .ok (.iinc 5 1, 3)) ∧ (decode cX1_addRow 39 = .ok (.goto (-34), 3)) := by decide +kernel
theorem dX1_addRow_24 : decode cX1_addRow 24 = .ok (.ldc2_w 20, 3) := zb_X1_addRow_24.1
theorem dX1_addRow_27 : decode cX1_addRow 27 = .ok (.lrem, 1) := zb_X1_addRow_24.2.1
theorem dX1_addRow_28 : decode cX1_addRow 28 = .ok (.l2i, 1) := zb_X1_addRow_24.2.2.1
theorem dX1_addRow_29 : decode cX1_addRow 29 = .ok (.iastore, 1) := zb_X1_addRow_24.2.2.2.1
theorem dX1_addRow_30 : decode cX1_addRow 30 = .ok (.lload_n 3, 1) := zb_X1_addRow_24.2.2.2.2.1
theorem dX1_addRow_31 : decode cX1_addRow 31 = .ok (.ldc2_w 20, 3) := zb_X1_addRow_24.2.2.2.2.2.1
theorem dX1_addRow_34 : decode cX1_addRow 34 = .ok (.ldiv, 1) := zb_X1_addRow_24.2.2.2.2.2.2.1
theorem dX1_addRow_35 : decode cX1_addRow 35 = .ok (.lstore_n 3, 1) := zb_X1_addRow_24.2.2.2.2.2.2.2.1
theorem dX1_addRow_36 : decode cX1_addRow 36 = .ok (.iinc 5 1, 3) := zb_X1_addRow_24.2.2.2.2.2.2.2.2.1
theorem dX1_addRow_39 : decode cX1_addRow 39 = .ok (.goto (-34), 3) := zb_X1_addRow_24.2.2.2.2.2.2.2.2.2
theorem zb_X7_become_0 : (decode cX7_become 0 = .ok (.aload_n 0, 1)) ∧ (decode cX7_become 1 = .ok (.iload_n 1, 1)) ∧ (decode cX7_become 2 = .ok (.putfield 15, 3)) ∧ (decode cX7_become 5 = .ok (.aload_n 0, 1)) ∧ (decode cX7_become 6 = .ok (.iload_n 2, 1)) ∧ (decode cX7_become 7 = .ok (.putfield 19, 3)) ∧ (decode cX7_become 10 = .ok (.iconst 0, 1)) ∧ (decode cX7_become 11 = .ok (.istore_n 3, 1)) ∧ (decode cX7_become 12 = .ok (.iload_n 3, 1)) ∧ (decode cX7_become 13 = .ok (.bipush 40, 2)) := by decide +kernel
theorem dX7_become_0 : decode cX7_become 0 = .ok (.aload_n 0, 1) := zb_X7_become_0.1
theorem dX7_become_1 : decode cX7_become 1 = .ok (.iload_n 1, 1) := zb_X7_become_0.2.1
theorem dX7_become_2 : decode cX7_become 2 = .ok (.putfield 15, 3) := zb_X7_become_0.2.2.1
theorem dX7_become_5 : decode cX7_become 5 = .ok (.aload_n 0, 1) := zb_X7_become_0.2.2.2.1
theorem dX7_become_6 : decode cX7_become 6 = .ok (.iload_n 2, 1) := zb_X7_become_0.2.2.2.2.1
theorem dX7_become_7 : decode cX7_become 7 = .ok (.putfield 19, 3) := zb_X7_become_0.2.2.2.2.2.1
theorem dX7_become_10 : decode cX7_become 10 = .ok (.iconst 0, 1) := zb_X7_become_0.2.2.2.2.2.2.1
theorem dX7_become_11 : decode cX7_become 11 = .ok (.istore_n 3, 1) := zb_X7_become_0.2.2.2.2.2.2.2.1
theorem dX7_become_12 : decode cX7_become 12 = .ok (.iload_n 3, 1) := zb_X7_become_0.2.2.2.2.2.2.2.2.1
theorem dX7_become_13 : decode cX7_become 13 = .ok (.bipush 40, 2) := zb_X7_become_0.2.2.2.2.2.2.2.2.2
theorem zb_X7_become_15 : (decode cX7_become 15 = .ok (.if_icmp .ge 16, 3)) ∧ (decode cX7_become 31 = .ok (.return_, 1)) ∧ (decode cX7_become 18 = .ok (.aload_n 0, 1)) ∧ (decode cX7_become 19 = .ok (.getfield 9, 3)) ∧ (decode cX7_become 22 = .ok (.iload_n 3, 1)) ∧ (decode cX7_become 23 = .ok (.iconst 0, 1)) ∧ (decode cX7_become 24 = .ok (.iastore, 1)) ∧ (decode cX7_become 25 = .ok (.iinc 3 1, 3)) ∧ (decode cX7_become 28 = .ok (.goto (-16), 3)) := by decide +kernel
theorem dX7_become_15 : decode cX7_become 15 = .ok (.if_icmp .ge 16, 3) := zb_X7_become_15.1
theorem dX7_become_31 : decode cX7_become 31 = .ok (.return_, 1) := zb_X7_become_15.2.1
theorem dX7_become_18 : decode cX7_become 18 = .ok (.aload_n 0, 1) := zb_X7_become_15.2.2.1
theorem dX7_become_19 : decode cX7_become 19 = .ok (.getfield 9, 3) := zb_X7_become_15.2.2.2.1
theorem dX7_become_22 : decode cX7_become 22 = .ok (.iload_n 3, 1) := zb_X7_become_15.2.2.2.2.1
theorem dX7_become_23 : decode cX7_become 23 = .ok (.iconst 0, 1) := zb_X7_become_15.2.2.2.2.2.1
theorem dX7_become_24 : decode cX7_become 24 = .ok (.iastore, 1) := zb_X7_become_15.2.2.2.2.2.2.1
theorem dX7_become_25 : decode cX7_become 25 = .ok (.iinc 3 1, 3) := zb_X7_become_15.2.2.2.2.2.2.2.1
theorem dX7_become_28 : decode cX7_become 28 = .ok (.goto (-16), 3) := zb_X7_become_15.2.2.2.2.2.2.2.2
theorem zb_X7_hasItem_0 : (decode cX7_hasItem 0 = .ok (.iload_n 1, 1)) ∧ (decode cX7_hasItem 1 = .ok (.ifCond .lt 15, 3)) ∧ (decode cX7_hasItem 16 = .ok (.iconst 0, 1)) ∧ (decode cX7_hasItem 17 = .ok (.ireturn, 1)) ∧ (decode cX7_hasItem 4 = .ok (.iload_n 1, 1)) ∧ (decode cX7_hasItem 5 = .ok (.aload_n 0, 1)) ∧ (decode cX7_hasItem 6 = .ok (.getfield 19, 3)) ∧ (decode cX7_hasItem 9 = .ok (.if_icmp .ge 7, 3)) ∧ (decode cX7_hasItem 12 = .ok (.iconst 1, 1)) ∧ (decode cX7_hasItem 13 = .ok (.goto 4, 3)) := by decide +kernel
theorem dX7_hasItem_0 : decode cX7_hasItem 0 = .ok (.iload_n 1, 1) := zb_X7_hasItem_0.1
theorem dX7_hasItem_1 : decode cX7_hasItem 1 = .ok (.ifCond .lt 15, 3) := zb_X7_hasItem_0.2.1
theorem dX7_hasItem_16 : decode cX7_hasItem 16 = .ok (.iconst 0, 1) := zb_X7_hasItem_0.2.2.1
theorem dX7_hasItem_17 : decode cX7_hasItem 17 = .ok (.ireturn, 1) := zb_X7_hasItem_0.2.2.2.1
theorem dX7_hasItem_4 : decode cX7_hasItem 4 = .ok (.iload_n 1, 1) := zb_X7_hasItem_0.2.2.2.2.1
theorem dX7_hasItem_5 : decode cX7_hasItem 5 = .ok (.aload_n 0, 1) := zb_X7_hasItem_0.2.2.2.2.2.1
theorem dX7_hasItem_6 : decode cX7_hasItem 6 = .ok (.getfield 19, 3) := zb_X7_hasItem_0.2.2.2.2.2.2.1
theorem dX7_hasItem_9 : decode cX7_hasItem 9 = .ok (.if_icmp .ge 7, 3) := zb_X7_hasItem_0.2.2.2.2.2.2.2.1
theorem dX7_hasItem_12 : decode cX7_hasItem 12 = .ok (.iconst 1, 1) := zb_X7_hasItem_0.2.2.2.2.2.2.2.2.1
theorem dX7_hasItem_13 : decode cX7_hasItem 13 = .ok (.goto 4, 3) := zb_X7_hasItem_0.2.2.2.2.2.2.2.2.2
theorem zb_X7_hasStretch_0 : (decode cX7_hasStretch 0 = .ok (.iload_n 1, 1)) ∧ (decode cX7_hasStretch 1 = .ok (.ifCond .lt 29, 3)) ∧ (decode cX7_hasStretch 30 = .ok (.iconst 0, 1)) ∧ (decode cX7_hasStretch 31 = .ok (.ireturn, 1)) ∧ (decode cX7_hasStretch 4 = .ok (.iload_n 2, 1)) ∧ (decode cX7_hasStretch 5 = .ok (.ifCond .lt 25, 3)) ∧ (decode cX7_hasStretch 8 = .ok (.iload_n 1, 1)) ∧ (decode cX7_hasStretch 9 = .ok (.aload_n 0, 1)) ∧ (decode cX7_hasStretch 10 = .ok (.getfield 19, 3)) := by decide +kernel
theorem dX7_hasStretch_0 : decode cX7_hasStretch 0 = .ok (.iload_n 1, 1) := zb_X7_hasStretch_0.1
theorem dX7_hasStretch_1 : decode cX7_hasStretch 1 = .ok (.ifCond .lt 29, 3) := zb_X7_hasStretch_0.2.1
theorem dX7_hasStretch_30 : decode cX7_hasStretch 30 = .ok (.iconst 0, 1) := zb_X7_hasStretch_0.2.2.1
theorem dX7_hasStretch_31 : decode cX7_hasStretch 31 = .ok (.ireturn, 1) := zb_X7_hasStretch_0.2.2.2.1
theorem dX7_hasStretch_4 : decode cX7_hasStretch 4 = .ok (.iload_n 2, 1) := zb_X7_hasStretch_0.2.2.2.2.1
theorem dX7_hasStretch_5 : decode cX7_hasStretch 5 = .ok (.ifCond .lt 25, 3) := zb_X7_hasStretch_0.2.2.2.2.2.1
theorem dX7_hasStretch_8 : decode cX7_hasStretch 8 = .ok (.iload_n 1, 1) := zb_X7_hasStretch_0.2.2.2.2.2.2.1
theorem dX7_hasStretch_9 : decode cX7_hasStretch 9 = .ok (.aload_n 0, 1) := zb_X7_hasStretch_0.2.2.2.2.2.2.2.1
theorem dX7_hasStretch_10 : decode cX7_hasStretch 10 = .ok (.getfield 19, 3) := zb_X7_hasStretch_0.2.2.2.2.2.2.2.2
theorem zb_X7_hasStretch_13 : (decode cX7_hasStretch 13 = .ok (.if_icmp .gt 17, 3)) ∧ (decode cX7_hasStretch 16 = .ok (.iload_n 2, 1)) ∧ (decode cX7_hasStretch 17 = .ok (.aload_n 0, 1)) ∧ (decode cX7_hasStretch 18 = .ok (.getfield 19, 3)) ∧ (decode cX7_hasStretch 21 = .ok (.iload_n 1, 1)) ∧ (decode cX7_hasStretch 22 = .ok (.isub, 1)) ∧ (decode cX7_hasStretch 23 = .ok (.if_icmp .gt 7, 3)) ∧ (decode cX7_hasStretch 26 = .ok (.iconst 1, 1)) ∧ (decode cX7_hasStretch 27 = .ok (.goto 4, 3)) := by decide +kernel
theorem dX7_hasStretch_13 : decode cX7_hasStretch 13 = .ok (.if_icmp .gt 17, 3) := zb_X7_hasStretch_13.1
theorem dX7_hasStretch_16 : decode cX7_hasStretch 16 = .ok (.iload_n 2, 1) := zb_X7_hasStretch_13.2.1
theorem dX7_hasStretch_17 : decode cX7_hasStretch 17 = .ok (.aload_n 0, 1) := zb_X7_hasStretch_13.2.2.1
theorem dX7_hasStretch_18 : decode cX7_hasStretch 18 = .ok (.getfield 19, 3) := zb_X7_hasStretch_13.2.2.2.1
theorem dX7_hasStretch_21 : decode cX7_hasStretch 21 = .ok (.iload_n 1, 1) := zb_X7_hasStretch_13.2.2.2.2.1
theorem dX7_hasStretch_22 : decode cX7_hasStretch 22 = .ok (.isub, 1) := zb_X7_hasStretch_13.2.2.2.2.2.1
theorem dX7_hasStretch_23 : decode cX7_hasStretch 23 = .ok (.if_icmp .gt 7, 3) := zb_X7_hasStretch_13.2.2.2.2.2.2.1
theorem dX7_hasStretch_26 : decode cX7_hasStretch 26 = .ok (.iconst 1, 1) := zb_X7_hasStretch_13.2.2.2.2.2.2.2.1
theorem dX7_hasStretch_27 : decode cX7_hasStretch 27 = .ok (.goto 4, 3) := zb_X7_hasStretch_13.2.2.2.2.2.2.2.2
theorem zb_X7_put_0 : (decode cX7_put 0 = .ok (.aload_n 0, 1)) ∧ (decode cX7_put 1 = .ok (.getfield 15, 3)) ∧ (decode cX7_put 4 = .ok (.ifCond .ne 14, 3)) ∧ (decode cX7_put 18 = .ok (.aload_n 0, 1)) ∧ (decode cX7_put 19 = .ok (.getfield 15, 3)) ∧ (decode cX7_put 22 = .ok (.iconst 1, 1)) ∧ (decode cX7_put 23 = .ok (.if_icmp .ne 14, 3)) ∧ (decode cX7_put 37 = .ok (.aload_n 0, 1)) ∧ (decode cX7_put 38 = .ok (.getfield 9, 3)) := by decide +kernel
theorem dX7_put_0 : decode cX7_put 0 = .ok (.aload_n 0, 1) := zb_X7_put_0.1
theorem dX7_put_1 : decode cX7_put 1 = .ok (.getfield 15, 3) := zb_X7_put_0.2.1
theorem dX7_put_4 : decode cX7_put 4 = .ok (.ifCond .ne 14, 3) := zb_X7_put_0.2.2.1
theorem dX7_put_18 : decode cX7_put 18 = .ok (.aload_n 0, 1) := zb_X7_put_0.2.2.2.1
theorem dX7_put_19 : decode cX7_put 19 = .ok (.getfield 15, 3) := zb_X7_put_0.2.2.2.2.1
theorem dX7_put_22 : decode cX7_put 22 = .ok (.iconst 1, 1) := zb_X7_put_0.2.2.2.2.2.1
theorem dX7_put_23 : decode cX7_put 23 = .ok (.if_icmp .ne 14, 3) := zb_X7_put_0.2.2.2.2.2.2.1
theorem dX7_put_37 : decode cX7_put 37 = .ok (.aload_n 0, 1) := zb_X7_put_0.2.2.2.2.2.2.2.1
theorem dX7_put_38 : decode cX7_put 38 = .ok (.getfield 9, 3) := zb_X7_put_0.2.2.2.2.2.2.2.2
theorem zb_X7_put_41 : (decode cX7_put 41 = .ok (.iload_n 1, 1)) ∧ (decode cX7_put 42 = .ok (.iload_n 2, 1)) ∧ (decode cX7_put 43 = .ok (.iastore, 1)) ∧ (decode cX7_put 44 = .ok (.return_, 1)) ∧ (decode cX7_put 26 = .ok (.aload_n 0, 1)) ∧ (decode cX7_put 27 = .ok (.getfield 9, 3)) ∧ (decode cX7_put 30 = .ok (.iload_n 1, 1)) ∧ (decode cX7_put 31 = .ok (.iload_n 2, 1)) ∧ (decode cX7_put 32 = .ok (.i2s, 1)) := by decide +kernel
theorem dX7_put_41 : decode cX7_put 41 = .ok (.iload_n 1, 1) := zb_X7_put_41.1
theorem dX7_put_42 : decode cX7_put 42 = .ok (.iload_n 2, 1) := zb_X7_put_41.2.1
theorem dX7_put_43 : decode cX7_put 43 = .ok (.iastore, 1) := zb_X7_put_41.2.2.1
theorem dX7_put_44 : decode cX7_put 44 = .ok (.return_, 1) := zb_X7_put_41.2.2.2.1
theorem dX7_put_26 : decode cX7_put 26 = .ok (.aload_n 0, 1) := zb_X7_put_41.2.2.2.2.1
theorem dX7_put_27 : decode cX7_put 27 = .ok (.getfield 9, 3) := zb_X7_put_41.2.2.2.2.2.1
theorem dX7_put_30 : decode cX7_put 30 = .ok (.iload_n 1, 1) := zb_X7_put_41.2.2.2.2.2.2.1
theorem dX7_put_31 : decode cX7_put 31 = .ok (.iload_n 2, 1) := zb_X7_put_41.2.2.2.2.2.2.2.1
theorem dX7_put_32 : decode cX7_put 32 = .ok (.i2s, 1) := zb_X7_put_41.2.2.2.2.2.2.2.2
theorem zb_X7_put_33 : (decode cX7_put 33 = .ok (.iastore, 1)) ∧ (decode cX7_put 34 = .ok (.goto 10, 3)) ∧ (decode cX7_put 7 = .ok (.aload_n 0, 1)) ∧ (decode cX7_put 8 = .ok (.getfield 9, 3)) ∧ (decode cX7_put 11 = .ok (.iload_n 1, 1)) ∧ (decode cX7_put 12 = .ok (.iload_n 2, 1)) ∧ (decode cX7_put 13 = .ok (.i2b, 1)) ∧ (decode cX7_put 14 = .ok (.iastore, 1)) ∧ (decode cX7_put 15 = .ok (.goto 29, 3)) := by decide +kernel
theorem dX7_put_33 : decode cX7_put 33 = .ok (.iastore, 1) := zb_X7_put_33.1
theorem dX7_put_34 : decode cX7_put 34 = .ok (.goto 10, 3) := zb_X7_put_33.2.1
theorem dX7_put_7 : decode cX7_put 7 = .ok (.aload_n 0, 1) := zb_X7_put_33.2.2.1
theorem dX7_put_8 : decode cX7_put 8 = .ok (.getfield 9, 3) := zb_X7_put_33.2.2.2.1
theorem dX7_put_11 : decode cX7_put 11 = .ok (.iload_n 1, 1) := zb_X7_put_33.2.2.2.2.1
theorem dX7_put_12 : decode cX7_put 12 = .ok (.iload_n 2, 1) := zb_X7_put_33.2.2.2.2.2.1
theorem dX7_put_13 : decode cX7_put 13 = .ok (.i2b, 1) := zb_X7_put_33.2.2.2.2.2.2.1
theorem dX7_put_14 : decode cX7_put 14 = .ok (.iastore, 1) := zb_X7_put_33.2.2.2.2.2.2.2.1
theorem dX7_put_15 : decode cX7_put 15 = .ok (.goto 29, 3) := zb_X7_put_33.2.2.2.2.2.2.2.2
theorem zb_X9_clear_0 : (decode cX9_clear 0 = .ok (.aload_n 0, 1)) ∧ (decode cX9_clear 1 = .ok (.iconst 0, 1)) ∧ (decode cX9_clear 2 = .ok (.putfield 15, 3)) ∧ (decode cX9_clear 5 = .ok (.aload_n 0, 1)) ∧ (decode cX9_clear 6 = .ok (.iconst 0, 1)) ∧ (decode cX9_clear 7 = .ok (.putfield 19, 3)) ∧ (decode cX9_clear 10 = .ok (.return_, 1)) := by decide +kernel
theorem dX9_clear_0 : decode cX9_clear 0 = .ok (.aload_n 0, 1) := zb_X9_clear_0.1
theorem dX9_clear_1 : decode cX9_clear 1 = .ok (.iconst 0, 1) := zb_X9_clear_0.2.1
theorem dX9_clear_2 : decode cX9_clear 2 = .ok (.putfield 15, 3) := zb_X9_clear_0.2.2.1
theorem dX9_clear_5 : decode cX9_clear 5 = .ok (.aload_n 0, 1) := zb_X9_clear_0.2.2.2.1
theorem dX9_clear_6 : decode cX9_clear 6 = .ok (.iconst 0, 1) := zb_X9_clear_0.2.2.2.2.1
theorem dX9_clear_7 : decode cX9_clear 7 = .ok (.putfield 19, 3) := zb_X9_clear_0.2.2.2.2.2.1
theorem dX9_clear_10 : decode cX9_clear 10 = .ok (.return_, 1) := zb_X9_clear_0.2.2.2.2.2.2
theorem zb_X9_addStep_0 : (decode cX9_addStep 0 = .ok (.aload_n 0, 1)) ∧ (decode cX9_addStep 1 = .ok (.getfield 15, 3)) ∧ (decode cX9_addStep 4 = .ok (.sipush 160, 3)) ∧ (decode cX9_addStep 7 = .ok (.if_icmp .ge 23, 3)) ∧ (decode cX9_addStep 30 = .ok (.return_, 1)) ∧ (decode cX9_addStep 10 = .ok (.aload_n 0, 1)) ∧ (decode cX9_addStep 11 = .ok (.getfield 9, 3)) ∧ (decode cX9_addStep 14 = .ok (.aload_n 0, 1)) ∧ (decode cX9_addStep 15 = .ok (.getfield 15, 3)) := by decide +kernel
theorem dX9_addStep_0 : decode cX9_addStep 0 = .ok (.aload_n 0, 1) := zb_X9_addStep_0.1
theorem dX9_addStep_1 : decode cX9_addStep 1 = .ok (.getfield 15, 3) := zb_X9_addStep_0.2.1
theorem dX9_addStep_4 : decode cX9_addStep 4 = .ok (.sipush 160, 3) := zb_X9_addStep_0.2.2.1
theorem dX9_addStep_7 : decode cX9_addStep 7 = .ok (.if_icmp .ge 23, 3) := zb_X9_addStep_0.2.2.2.1
theorem dX9_addStep_30 : decode cX9_addStep 30 = .ok (.return_, 1) := zb_X9_addStep_0.2.2.2.2.1
theorem dX9_addStep_10 : decode cX9_addStep 10 = .ok (.aload_n 0, 1) := zb_X9_addStep_0.2.2.2.2.2.1
theorem dX9_addStep_11 : decode cX9_addStep 11 = .ok (.getfield 9, 3) := zb_X9_addStep_0.2.2.2.2.2.2.1
theorem dX9_addStep_14 : decode cX9_addStep 14 = .ok (.aload_n 0, 1) := zb_X9_addStep_0.2.2.2.2.2.2.2.1
theorem dX9_addStep_15 : decode cX9_addStep 15 = .ok (.getfield 15, 3) := zb_X9_addStep_0.2.2.2.2.2.2.2.2
theorem zb_X9_addStep_18 : (decode cX9_addStep 18 = .ok (.iload_n 1, 1)) ∧ (decode cX9_addStep 19 = .ok (.iastore, 1)) ∧ (decode cX9_addStep 20 = .ok (.aload_n 0, 1)) ∧ (decode cX9_addStep 21 = .ok (.dup, 1)) ∧ (decode cX9_addStep 22 = .ok (.getfield 15, 3)) ∧ (decode cX9_addStep 25 = .ok (.iconst 1, 1)) ∧ (decode cX9_addStep 26 = .ok (.iadd, 1)) ∧ (decode cX9_addStep 27 = .ok (.putfield 15, 3)) := by decide +kernel
theorem dX9_addStep_18 : decode cX9_addStep 18 = .ok (.iload_n 1, 1) := zb_X9_addStep_18.1
theorem dX9_addStep_19 : decode cX9_addStep 19 = .ok (.iastore, 1) := zb_X9_addStep_18.2.1
theorem dX9_addStep_20 : decode cX9_addStep 20 = .ok (.aload_n 0, 1) := zb_X9_addStep_18.2.2.1
theorem dX9_addStep_21 : decode cX9_addStep 21 = .ok (.dup, 1) := zb_X9_addStep_18.2.2.2.1
theorem dX9_addStep_22 : decode cX9_addStep 22 = .ok (.getfield 15, 3) := zb_X9_addStep_18.2.2.2.2.1
theorem dX9_addStep_25 : decode cX9_addStep 25 = .ok (.iconst 1, 1) := zb_X9_addStep_18.2.2.2.2.2.1
theorem dX9_addStep_26 : decode cX9_addStep 26 = .ok (.iadd, 1) := zb_X9_addStep_18.2.2.2.2.2.2.1
theorem dX9_addStep_27 : decode cX9_addStep 27 = .ok (.putfield 15, 3) := zb_X9_addStep_18.2.2.2.2.2.2.2
theorem zb_X9_become_0 : (decode cX9_become 0 = .ok (.aload_n 1, 1)) ∧ (decode cX9_become 1 = .ok (.getfield 9, 3)) ∧ (decode cX9_become 4 = .ok (.iconst 0, 1)) ∧ (decode cX9_become 5 = .ok (.aload_n 0, 1)) ∧ (decode cX9_become 6 = .ok (.getfield 9, 3)) ∧ (decode cX9_become 9 = .ok (.iconst 0, 1)) ∧ (decode cX9_become 10 = .ok (.sipush 160, 3)) ∧ (decode cX9_become 13 = .ok (.invokestatic 35, 3)) ∧ (decode cX9_become 16 = .ok (.aload_n 0, 1)) := by decide +kernel
theorem dX9_become_0 : decode cX9_become 0 = .ok (.aload_n 1, 1) := zb_X9_become_0.1
theorem dX9_become_1 : decode cX9_become 1 = .ok (.getfield 9, 3) := zb_X9_become_0.2.1
theorem dX9_become_4 : decode cX9_become 4 = .ok (.iconst 0, 1) := zb_X9_become_0.2.2.1
theorem dX9_become_5 : decode cX9_become 5 = .ok (.aload_n 0, 1) := zb_X9_become_0.2.2.2.1
theorem dX9_become_6 : decode cX9_become 6 = .ok (.getfield 9, 3) := zb_X9_become_0.2.2.2.2.1
theorem dX9_become_9 : decode cX9_become 9 = .ok (.iconst 0, 1) := zb_X9_become_0.2.2.2.2.2.1
theorem dX9_become_10 : decode cX9_become 10 = .ok (.sipush 160, 3) := zb_X9_become_0.2.2.2.2.2.2.1
theorem dX9_become_13 : decode cX9_become 13 = .ok (.invokestatic 35, 3) := zb_X9_become_0.2.2.2.2.2.2.2.1
theorem dX9_become_16 : decode cX9_become 16 = .ok (.aload_n 0, 1) := zb_X9_become_0.2.2.2.2.2.2.2.2
theorem zb_X9_become_17 : (decode cX9_become 17 = .ok (.aload_n 1, 1)) ∧ (decode cX9_become 18 = .ok (.getfield 15, 3)) ∧ (decode cX9_become 21 = .ok (.putfield 15, 3)) ∧ (decode cX9_become 24 = .ok (.aload_n 0, 1)) ∧ (decode cX9_become 25 = .ok (.aload_n 1, 1)) ∧ (decode cX9_become 26 = .ok (.getfield 19, 3)) ∧ (decode cX9_become 29 = .ok (.putfield 19, 3)) ∧ (decode cX9_become 32 = .ok (.return_, 1)) := by decide +kernel
theorem dX9_become_17 : decode cX9_become 17 = .ok (.aload_n 1, 1) := zb_X9_become_17.1
theorem dX9_become_18 : decode cX9_become 18 = .ok (.getfield 15, 3) := zb_X9_become_17.2.1
theorem dX9_become_21 : decode cX9_become 21 = .ok (.putfield 15, 3) := zb_X9_become_17.2.2.1
theorem dX9_become_24 : decode cX9_become 24 = .ok (.aload_n 0, 1) := zb_X9_become_17.2.2.2.1
theorem dX9_become_25 : decode cX9_become 25 = .ok (.aload_n 1, 1) := zb_X9_become_17.2.2.2.2.1
theorem dX9_become_26 : decode cX9_become 26 = .ok (.getfield 19, 3) := zb_X9_become_17.2.2.2.2.2.1
theorem dX9_become_29 : decode cX9_become 29 = .ok (.putfield 19, 3) := zb_X9_become_17.2.2.2.2.2.2.1
theorem dX9_become_32 : decode cX9_become 32 = .ok (.return_, 1) := zb_X9_become_17.2.2.2.2.2.2.2
theorem zb_X9_put_0 : (decode cX9_put 0 = .ok (.iload_n 2, 1)) ∧ (decode cX9_put 1 = .ok (.aload_n 1, 1)) ∧ (decode cX9_put 2 = .ok (.arraylength, 1)) ∧ (decode cX9_put 3 = .ok (.if_icmp .lt 5, 3)) ∧ (decode cX9_put 8 = .ok (.aload_n 1, 1)) ∧ (decode cX9_put 9 = .ok (.iload_n 2, 1)) ∧ (decode cX9_put 10 = .ok (.iload_n 0, 1)) := by decide +kernel
theorem dX9_put_0 : decode cX9_put 0 = .ok (.iload_n 2, 1) := zb_X9_put_0.1
theorem dX9_put_1 : decode cX9_put 1 = .ok (.aload_n 1, 1) := zb_X9_put_0.2.1
theorem dX9_put_2 : decode cX9_put 2 = .ok (.arraylength, 1) := zb_X9_put_0.2.2.1
theorem dX9_put_3 : decode cX9_put 3 = .ok (.if_icmp .lt 5, 3) := zb_X9_put_0.2.2.2.1
theorem dX9_put_8 : decode cX9_put 8 = .ok (.aload_n 1, 1) := zb_X9_put_0.2.2.2.2.1
theorem dX9_put_9 : decode cX9_put 9 = .ok (.iload_n 2, 1) := zb_X9_put_0.2.2.2.2.2.1
theorem dX9_put_10 : decode cX9_put 10 = .ok (.iload_n 0, 1) := zb_X9_put_0.2.2.2.2.2.2
theorem zb_X9_put_11 : (decode cX9_put 11 = .ok (.iastore, 1)) ∧ (decode cX9_put 12 = .ok (.iload_n 2, 1)) ∧ (decode cX9_put 13 = .ok (.iconst 1, 1)) ∧ (decode cX9_put 14 = .ok (.iadd, 1)) ∧ (decode cX9_put 15 = .ok (.ireturn, 1)) ∧ (decode cX9_put 6 = .ok (.iload_n 2, 1)) ∧ (decode cX9_put 7 = .ok (.ireturn, 1)) := by decide +kernel
theorem dX9_put_11 : decode cX9_put 11 = .ok (.iastore, 1) := zb_X9_put_11.1
theorem dX9_put_12 : decode cX9_put 12 = .ok (.iload_n 2, 1) := zb_X9_put_11.2.1
theorem dX9_put_13 : decode cX9_put 13 = .ok (.iconst 1, 1) := zb_X9_put_11.2.2.1
theorem dX9_put_14 : decode cX9_put 14 = .ok (.iadd, 1) := zb_X9_put_11.2.2.2.1
theorem dX9_put_15 : decode cX9_put 15 = .ok (.ireturn, 1) := zb_X9_put_11.2.2.2.2.1
theorem dX9_put_6 : decode cX9_put 6 = .ok (.iload_n 2, 1) := zb_X9_put_11.2.2.2.2.2.1
theorem dX9_put_7 : decode cX9_put 7 = .ok (.ireturn, 1) := zb_X9_put_11.2.2.2.2.2.2
theorem zb_X9_afterStep_0 : (decode cX9_afterStep 0 = .ok (.iload_n 0, 1)) ∧ (decode cX9_afterStep 1 = .ok (.bipush (-6), 2)) ∧ (decode cX9_afterStep 3 = .ok (.if_icmp .lt 22, 3)) ∧ (decode cX9_afterStep 25 = .ok (.iload_n 0, 1)) ∧ (decode cX9_afterStep 26 = .ok (.bipush (-13), 2)) ∧ (decode cX9_afterStep 28 = .ok (.if_icmp .eq 9, 3)) ∧ (decode cX9_afterStep 37 = .ok (.iload_n 3, 1)) ∧ (decode cX9_afterStep 38 = .ok (.ifCond .le 39, 3)) ∧ (decode cX9_afterStep 77 = .ok (.iload_n 3, 1)) ∧ (decode cX9_afterStep 78 = .ok (.ireturn, 1)) ∧ (decode cX9_afterStep 41 = .ok (.aload_n 2, 1)) := by decide +kernel
theorem dX9_afterStep_0 : decode cX9_afterStep 0 = .ok (.iload_n 0, 1) := zb_X9_afterStep_0.1
theorem dX9_afterStep_1 : decode cX9_afterStep 1 = .ok (.bipush (-6), 2) := zb_X9_afterStep_0.2.1
theorem dX9_afterStep_3 : decode cX9_afterStep 3 = .ok (.if_icmp .lt 22, 3) := zb_X9_afterStep_0.2.2.1
theorem dX9_afterStep_25 : decode cX9_afterStep 25 = .ok (.iload_n 0, 1) := zb_X9_afterStep_0.2.2.2.1
theorem dX9_afterStep_26 : decode cX9_afterStep 26 = .ok (.bipush (-13), 2) := zb_X9_afterStep_0.2.2.2.2.1
theorem dX9_afterStep_28 : decode cX9_afterStep 28 = .ok (.if_icmp .eq 9, 3) := zb_X9_afterStep_0.2.2.2.2.2.1
theorem dX9_afterStep_37 : decode cX9_afterStep 37 = .ok (.iload_n 3, 1) := zb_X9_afterStep_0.2.2.2.2.2.2.1
theorem dX9_afterStep_38 : decode cX9_afterStep 38 = .ok (.ifCond .le 39, 3) := zb_X9_afterStep_0.2.2.2.2.2.2.2.1
theorem dX9_afterStep_77 : decode cX9_afterStep 77 = .ok (.iload_n 3, 1) := zb_X9_afterStep_0.2.2.2.2.2.2.2.2.1
theorem dX9_afterStep_78 : decode cX9_afterStep 78 = .ok (.ireturn, 1) := zb_X9_afterStep_0.2.2.2.2.2.2.2.2.2.1
theorem dX9_afterStep_41 : decode cX9_afterStep 41 = .ok (.aload_n 2, 1) := zb_X9_afterStep_0.2.2.2.2.2.2.2.2.2.2
theorem zb_X9_afterStep_42 : (decode cX9_afterStep 42 = .ok (.iload_n 3, 1)) ∧ (decode cX9_afterStep 43 = .ok (.iconst 1, 1)) ∧ (decode cX9_afterStep 44 = .ok (.isub, 1)) ∧ (decode cX9_afterStep 45 = .ok (.iload_n 0, 1)) ∧ (decode cX9_afterStep 46 = .ok (.bipush (-19), 2)) ∧ (decode cX9_afterStep 48 = .ok (.if_icmp .ne 12, 3)) ∧ (decode cX9_afterStep 60 = .ok (.aload_n 2, 1)) ∧ (decode cX9_afterStep 61 = .ok (.iload_n 3, 1)) ∧ (decode cX9_afterStep 62 = .ok (.iconst 1, 1)) ∧ (decode cX9_afterStep 63 = .ok (.isub, 1)) ∧ (decode cX9_afterStep 64 = .ok (.iaload, 1)) := by decide +kernel
theorem dX9_afterStep_42 : decode cX9_afterStep 42 = .ok (.iload_n 3, 1) := zb_X9_afterStep_42.1
theorem dX9_afterStep_43 : decode cX9_afterStep 43 = .ok (.iconst 1, 1) := zb_X9_afterStep_42.2.1
theorem dX9_afterStep_44 : decode cX9_afterStep 44 = .ok (.isub, 1) := zb_X9_afterStep_42.2.2.1
theorem dX9_afterStep_45 : decode cX9_afterStep 45 = .ok (.iload_n 0, 1) := zb_X9_afterStep_42.2.2.2.1
theorem dX9_afterStep_46 : decode cX9_afterStep 46 = .ok (.bipush (-19), 2) := zb_X9_afterStep_42.2.2.2.2.1
theorem dX9_afterStep_48 : decode cX9_afterStep 48 = .ok (.if_icmp .ne 12, 3) := zb_X9_afterStep_42.2.2.2.2.2.1
theorem dX9_afterStep_60 : decode cX9_afterStep 60 = .ok (.aload_n 2, 1) := zb_X9_afterStep_42.2.2.2.2.2.2.1
theorem dX9_afterStep_61 : decode cX9_afterStep 61 = .ok (.iload_n 3, 1) := zb_X9_afterStep_42.2.2.2.2.2.2.2.1
theorem dX9_afterStep_62 : decode cX9_afterStep 62 = .ok (.iconst 1, 1) := zb_X9_afterStep_42.2.2.2.2.2.2.2.2.1
theorem dX9_afterStep_63 : decode cX9_afterStep 63 = .ok (.isub, 1) := zb_X9_afterStep_42.2.2.2.2.2.2.2.2.2.1
theorem dX9_afterStep_64 : decode cX9_afterStep 64 = .ok (.iaload, 1) := zb_X9_afterStep_42.2.2.2.2.2.2.2.2.2.2
theorem zb_X9_afterStep_65 : (decode cX9_afterStep 65 = .ok (.ifCond .ne 7, 3)) ∧ (decode cX9_afterStep 72 = .ok (.iconst 0, 1)) ∧ (decode cX9_afterStep 73 = .ok (.invokestatic 49, 3)) ∧ (decode cX9_afterStep 76 = .ok (.iastore, 1)) ∧ (decode cX9_afterStep 68 = .ok (.iconst 1, 1)) ∧ (decode cX9_afterStep 69 = .ok (.goto 4, 3)) ∧ (decode cX9_afterStep 31 = .ok (.iload_n 0, 1)) ∧ (decode cX9_afterStep 32 = .ok (.bipush (-19), 2)) ∧ (decode cX9_afterStep 34 = .ok (.if_icmp .ne 45, 3)) ∧ (decode cX9_afterStep 79 = .ok (.iload_n 3, 1)) ∧ (decode cX9_afterStep 80 = .ok (.iconst 2, 1)) := by decide +kernel
theorem dX9_afterStep_65 : decode cX9_afterStep 65 = .ok (.ifCond .ne 7, 3) := zb_X9_afterStep_65.1
theorem dX9_afterStep_72 : decode cX9_afterStep 72 = .ok (.iconst 0, 1) := zb_X9_afterStep_65.2.1
theorem dX9_afterStep_73 : decode cX9_afterStep 73 = .ok (.invokestatic 49, 3) := zb_X9_afterStep_65.2.2.1
theorem dX9_afterStep_76 : decode cX9_afterStep 76 = .ok (.iastore, 1) := zb_X9_afterStep_65.2.2.2.1
theorem dX9_afterStep_68 : decode cX9_afterStep 68 = .ok (.iconst 1, 1) := zb_X9_afterStep_65.2.2.2.2.1
theorem dX9_afterStep_69 : decode cX9_afterStep 69 = .ok (.goto 4, 3) := zb_X9_afterStep_65.2.2.2.2.2.1
theorem dX9_afterStep_31 : decode cX9_afterStep 31 = .ok (.iload_n 0, 1) := zb_X9_afterStep_65.2.2.2.2.2.2.1
theorem dX9_afterStep_32 : decode cX9_afterStep 32 = .ok (.bipush (-19), 2) := zb_X9_afterStep_65.2.2.2.2.2.2.2.1
theorem dX9_afterStep_34 : decode cX9_afterStep 34 = .ok (.if_icmp .ne 45, 3) := zb_X9_afterStep_65.2.2.2.2.2.2.2.2.1
theorem dX9_afterStep_79 : decode cX9_afterStep 79 = .ok (.iload_n 3, 1) := zb_X9_afterStep_65.2.2.2.2.2.2.2.2.2.1
theorem dX9_afterStep_80 : decode cX9_afterStep 80 = .ok (.iconst 2, 1) := zb_X9_afterStep_65.2.2.2.2.2.2.2.2.2.2
theorem zb_X9_afterStep_81 : (decode cX9_afterStep 81 = .ok (.if_icmp .ge 5, 3)) ∧ (decode cX9_afterStep 86 = .ok (.aload_n 2, 1)) ∧ (decode cX9_afterStep 87 = .ok (.iload_n 3, 1)) ∧ (decode cX9_afterStep 88 = .ok (.iconst 2, 1)) ∧ (decode cX9_afterStep 89 = .ok (.isub, 1)) ∧ (decode cX9_afterStep 90 = .ok (.iload_n 0, 1)) ∧ (decode cX9_afterStep 91 = .ok (.aload_n 2, 1)) ∧ (decode cX9_afterStep 92 = .ok (.iload_n 3, 1)) ∧ (decode cX9_afterStep 93 = .ok (.iconst 2, 1)) ∧ (decode cX9_afterStep 94 = .ok (.isub, 1)) ∧ (decode cX9_afterStep 95 = .ok (.iaload, 1)) := by decide +kernel
theorem dX9_afterStep_81 : decode cX9_afterStep 81 = .ok (.if_icmp .ge 5, 3) := zb_X9_afterStep_81.1
theorem dX9_afterStep_86 : decode cX9_afterStep 86 = .ok (.aload_n 2, 1) := zb_X9_afterStep_81.2.1
theorem dX9_afterStep_87 : decode cX9_afterStep 87 = .ok (.iload_n 3, 1) := zb_X9_afterStep_81.2.2.1
theorem dX9_afterStep_88 : decode cX9_afterStep 88 = .ok (.iconst 2, 1) := zb_X9_afterStep_81.2.2.2.1
theorem dX9_afterStep_89 : decode cX9_afterStep 89 = .ok (.isub, 1) := zb_X9_afterStep_81.2.2.2.2.1
theorem dX9_afterStep_90 : decode cX9_afterStep 90 = .ok (.iload_n 0, 1) := zb_X9_afterStep_81.2.2.2.2.2.1
theorem dX9_afterStep_91 : decode cX9_afterStep 91 = .ok (.aload_n 2, 1) := zb_X9_afterStep_81.2.2.2.2.2.2.1
theorem dX9_afterStep_92 : decode cX9_afterStep 92 = .ok (.iload_n 3, 1) := zb_X9_afterStep_81.2.2.2.2.2.2.2.1
theorem dX9_afterStep_93 : decode cX9_afterStep 93 = .ok (.iconst 2, 1) := zb_X9_afterStep_81.2.2.2.2.2.2.2.2.1
theorem dX9_afterStep_94 : decode cX9_afterStep 94 = .ok (.isub, 1) := zb_X9_afterStep_81.2.2.2.2.2.2.2.2.2.1
theorem dX9_afterStep_95 : decode cX9_afterStep 95 = .ok (.iaload, 1) := zb_X9_afterStep_81.2.2.2.2.2.2.2.2.2.2
theorem zb_X9_afterStep_96 : (decode cX9_afterStep 96 = .ok (.aload_n 2, 1)) ∧ (decode cX9_afterStep 97 = .ok (.iload_n 3, 1)) ∧ (decode cX9_afterStep 98 = .ok (.iconst 1, 1)) ∧ (decode cX9_afterStep 99 = .ok (.isub, 1)) ∧ (decode cX9_afterStep 100 = .ok (.iaload, 1)) ∧ (decode cX9_afterStep 101 = .ok (.invokestatic 53, 3)) ∧ (decode cX9_afterStep 104 = .ok (.iastore, 1)) ∧ (decode cX9_afterStep 105 = .ok (.iload_n 3, 1)) ∧ (decode cX9_afterStep 106 = .ok (.iconst 1, 1)) ∧ (decode cX9_afterStep 107 = .ok (.isub, 1)) ∧ (decode cX9_afterStep 108 = .ok (.ireturn, 1)) := by decide +kernel
theorem dX9_afterStep_96 : decode cX9_afterStep 96 = .ok (.aload_n 2, 1) := zb_X9_afterStep_96.1
theorem dX9_afterStep_97 : decode cX9_afterStep 97 = .ok (.iload_n 3, 1) := zb_X9_afterStep_96.2.1
theorem dX9_afterStep_98 : decode cX9_afterStep 98 = .ok (.iconst 1, 1) := zb_X9_afterStep_96.2.2.1
theorem dX9_afterStep_99 : decode cX9_afterStep 99 = .ok (.isub, 1) := zb_X9_afterStep_96.2.2.2.1
theorem dX9_afterStep_100 : decode cX9_afterStep 100 = .ok (.iaload, 1) := zb_X9_afterStep_96.2.2.2.2.1
theorem dX9_afterStep_101 : decode cX9_afterStep 101 = .ok (.invokestatic 53, 3) := zb_X9_afterStep_96.2.2.2.2.2.1
theorem dX9_afterStep_104 : decode cX9_afterStep 104 = .ok (.iastore, 1) := zb_X9_afterStep_96.2.2.2.2.2.2.1
theorem dX9_afterStep_105 : decode cX9_afterStep 105 = .ok (.iload_n 3, 1) := zb_X9_afterStep_96.2.2.2.2.2.2.2.1
theorem dX9_afterStep_106 : decode cX9_afterStep 106 = .ok (.iconst 1, 1) := zb_X9_afterStep_96.2.2.2.2.2.2.2.2.1
theorem dX9_afterStep_107 : decode cX9_afterStep 107 = .ok (.isub, 1) := zb_X9_afterStep_96.2.2.2.2.2.2.2.2.2.1
theorem dX9_afterStep_108 : decode cX9_afterStep 108 = .ok (.ireturn, 1) := zb_X9_afterStep_96.2.2.2.2.2.2.2.2.2.2
theorem zb_X9_afterStep_84 : (decode cX9_afterStep 84 = .ok (.iload_n 3, 1)) ∧ (decode cX9_afterStep 85 = .ok (.ireturn, 1)) ∧ (decode cX9_afterStep 51 = .ok (.aload_n 2, 1)) ∧ (decode cX9_afterStep 52 = .ok (.iload_n 3, 1)) ∧ (decode cX9_afterStep 53 = .ok (.iconst 1, 1)) ∧ (decode cX9_afterStep 54 = .ok (.isub, 1)) ∧ (decode cX9_afterStep 55 = .ok (.iaload, 1)) ∧ (decode cX9_afterStep 56 = .ok (.ineg, 1)) ∧ (decode cX9_afterStep 57 = .ok (.goto 19, 3)) ∧ (decode cX9_afterStep 6 = .ok (.iload_n 0, 1)) ∧ (decode cX9_afterStep 7 = .ok (.ifCond .lt 7, 3)) := by decide +kernel
theorem dX9_afterStep_84 : decode cX9_afterStep 84 = .ok (.iload_n 3, 1) := zb_X9_afterStep_84.1
theorem dX9_afterStep_85 : decode cX9_afterStep 85 = .ok (.ireturn, 1) := zb_X9_afterStep_84.2.1
theorem dX9_afterStep_51 : decode cX9_afterStep 51 = .ok (.aload_n 2, 1) := zb_X9_afterStep_84.2.2.1
theorem dX9_afterStep_52 : decode cX9_afterStep 52 = .ok (.iload_n 3, 1) := zb_X9_afterStep_84.2.2.2.1
theorem dX9_afterStep_53 : decode cX9_afterStep 53 = .ok (.iconst 1, 1) := zb_X9_afterStep_84.2.2.2.2.1
theorem dX9_afterStep_54 : decode cX9_afterStep 54 = .ok (.isub, 1) := zb_X9_afterStep_84.2.2.2.2.2.1
theorem dX9_afterStep_55 : decode cX9_afterStep 55 = .ok (.iaload, 1) := zb_X9_afterStep_84.2.2.2.2.2.2.1
theorem dX9_afterStep_56 : decode cX9_afterStep 56 = .ok (.ineg, 1) := zb_X9_afterStep_84.2.2.2.2.2.2.2.1
theorem dX9_afterStep_57 : decode cX9_afterStep 57 = .ok (.goto 19, 3) := zb_X9_afterStep_84.2.2.2.2.2.2.2.2.1
theorem dX9_afterStep_6 : decode cX9_afterStep 6 = .ok (.iload_n 0, 1) := zb_X9_afterStep_84.2.2.2.2.2.2.2.2.2.1
theorem dX9_afterStep_7 : decode cX9_afterStep 7 = .ok (.ifCond .lt 7, 3) := zb_X9_afterStep_84.2.2.2.2.2.2.2.2.2.2
theorem zb_X9_afterStep_14 : (decode cX9_afterStep 14 = .ok (.aload_n 1, 1)) ∧ (decode cX9_afterStep 15 = .ok (.iconst (-1), 1)) ∧ (decode cX9_afterStep 16 = .ok (.iload_n 0, 1)) ∧ (decode cX9_afterStep 17 = .ok (.isub, 1)) ∧ (decode cX9_afterStep 18 = .ok (.iaload, 1)) ∧ (decode cX9_afterStep 19 = .ok (.aload_n 2, 1)) ∧ (decode cX9_afterStep 20 = .ok (.iload_n 3, 1)) ∧ (decode cX9_afterStep 21 = .ok (.invokestatic 45, 3)) ∧ (decode cX9_afterStep 24 = .ok (.ireturn, 1)) ∧ (decode cX9_afterStep 10 = .ok (.iload_n 0, 1)) ∧ (decode cX9_afterStep 11 = .ok (.goto 8, 3)) := by decide +kernel
theorem dX9_afterStep_14 : decode cX9_afterStep 14 = .ok (.aload_n 1, 1) := zb_X9_afterStep_14.1
theorem dX9_afterStep_15 : decode cX9_afterStep 15 = .ok (.iconst (-1), 1) := zb_X9_afterStep_14.2.1
theorem dX9_afterStep_16 : decode cX9_afterStep 16 = .ok (.iload_n 0, 1) := zb_X9_afterStep_14.2.2.1
theorem dX9_afterStep_17 : decode cX9_afterStep 17 = .ok (.isub, 1) := zb_X9_afterStep_14.2.2.2.1
theorem dX9_afterStep_18 : decode cX9_afterStep 18 = .ok (.iaload, 1) := zb_X9_afterStep_14.2.2.2.2.1
theorem dX9_afterStep_19 : decode cX9_afterStep 19 = .ok (.aload_n 2, 1) := zb_X9_afterStep_14.2.2.2.2.2.1
theorem dX9_afterStep_20 : decode cX9_afterStep 20 = .ok (.iload_n 3, 1) := zb_X9_afterStep_14.2.2.2.2.2.2.1
theorem dX9_afterStep_21 : decode cX9_afterStep 21 = .ok (.invokestatic 45, 3) := zb_X9_afterStep_14.2.2.2.2.2.2.2.1
theorem dX9_afterStep_24 : decode cX9_afterStep 24 = .ok (.ireturn, 1) := zb_X9_afterStep_14.2.2.2.2.2.2.2.2.1
theorem dX9_afterStep_10 : decode cX9_afterStep 10 = .ok (.iload_n 0, 1) := zb_X9_afterStep_14.2.2.2.2.2.2.2.2.2.1
theorem dX9_afterStep_11 : decode cX9_afterStep 11 = .ok (.goto 8, 3) := zb_X9_afterStep_14.2.2.2.2.2.2.2.2.2.2
theorem zb_X9_valueOf_31 : (decode cX9_valueOf 31 = .ok (.iconst 0, 1)) ∧ (decode cX9_valueOf 32 = .ok (.istore 6, 2)) ∧ (decode cX9_valueOf 34 = .ok (.iload 4, 2)) ∧ (decode cX9_valueOf 36 = .ok (.istore 7, 2)) ∧ (decode cX9_valueOf 38 = .ok (.iload 7, 2)) ∧ (decode cX9_valueOf 40 = .ok (.iload 5, 2)) ∧ (decode cX9_valueOf 42 = .ok (.if_icmp .ge 25, 3)) ∧ (decode cX9_valueOf 67 = .ok (.iload 6, 2)) ∧ (decode cX9_valueOf 69 = .ok (.ifCond .le 9, 3)) ∧ (decode cX9_valueOf 78 = .ok (.iconst 0, 1)) ∧ (decode cX9_valueOf 79 = .ok (.ireturn, 1)) := by decide +kernel
theorem dX9_valueOf_31 : decode cX9_valueOf 31 = .ok (.iconst 0, 1) := zb_X9_valueOf_31.1
theorem dX9_valueOf_32 : decode cX9_valueOf 32 = .ok (.istore 6, 2) := zb_X9_valueOf_31.2.1
theorem dX9_valueOf_34 : decode cX9_valueOf 34 = .ok (.iload 4, 2) := zb_X9_valueOf_31.2.2.1
theorem dX9_valueOf_36 : decode cX9_valueOf 36 = .ok (.istore 7, 2) := zb_X9_valueOf_31.2.2.2.1
theorem dX9_valueOf_38 : decode cX9_valueOf 38 = .ok (.iload 7, 2) := zb_X9_valueOf_31.2.2.2.2.1
theorem dX9_valueOf_40 : decode cX9_valueOf 40 = .ok (.iload 5, 2) := zb_X9_valueOf_31.2.2.2.2.2.1
theorem dX9_valueOf_42 : decode cX9_valueOf 42 = .ok (.if_icmp .ge 25, 3) := zb_X9_valueOf_31.2.2.2.2.2.2.1
theorem dX9_valueOf_67 : decode cX9_valueOf 67 = .ok (.iload 6, 2) := zb_X9_valueOf_31.2.2.2.2.2.2.2.1
theorem dX9_valueOf_69 : decode cX9_valueOf 69 = .ok (.ifCond .le 9, 3) := zb_X9_valueOf_31.2.2.2.2.2.2.2.2.1
theorem dX9_valueOf_78 : decode cX9_valueOf 78 = .ok (.iconst 0, 1) := zb_X9_valueOf_31.2.2.2.2.2.2.2.2.2.1
theorem dX9_valueOf_79 : decode cX9_valueOf 79 = .ok (.ireturn, 1) := zb_X9_valueOf_31.2.2.2.2.2.2.2.2.2.2
theorem zb_X9_valueOf_72 : (decode cX9_valueOf 72 = .ok (.aload_n 3, 1)) ∧ (decode cX9_valueOf 73 = .ok (.iconst 0, 1)) ∧ (decode cX9_valueOf 74 = .ok (.iaload, 1)) ∧ (decode cX9_valueOf 75 = .ok (.goto 4, 3)) ∧ (decode cX9_valueOf 45 = .ok (.aload_n 0, 1)) ∧ (decode cX9_valueOf 46 = .ok (.getfield 9, 3)) ∧ (decode cX9_valueOf 49 = .ok (.iload 7, 2)) ∧ (decode cX9_valueOf 51 = .ok (.iaload, 1)) ∧ (decode cX9_valueOf 52 = .ok (.aload_n 2, 1)) ∧ (decode cX9_valueOf 53 = .ok (.aload_n 3, 1)) ∧ (decode cX9_valueOf 54 = .ok (.iload 6, 2)) := by decide +kernel
theorem dX9_valueOf_72 : decode cX9_valueOf 72 = .ok (.aload_n 3, 1) := zb_X9_valueOf_72.1
theorem dX9_valueOf_73 : decode cX9_valueOf 73 = .ok (.iconst 0, 1) := zb_X9_valueOf_72.2.1
theorem dX9_valueOf_74 : decode cX9_valueOf 74 = .ok (.iaload, 1) := zb_X9_valueOf_72.2.2.1
theorem dX9_valueOf_75 : decode cX9_valueOf 75 = .ok (.goto 4, 3) := zb_X9_valueOf_72.2.2.2.1
theorem dX9_valueOf_45 : decode cX9_valueOf 45 = .ok (.aload_n 0, 1) := zb_X9_valueOf_72.2.2.2.2.1
theorem dX9_valueOf_46 : decode cX9_valueOf 46 = .ok (.getfield 9, 3) := zb_X9_valueOf_72.2.2.2.2.2.1
theorem dX9_valueOf_49 : decode cX9_valueOf 49 = .ok (.iload 7, 2) := zb_X9_valueOf_72.2.2.2.2.2.2.1
theorem dX9_valueOf_51 : decode cX9_valueOf 51 = .ok (.iaload, 1) := zb_X9_valueOf_72.2.2.2.2.2.2.2.1
theorem dX9_valueOf_52 : decode cX9_valueOf 52 = .ok (.aload_n 2, 1) := zb_X9_valueOf_72.2.2.2.2.2.2.2.2.1
theorem dX9_valueOf_53 : decode cX9_valueOf 53 = .ok (.aload_n 3, 1) := zb_X9_valueOf_72.2.2.2.2.2.2.2.2.2.1
theorem dX9_valueOf_54 : decode cX9_valueOf 54 = .ok (.iload 6, 2) := zb_X9_valueOf_72.2.2.2.2.2.2.2.2.2.2
theorem zb_X9_valueOf_56 : (decode cX9_valueOf 56 = .ok (.invokestatic 41, 3)) ∧ (decode cX9_valueOf 59 = .ok (.istore 6, 2)) ∧ (decode cX9_valueOf 61 = .ok (.iinc 7 1, 3)) ∧ (decode cX9_valueOf 64 = .ok (.goto (-26), 3)) ∧ (decode cX9_valueOf 14 = .ok (.iload_n 1, 1)) ∧ (decode cX9_valueOf 15 = .ok (.ifCond .ne 10, 3)) ∧ (decode cX9_valueOf 25 = .ok (.aload_n 0, 1)) ∧ (decode cX9_valueOf 26 = .ok (.getfield 15, 3)) ∧ (decode cX9_valueOf 29 = .ok (.istore 5, 2)) ∧ (decode cX9_valueOf 18 = .ok (.aload_n 0, 1)) ∧ (decode cX9_valueOf 19 = .ok (.getfield 19, 3)) := by decide +kernel
theorem dX9_valueOf_56 : decode cX9_valueOf 56 = .ok (.invokestatic 41, 3) := zb_X9_valueOf_56.1
theorem dX9_valueOf_59 : decode cX9_valueOf 59 = .ok (.istore 6, 2) := zb_X9_valueOf_56.2.1
theorem dX9_valueOf_61 : decode cX9_valueOf 61 = .ok (.iinc 7 1, 3) := zb_X9_valueOf_56.2.2.1
theorem dX9_valueOf_64 : decode cX9_valueOf 64 = .ok (.goto (-26), 3) := zb_X9_valueOf_56.2.2.2.1
theorem dX9_valueOf_14 : decode cX9_valueOf 14 = .ok (.iload_n 1, 1) := zb_X9_valueOf_56.2.2.2.2.1
theorem dX9_valueOf_15 : decode cX9_valueOf 15 = .ok (.ifCond .ne 10, 3) := zb_X9_valueOf_56.2.2.2.2.2.1
theorem dX9_valueOf_25 : decode cX9_valueOf 25 = .ok (.aload_n 0, 1) := zb_X9_valueOf_56.2.2.2.2.2.2.1
theorem dX9_valueOf_26 : decode cX9_valueOf 26 = .ok (.getfield 15, 3) := zb_X9_valueOf_56.2.2.2.2.2.2.2.1
theorem dX9_valueOf_29 : decode cX9_valueOf 29 = .ok (.istore 5, 2) := zb_X9_valueOf_56.2.2.2.2.2.2.2.2.1
theorem dX9_valueOf_18 : decode cX9_valueOf 18 = .ok (.aload_n 0, 1) := zb_X9_valueOf_56.2.2.2.2.2.2.2.2.2.1
theorem dX9_valueOf_19 : decode cX9_valueOf 19 = .ok (.getfield 19, 3) := zb_X9_valueOf_56.2.2.2.2.2.2.2.2.2.2
theorem zb_X9_valueOf_22 : (decode cX9_valueOf 22 = .ok (.goto 7, 3)) ∧ (decode cX9_valueOf 0 = .ok (.iload_n 1, 1)) ∧ (decode cX9_valueOf 1 = .ok (.ifCond .ne 7, 3)) ∧ (decode cX9_valueOf 8 = .ok (.aload_n 0, 1)) ∧ (decode cX9_valueOf 9 = .ok (.getfield 19, 3)) ∧ (decode cX9_valueOf 12 = .ok (.istore 4, 2)) ∧ (decode cX9_valueOf 4 = .ok (.iconst 0, 1)) ∧ (decode cX9_valueOf 5 = .ok (.goto 7, 3)) := by decide +kernel
theorem dX9_valueOf_22 : decode cX9_valueOf 22 = .ok (.goto 7, 3) := zb_X9_valueOf_22.1
theorem dX9_valueOf_0 : decode cX9_valueOf 0 = .ok (.iload_n 1, 1) := zb_X9_valueOf_22.2.1
theorem dX9_valueOf_1 : decode cX9_valueOf 1 = .ok (.ifCond .ne 7, 3) := zb_X9_valueOf_22.2.2.1
theorem dX9_valueOf_8 : decode cX9_valueOf 8 = .ok (.aload_n 0, 1) := zb_X9_valueOf_22.2.2.2.1
theorem dX9_valueOf_9 : decode cX9_valueOf 9 = .ok (.getfield 19, 3) := zb_X9_valueOf_22.2.2.2.2.1
theorem dX9_valueOf_12 : decode cX9_valueOf 12 = .ok (.istore 4, 2) := zb_X9_valueOf_22.2.2.2.2.2.1
theorem dX9_valueOf_4 : decode cX9_valueOf 4 = .ok (.iconst 0, 1) := zb_X9_valueOf_22.2.2.2.2.2.2.1
theorem dX9_valueOf_5 : decode cX9_valueOf 5 = .ok (.goto 7, 3) := zb_X9_valueOf_22.2.2.2.2.2.2.2
theorem zb_X3_addBytes_0 : (decode cX3_addBytes 0 = .ok (.iconst 0, 1)) ∧ (decode cX3_addBytes 1 = .ok (.istore 4, 2)) ∧ (decode cX3_addBytes 3 = .ok (.iload 4, 2)) ∧ (decode cX3_addBytes 5 = .ok (.iload_n 1, 1)) ∧ (decode cX3_addBytes 6 = .ok (.if_icmp .ge 50, 3)) ∧ (decode cX3_addBytes 56 = .ok (.aload_n 0, 1)) ∧ (decode cX3_addBytes 57 = .ok (.getfield 42, 3)) ∧ (decode cX3_addBytes 60 = .ok (.ireturn, 1)) ∧ (decode cX3_addBytes 9 = .ok (.aload_n 0, 1)) ∧ (decode cX3_addBytes 10 = .ok (.getfield 42, 3)) ∧ (decode cX3_addBytes 13 = .ok (.sipush 160, 3)) := by decide +kernel
theorem dX3_addBytes_0 : decode cX3_addBytes 0 = .ok (.iconst 0, 1) := zb_X3_addBytes_0.1
theorem dX3_addBytes_1 : decode cX3_addBytes 1 = .ok (.istore 4, 2) := zb_X3_addBytes_0.2.1
theorem dX3_addBytes_3 : decode cX3_addBytes 3 = .ok (.iload 4, 2) := zb_X3_addBytes_0.2.2.1
theorem dX3_addBytes_5 : decode cX3_addBytes 5 = .ok (.iload_n 1, 1) := zb_X3_addBytes_0.2.2.2.1
theorem dX3_addBytes_6 : decode cX3_addBytes 6 = .ok (.if_icmp .ge 50, 3) := zb_X3_addBytes_0.2.2.2.2.1
theorem dX3_addBytes_56 : decode cX3_addBytes 56 = .ok (.aload_n 0, 1) := zb_X3_addBytes_0.2.2.2.2.2.1
theorem dX3_addBytes_57 : decode cX3_addBytes 57 = .ok (.getfield 42, 3) := zb_X3_addBytes_0.2.2.2.2.2.2.1
theorem dX3_addBytes_60 : decode cX3_addBytes 60 = .ok (.ireturn, 1) := zb_X3_addBytes_0.2.2.2.2.2.2.2.1
theorem dX3_addBytes_9 : decode cX3_addBytes 9 = .ok (.aload_n 0, 1) := zb_X3_addBytes_0.2.2.2.2.2.2.2.2.1
theorem dX3_addBytes_10 : decode cX3_addBytes 10 = .ok (.getfield 42, 3) := zb_X3_addBytes_0.2.2.2.2.2.2.2.2.2.1
theorem dX3_addBytes_13 : decode cX3_addBytes 13 = .ok (.sipush 160, 3) := zb_X3_addBytes_0.2.2.2.2.2.2.2.2.2.2
theorem zb_X3_addBytes_16 : (decode cX3_addBytes 16 = .ok (.if_icmp .ge 40, 3)) ∧ (decode cX3_addBytes 19 = .ok (.aload_n 0, 1)) ∧ (decode cX3_addBytes 20 = .ok (.getfield 9, 3)) ∧ (decode cX3_addBytes 23 = .ok (.aload_n 0, 1)) ∧ (decode cX3_addBytes 24 = .ok (.getfield 42, 3)) ∧ (decode cX3_addBytes 27 = .ok (.lload_n 2, 1)) ∧ (decode cX3_addBytes 28 = .ok (.bipush 8, 2)) ∧ (decode cX3_addBytes 30 = .ok (.iload 4, 2)) ∧ (decode cX3_addBytes 32 = .ok (.imul, 1)) ∧ (decode cX3_addBytes 33 = .ok (.lushr, 1)) ∧ (decode cX3_addBytes 34 = .ok (.ldc2_w 45, 3)) := by decide +kernel
theorem dX3_addBytes_16 : decode cX3_addBytes 16 = .ok (.if_icmp .ge 40, 3) := zb_X3_addBytes_16.1
theorem dX3_addBytes_19 : decode cX3_addBytes 19 = .ok (.aload_n 0, 1) := zb_X3_addBytes_16.2.1
theorem dX3_addBytes_20 : decode cX3_addBytes 20 = .ok (.getfield 9, 3) := zb_X3_addBytes_16.2.2.1
theorem dX3_addBytes_23 : decode cX3_addBytes 23 = .ok (.aload_n 0, 1) := zb_X3_addBytes_16.2.2.2.1
theorem dX3_addBytes_24 : decode cX3_addBytes 24 = .ok (.getfield 42, 3) := zb_X3_addBytes_16.2.2.2.2.1
theorem dX3_addBytes_27 : decode cX3_addBytes 27 = .ok (.lload_n 2, 1) := zb_X3_addBytes_16.2.2.2.2.2.1
theorem dX3_addBytes_28 : decode cX3_addBytes 28 = .ok (.bipush 8, 2) := zb_X3_addBytes_16.2.2.2.2.2.2.1
theorem dX3_addBytes_30 : decode cX3_addBytes 30 = .ok (.iload 4, 2) := zb_X3_addBytes_16.2.2.2.2.2.2.2.1
theorem dX3_addBytes_32 : decode cX3_addBytes 32 = .ok (.imul, 1) := zb_X3_addBytes_16.2.2.2.2.2.2.2.2.1
theorem dX3_addBytes_33 : decode cX3_addBytes 33 = .ok (.lushr, 1) := zb_X3_addBytes_16.2.2.2.2.2.2.2.2.2.1
theorem dX3_addBytes_34 : decode cX3_addBytes 34 = .ok (.ldc2_w 45, 3) := zb_X3_addBytes_16.2.2.2.2.2.2.2.2.2.2
theorem zb_X3_addBytes_37 : (decode cX3_addBytes 37 = .ok (.land, 1)) ∧ (decode cX3_addBytes 38 = .ok (.l2i, 1)) ∧ (decode cX3_addBytes 39 = .ok (.iastore, 1)) ∧ (decode cX3_addBytes 40 = .ok (.aload_n 0, 1)) ∧ (decode cX3_addBytes 41 = .ok (.dup, 1)) ∧ (decode cX3_addBytes 42 = .ok (.getfield 42, 3)) ∧ (decode cX3_addBytes 45 = .ok (.iconst 1, 1)) ∧ (decode cX3_addBytes 46 = .ok (.iadd, 1)) ∧ (decode cX3_addBytes 47 = .ok (.putfield 42, 3)) ∧ (decode cX3_addBytes 50 = .ok (.iinc 4 1, 3)) ∧ (decode cX3_addBytes 53 = .ok (.goto (-50), 3)) := by decide +kernel
theorem dX3_addBytes_37 : decode cX3_addBytes 37 = .ok (.land, 1) := zb_X3_addBytes_37.1
theorem dX3_addBytes_38 : decode cX3_addBytes 38 = .ok (.l2i, 1) := zb_X3_addBytes_37.2.1
theorem dX3_addBytes_39 : decode cX3_addBytes 39 = .ok (.iastore, 1) := zb_X3_addBytes_37.2.2.1
theorem dX3_addBytes_40 : decode cX3_addBytes 40 = .ok (.aload_n 0, 1) := zb_X3_addBytes_37.2.2.2.1
theorem dX3_addBytes_41 : decode cX3_addBytes 41 = .ok (.dup, 1) := zb_X3_addBytes_37.2.2.2.2.1
theorem dX3_addBytes_42 : decode cX3_addBytes 42 = .ok (.getfield 42, 3) := zb_X3_addBytes_37.2.2.2.2.2.1
theorem dX3_addBytes_45 : decode cX3_addBytes 45 = .ok (.iconst 1, 1) := zb_X3_addBytes_37.2.2.2.2.2.2.1
theorem dX3_addBytes_46 : decode cX3_addBytes 46 = .ok (.iadd, 1) := zb_X3_addBytes_37.2.2.2.2.2.2.2.1
theorem dX3_addBytes_47 : decode cX3_addBytes 47 = .ok (.putfield 42, 3) := zb_X3_addBytes_37.2.2.2.2.2.2.2.2.1
theorem dX3_addBytes_50 : decode cX3_addBytes 50 = .ok (.iinc 4 1, 3) := zb_X3_addBytes_37.2.2.2.2.2.2.2.2.2.1
theorem dX3_addBytes_53 : decode cX3_addBytes 53 = .ok (.goto (-50), 3) := zb_X3_addBytes_37.2.2.2.2.2.2.2.2.2.2
theorem zb_X3_ask_0 : (decode cX3_ask 0 = .ok (.aload_n 0, 1)) ∧ (decode cX3_ask 1 = .ok (.getfield 28, 3)) ∧ (decode cX3_ask 4 = .ok (.iconst 0, 1)) ∧ (decode cX3_ask 5 = .ok (.iload_n 2, 1)) ∧ (decode cX3_ask 6 = .ok (.iastore, 1)) ∧ (decode cX3_ask 7 = .ok (.aload_n 0, 1)) ∧ (decode cX3_ask 8 = .ok (.getfield 28, 3)) ∧ (decode cX3_ask 11 = .ok (.iconst 1, 1)) ∧ (decode cX3_ask 12 = .ok (.iload_n 3, 1)) ∧ (decode cX3_ask 13 = .ok (.iastore, 1)) ∧ (decode cX3_ask 14 = .ok (.aload_n 0, 1)) := by decide +kernel
theorem dX3_ask_0 : decode cX3_ask 0 = .ok (.aload_n 0, 1) := zb_X3_ask_0.1
theorem dX3_ask_1 : decode cX3_ask 1 = .ok (.getfield 28, 3) := zb_X3_ask_0.2.1
theorem dX3_ask_4 : decode cX3_ask 4 = .ok (.iconst 0, 1) := zb_X3_ask_0.2.2.1
theorem dX3_ask_5 : decode cX3_ask 5 = .ok (.iload_n 2, 1) := zb_X3_ask_0.2.2.2.1
theorem dX3_ask_6 : decode cX3_ask 6 = .ok (.iastore, 1) := zb_X3_ask_0.2.2.2.2.1
theorem dX3_ask_7 : decode cX3_ask 7 = .ok (.aload_n 0, 1) := zb_X3_ask_0.2.2.2.2.2.1
theorem dX3_ask_8 : decode cX3_ask 8 = .ok (.getfield 28, 3) := zb_X3_ask_0.2.2.2.2.2.2.1
theorem dX3_ask_11 : decode cX3_ask 11 = .ok (.iconst 1, 1) := zb_X3_ask_0.2.2.2.2.2.2.2.1
theorem dX3_ask_12 : decode cX3_ask 12 = .ok (.iload_n 3, 1) := zb_X3_ask_0.2.2.2.2.2.2.2.2.1
theorem dX3_ask_13 : decode cX3_ask 13 = .ok (.iastore, 1) := zb_X3_ask_0.2.2.2.2.2.2.2.2.2.1
theorem dX3_ask_14 : decode cX3_ask 14 = .ok (.aload_n 0, 1) := zb_X3_ask_0.2.2.2.2.2.2.2.2.2.2
theorem zb_X3_ask_15 : (decode cX3_ask 15 = .ok (.getfield 28, 3)) ∧ (decode cX3_ask 18 = .ok (.iconst 2, 1)) ∧ (decode cX3_ask 19 = .ok (.iload 4, 2)) ∧ (decode cX3_ask 21 = .ok (.iastore, 1)) ∧ (decode cX3_ask 22 = .ok (.aload_n 0, 1)) ∧ (decode cX3_ask 23 = .ok (.getfield 28, 3)) ∧ (decode cX3_ask 26 = .ok (.iconst 3, 1)) ∧ (decode cX3_ask 27 = .ok (.iload 5, 2)) ∧ (decode cX3_ask 29 = .ok (.iastore, 1)) ∧ (decode cX3_ask 30 = .ok (.aload_n 0, 1)) ∧ (decode cX3_ask 31 = .ok (.getfield 28, 3)) := by decide +kernel
theorem dX3_ask_15 : decode cX3_ask 15 = .ok (.getfield 28, 3) := zb_X3_ask_15.1
theorem dX3_ask_18 : decode cX3_ask 18 = .ok (.iconst 2, 1) := zb_X3_ask_15.2.1
theorem dX3_ask_19 : decode cX3_ask 19 = .ok (.iload 4, 2) := zb_X3_ask_15.2.2.1
theorem dX3_ask_21 : decode cX3_ask 21 = .ok (.iastore, 1) := zb_X3_ask_15.2.2.2.1
theorem dX3_ask_22 : decode cX3_ask 22 = .ok (.aload_n 0, 1) := zb_X3_ask_15.2.2.2.2.1
theorem dX3_ask_23 : decode cX3_ask 23 = .ok (.getfield 28, 3) := zb_X3_ask_15.2.2.2.2.2.1
theorem dX3_ask_26 : decode cX3_ask 26 = .ok (.iconst 3, 1) := zb_X3_ask_15.2.2.2.2.2.2.1
theorem dX3_ask_27 : decode cX3_ask 27 = .ok (.iload 5, 2) := zb_X3_ask_15.2.2.2.2.2.2.2.1
theorem dX3_ask_29 : decode cX3_ask 29 = .ok (.iastore, 1) := zb_X3_ask_15.2.2.2.2.2.2.2.2.1
theorem dX3_ask_30 : decode cX3_ask 30 = .ok (.aload_n 0, 1) := zb_X3_ask_15.2.2.2.2.2.2.2.2.2.1
theorem dX3_ask_31 : decode cX3_ask 31 = .ok (.getfield 28, 3) := zb_X3_ask_15.2.2.2.2.2.2.2.2.2.2
theorem zb_X3_ask_34 : (decode cX3_ask 34 = .ok (.iconst 4, 1)) ∧ (decode cX3_ask 35 = .ok (.iload 6, 2)) ∧ (decode cX3_ask 37 = .ok (.iastore, 1)) ∧ (decode cX3_ask 38 = .ok (.aload_n 0, 1)) ∧ (decode cX3_ask 39 = .ok (.getfield 28, 3)) ∧ (decode cX3_ask 42 = .ok (.iconst 5, 1)) ∧ (decode cX3_ask 43 = .ok (.iload 7, 2)) ∧ (decode cX3_ask 45 = .ok (.iastore, 1)) ∧ (decode cX3_ask 46 = .ok (.aload_n 0, 1)) ∧ (decode cX3_ask 47 = .ok (.getfield 17, 3)) ∧ (decode cX3_ask 50 = .ok (.aload_n 0, 1)) := by decide +kernel
theorem dX3_ask_34 : decode cX3_ask 34 = .ok (.iconst 4, 1) := zb_X3_ask_34.1
theorem dX3_ask_35 : decode cX3_ask 35 = .ok (.iload 6, 2) := zb_X3_ask_34.2.1
theorem dX3_ask_37 : decode cX3_ask 37 = .ok (.iastore, 1) := zb_X3_ask_34.2.2.1
theorem dX3_ask_38 : decode cX3_ask 38 = .ok (.aload_n 0, 1) := zb_X3_ask_34.2.2.2.1
theorem dX3_ask_39 : decode cX3_ask 39 = .ok (.getfield 28, 3) := zb_X3_ask_34.2.2.2.2.1
theorem dX3_ask_42 : decode cX3_ask 42 = .ok (.iconst 5, 1) := zb_X3_ask_34.2.2.2.2.2.1
theorem dX3_ask_43 : decode cX3_ask 43 = .ok (.iload 7, 2) := zb_X3_ask_34.2.2.2.2.2.2.1
theorem dX3_ask_45 : decode cX3_ask 45 = .ok (.iastore, 1) := zb_X3_ask_34.2.2.2.2.2.2.2.1
theorem dX3_ask_46 : decode cX3_ask 46 = .ok (.aload_n 0, 1) := zb_X3_ask_34.2.2.2.2.2.2.2.2.1
theorem dX3_ask_47 : decode cX3_ask 47 = .ok (.getfield 17, 3) := zb_X3_ask_34.2.2.2.2.2.2.2.2.2.1
theorem dX3_ask_50 : decode cX3_ask 50 = .ok (.aload_n 0, 1) := zb_X3_ask_34.2.2.2.2.2.2.2.2.2.2
theorem zb_X3_ask_51 : (decode cX3_ask 51 = .ok (.getfield 59, 3)) ∧ (decode cX3_ask 54 = .ok (.aaload, 1)) ∧ (decode cX3_ask 55 = .ok (.iload_n 1, 1)) ∧ (decode cX3_ask 56 = .ok (.aload_n 0, 1)) ∧ (decode cX3_ask 57 = .ok (.getfield 28, 3)) ∧ (decode cX3_ask 60 = .ok (.aload_n 0, 1)) ∧ (decode cX3_ask 61 = .ok (.getfield 31, 3)) ∧ (decode cX3_ask 64 = .ok (.invokevirtual 62, 3)) ∧ (decode cX3_ask 67 = .ok (.ireturn, 1)) := by decide +kernel
theorem dX3_ask_51 : decode cX3_ask 51 = .ok (.getfield 59, 3) := zb_X3_ask_51.1
theorem dX3_ask_54 : decode cX3_ask 54 = .ok (.aaload, 1) := zb_X3_ask_51.2.1
theorem dX3_ask_55 : decode cX3_ask 55 = .ok (.iload_n 1, 1) := zb_X3_ask_51.2.2.1
theorem dX3_ask_56 : decode cX3_ask 56 = .ok (.aload_n 0, 1) := zb_X3_ask_51.2.2.2.1
theorem dX3_ask_57 : decode cX3_ask 57 = .ok (.getfield 28, 3) := zb_X3_ask_51.2.2.2.2.1
theorem dX3_ask_60 : decode cX3_ask 60 = .ok (.aload_n 0, 1) := zb_X3_ask_51.2.2.2.2.2.1
theorem dX3_ask_61 : decode cX3_ask 61 = .ok (.getfield 31, 3) := zb_X3_ask_51.2.2.2.2.2.2.1
theorem dX3_ask_64 : decode cX3_ask 64 = .ok (.invokevirtual 62, 3) := zb_X3_ask_51.2.2.2.2.2.2.2.1
theorem dX3_ask_67 : decode cX3_ask 67 = .ok (.ireturn, 1) := zb_X3_ask_51.2.2.2.2.2.2.2.2
theorem gX1_cellsThrough_X1_wayOn : GoodIn wsX1_cellsThrough (wsV RX1 46 RX1 yX1_wayOn wsX1_wayOn) := ru_gG (ru_gV tw_5_59 tw_5_60 tw_5_61 tw_1_10 mT_X1_wayOn)
theorem gX1_leastCells_X1_cellsThrough : GoodIn wsX1_leastCells (wsV RX1 36 RX1 yX1_cellsThrough wsX1_cellsThrough) := ru_gG (ru_gV tw_5_55 tw_5_57 tw_0_27 tw_1_10 mT_X1_cellsThrough)
theorem gX1_plan_X1_leastCells : GoodIn wsX1_plan (wsV RX1 32 RX1 yX1_leastCells wsX1_leastCells) := ru_gG (ru_gV tw_5_51 tw_5_53 tw_0_26 tw_1_10 mT_X1_leastCells)
theorem gX9_afterStep_X9_truth : GoodIn wsX9_afterStep (va_wsS RX9 49 yX9_truth wsX9_truth) := ru_gG (ru_gS tw_4_227 tw_4_228 tw_1_8 mT_X9_truth)
theorem gX9_afterStep_X9_joined : GoodIn wsX9_afterStep (va_wsS RX9 53 yX9_joined wsX9_joined) := ru_gG (ru_gS tw_4_230 tw_4_231 tw_1_8 mT_X9_joined)
theorem gX9_afterStep_X9_put : GoodIn wsX9_afterStep (va_wsS RX9 45 yX9_put wsX9_put) := ru_gG (ru_gS tw_4_224 tw_4_225 tw_1_8 mT_X9_put)
theorem gX9_valueOf_X9_afterStep : GoodIn wsX9_valueOf (va_wsS RX9 41 yX9_afterStep wsX9_afterStep) := ru_gG (ru_gS tw_4_221 tw_4_222 tw_1_8 mT_X9_afterStep)
theorem gX3_ask_X9_valueOf : GoodIn wsX3_ask (wsV RX3 62 RX9 yX9_valueOf wsX9_valueOf) := ru_gG (ru_gV tw_4_217 tw_4_218 tw_4_219 tw_1_8 mT_X9_valueOf)
set_option maxHeartbeats 400000 in
set_option maxRecDepth 20000 in
theorem fc_X1_wayOn (l : Launch) (D : va_G) (ad : Nat → Nat → Nat) (C : Nat → Nat → ClassId) (nb : Nat) (M : fm_M) (hI : fm_I nb ad M) (p0 p1 p2 : Int32) (b_p0 : 0 ≤ p0.toInt ∧ p0.toInt ≤ 4) (b_p1 : 1 ≤ p1.toInt ∧ p1.toInt ≤ 5) (b_p2 : 0 ≤ p2.toInt ∧ p2.toInt ≤ 242) (hd : p0.toInt < p1.toInt) : Met l yX1_wayOn wsX1_wayOn ({ frames := 0, cells := 0, slots := 0, locals := 0 }) (va_Pc [.ref (ad 42 0), .int p0, .int p1, .int p2] (fm_P D ad C nb M)) (vp_Si (fun r : Int32 => (0 ≤ r.toInt ∧ r.toInt ≤ 2))) 0 0 (fun _ => False) := by
  refine Met.ofW (cc := cX1_wayOn) (maxL := 4) (ret := (some .int)) (by decide) rfl ?_
  intro p e s m args below meth c s₁ B hml hv
  obtain ⟨rfl, hw, hc⟩ := hv
  have hx := B.exec
  have hb := B.bytes
  have hr := B.returns
  have hts := atoms_spec (ws := wsX1_wayOn) B.pre
  have hown : s.vm.findClass RX1 = some m.cls := findClass_of_methodNamed B.named
  have hS : va_S (fm_A nb ad) s.heap s.heap [] := va_S.rf
  have hl := lv_entry ([.ref (ad 42 0), .int p0, .int p1, .int p2]) (n := 4) (Nat.le_of_ble_eq_true rfl)
  rw [lg_entry_eq]
  generalize (lg_sl ([.ref (ad 42 0), .int p0, .int p1, .int p2]) ++ List.replicate (4 - (lg_sl ([.ref (ad 42 0), .int p0, .int p1, .int p2])).length) Slot.unset).toArray = ls at hl ⊢
  have hl : lv_has ls 4 [(0, .ref (ad 42 0)), (1, .int p0), (2, .int p1), (3, .int p2)] := hl
  refine lv_iload_n hx hb dX1_wayOn_0 rfl (lv_at hl 3 rfl) ?_
  obtain ⟨ts1, hZts1, hTts1⟩ := hc.2.2.2.1.2.2.1
  refine va_gets hx hb hZts1 hS hown (hts (.fieldLink RX1 28 "RedTent$Breaker" "POWERS_OF_3" "[I") (List.mem_cons_of_mem _ tw_5_49)) (fun _ h9 => h9) dX1_wayOn_1 ?_
  refine lv_iload_n hx hb dX1_wayOn_4 rfl (lv_at hl 2 rfl) ?_
  refine lv_iconst (v := 1) hx hb dX1_wayOn_5 (by decide) ?_
  refine fx_isub hx hb dX1_wayOn_6 rfl zk_1 (by omega) (fun y2 ey2 ty2 => ?_)
  refine lv_iload_n hx hb dX1_wayOn_7 rfl (lv_at hl 1 rfl) ?_
  refine fx_isub hx hb dX1_wayOn_8 rfl rfl (by omega) (fun y3 ey3 ty3 => ?_)
  refine va_ti hx hb hTts1 hS (fm_in (by omega)) rfl dX1_wayOn_9 ?_
  refine lv_topi (fun x4 ex4 => ?_)
  have bx4 : 1 ≤ x4.toInt ∧ x4.toInt ≤ 243 := by rw [ex4]; exact ⟨(rt_pw (by omega)).1, (rt_pw (by omega)).2.1⟩
  refine fx_idiv hx hb dX1_wayOn_10 rfl rfl (by omega) (by omega) (fun y5 ey5 ty5 => ?_)
  have uy5 : 0 ≤ y5.toInt ∧ y5.toInt ≤ p2.toInt := by rw [ty5]; exact ⟨Int.ediv_nonneg (by omega) (by omega), Int.ediv_le_self _ (by omega)⟩
  refine lv_iconst (v := 3) hx hb dX1_wayOn_11 (by decide) ?_
  refine fx_irem hx hb dX1_wayOn_12 rfl zk_3 (by omega) (by omega) (fun y6 ey6 ty6 => ?_)
  exact W.iret (v := y6) hx hb hr (fun t ht hW => ⟨y6, rfl, (by omega), ht⟩) (fun _ h => absurd h List.not_mem_nil) dX1_wayOn_13
set_option maxHeartbeats 400000 in
set_option maxRecDepth 20000 in
theorem fc_X1_cellsThrough (l : Launch) (D : va_G) (ad : Nat → Nat → Nat) (C : Nat → Nat → ClassId) (nb : Nat) (M : fm_M) (hI : fm_I nb ad M) (p0 p1 p2 p3 : Int32) (b_p0 : 0 ≤ p0.toInt ∧ p0.toInt ≤ 3) (b_p1 : 1 ≤ p1.toInt ∧ p1.toInt ≤ 5) (b_p3 : 0 ≤ p3.toInt ∧ p3.toInt ≤ 242) : Met l yX1_cellsThrough wsX1_cellsThrough ({ frames := 1, cells := 0, slots := 0, locals := 23 }) (va_Pc [.ref (ad 42 0), .int p0, .int p1, .int p2, .int p3] (fm_P D ad C nb M)) (vp_Si (fun r : Int32 => True)) 0 0 (fun _ => False) := by
  refine Met.ofW (cc := cX1_cellsThrough) (maxL := 9) (ret := (some .int)) (by decide) rfl ?_
  intro p e s m args below meth c s₁ B hml hv
  obtain ⟨rfl, hw, hc⟩ := hv
  have hx := B.exec
  have hb := B.bytes
  have hr := B.returns
  have hts := atoms_spec (ws := wsX1_cellsThrough) B.pre
  have hown : s.vm.findClass RX1 = some m.cls := findClass_of_methodNamed B.named
  have hinX1 : ∀ w ∈ u_ws RX1 TX1 4, w ∈ wsX1_cellsThrough := fun w h => List.mem_cons_of_mem _ (iT_X1 w h)
  have hS : va_S (fm_A nb ad) s.heap s.heap [] := va_S.rf
  have hl := lv_entry ([.ref (ad 42 0), .int p0, .int p1, .int p2, .int p3]) (n := 9) (Nat.le_of_ble_eq_true rfl)
  rw [lg_entry_eq]
  generalize (lg_sl ([.ref (ad 42 0), .int p0, .int p1, .int p2, .int p3]) ++ List.replicate (9 - (lg_sl ([.ref (ad 42 0), .int p0, .int p1, .int p2, .int p3])).length) Slot.unset).toArray = ls at hl ⊢
  have hl : lv_has ls 9 [(0, .ref (ad 42 0)), (1, .int p0), (2, .int p1), (3, .int p2), (4, .int p3)] := hl
  refine lv_iconst (v := 0) hx hb dX1_cellsThrough_0 (by decide) ?_
  refine lv_istore (lv' := [(5, .int 0), (0, .ref (ad 42 0)), (1, .int p0), (2, .int p1), (3, .int p2), (4, .int p3)]) hx hb dX1_cellsThrough_1 hl (by decide) rfl (fun ls hl => ?_)
  refine lv_iload_n hx hb dX1_cellsThrough_3 rfl (lv_at hl 4 rfl) ?_
  refine lv_istore (lv' := [(6, .int p2), (5, .int 0), (0, .ref (ad 42 0)), (1, .int p0), (2, .int p1), (3, .int p2), (4, .int p3)]) hx hb dX1_cellsThrough_4 hl (by decide) rfl (fun ls hl => ?_)
  refine lv_iconst (v := 0) hx hb dX1_cellsThrough_6 (by decide) ?_
  refine lv_istore (lv' := [(7, .int 0), (6, .int p2), (5, .int 0), (0, .ref (ad 42 0)), (1, .int p0), (2, .int p1), (3, .int p2), (4, .int p3)]) hx hb dX1_cellsThrough_7 hl (by decide) rfl (fun ls hl => ?_)
  have lp : ∀ (n_lp : Nat) (lp_7 : Int32) (lp_6 : Int32) (lp_5 : Int32), (5 - lp_7.toInt).toNat < n_lp → (0 ≤ lp_7.toInt ∧ lp_7.toInt ≤ 5) → ∀ (ls : Array Slot), lv_has ls 9 [(7, .int lp_7), (6, .int lp_6), (5, .int lp_5), (0, .ref (ad 42 0)), (1, .int p0), (2, .int p1), (3, .int p2), (4, .int p3)] → W p l e (headSpec wsX1_cellsThrough ({ frames := 1, cells := 0, slots := 0, locals := 23 })).room s m ([.ref (ad 42 0), .int p0, .int p1, .int p2, .int p3] : List Value).toArray below meth c s.heap [] 0 0 (MQ below (vp_Si (fun r : Int32 => True)) ([.ref (ad 42 0), .int p0, .int p1, .int p2, .int p3] : List Value).toArray s 0 0 (fun _ => False)) (F0 m 9 ls []) := by
    intro n_lp
    induction n_lp with
    | zero => intro lp_7 lp_6 lp_5 hm_lp b_lp_7 ls hl; exact absurd hm_lp (Nat.not_lt_zero _)
    | succ n_lp ih_lp =>
      intro lp_7 lp_6 lp_5 hm_lp b_lp_7 ls hl
      refine lv_iload hx hb dX1_cellsThrough_9 (lv_at hl 0 rfl) ?_
      refine lv_iload_n hx hb dX1_cellsThrough_11 rfl (lv_at hl 5 rfl) ?_
      refine fx_icmp_ge (tgt := 72) hx hb dX1_cellsThrough_12 (by decide) rfl rfl (fun c1 => ?_) (fun c1 => ?_)
      · refine lv_iload hx hb dX1_cellsThrough_72 (lv_at hl 2 rfl) ?_
        exact W.iret (v := lp_5) hx hb hr (fun t ht hW => ⟨lp_5, rfl, trivial, ht⟩) (fun _ h => absurd h List.not_mem_nil) dX1_cellsThrough_74
      · refine lv_aload_n hx hb dX1_cellsThrough_15 rfl (lv_at hl 3 rfl) ?_
        refine fm_getG (a := 42) (j := 0) (T := TX1) (N := 4) hx hb hts hinX1 hown hc hw kl_42 sh_42 rfl (by decide) rfl (hI.to kl_42 tg_42_0) (hts (.fieldLink RX1 11 "RedTent$Breaker" "ice" "[[I") (List.mem_cons_of_mem _ tw_2_60)) (fun _ h9 => h9) dX1_cellsThrough_16 ?_
        refine lv_iload_n hx hb dX1_cellsThrough_19 rfl (lv_at hl 4 rfl) ?_
        have hk2 : p0.toNatClampNeg < 4 := zi_cln (by omega)
        refine fm_aalA (a := 43) (i := p0) hx hb hc hw kl_43 sh_43 ty_43 (by omega) dX1_cellsThrough_20 (hI.2.2.2.2.1 _ hk2) ?_
        refine lv_iconst (v := 3) hx hb dX1_cellsThrough_21 (by decide) ?_
        refine lv_iload hx hb dX1_cellsThrough_22 (lv_at hl 0 rfl) ?_
        refine fx_imul hx hb dX1_cellsThrough_24 zk_3 rfl (by omega) (fun y3 ey3 ty3 => ?_)
        refine lv_aload_n hx hb dX1_cellsThrough_25 rfl (lv_at hl 3 rfl) ?_
        refine lv_iload hx hb dX1_cellsThrough_26 (lv_at hl 0 rfl) ?_
        refine lv_iload_n hx hb dX1_cellsThrough_28 rfl (lv_at hl 5 rfl) ?_
        refine lv_iload hx hb dX1_cellsThrough_29 (lv_at hl 7 rfl) ?_
        refine vp_callSi (va_Run.run (va_runV (As := [.int lp_7, .int p1, .int p3]) (rest := [.int y3, .ref (ad 44 p0.toNatClampNeg)]) ⟨hx, hb, hml, hown, hts⟩ (fc_X1_wayOn l D ad C nb M hI lp_7 p1 p3 (by omega) (by omega) (by omega) (by omega)) (cwV 3 hts gX1_cellsThrough_X1_wayOn rfl rfl rfl (by decide +kernel) ⟨Nat.le_of_ble_eq_true rfl, Nat.le_of_ble_eq_true rfl⟩) (fm_preV hc hw hS kl_42 sh_42 rfl) rfl rfl hl.1 rfl (lv_room (Nat.le_of_ble_eq_true rfl)) dX1_cellsThrough_31 ⟨by decide +kernel, by decide +kernel⟩)) (fun r4 hr4 => ?_)
        refine fx_iadd hx hb dX1_cellsThrough_34 rfl rfl (by omega) (fun y5 ey5 ty5 => ?_)
        refine fm_iald (a := 44) hx hb hc hw hI (kl_44 hk2) sh_44 ty_44 bd_44 (by omega) dX1_cellsThrough_35 (fun x6 ex6 bx6 => ?_)
        refine lv_istore (lv' := [(8, .int x6), (7, .int lp_7), (6, .int lp_6), (5, .int lp_5), (0, .ref (ad 42 0)), (1, .int p0), (2, .int p1), (3, .int p2), (4, .int p3)]) hx hb dX1_cellsThrough_36 hl (by decide) rfl (fun ls hl => ?_)
        refine lv_iload hx hb dX1_cellsThrough_38 (lv_at hl 2 rfl) ?_
        refine lv_iload hx hb dX1_cellsThrough_40 (lv_at hl 0 rfl) ?_
        refine lv_iconst (v := 1) hx hb dX1_cellsThrough_42 (by decide) ?_
        refine fx_iaddU hx hb dX1_cellsThrough_43 (fun y7 ey7 => ?_)
        refine fx_icmp_lt (tgt := 66) hx hb dX1_cellsThrough_44 (by decide) rfl rfl (fun c8 => ?_) (fun c8 => ?_)
        · obtain ⟨y9, ey9⟩ : ∃ y : Int32, y = lp_7 + 1 := ⟨_, rfl⟩
          have ty9 : y9.toInt = lp_7.toInt + 1 := by rw [ey9, zi_add _ _ (by rw [zk_1]; omega) (by rw [zk_1]; omega), zk_1]
          refine lv_iinc (v := y9) (lv' := [(7, .int y9), (8, .int x6), (6, .int lp_6), (5, .int lp_5), (0, .ref (ad 42 0)), (1, .int p0), (2, .int p1), (3, .int p2), (4, .int p3)]) hx hb dX1_cellsThrough_66 hl (k := 1) rfl (by rw [ey9]; rfl) (by decide) rfl (fun ls hl => ?_)
          refine lv_goto (tgt := 9) hx hb dX1_cellsThrough_69 (by decide) ?_
          exact ih_lp y9 lp_6 lp_5 (by omega) (by omega) ls (lv_sub hl [0, 2, 3, 4, 5, 6, 7, 8] rfl)
        · refine lv_iload hx hb dX1_cellsThrough_47 (lv_at hl 2 rfl) ?_
          refine lv_iload hx hb dX1_cellsThrough_49 (lv_at hl 0 rfl) ?_
          refine lv_iconst (v := 1) hx hb dX1_cellsThrough_51 (by decide) ?_
          refine fx_iaddU hx hb dX1_cellsThrough_52 (fun y10 ey10 => ?_)
          refine fx_isubU hx hb dX1_cellsThrough_53 (fun y11 ey11 => ?_)
          refine lv_istore (lv' := [(6, .int y11), (8, .int x6), (7, .int lp_7), (5, .int lp_5), (0, .ref (ad 42 0)), (1, .int p0), (2, .int p1), (3, .int p2), (4, .int p3)]) hx hb dX1_cellsThrough_54 hl (by decide) rfl (fun ls hl => ?_)
          refine lv_iload hx hb dX1_cellsThrough_56 (lv_at hl 3 rfl) ?_
          refine lv_bipush (v := 9) hx hb dX1_cellsThrough_58 (by decide) ?_
          refine lv_iload hx hb dX1_cellsThrough_60 (lv_at hl 1 rfl) ?_
          refine fx_isubU hx hb dX1_cellsThrough_62 (fun y12 ey12 => ?_)
          refine fx_iaddU hx hb dX1_cellsThrough_63 (fun y13 ey13 => ?_)
          refine lv_istore (lv' := [(5, .int y13), (6, .int y11), (8, .int x6), (7, .int lp_7), (0, .ref (ad 42 0)), (1, .int p0), (2, .int p1), (3, .int p2), (4, .int p3)]) hx hb dX1_cellsThrough_64 hl (by decide) rfl (fun ls hl => ?_)
          obtain ⟨y14, ey14⟩ : ∃ y : Int32, y = lp_7 + 1 := ⟨_, rfl⟩
          have ty14 : y14.toInt = lp_7.toInt + 1 := by rw [ey14, zi_add _ _ (by rw [zk_1]; omega) (by rw [zk_1]; omega), zk_1]
          refine lv_iinc (v := y14) (lv' := [(7, .int y14), (5, .int y13), (6, .int y11), (8, .int x6), (0, .ref (ad 42 0)), (1, .int p0), (2, .int p1), (3, .int p2), (4, .int p3)]) hx hb dX1_cellsThrough_66 hl (k := 3) rfl (by rw [ey14]; rfl) (by decide) rfl (fun ls hl => ?_)
          refine lv_goto (tgt := 9) hx hb dX1_cellsThrough_69 (by decide) ?_
          exact ih_lp y14 y11 y13 (by omega) (by omega) ls (lv_sub hl [0, 2, 1, 4, 5, 6, 7, 8] rfl)
  exact lp _ 0 p2 0 (Nat.lt_succ_self _) (by decide) ls (lv_sub hl [0, 1, 2, 3, 4, 5, 6, 7] rfl)
set_option maxHeartbeats 400000 in
set_option maxRecDepth 20000 in
theorem fc_X1_leastCells (l : Launch) (D : va_G) (ad : Nat → Nat → Nat) (C : Nat → Nat → ClassId) (nb : Nat) (M : fm_M) (hI : fm_I nb ad M) (p0 p1 p2 : Int32) (b_p0 : 1 ≤ p0.toInt ∧ p0.toInt ≤ 5) (b_p2 : 0 ≤ p2.toInt ∧ p2.toInt ≤ 242) : Met l yX1_leastCells wsX1_leastCells ({ frames := 2, cells := 0, slots := 0, locals := 51 }) (va_Pc [.ref (ad 42 0), .int p0, .int p1, .int p2] (fm_P D ad C nb M)) (vp_Si (fun r : Int32 => True)) 0 0 (fun _ => False) := by
  refine Met.ofW (cc := cX1_leastCells) (maxL := 6) (ret := (some .int)) (by decide) rfl ?_
  intro p e s m args below meth c s₁ B hml hv
  obtain ⟨rfl, hw, hc⟩ := hv
  have hx := B.exec
  have hb := B.bytes
  have hr := B.returns
  have hts := atoms_spec (ws := wsX1_leastCells) B.pre
  have hown : s.vm.findClass RX1 = some m.cls := findClass_of_methodNamed B.named
  have hinX1 : ∀ w ∈ u_ws RX1 TX1 4, w ∈ wsX1_leastCells := fun w h => List.mem_cons_of_mem _ (iT_X1 w h)
  have hS : va_S (fm_A nb ad) s.heap s.heap [] := va_S.rf
  have hl := lv_entry ([.ref (ad 42 0), .int p0, .int p1, .int p2]) (n := 6) (Nat.le_of_ble_eq_true rfl)
  rw [lg_entry_eq]
  generalize (lg_sl ([.ref (ad 42 0), .int p0, .int p1, .int p2]) ++ List.replicate (6 - (lg_sl ([.ref (ad 42 0), .int p0, .int p1, .int p2])).length) Slot.unset).toArray = ls at hl ⊢
  have hl : lv_has ls 6 [(0, .ref (ad 42 0)), (1, .int p0), (2, .int p1), (3, .int p2)] := hl
  refine lv_aload_n hx hb dX1_leastCells_0 rfl (lv_at hl 0 rfl) ?_
  refine fm_getI (a := 42) (j := 1) (T := TX1) (N := 4) hx hb hts hinX1 hown hc hw hI kl_42 sh_42 rfl (by decide) rfl bd_42_1 (hts (.fieldLink RX1 16 "RedTent$Breaker" "rowCount" "I") (List.mem_cons_of_mem _ tw_2_61)) (fun _ h9 => h9) dX1_leastCells_1 (fun x1 ex1 bx1 => ?_)
  refine fx_if_ne (tgt := 11) hx hb dX1_leastCells_4 (by decide) rfl (fun c2 => ?_) (fun c2 => ?_)
  · refine lv_bipush (v := 45) hx hb dX1_leastCells_11 (by decide) ?_
    refine lv_istore (lv' := [(4, .int 45), (0, .ref (ad 42 0)), (1, .int p0), (2, .int p1), (3, .int p2)]) hx hb dX1_leastCells_13 hl (by decide) rfl (fun ls hl => ?_)
    refine lv_iconst (v := 0) hx hb dX1_leastCells_15 (by decide) ?_
    refine lv_istore (lv' := [(5, .int 0), (4, .int 45), (0, .ref (ad 42 0)), (1, .int p0), (2, .int p1), (3, .int p2)]) hx hb dX1_leastCells_16 hl (by decide) rfl (fun ls hl => ?_)
    have lp : ∀ (n_lp : Nat) (lp_5 : Int32) (lp_4 : Int32), (4 - lp_5.toInt).toNat < n_lp → (0 ≤ lp_5.toInt ∧ lp_5.toInt ≤ 4) → ∀ (ls : Array Slot), lv_has ls 6 [(5, .int lp_5), (4, .int lp_4), (0, .ref (ad 42 0)), (1, .int p0), (2, .int p1), (3, .int p2)] → W p l e (headSpec wsX1_leastCells ({ frames := 2, cells := 0, slots := 0, locals := 51 })).room s m ([.ref (ad 42 0), .int p0, .int p1, .int p2] : List Value).toArray below meth c s.heap [] 0 0 (MQ below (vp_Si (fun r : Int32 => True)) ([.ref (ad 42 0), .int p0, .int p1, .int p2] : List Value).toArray s 0 0 (fun _ => False)) (F0 m 18 ls []) := by
      intro n_lp
      induction n_lp with
      | zero => intro lp_5 lp_4 hm_lp b_lp_5 ls hl; exact absurd hm_lp (Nat.not_lt_zero _)
      | succ n_lp ih_lp =>
        intro lp_5 lp_4 hm_lp b_lp_5 ls hl
        refine lv_iload hx hb dX1_leastCells_18 (lv_at hl 0 rfl) ?_
        refine lv_aload_n hx hb dX1_leastCells_20 rfl (lv_at hl 2 rfl) ?_
        refine fm_getI (a := 42) (j := 1) (T := TX1) (N := 4) hx hb hts hinX1 hown hc hw hI kl_42 sh_42 rfl (by decide) rfl bd_42_1 (hts (.fieldLink RX1 16 "RedTent$Breaker" "rowCount" "I") (List.mem_cons_of_mem _ tw_2_61)) (fun _ h9 => h9) dX1_leastCells_21 (fun x3 ex3 bx3 => ?_)
        obtain rfl : x1 = x3 := by rw [ex3]; exact ex1
        refine fx_icmp_ge (tgt := 49) hx hb dX1_leastCells_24 (by decide) rfl rfl (fun c4 => ?_) (fun c4 => ?_)
        · refine lv_iload hx hb dX1_leastCells_49 (lv_at hl 1 rfl) ?_
          exact W.iret (v := lp_4) hx hb hr (fun t ht hW => ⟨lp_4, rfl, trivial, ht⟩) (fun _ h => absurd h List.not_mem_nil) dX1_leastCells_51
        · refine lv_iload hx hb dX1_leastCells_27 (lv_at hl 1 rfl) ?_
          refine lv_aload_n hx hb dX1_leastCells_29 rfl (lv_at hl 2 rfl) ?_
          refine lv_iload hx hb dX1_leastCells_30 (lv_at hl 0 rfl) ?_
          refine lv_iload_n hx hb dX1_leastCells_32 rfl (lv_at hl 3 rfl) ?_
          refine lv_iload_n hx hb dX1_leastCells_33 rfl (lv_at hl 4 rfl) ?_
          refine lv_iload_n hx hb dX1_leastCells_34 rfl (lv_at hl 5 rfl) ?_
          refine vp_callSi (va_Run.run (va_runV (As := [.int lp_5, .int p0, .int p1, .int p2]) (rest := [.int lp_4]) ⟨hx, hb, hml, hown, hts⟩ (fc_X1_cellsThrough l D ad C nb M hI lp_5 p0 p1 p2 (by omega) (by omega) (by omega)) (cwV 4 hts gX1_leastCells_X1_cellsThrough rfl rfl rfl (by decide +kernel) ⟨Nat.le_of_ble_eq_true rfl, Nat.le_of_ble_eq_true rfl⟩) (fm_preV hc hw hS kl_42 sh_42 rfl) rfl rfl hl.1 rfl (lv_room (Nat.le_of_ble_eq_true rfl)) dX1_leastCells_35 ⟨by decide +kernel, by decide +kernel⟩)) (fun r5 hr5 => ?_)
          refine va_mmin hx hb (by rw [hml]; exact hl.1.symm) hown (hts (.methodLink RX1 40 Lib.Math.min.name) (List.mem_cons_of_mem _ tw_5_63)) (hts (.static Lib.Math.min.name) (List.mem_cons_of_mem _ tw_2_181)) (hts (.initialized "java/lang/Math") (List.mem_cons_of_mem _ tw_1_17)) (hts (.code Lib.Math.min.name Lib.Math.min.code 2 (some .int)) (List.mem_cons_of_mem _ tw_2_182)) (Nat.le_of_ble_eq_true rfl) (Nat.le_of_ble_eq_true rfl) (Nat.le_of_ble_eq_true rfl) (Nat.le_of_ble_eq_true rfl) dX1_leastCells_38 ?_
          refine lv_topi (fun y6 ey6 => ?_)
          have ty6 : y6.toInt = if r5.toInt < lp_4.toInt then r5.toInt else lp_4.toInt := by rw [ey6]; exact zi_min rfl rfl
          refine lv_istore (lv' := [(4, .int y6), (5, .int lp_5), (0, .ref (ad 42 0)), (1, .int p0), (2, .int p1), (3, .int p2)]) hx hb dX1_leastCells_41 hl (by decide) rfl (fun ls hl => ?_)
          obtain ⟨y7, ey7⟩ : ∃ y : Int32, y = lp_5 + 1 := ⟨_, rfl⟩
          have ty7 : y7.toInt = lp_5.toInt + 1 := by rw [ey7, zi_add _ _ (by rw [zk_1]; omega) (by rw [zk_1]; omega), zk_1]
          refine lv_iinc (v := y7) (lv' := [(5, .int y7), (4, .int y6), (0, .ref (ad 42 0)), (1, .int p0), (2, .int p1), (3, .int p2)]) hx hb dX1_leastCells_43 hl (k := 1) rfl (by rw [ey7]; rfl) (by decide) rfl (fun ls hl => ?_)
          refine lv_goto (tgt := 18) hx hb dX1_leastCells_46 (by decide) ?_
          exact ih_lp y7 y6 (by omega) (by omega) ls (lv_sub hl [0, 1, 2, 3, 4, 5] rfl)
    exact lp _ 0 45 (Nat.lt_succ_self _) (by decide) ls (lv_sub hl [0, 1, 2, 3, 4, 5] rfl)
  · refine lv_iconst (v := 0) hx hb dX1_leastCells_7 (by decide) ?_
    refine lv_goto (tgt := 13) hx hb dX1_leastCells_8 (by decide) ?_
    refine lv_istore (lv' := [(4, .int 0), (0, .ref (ad 42 0)), (1, .int p0), (2, .int p1), (3, .int p2)]) hx hb dX1_leastCells_13 hl (by decide) rfl (fun ls hl => ?_)
    refine lv_iconst (v := 0) hx hb dX1_leastCells_15 (by decide) ?_
    refine lv_istore (lv' := [(5, .int 0), (4, .int 0), (0, .ref (ad 42 0)), (1, .int p0), (2, .int p1), (3, .int p2)]) hx hb dX1_leastCells_16 hl (by decide) rfl (fun ls hl => ?_)
    have lp : ∀ (n_lp : Nat) (lp_5 : Int32) (lp_4 : Int32), (4 - lp_5.toInt).toNat < n_lp → (0 ≤ lp_5.toInt ∧ lp_5.toInt ≤ 4) → ∀ (ls : Array Slot), lv_has ls 6 [(5, .int lp_5), (4, .int lp_4), (0, .ref (ad 42 0)), (1, .int p0), (2, .int p1), (3, .int p2)] → W p l e (headSpec wsX1_leastCells ({ frames := 2, cells := 0, slots := 0, locals := 51 })).room s m ([.ref (ad 42 0), .int p0, .int p1, .int p2] : List Value).toArray below meth c s.heap [] 0 0 (MQ below (vp_Si (fun r : Int32 => True)) ([.ref (ad 42 0), .int p0, .int p1, .int p2] : List Value).toArray s 0 0 (fun _ => False)) (F0 m 18 ls []) := by
      intro n_lp
      induction n_lp with
      | zero => intro lp_5 lp_4 hm_lp b_lp_5 ls hl; exact absurd hm_lp (Nat.not_lt_zero _)
      | succ n_lp ih_lp =>
        intro lp_5 lp_4 hm_lp b_lp_5 ls hl
        refine lv_iload hx hb dX1_leastCells_18 (lv_at hl 0 rfl) ?_
        refine lv_aload_n hx hb dX1_leastCells_20 rfl (lv_at hl 2 rfl) ?_
        refine fm_getI (a := 42) (j := 1) (T := TX1) (N := 4) hx hb hts hinX1 hown hc hw hI kl_42 sh_42 rfl (by decide) rfl bd_42_1 (hts (.fieldLink RX1 16 "RedTent$Breaker" "rowCount" "I") (List.mem_cons_of_mem _ tw_2_61)) (fun _ h9 => h9) dX1_leastCells_21 (fun x8 ex8 bx8 => ?_)
        obtain rfl : x1 = x8 := by rw [ex8]; exact ex1
        refine fx_icmp_ge (tgt := 49) hx hb dX1_leastCells_24 (by decide) rfl rfl (fun c9 => ?_) (fun c9 => by exfalso; omega)
        refine lv_iload hx hb dX1_leastCells_49 (lv_at hl 1 rfl) ?_
        exact W.iret (v := lp_4) hx hb hr (fun t ht hW => ⟨lp_4, rfl, trivial, ht⟩) (fun _ h => absurd h List.not_mem_nil) dX1_leastCells_51
    exact lp _ 0 0 (Nat.lt_succ_self _) (by decide) ls (lv_sub hl [0, 1, 2, 3, 4, 5] rfl)
set_option maxHeartbeats 400000 in
set_option maxRecDepth 20000 in
theorem fc_X1_plan (l : Launch) (D : va_G) (ad : Nat → Nat → Nat) (C : Nat → Nat → ClassId) (nb : Nat) (M : fm_M) (hI : fm_I nb ad M) (p0 p1 : Int32) (b_p0 : 1 ≤ p0.toInt ∧ p0.toInt ≤ 5) : Met l yX1_plan wsX1_plan ({ frames := 3, cells := 0, slots := 0, locals := 76 }) (va_Pc [.ref (ad 42 0), .int p0, .int p1] (fm_P D ad C nb M)) (va_Qv (fun (u : fm_M) => fm_I nb ad u ∧ fm_same [42002, 42003] M u ∧ True) (fun u t => fm_at D ad C nb u t.heap) (fm_A nb ad)) 0 0 (fm_A nb ad) := by
  refine Met.ofW (cc := cX1_plan) (maxL := 5) (ret := none) (by decide) rfl ?_
  intro p e s m args below meth c s₁ B hml hv
  obtain ⟨rfl, hw, hc⟩ := hv
  have hx := B.exec
  have hb := B.bytes
  have hr := B.returns
  have hts := atoms_spec (ws := wsX1_plan) B.pre
  have hown : s.vm.findClass RX1 = some m.cls := findClass_of_methodNamed B.named
  have hinX1 : ∀ w ∈ u_ws RX1 TX1 4, w ∈ wsX1_plan := fun w h => List.mem_cons_of_mem _ (iT_X1 w h)
  have hS : va_S (fm_A nb ad) s.heap s.heap [] := va_S.rf
  have hE : fm_same [42002, 42003] M M := fm_same.rf
  have hl := lv_entry ([.ref (ad 42 0), .int p0, .int p1]) (n := 5) (Nat.le_of_ble_eq_true rfl)
  rw [lg_entry_eq]
  generalize (lg_sl ([.ref (ad 42 0), .int p0, .int p1]) ++ List.replicate (5 - (lg_sl ([.ref (ad 42 0), .int p0, .int p1])).length) Slot.unset).toArray = ls at hl ⊢
  have hl : lv_has ls 5 [(0, .ref (ad 42 0)), (1, .int p0), (2, .int p1)] := hl
  refine lv_aload_n hx hb dX1_plan_0 rfl (lv_at hl 0 rfl) ?_
  refine lv_iconst (v := (-1)) hx hb dX1_plan_1 (by decide) ?_
  refine fm_putI (a := 42) (j := 2) (T := TX1) (N := 4) hx hb hts hinX1 tyX1 tyX1_ok nmX1 hown hc hw hI hE hS kl_42 sh_42 od_42 rfl (by decide) rfl bd_42_2 (hts (.fieldLink RX1 22 "RedTent$Breaker" "bestCells" "I") (List.mem_cons_of_mem _ tw_2_63)) (fun _ h9 => h9) rfl (by decide +kernel) (by decide) (by decide) (by decide) dX1_plan_2 (fun M1 H locs eM1 hw hI hE hS => ?_)
  refine lv_aload_n hx hb dX1_plan_5 rfl (lv_at hl 0 rfl) ?_
  refine lv_iconst (v := 0) hx hb dX1_plan_6 (by decide) ?_
  refine fm_putI (a := 42) (j := 3) (T := TX1) (N := 4) hx hb hts hinX1 tyX1 tyX1_ok nmX1 hown hc hw hI hE hS kl_42 sh_42 od_42 rfl (by decide) rfl bd_42_3 (hts (.fieldLink RX1 25 "RedTent$Breaker" "bestWays" "I") (List.mem_cons_of_mem _ tw_2_65)) (fun _ h9 => h9) rfl (by decide +kernel) (by decide) (by decide) (by decide) dX1_plan_7 (fun M2 H locs eM2 hw hI hE hS => ?_)
  refine lv_iconst (v := 0) hx hb dX1_plan_10 (by decide) ?_
  refine lv_istore_n (lv' := [(3, .int 0), (0, .ref (ad 42 0)), (1, .int p0), (2, .int p1)]) hx hb dX1_plan_11 rfl hl (by decide) rfl (fun ls hl => ?_)
  have lp : ∀ (n_lp : Nat) (lp_3 : Int32) (M_lp : fm_M), (243 - lp_3.toInt).toNat < n_lp → (0 ≤ lp_3.toInt ∧ lp_3.toInt ≤ 243) → fm_I nb ad M_lp → fm_same [42002, 42003] M M_lp → ∀ (H : Heap) (locs : List Loc), fm_at D ad C nb M_lp H → va_S (fm_A nb ad) s.heap H locs → ∀ (ls : Array Slot), lv_has ls 5 [(3, .int lp_3), (0, .ref (ad 42 0)), (1, .int p0), (2, .int p1)] → W p l e (headSpec wsX1_plan ({ frames := 3, cells := 0, slots := 0, locals := 76 })).room s m ([.ref (ad 42 0), .int p0, .int p1] : List Value).toArray below meth c H locs 0 0 (MQ below (va_Qv (fun (u : fm_M) => fm_I nb ad u ∧ fm_same [42002, 42003] M u ∧ True) (fun u t => fm_at D ad C nb u t.heap) (fm_A nb ad)) ([.ref (ad 42 0), .int p0, .int p1] : List Value).toArray s 0 0 (fm_A nb ad)) (F0 m 12 ls []) := by
    intro n_lp
    induction n_lp with
    | zero => intro lp_3 M_lp hm_lp b_lp_3 hI hE H locs hw hS ls hl; exact absurd hm_lp (Nat.not_lt_zero _)
    | succ n_lp ih_lp =>
      intro lp_3 M_lp hm_lp b_lp_3 hI hE H locs hw hS ls hl
      refine lv_iload_n hx hb dX1_plan_12 rfl (lv_at hl 0 rfl) ?_
      obtain ⟨ts3, hZts3, hTts3⟩ := hc.2.2.2.1.2.2.1
      refine va_gets hx hb hZts3 hS hown (hts (.fieldLink RX1 28 "RedTent$Breaker" "POWERS_OF_3" "[I") (List.mem_cons_of_mem _ tw_5_49)) (fun _ h9 => h9) dX1_plan_13 ?_
      refine lv_iload_n hx hb dX1_plan_16 rfl (lv_at hl 2 rfl) ?_
      refine va_ti hx hb hTts3 hS (fm_in (by omega)) rfl dX1_plan_17 ?_
      refine lv_topi (fun x4 ex4 => ?_)
      have bx4 : 1 ≤ x4.toInt ∧ x4.toInt ≤ 243 := by rw [ex4]; exact ⟨(rt_pw (by omega)).1, (rt_pw (by omega)).2.1⟩
      refine fx_icmp_ge (tgt := 56) hx hb dX1_plan_18 (by decide) rfl rfl (fun c5 => ?_) (fun c5 => ?_)
      · exact W.vret hx hb hr (fun t ht hW => ⟨⟨M_lp, rfl, ⟨hI, hE, trivial⟩, by show fm_at D ad C nb _ t.heap; rw [ht]; exact hw⟩, hS.F ht⟩) hS.2.2 dX1_plan_56
      · refine lv_aload_n hx hb dX1_plan_21 rfl (lv_at hl 1 rfl) ?_
        refine lv_iload_n hx hb dX1_plan_22 rfl (lv_at hl 2 rfl) ?_
        refine lv_iload_n hx hb dX1_plan_23 rfl (lv_at hl 3 rfl) ?_
        refine lv_iload_n hx hb dX1_plan_24 rfl (lv_at hl 0 rfl) ?_
        refine vp_callSi (va_Run.run (va_runV (As := [.int p0, .int p1, .int lp_3]) (rest := []) ⟨hx, hb, hml, hown, hts⟩ (fc_X1_leastCells l D ad C nb M_lp hI p0 p1 lp_3 (by omega) (by omega)) (cwV 3 hts gX1_plan_X1_leastCells rfl rfl rfl (by decide +kernel) ⟨Nat.le_of_ble_eq_true rfl, Nat.le_of_ble_eq_true rfl⟩) (fm_preV hc hw hS kl_42 sh_42 rfl) rfl rfl hl.1 rfl (lv_room (Nat.le_of_ble_eq_true rfl)) dX1_plan_25 ⟨by decide +kernel, by decide +kernel⟩)) (fun r6 hr6 => ?_)
        refine lv_istore (lv' := [(4, .int r6), (3, .int lp_3), (0, .ref (ad 42 0)), (1, .int p0), (2, .int p1)]) hx hb dX1_plan_28 hl (by decide) rfl (fun ls hl => ?_)
        refine lv_iload hx hb dX1_plan_30 (lv_at hl 0 rfl) ?_
        refine lv_aload_n hx hb dX1_plan_32 rfl (lv_at hl 2 rfl) ?_
        refine fm_getI (a := 42) (j := 2) (T := TX1) (N := 4) hx hb hts hinX1 hown hc hw hI kl_42 sh_42 rfl (by decide) rfl bd_42_2 (hts (.fieldLink RX1 22 "RedTent$Breaker" "bestCells" "I") (List.mem_cons_of_mem _ tw_2_63)) (fun _ h9 => h9) dX1_plan_33 (fun x7 ex7 bx7 => ?_)
        refine fx_icmp_le (tgt := 50) hx hb dX1_plan_36 (by decide) rfl rfl (fun c8 => ?_) (fun c8 => ?_)
        · obtain ⟨y9, ey9⟩ : ∃ y : Int32, y = lp_3 + 1 := ⟨_, rfl⟩
          have ty9 : y9.toInt = lp_3.toInt + 1 := by rw [ey9, zi_add _ _ (by rw [zk_1]; omega) (by rw [zk_1]; omega), zk_1]
          refine lv_iinc (v := y9) (lv' := [(3, .int y9), (4, .int r6), (0, .ref (ad 42 0)), (1, .int p0), (2, .int p1)]) hx hb dX1_plan_50 hl (k := 1) rfl (by rw [ey9]; rfl) (by decide) rfl (fun ls hl => ?_)
          refine lv_goto (tgt := 12) hx hb dX1_plan_53 (by decide) ?_
          exact ih_lp y9 M_lp (by omega) (by omega) hI hE _ _ hw hS ls (lv_sub hl [0, 2, 3, 4] rfl)
        · refine lv_aload_n hx hb dX1_plan_39 rfl (lv_at hl 2 rfl) ?_
          refine lv_iload hx hb dX1_plan_40 (lv_at hl 0 rfl) ?_
          refine fm_putI (a := 42) (j := 2) (T := TX1) (N := 4) hx hb hts hinX1 tyX1 tyX1_ok nmX1 hown hc hw hI hE hS kl_42 sh_42 od_42 rfl (by decide) rfl bd_42_2 (hts (.fieldLink RX1 22 "RedTent$Breaker" "bestCells" "I") (List.mem_cons_of_mem _ tw_2_63)) (fun _ h9 => h9) rfl (by decide +kernel) (zi_lt _) (by decide) (by decide) dX1_plan_42 (fun M10 H locs eM10 hw hI hE hS => ?_)
          refine lv_aload_n hx hb dX1_plan_45 rfl (lv_at hl 2 rfl) ?_
          refine lv_iload_n hx hb dX1_plan_46 rfl (lv_at hl 1 rfl) ?_
          refine fm_putI (a := 42) (j := 3) (T := TX1) (N := 4) hx hb hts hinX1 tyX1 tyX1_ok nmX1 hown hc hw hI hE hS kl_42 sh_42 od_42 rfl (by decide) rfl bd_42_3 (hts (.fieldLink RX1 25 "RedTent$Breaker" "bestWays" "I") (List.mem_cons_of_mem _ tw_2_65)) (fun _ h9 => h9) rfl (by decide +kernel) (by omega) (by decide) (by decide) dX1_plan_47 (fun M11 H locs eM11 hw hI hE hS => ?_)
          obtain ⟨y12, ey12⟩ : ∃ y : Int32, y = lp_3 + 1 := ⟨_, rfl⟩
          have ty12 : y12.toInt = lp_3.toInt + 1 := by rw [ey12, zi_add _ _ (by rw [zk_1]; omega) (by rw [zk_1]; omega), zk_1]
          refine lv_iinc (v := y12) (lv' := [(3, .int y12), (4, .int r6), (0, .ref (ad 42 0)), (1, .int p0), (2, .int p1)]) hx hb dX1_plan_50 hl (k := 1) rfl (by rw [ey12]; rfl) (by decide) rfl (fun ls hl => ?_)
          refine lv_goto (tgt := 12) hx hb dX1_plan_53 (by decide) ?_
          exact ih_lp y12 M11 (by omega) (by omega) hI hE _ _ hw hS ls (lv_sub hl [0, 2, 3, 4] rfl)
  exact lp _ 0 M2 (Nat.lt_succ_self _) (by decide) hI hE _ _ hw hS ls (lv_sub hl [0, 1, 2, 3] rfl)
set_option maxHeartbeats 400000 in
set_option maxRecDepth 20000 in
theorem fc_X1_addRow (l : Launch) (D : va_G) (ad : Nat → Nat → Nat) (C : Nat → Nat → ClassId) (nb : Nat) (M : fm_M) (hI : fm_I nb ad M) (p0 : Int64) (hf : 0 ≤ (M.1 42 0 1).toInt ∧ (M.1 42 0 1).toInt ≤ 3) : Met l yX1_addRow wsX1_addRow ({ frames := 0, cells := 0, slots := 0, locals := 0 }) (va_Pc [.ref (ad 42 0), .long p0] (fm_P D ad C nb M)) (va_Qi (fun (r : Int32) (u : fm_M) => fm_I nb ad u ∧ fm_same [42001, 44000] M u ∧ (r.toInt = (M.1 42 0 1).toInt ∧ (u.1 42 0 1).toInt = (M.1 42 0 1).toInt + 1)) (fun u t => fm_at D ad C nb u t.heap) (fm_A nb ad)) 0 0 (fm_A nb ad) := by
  refine Met.ofW (cc := cX1_addRow) (maxL := 6) (ret := (some .int)) (by decide) rfl ?_
  intro p e s m args below meth c s₁ B hml hv
  obtain ⟨rfl, hw, hc⟩ := hv
  have hx := B.exec
  have hb := B.bytes
  have hr := B.returns
  have hts := atoms_spec (ws := wsX1_addRow) B.pre
  have hown : s.vm.findClass RX1 = some m.cls := findClass_of_methodNamed B.named
  have hinX1 : ∀ w ∈ u_ws RX1 TX1 4, w ∈ wsX1_addRow := fun w h => List.mem_cons_of_mem _ (iT_X1 w h)
  have hS : va_S (fm_A nb ad) s.heap s.heap [] := va_S.rf
  have hE : fm_same [42001, 44000] M M := fm_same.rf
  have hl := lv_entry ([.ref (ad 42 0), .long p0]) (n := 6) (Nat.le_of_ble_eq_true rfl)
  rw [lg_entry_eq]
  generalize (lg_sl ([.ref (ad 42 0), .long p0]) ++ List.replicate (6 - (lg_sl ([.ref (ad 42 0), .long p0])).length) Slot.unset).toArray = ls at hl ⊢
  have hl : lv_has ls 6 [(0, .ref (ad 42 0)), (1, .long p0)] := hl
  refine lv_lload_n hx hb dX1_addRow_0 rfl (lv_at hl 1 rfl) ?_
  refine lv_lstore_n (lv' := [(3, .long p0), (0, .ref (ad 42 0)), (1, .long p0)]) hx hb dX1_addRow_1 rfl hl (by decide) rfl (fun ls hl => ?_)
  refine lv_iconst (v := 0) hx hb dX1_addRow_2 (by decide) ?_
  refine lv_istore (lv' := [(5, .int 0), (3, .long p0), (0, .ref (ad 42 0)), (1, .long p0)]) hx hb dX1_addRow_3 hl (by decide) rfl (fun ls hl => ?_)
  have lp : ∀ (n_lp : Nat) (lp_5 : Int32) (lp_3 : Int64) (M_lp : fm_M), (15 - lp_5.toInt).toNat < n_lp → (0 ≤ lp_5.toInt ∧ lp_5.toInt ≤ 15) → (M_lp.1 42 0 1 = M.1 42 0 1) → (0 ≤ (M_lp.1 42 0 1).toInt ∧ (M_lp.1 42 0 1).toInt ≤ 3) → fm_I nb ad M_lp → fm_same [42001, 44000] M M_lp → ∀ (H : Heap) (locs : List Loc), fm_at D ad C nb M_lp H → va_S (fm_A nb ad) s.heap H locs → ∀ (ls : Array Slot), lv_has ls 6 [(5, .int lp_5), (3, .long lp_3), (0, .ref (ad 42 0)), (1, .long p0)] → W p l e (headSpec wsX1_addRow ({ frames := 0, cells := 0, slots := 0, locals := 0 })).room s m ([.ref (ad 42 0), .long p0] : List Value).toArray below meth c H locs 0 0 (MQ below (va_Qi (fun (r : Int32) (u : fm_M) => fm_I nb ad u ∧ fm_same [42001, 44000] M u ∧ (r.toInt = (M.1 42 0 1).toInt ∧ (u.1 42 0 1).toInt = (M.1 42 0 1).toInt + 1)) (fun u t => fm_at D ad C nb u t.heap) (fm_A nb ad)) ([.ref (ad 42 0), .long p0] : List Value).toArray s 0 0 (fm_A nb ad)) (F0 m 5 ls []) := by
    intro n_lp
    induction n_lp with
    | zero => intro lp_5 lp_3 M_lp hm_lp b_lp_5 hn hf2 hI hE H locs hw hS ls hl; exact absurd hm_lp (Nat.not_lt_zero _)
    | succ n_lp ih_lp =>
      intro lp_5 lp_3 M_lp hm_lp b_lp_5 hn hf2 hI hE H locs hw hS ls hl
      refine lv_iload hx hb dX1_addRow_5 (lv_at hl 0 rfl) ?_
      refine lv_bipush (v := 15) hx hb dX1_addRow_7 (by decide) ?_
      refine fx_icmp_ge (tgt := 42) hx hb dX1_addRow_9 (by decide) rfl zk_15 (fun c1 => ?_) (fun c1 => ?_)
      · refine lv_aload_n hx hb dX1_addRow_42 rfl (lv_at hl 2 rfl) ?_
        refine lv_dup hx hb dX1_addRow_43 rfl ?_
        refine fm_getI (a := 42) (j := 1) (T := TX1) (N := 4) hx hb hts hinX1 hown hc hw hI kl_42 sh_42 rfl (by decide) rfl bd_42_1 (hts (.fieldLink RX1 16 "RedTent$Breaker" "rowCount" "I") (List.mem_cons_of_mem _ tw_2_61)) (fun _ h9 => h9) dX1_addRow_44 (fun x2 ex2 bx2 => ?_)
        have fx2 : 0 ≤ x2.toInt ∧ x2.toInt ≤ 3 := by rw [ex2]; exact hf2
        refine lv_dup_x1 hx hb dX1_addRow_47 rfl rfl ?_
        refine lv_iconst (v := 1) hx hb dX1_addRow_48 (by decide) ?_
        refine fx_iadd hx hb dX1_addRow_49 rfl zk_1 (by omega) (fun y3 ey3 ty3 => ?_)
        refine fm_putI (a := 42) (j := 1) (T := TX1) (N := 4) hx hb hts hinX1 tyX1 tyX1_ok nmX1 hown hc hw hI hE hS kl_42 sh_42 od_42 rfl (by decide) rfl bd_42_1 (hts (.fieldLink RX1 16 "RedTent$Breaker" "rowCount" "I") (List.mem_cons_of_mem _ tw_2_61)) (fun _ h9 => h9) rfl (by decide +kernel) (by omega) (by decide) (by decide) dX1_addRow_50 (fun M4 H locs eM4 hw hI hE hS => ?_)
        have qx2 : x2.toInt = (M.1 42 0 1).toInt := by rw [ex2, hn]
        exact W.iret (v := x2) hx hb hr (fun t ht hW => ⟨⟨x2, M4, rfl, ⟨hI, hE, ⟨by omega, (by first | omega | (rw [eM4, fm_wI_at]; omega))⟩⟩, by show fm_at D ad C nb _ t.heap; rw [ht]; exact hw⟩, hS.F ht⟩) hS.2.2 dX1_addRow_53
      · refine lv_aload_n hx hb dX1_addRow_12 rfl (lv_at hl 2 rfl) ?_
        refine fm_getG (a := 42) (j := 0) (T := TX1) (N := 4) hx hb hts hinX1 hown hc hw kl_42 sh_42 rfl (by decide) rfl (hI.to kl_42 tg_42_0) (hts (.fieldLink RX1 11 "RedTent$Breaker" "ice" "[[I") (List.mem_cons_of_mem _ tw_2_60)) (fun _ h9 => h9) dX1_addRow_13 ?_
        refine lv_aload_n hx hb dX1_addRow_16 rfl (lv_at hl 2 rfl) ?_
        refine fm_getI (a := 42) (j := 1) (T := TX1) (N := 4) hx hb hts hinX1 hown hc hw hI kl_42 sh_42 rfl (by decide) rfl bd_42_1 (hts (.fieldLink RX1 16 "RedTent$Breaker" "rowCount" "I") (List.mem_cons_of_mem _ tw_2_61)) (fun _ h9 => h9) dX1_addRow_17 (fun x5 ex5 bx5 => ?_)
        have fx5 : 0 ≤ x5.toInt ∧ x5.toInt ≤ 3 := by rw [ex5]; exact hf2
        have hk6 : x5.toNatClampNeg < 4 := zi_cln (by omega)
        refine fm_aalA (a := 43) (i := x5) hx hb hc hw kl_43 sh_43 ty_43 (by omega) dX1_addRow_20 (hI.2.2.2.2.1 _ hk6) ?_
        refine lv_iload hx hb dX1_addRow_21 (lv_at hl 0 rfl) ?_
        refine lv_lload_n hx hb dX1_addRow_23 rfl (lv_at hl 1 rfl) ?_
        refine lv_ldc2 (v := 10) hx hb hown (hts (.constantLong RX1 20 (10)) (List.mem_cons_of_mem _ tw_5_40)) dX1_addRow_24 ?_
        refine lv_lrem hx hb dX1_addRow_27 (by decide) ?_
        refine lv_topl (fun y7 ey7 => ?_)
        refine lv_l2i (v := y7.toInt32) hx hb dX1_addRow_28 rfl ?_
        refine lv_topi (fun y8 ey8 => ?_)
        refine fm_iast (a := 44) hx hb hc hw hI hE hS (kl_44 hk6) sh_44 ty_44 bd_44 (by omega) (zi_lt _) cd_44 (by decide) dX1_addRow_29 (fun M9 H locs eM9 hw hI hE hS => ?_)
        refine lv_lload_n hx hb dX1_addRow_30 rfl (lv_at hl 1 rfl) ?_
        refine lv_ldc2 (v := 10) hx hb hown (hts (.constantLong RX1 20 (10)) (List.mem_cons_of_mem _ tw_5_40)) dX1_addRow_31 ?_
        refine lv_ldiv hx hb dX1_addRow_34 (by decide) ?_
        refine lv_topl (fun y10 ey10 => ?_)
        refine lv_lstore_n (lv' := [(3, .long y10), (5, .int lp_5), (0, .ref (ad 42 0)), (1, .long p0)]) hx hb dX1_addRow_35 rfl hl (by decide) rfl (fun ls hl => ?_)
        obtain ⟨y11, ey11⟩ : ∃ y : Int32, y = lp_5 + 1 := ⟨_, rfl⟩
        have ty11 : y11.toInt = lp_5.toInt + 1 := by rw [ey11, zi_add _ _ (by rw [zk_1]; omega) (by rw [zk_1]; omega), zk_1]
        refine lv_iinc (v := y11) (lv' := [(5, .int y11), (3, .long y10), (0, .ref (ad 42 0)), (1, .long p0)]) hx hb dX1_addRow_36 hl (k := 1) rfl (by rw [ey11]; rfl) (by decide) rfl (fun ls hl => ?_)
        refine lv_goto (tgt := 5) hx hb dX1_addRow_39 (by decide) ?_
        exact ih_lp y11 y10 M9 (by omega) (by omega) (by rw [eM9, fm_wI_nj (fun z => absurd z.1 (by decide))]; exact hn) (by rw [eM9, fm_wI_nj (fun z => absurd z.1 (by decide)), ← ex5]; omega) hI hE _ _ hw hS ls (lv_sub hl [0, 1, 2, 3] rfl)
  exact lp _ 0 p0 M (Nat.lt_succ_self _) (by decide) rfl (by omega) hI hE _ _ hw hS ls (lv_sub hl [0, 1, 2, 3] rfl)
set_option maxHeartbeats 400000 in
set_option maxRecDepth 20000 in
theorem fc_X7_become (l : Launch) (D : va_G) (ad : Nat → Nat → Nat) (C : Nat → Nat → ClassId) (nb : Nat) (M : fm_M) (hI : fm_I nb ad M) (ks : Nat) (hks : ks < 4) (p0 p1 : Int32) (b_p0 : (-1) ≤ p0.toInt ∧ p0.toInt ≤ 2) (b_p1 : 0 ≤ p1.toInt ∧ p1.toInt ≤ 40) : Met l yX7_become wsX7_become ({ frames := 0, cells := 0, slots := 0, locals := 0 }) (va_Pc [.ref (ad 46 ks), .int p0, .int p1] (fm_P D ad C nb M)) (va_Qv (fun (u : fm_M) => fm_I nb ad u ∧ fm_same [46001, 46002, 47000] M u ∧ ((∀ j : Nat, u.1 46 j 1 = if j = ks then p0 else M.1 46 j 1) ∧ (∀ j : Nat, u.1 46 j 2 = if j = ks then p1 else M.1 46 j 2))) (fun u t => fm_at D ad C nb u t.heap) (fm_A nb ad)) 0 0 (fm_A nb ad) := by
  refine Met.ofW (cc := cX7_become) (maxL := 4) (ret := none) (by decide) rfl ?_
  intro p e s m args below meth c s₁ B hml hv
  obtain ⟨rfl, hw, hc⟩ := hv
  have hx := B.exec
  have hb := B.bytes
  have hr := B.returns
  have hts := atoms_spec (ws := wsX7_become) B.pre
  have hown : s.vm.findClass RX7 = some m.cls := findClass_of_methodNamed B.named
  have hinX7 : ∀ w ∈ u_ws RX7 TX7 3, w ∈ wsX7_become := fun w h => List.mem_cons_of_mem _ (iT_X7 w h)
  have hS : va_S (fm_A nb ad) s.heap s.heap [] := va_S.rf
  have hE : fm_same [46001, 46002, 47000] M M := fm_same.rf
  have hl := lv_entry ([.ref (ad 46 ks), .int p0, .int p1]) (n := 4) (Nat.le_of_ble_eq_true rfl)
  rw [lg_entry_eq]
  generalize (lg_sl ([.ref (ad 46 ks), .int p0, .int p1]) ++ List.replicate (4 - (lg_sl ([.ref (ad 46 ks), .int p0, .int p1])).length) Slot.unset).toArray = ls at hl ⊢
  have hl : lv_has ls 4 [(0, .ref (ad 46 ks)), (1, .int p0), (2, .int p1)] := hl
  refine lv_aload_n hx hb dX7_become_0 rfl (lv_at hl 0 rfl) ?_
  refine lv_iload_n hx hb dX7_become_1 rfl (lv_at hl 1 rfl) ?_
  refine fm_putI (a := 46) (j := 1) (T := TX7) (N := 3) hx hb hts hinX7 tyX7 tyX7_ok nmX7 hown hc hw hI hE hS (kl_46 hks) sh_46 od_46 rfl (by decide) rfl bd_46_1 (hts (.fieldLink RX7 15 "RedTent$Sheet" "sort" "I") (List.mem_cons_of_mem _ tw_2_85)) (fun _ h9 => h9) rfl (by decide +kernel) (by omega) (by decide) (by decide) dX7_become_2 (fun M1 H locs eM1 hw hI hE hS => ?_)
  refine lv_aload_n hx hb dX7_become_5 rfl (lv_at hl 0 rfl) ?_
  refine lv_iload_n hx hb dX7_become_6 rfl (lv_at hl 2 rfl) ?_
  refine fm_putI (a := 46) (j := 2) (T := TX7) (N := 3) hx hb hts hinX7 tyX7 tyX7_ok nmX7 hown hc hw hI hE hS (kl_46 hks) sh_46 od_46 rfl (by decide) rfl bd_46_2 (hts (.fieldLink RX7 19 "RedTent$Sheet" "size" "I") (List.mem_cons_of_mem _ tw_2_87)) (fun _ h9 => h9) rfl (by decide +kernel) (by omega) (by decide) (by decide) dX7_become_7 (fun M2 H locs eM2 hw hI hE hS => ?_)
  refine lv_iconst (v := 0) hx hb dX7_become_10 (by decide) ?_
  refine lv_istore_n (lv' := [(3, .int 0), (0, .ref (ad 46 ks)), (1, .int p0), (2, .int p1)]) hx hb dX7_become_11 rfl hl (by decide) rfl (fun ls hl => ?_)
  have lp : ∀ (n_lp : Nat) (lp_3 : Int32) (M_lp : fm_M), (40 - lp_3.toInt).toNat < n_lp → (0 ≤ lp_3.toInt ∧ lp_3.toInt ≤ 40) → (∀ j : Nat, M_lp.1 46 j 1 = if j = ks then p0 else M.1 46 j 1) → (∀ j : Nat, M_lp.1 46 j 2 = if j = ks then p1 else M.1 46 j 2) → fm_I nb ad M_lp → fm_same [46001, 46002, 47000] M M_lp → ∀ (H : Heap) (locs : List Loc), fm_at D ad C nb M_lp H → va_S (fm_A nb ad) s.heap H locs → ∀ (ls : Array Slot), lv_has ls 4 [(3, .int lp_3), (0, .ref (ad 46 ks)), (1, .int p0), (2, .int p1)] → W p l e (headSpec wsX7_become ({ frames := 0, cells := 0, slots := 0, locals := 0 })).room s m ([.ref (ad 46 ks), .int p0, .int p1] : List Value).toArray below meth c H locs 0 0 (MQ below (va_Qv (fun (u : fm_M) => fm_I nb ad u ∧ fm_same [46001, 46002, 47000] M u ∧ ((∀ j : Nat, u.1 46 j 1 = if j = ks then p0 else M.1 46 j 1) ∧ (∀ j : Nat, u.1 46 j 2 = if j = ks then p1 else M.1 46 j 2))) (fun u t => fm_at D ad C nb u t.heap) (fm_A nb ad)) ([.ref (ad 46 ks), .int p0, .int p1] : List Value).toArray s 0 0 (fm_A nb ad)) (F0 m 12 ls []) := by
    intro n_lp
    induction n_lp with
    | zero => intro lp_3 M_lp hm_lp b_lp_3 hk1 hk2 hI hE H locs hw hS ls hl; exact absurd hm_lp (Nat.not_lt_zero _)
    | succ n_lp ih_lp =>
      intro lp_3 M_lp hm_lp b_lp_3 hk1 hk2 hI hE H locs hw hS ls hl
      refine lv_iload_n hx hb dX7_become_12 rfl (lv_at hl 0 rfl) ?_
      refine lv_bipush (v := 40) hx hb dX7_become_13 (by decide) ?_
      refine fx_icmp_ge (tgt := 31) hx hb dX7_become_15 (by decide) rfl zk_40 (fun c3 => ?_) (fun c3 => ?_)
      · exact W.vret hx hb hr (fun t ht hW => ⟨⟨M_lp, rfl, ⟨hI, hE, ⟨hk1, hk2⟩⟩, by show fm_at D ad C nb _ t.heap; rw [ht]; exact hw⟩, hS.F ht⟩) hS.2.2 dX7_become_31
      · refine lv_aload_n hx hb dX7_become_18 rfl (lv_at hl 1 rfl) ?_
        refine fm_getG (a := 46) (j := 0) (T := TX7) (N := 3) hx hb hts hinX7 hown hc hw (kl_46 hks) sh_46 rfl (by decide) rfl (hI.to (kl_46 hks) tg_46_0) (hts (.fieldLink RX7 9 "RedTent$Sheet" "items" "[I") (List.mem_cons_of_mem _ tw_2_83)) (fun _ h9 => h9) dX7_become_19 ?_
        refine lv_iload_n hx hb dX7_become_22 rfl (lv_at hl 0 rfl) ?_
        refine lv_iconst (v := 0) hx hb dX7_become_23 (by decide) ?_
        refine fm_iast (a := 47) hx hb hc hw hI hE hS (kl_47 hks) sh_47 ty_47 bd_47 (by omega) (by decide) cd_47 (by decide) dX7_become_24 (fun M4 H locs eM4 hw hI hE hS => ?_)
        obtain ⟨y5, ey5⟩ : ∃ y : Int32, y = lp_3 + 1 := ⟨_, rfl⟩
        have ty5 : y5.toInt = lp_3.toInt + 1 := by rw [ey5, zi_add _ _ (by rw [zk_1]; omega) (by rw [zk_1]; omega), zk_1]
        refine lv_iinc (v := y5) (lv' := [(3, .int y5), (0, .ref (ad 46 ks)), (1, .int p0), (2, .int p1)]) hx hb dX7_become_25 hl (k := 0) rfl (by rw [ey5]; rfl) (by decide) rfl (fun ls hl => ?_)
        refine lv_goto (tgt := 12) hx hb dX7_become_28 (by decide) ?_
        exact ih_lp y5 M4 (by omega) (by omega) (fun j => by rw [eM4, fm_wI_nj (fun z => absurd z.1 (by decide))]; exact hk1 j) (fun j => by rw [eM4, fm_wI_nj (fun z => absurd z.1 (by decide))]; exact hk2 j) hI hE _ _ hw hS ls (lv_sub hl [0, 1, 2, 3] rfl)
  exact lp _ 0 M2 (Nat.lt_succ_self _) (by decide) (fun j => by rw [eM2, fm_wI_nj (fun z => absurd z.2.2 (by decide)), eM1, fm_wI_ob]) (fun j => by rw [eM2, fm_wI_ob, eM1, fm_wI_nj (fun z => absurd z.2.2 (by decide))]) hI hE _ _ hw hS ls (lv_sub hl [0, 1, 2, 3] rfl)
set_option maxHeartbeats 400000 in
set_option maxRecDepth 20000 in
theorem fc_X7_hasItem (l : Launch) (D : va_G) (ad : Nat → Nat → Nat) (C : Nat → Nat → ClassId) (nb : Nat) (M : fm_M) (hI : fm_I nb ad M) (ks : Nat) (hks : ks < 4) (p0 : Int32) : Met l yX7_hasItem wsX7_hasItem ({ frames := 0, cells := 0, slots := 0, locals := 0 }) (va_Pc [.ref (ad 46 ks), .int p0] (fm_P D ad C nb M)) (vp_Si (fun r : Int32 => ((r = 1 ∧ (0 ≤ p0.toInt ∧ p0.toInt < (M.1 46 ks 2).toInt)) ∨ (r = 0 ∧ ¬ (0 ≤ p0.toInt ∧ p0.toInt < (M.1 46 ks 2).toInt))))) 0 0 (fun _ => False) := by
  refine Met.ofW (cc := cX7_hasItem) (maxL := 2) (ret := (some .boolean)) (by decide) rfl ?_
  intro p e s m args below meth c s₁ B hml hv
  obtain ⟨rfl, hw, hc⟩ := hv
  have hx := B.exec
  have hb := B.bytes
  have hr := B.returns
  have hts := atoms_spec (ws := wsX7_hasItem) B.pre
  have hown : s.vm.findClass RX7 = some m.cls := findClass_of_methodNamed B.named
  have hinX7 : ∀ w ∈ u_ws RX7 TX7 3, w ∈ wsX7_hasItem := fun w h => List.mem_cons_of_mem _ (iT_X7 w h)
  have hS : va_S (fm_A nb ad) s.heap s.heap [] := va_S.rf
  have hl := lv_entry ([.ref (ad 46 ks), .int p0]) (n := 2) (Nat.le_of_ble_eq_true rfl)
  rw [lg_entry_eq]
  generalize (lg_sl ([.ref (ad 46 ks), .int p0]) ++ List.replicate (2 - (lg_sl ([.ref (ad 46 ks), .int p0])).length) Slot.unset).toArray = ls at hl ⊢
  have hl : lv_has ls 2 [(0, .ref (ad 46 ks)), (1, .int p0)] := hl
  refine lv_iload_n hx hb dX7_hasItem_0 rfl (lv_at hl 1 rfl) ?_
  refine fx_if_lt (tgt := 16) hx hb dX7_hasItem_1 (by decide) rfl (fun c1 => ?_) (fun c1 => ?_)
  · refine lv_iconst (v := 0) hx hb dX7_hasItem_16 (by decide) ?_
    exact W.zret (v := 0) hx hb hr rfl (fun t ht hW => ⟨0, rfl, Or.inr ⟨rfl, by omega⟩, ht⟩) (fun _ h => absurd h List.not_mem_nil) dX7_hasItem_17
  · refine lv_iload_n hx hb dX7_hasItem_4 rfl (lv_at hl 1 rfl) ?_
    refine lv_aload_n hx hb dX7_hasItem_5 rfl (lv_at hl 0 rfl) ?_
    refine fm_getI (a := 46) (j := 2) (T := TX7) (N := 3) hx hb hts hinX7 hown hc hw hI (kl_46 hks) sh_46 rfl (by decide) rfl bd_46_2 (hts (.fieldLink RX7 19 "RedTent$Sheet" "size" "I") (List.mem_cons_of_mem _ tw_2_87)) (fun _ h9 => h9) dX7_hasItem_6 (fun x2 ex2 bx2 => ?_)
    refine fx_icmp_ge (tgt := 16) hx hb dX7_hasItem_9 (by decide) rfl rfl (fun c3 => ?_) (fun c3 => ?_)
    · refine lv_iconst (v := 0) hx hb dX7_hasItem_16 (by decide) ?_
      have qx2 : x2.toInt = (M.1 46 ks 2).toInt := by rw [ex2]
      exact W.zret (v := 0) hx hb hr rfl (fun t ht hW => ⟨0, rfl, Or.inr ⟨rfl, by omega⟩, ht⟩) (fun _ h => absurd h List.not_mem_nil) dX7_hasItem_17
    · refine lv_iconst (v := 1) hx hb dX7_hasItem_12 (by decide) ?_
      refine lv_goto (tgt := 17) hx hb dX7_hasItem_13 (by decide) ?_
      have qx2 : x2.toInt = (M.1 46 ks 2).toInt := by rw [ex2]
      exact W.zret (v := 1) hx hb hr rfl (fun t ht hW => ⟨1, rfl, Or.inl ⟨rfl, by omega⟩, ht⟩) (fun _ h => absurd h List.not_mem_nil) dX7_hasItem_17
set_option maxHeartbeats 400000 in
set_option maxRecDepth 20000 in
theorem fc_X7_hasStretch (l : Launch) (D : va_G) (ad : Nat → Nat → Nat) (C : Nat → Nat → ClassId) (nb : Nat) (M : fm_M) (hI : fm_I nb ad M) (ks : Nat) (hks : ks < 4) (p0 p1 : Int32) : Met l yX7_hasStretch wsX7_hasStretch ({ frames := 0, cells := 0, slots := 0, locals := 0 }) (va_Pc [.ref (ad 46 ks), .int p0, .int p1] (fm_P D ad C nb M)) (vp_Si (fun r : Int32 => ((r = 1 ∧ (0 ≤ p0.toInt ∧ 0 ≤ p1.toInt ∧ p0.toInt ≤ (M.1 46 ks 2).toInt ∧ p1.toInt ≤ (M.1 46 ks 2).toInt - p0.toInt)) ∨ (r = 0 ∧ ¬ (0 ≤ p0.toInt ∧ 0 ≤ p1.toInt ∧ p0.toInt ≤ (M.1 46 ks 2).toInt ∧ p1.toInt ≤ (M.1 46 ks 2).toInt - p0.toInt))))) 0 0 (fun _ => False) := by
  refine Met.ofW (cc := cX7_hasStretch) (maxL := 3) (ret := (some .boolean)) (by decide) rfl ?_
  intro p e s m args below meth c s₁ B hml hv
  obtain ⟨rfl, hw, hc⟩ := hv
  have hx := B.exec
  have hb := B.bytes
  have hr := B.returns
  have hts := atoms_spec (ws := wsX7_hasStretch) B.pre
  have hown : s.vm.findClass RX7 = some m.cls := findClass_of_methodNamed B.named
  have hinX7 : ∀ w ∈ u_ws RX7 TX7 3, w ∈ wsX7_hasStretch := fun w h => List.mem_cons_of_mem _ (iT_X7 w h)
  have hS : va_S (fm_A nb ad) s.heap s.heap [] := va_S.rf
  have hl := lv_entry ([.ref (ad 46 ks), .int p0, .int p1]) (n := 3) (Nat.le_of_ble_eq_true rfl)
  rw [lg_entry_eq]
  generalize (lg_sl ([.ref (ad 46 ks), .int p0, .int p1]) ++ List.replicate (3 - (lg_sl ([.ref (ad 46 ks), .int p0, .int p1])).length) Slot.unset).toArray = ls at hl ⊢
  have hl : lv_has ls 3 [(0, .ref (ad 46 ks)), (1, .int p0), (2, .int p1)] := hl
  refine lv_iload_n hx hb dX7_hasStretch_0 rfl (lv_at hl 1 rfl) ?_
  refine fx_if_lt (tgt := 30) hx hb dX7_hasStretch_1 (by decide) rfl (fun c1 => ?_) (fun c1 => ?_)
  · refine lv_iconst (v := 0) hx hb dX7_hasStretch_30 (by decide) ?_
    exact W.zret (v := 0) hx hb hr rfl (fun t ht hW => ⟨0, rfl, Or.inr ⟨rfl, by omega⟩, ht⟩) (fun _ h => absurd h List.not_mem_nil) dX7_hasStretch_31
  · refine lv_iload_n hx hb dX7_hasStretch_4 rfl (lv_at hl 2 rfl) ?_
    refine fx_if_lt (tgt := 30) hx hb dX7_hasStretch_5 (by decide) rfl (fun c2 => ?_) (fun c2 => ?_)
    · refine lv_iconst (v := 0) hx hb dX7_hasStretch_30 (by decide) ?_
      exact W.zret (v := 0) hx hb hr rfl (fun t ht hW => ⟨0, rfl, Or.inr ⟨rfl, by omega⟩, ht⟩) (fun _ h => absurd h List.not_mem_nil) dX7_hasStretch_31
    · refine lv_iload_n hx hb dX7_hasStretch_8 rfl (lv_at hl 1 rfl) ?_
      refine lv_aload_n hx hb dX7_hasStretch_9 rfl (lv_at hl 0 rfl) ?_
      refine fm_getI (a := 46) (j := 2) (T := TX7) (N := 3) hx hb hts hinX7 hown hc hw hI (kl_46 hks) sh_46 rfl (by decide) rfl bd_46_2 (hts (.fieldLink RX7 19 "RedTent$Sheet" "size" "I") (List.mem_cons_of_mem _ tw_2_87)) (fun _ h9 => h9) dX7_hasStretch_10 (fun x3 ex3 bx3 => ?_)
      refine fx_icmp_gt (tgt := 30) hx hb dX7_hasStretch_13 (by decide) rfl rfl (fun c4 => ?_) (fun c4 => ?_)
      · refine lv_iconst (v := 0) hx hb dX7_hasStretch_30 (by decide) ?_
        have qx3 : x3.toInt = (M.1 46 ks 2).toInt := by rw [ex3]
        exact W.zret (v := 0) hx hb hr rfl (fun t ht hW => ⟨0, rfl, Or.inr ⟨rfl, by omega⟩, ht⟩) (fun _ h => absurd h List.not_mem_nil) dX7_hasStretch_31
      · refine lv_iload_n hx hb dX7_hasStretch_16 rfl (lv_at hl 2 rfl) ?_
        refine lv_aload_n hx hb dX7_hasStretch_17 rfl (lv_at hl 0 rfl) ?_
        refine fm_getI (a := 46) (j := 2) (T := TX7) (N := 3) hx hb hts hinX7 hown hc hw hI (kl_46 hks) sh_46 rfl (by decide) rfl bd_46_2 (hts (.fieldLink RX7 19 "RedTent$Sheet" "size" "I") (List.mem_cons_of_mem _ tw_2_87)) (fun _ h9 => h9) dX7_hasStretch_18 (fun x5 ex5 bx5 => ?_)
        obtain rfl : x3 = x5 := by rw [ex5]; exact ex3
        refine lv_iload_n hx hb dX7_hasStretch_21 rfl (lv_at hl 1 rfl) ?_
        refine fx_isub hx hb dX7_hasStretch_22 rfl rfl (by omega) (fun y6 ey6 ty6 => ?_)
        refine fx_icmp_gt (tgt := 30) hx hb dX7_hasStretch_23 (by decide) rfl rfl (fun c7 => ?_) (fun c7 => ?_)
        · refine lv_iconst (v := 0) hx hb dX7_hasStretch_30 (by decide) ?_
          have qx3 : x3.toInt = (M.1 46 ks 2).toInt := by rw [ex3]
          exact W.zret (v := 0) hx hb hr rfl (fun t ht hW => ⟨0, rfl, Or.inr ⟨rfl, by omega⟩, ht⟩) (fun _ h => absurd h List.not_mem_nil) dX7_hasStretch_31
        · refine lv_iconst (v := 1) hx hb dX7_hasStretch_26 (by decide) ?_
          refine lv_goto (tgt := 31) hx hb dX7_hasStretch_27 (by decide) ?_
          have qx3 : x3.toInt = (M.1 46 ks 2).toInt := by rw [ex3]
          exact W.zret (v := 1) hx hb hr rfl (fun t ht hW => ⟨1, rfl, Or.inl ⟨rfl, by omega⟩, ht⟩) (fun _ h => absurd h List.not_mem_nil) dX7_hasStretch_31
set_option maxHeartbeats 400000 in
set_option maxRecDepth 20000 in
theorem fc_X7_put (l : Launch) (D : va_G) (ad : Nat → Nat → Nat) (C : Nat → Nat → ClassId) (nb : Nat) (M : fm_M) (hI : fm_I nb ad M) (ks : Nat) (hks : ks < 4) (p0 p1 : Int32) (b_p0 : 0 ≤ p0.toInt ∧ p0.toInt ≤ 39) : Met l yX7_put wsX7_put ({ frames := 0, cells := 0, slots := 0, locals := 0 }) (va_Pc [.ref (ad 46 ks), .int p0, .int p1] (fm_P D ad C nb M)) (va_Qv (fun (u : fm_M) => fm_I nb ad u ∧ fm_same [47000] M u ∧ True) (fun u t => fm_at D ad C nb u t.heap) (fm_A nb ad)) 0 0 (fm_A nb ad) := by
  refine Met.ofW (cc := cX7_put) (maxL := 3) (ret := none) (by decide) rfl ?_
  intro p e s m args below meth c s₁ B hml hv
  obtain ⟨rfl, hw, hc⟩ := hv
  have hx := B.exec
  have hb := B.bytes
  have hr := B.returns
  have hts := atoms_spec (ws := wsX7_put) B.pre
  have hown : s.vm.findClass RX7 = some m.cls := findClass_of_methodNamed B.named
  have hinX7 : ∀ w ∈ u_ws RX7 TX7 3, w ∈ wsX7_put := fun w h => List.mem_cons_of_mem _ (iT_X7 w h)
  have hS : va_S (fm_A nb ad) s.heap s.heap [] := va_S.rf
  have hE : fm_same [47000] M M := fm_same.rf
  have hl := lv_entry ([.ref (ad 46 ks), .int p0, .int p1]) (n := 3) (Nat.le_of_ble_eq_true rfl)
  rw [lg_entry_eq]
  generalize (lg_sl ([.ref (ad 46 ks), .int p0, .int p1]) ++ List.replicate (3 - (lg_sl ([.ref (ad 46 ks), .int p0, .int p1])).length) Slot.unset).toArray = ls at hl ⊢
  have hl : lv_has ls 3 [(0, .ref (ad 46 ks)), (1, .int p0), (2, .int p1)] := hl
  refine lv_aload_n hx hb dX7_put_0 rfl (lv_at hl 0 rfl) ?_
  refine fm_getI (a := 46) (j := 1) (T := TX7) (N := 3) hx hb hts hinX7 hown hc hw hI (kl_46 hks) sh_46 rfl (by decide) rfl bd_46_1 (hts (.fieldLink RX7 15 "RedTent$Sheet" "sort" "I") (List.mem_cons_of_mem _ tw_2_85)) (fun _ h9 => h9) dX7_put_1 (fun x1 ex1 bx1 => ?_)
  refine fx_if_ne (tgt := 18) hx hb dX7_put_4 (by decide) rfl (fun c2 => ?_) (fun c2 => ?_)
  · refine lv_aload_n hx hb dX7_put_18 rfl (lv_at hl 0 rfl) ?_
    refine fm_getI (a := 46) (j := 1) (T := TX7) (N := 3) hx hb hts hinX7 hown hc hw hI (kl_46 hks) sh_46 rfl (by decide) rfl bd_46_1 (hts (.fieldLink RX7 15 "RedTent$Sheet" "sort" "I") (List.mem_cons_of_mem _ tw_2_85)) (fun _ h9 => h9) dX7_put_19 (fun x3 ex3 bx3 => ?_)
    obtain rfl : x1 = x3 := by rw [ex3]; exact ex1
    refine lv_iconst (v := 1) hx hb dX7_put_22 (by decide) ?_
    refine fx_icmp_ne (tgt := 37) hx hb dX7_put_23 (by decide) rfl zk_1 (fun c4 => ?_) (fun c4 => ?_)
    · refine lv_aload_n hx hb dX7_put_37 rfl (lv_at hl 0 rfl) ?_
      refine fm_getG (a := 46) (j := 0) (T := TX7) (N := 3) hx hb hts hinX7 hown hc hw (kl_46 hks) sh_46 rfl (by decide) rfl (hI.to (kl_46 hks) tg_46_0) (hts (.fieldLink RX7 9 "RedTent$Sheet" "items" "[I") (List.mem_cons_of_mem _ tw_2_83)) (fun _ h9 => h9) dX7_put_38 ?_
      refine lv_iload_n hx hb dX7_put_41 rfl (lv_at hl 1 rfl) ?_
      refine lv_iload_n hx hb dX7_put_42 rfl (lv_at hl 2 rfl) ?_
      refine fm_iast (a := 47) hx hb hc hw hI hE hS (kl_47 hks) sh_47 ty_47 bd_47 (by omega) (zi_lt _) cd_47 (by decide) dX7_put_43 (fun M5 H locs eM5 hw hI hE hS => ?_)
      exact W.vret hx hb hr (fun t ht hW => ⟨⟨M5, rfl, ⟨hI, hE, trivial⟩, by show fm_at D ad C nb _ t.heap; rw [ht]; exact hw⟩, hS.F ht⟩) hS.2.2 dX7_put_44
    · refine lv_aload_n hx hb dX7_put_26 rfl (lv_at hl 0 rfl) ?_
      refine fm_getG (a := 46) (j := 0) (T := TX7) (N := 3) hx hb hts hinX7 hown hc hw (kl_46 hks) sh_46 rfl (by decide) rfl (hI.to (kl_46 hks) tg_46_0) (hts (.fieldLink RX7 9 "RedTent$Sheet" "items" "[I") (List.mem_cons_of_mem _ tw_2_83)) (fun _ h9 => h9) dX7_put_27 ?_
      refine lv_iload_n hx hb dX7_put_30 rfl (lv_at hl 1 rfl) ?_
      refine lv_iload_n hx hb dX7_put_31 rfl (lv_at hl 2 rfl) ?_
      refine lv_i2s (v := p1.toInt16.toInt32) hx hb dX7_put_32 rfl ?_
      refine lv_topi (fun y6 ey6 => ?_)
      refine fm_iast (a := 47) hx hb hc hw hI hE hS (kl_47 hks) sh_47 ty_47 bd_47 (by omega) (zi_lt _) cd_47 (by decide) dX7_put_33 (fun M7 H locs eM7 hw hI hE hS => ?_)
      refine lv_goto (tgt := 44) hx hb dX7_put_34 (by decide) ?_
      exact W.vret hx hb hr (fun t ht hW => ⟨⟨M7, rfl, ⟨hI, hE, trivial⟩, by show fm_at D ad C nb _ t.heap; rw [ht]; exact hw⟩, hS.F ht⟩) hS.2.2 dX7_put_44
  · refine lv_aload_n hx hb dX7_put_7 rfl (lv_at hl 0 rfl) ?_
    refine fm_getG (a := 46) (j := 0) (T := TX7) (N := 3) hx hb hts hinX7 hown hc hw (kl_46 hks) sh_46 rfl (by decide) rfl (hI.to (kl_46 hks) tg_46_0) (hts (.fieldLink RX7 9 "RedTent$Sheet" "items" "[I") (List.mem_cons_of_mem _ tw_2_83)) (fun _ h9 => h9) dX7_put_8 ?_
    refine lv_iload_n hx hb dX7_put_11 rfl (lv_at hl 1 rfl) ?_
    refine lv_iload_n hx hb dX7_put_12 rfl (lv_at hl 2 rfl) ?_
    refine lv_i2b (v := p1.toInt8.toInt32) hx hb dX7_put_13 rfl ?_
    refine lv_topi (fun y8 ey8 => ?_)
    refine fm_iast (a := 47) hx hb hc hw hI hE hS (kl_47 hks) sh_47 ty_47 bd_47 (by omega) (zi_lt _) cd_47 (by decide) dX7_put_14 (fun M9 H locs eM9 hw hI hE hS => ?_)
    refine lv_goto (tgt := 44) hx hb dX7_put_15 (by decide) ?_
    exact W.vret hx hb hr (fun t ht hW => ⟨⟨M9, rfl, ⟨hI, hE, trivial⟩, by show fm_at D ad C nb _ t.heap; rw [ht]; exact hw⟩, hS.F ht⟩) hS.2.2 dX7_put_44
set_option maxHeartbeats 400000 in
set_option maxRecDepth 20000 in
theorem fc_X9_clear (l : Launch) (D : va_G) (ad : Nat → Nat → Nat) (C : Nat → Nat → ClassId) (nb : Nat) (M : fm_M) (hI : fm_I nb ad M) : Met l yX9_clear wsX9_clear ({ frames := 0, cells := 0, slots := 0, locals := 0 }) (va_Pc [.ref (ad 36 0)] (fm_P D ad C nb M)) (va_Qv (fun (u : fm_M) => fm_I nb ad u ∧ fm_same [36001, 36002] M u ∧ True) (fun u t => fm_at D ad C nb u t.heap) (fm_A nb ad)) 0 0 (fm_A nb ad) := by
  refine Met.ofW (cc := cX9_clear) (maxL := 1) (ret := none) (by decide) rfl ?_
  intro p e s m args below meth c s₁ B hml hv
  obtain ⟨rfl, hw, hc⟩ := hv
  have hx := B.exec
  have hb := B.bytes
  have hr := B.returns
  have hts := atoms_spec (ws := wsX9_clear) B.pre
  have hown : s.vm.findClass RX9 = some m.cls := findClass_of_methodNamed B.named
  have hinX9 : ∀ w ∈ u_ws RX9 TX9 3, w ∈ wsX9_clear := fun w h => List.mem_cons_of_mem _ (iT_X9 w h)
  have hS : va_S (fm_A nb ad) s.heap s.heap [] := va_S.rf
  have hE : fm_same [36001, 36002] M M := fm_same.rf
  have hl := lv_entry ([.ref (ad 36 0)]) (n := 1) (Nat.le_of_ble_eq_true rfl)
  rw [lg_entry_eq]
  generalize (lg_sl ([.ref (ad 36 0)]) ++ List.replicate (1 - (lg_sl ([.ref (ad 36 0)])).length) Slot.unset).toArray = ls at hl ⊢
  have hl : lv_has ls 1 [(0, .ref (ad 36 0))] := hl
  refine lv_aload_n hx hb dX9_clear_0 rfl (lv_at hl 0 rfl) ?_
  refine lv_iconst (v := 0) hx hb dX9_clear_1 (by decide) ?_
  refine fm_putI (a := 36) (j := 1) (T := TX9) (N := 3) hx hb hts hinX9 tyX9 tyX9_ok nmX9 hown hc hw hI hE hS kl_36 sh_36 od_36 rfl (by decide) rfl bd_36_1 (hts (.fieldLink RX9 15 "RedTent$Text" "size" "I") (List.mem_cons_of_mem _ tw_1_187)) (fun _ h9 => h9) rfl (by decide +kernel) (by decide) (by decide) (by decide) dX9_clear_2 (fun M1 H locs eM1 hw hI hE hS => ?_)
  refine lv_aload_n hx hb dX9_clear_5 rfl (lv_at hl 0 rfl) ?_
  refine lv_iconst (v := 0) hx hb dX9_clear_6 (by decide) ?_
  refine fm_putI (a := 36) (j := 2) (T := TX9) (N := 3) hx hb hts hinX9 tyX9 tyX9_ok nmX9 hown hc hw hI hE hS kl_36 sh_36 od_36 rfl (by decide) rfl bd_36_2 (hts (.fieldLink RX9 19 "RedTent$Text" "goFrom" "I") (List.mem_cons_of_mem _ tw_1_189)) (fun _ h9 => h9) rfl (by decide +kernel) (by decide) (by decide) (by decide) dX9_clear_7 (fun M2 H locs eM2 hw hI hE hS => ?_)
  exact W.vret hx hb hr (fun t ht hW => ⟨⟨M2, rfl, ⟨hI, hE, trivial⟩, by show fm_at D ad C nb _ t.heap; rw [ht]; exact hw⟩, hS.F ht⟩) hS.2.2 dX9_clear_10
set_option maxHeartbeats 400000 in
set_option maxRecDepth 20000 in
theorem fc_X9_addStep (l : Launch) (D : va_G) (ad : Nat → Nat → Nat) (C : Nat → Nat → ClassId) (nb : Nat) (M : fm_M) (hI : fm_I nb ad M) (p0 : Int32) : Met l yX9_addStep wsX9_addStep ({ frames := 0, cells := 0, slots := 0, locals := 0 }) (va_Pc [.ref (ad 36 0), .int p0] (fm_P D ad C nb M)) (va_Qv (fun (u : fm_M) => fm_I nb ad u ∧ fm_same [36001, 37000] M u ∧ True) (fun u t => fm_at D ad C nb u t.heap) (fm_A nb ad)) 0 0 (fm_A nb ad) := by
  refine Met.ofW (cc := cX9_addStep) (maxL := 2) (ret := none) (by decide) rfl ?_
  intro p e s m args below meth c s₁ B hml hv
  obtain ⟨rfl, hw, hc⟩ := hv
  have hx := B.exec
  have hb := B.bytes
  have hr := B.returns
  have hts := atoms_spec (ws := wsX9_addStep) B.pre
  have hown : s.vm.findClass RX9 = some m.cls := findClass_of_methodNamed B.named
  have hinX9 : ∀ w ∈ u_ws RX9 TX9 3, w ∈ wsX9_addStep := fun w h => List.mem_cons_of_mem _ (iT_X9 w h)
  have hS : va_S (fm_A nb ad) s.heap s.heap [] := va_S.rf
  have hE : fm_same [36001, 37000] M M := fm_same.rf
  have hl := lv_entry ([.ref (ad 36 0), .int p0]) (n := 2) (Nat.le_of_ble_eq_true rfl)
  rw [lg_entry_eq]
  generalize (lg_sl ([.ref (ad 36 0), .int p0]) ++ List.replicate (2 - (lg_sl ([.ref (ad 36 0), .int p0])).length) Slot.unset).toArray = ls at hl ⊢
  have hl : lv_has ls 2 [(0, .ref (ad 36 0)), (1, .int p0)] := hl
  refine lv_aload_n hx hb dX9_addStep_0 rfl (lv_at hl 0 rfl) ?_
  refine fm_getI (a := 36) (j := 1) (T := TX9) (N := 3) hx hb hts hinX9 hown hc hw hI kl_36 sh_36 rfl (by decide) rfl bd_36_1 (hts (.fieldLink RX9 15 "RedTent$Text" "size" "I") (List.mem_cons_of_mem _ tw_1_187)) (fun _ h9 => h9) dX9_addStep_1 (fun x1 ex1 bx1 => ?_)
  refine lv_sipush (v := 160) hx hb dX9_addStep_4 (by decide) ?_
  refine fx_icmp_ge (tgt := 30) hx hb dX9_addStep_7 (by decide) rfl zk_160 (fun c2 => ?_) (fun c2 => ?_)
  · exact W.vret hx hb hr (fun t ht hW => ⟨⟨M, rfl, ⟨hI, hE, trivial⟩, by show fm_at D ad C nb _ t.heap; rw [ht]; exact hw⟩, hS.F ht⟩) hS.2.2 dX9_addStep_30
  · refine lv_aload_n hx hb dX9_addStep_10 rfl (lv_at hl 0 rfl) ?_
    refine fm_getG (a := 36) (j := 0) (T := TX9) (N := 3) hx hb hts hinX9 hown hc hw kl_36 sh_36 rfl (by decide) rfl (hI.to kl_36 tg_36_0) (hts (.fieldLink RX9 9 "RedTent$Text" "steps" "[I") (List.mem_cons_of_mem _ tw_1_186)) (fun _ h9 => h9) dX9_addStep_11 ?_
    refine lv_aload_n hx hb dX9_addStep_14 rfl (lv_at hl 0 rfl) ?_
    refine fm_getI (a := 36) (j := 1) (T := TX9) (N := 3) hx hb hts hinX9 hown hc hw hI kl_36 sh_36 rfl (by decide) rfl bd_36_1 (hts (.fieldLink RX9 15 "RedTent$Text" "size" "I") (List.mem_cons_of_mem _ tw_1_187)) (fun _ h9 => h9) dX9_addStep_15 (fun x3 ex3 bx3 => ?_)
    obtain rfl : x1 = x3 := by rw [ex3]; exact ex1
    refine lv_iload_n hx hb dX9_addStep_18 rfl (lv_at hl 1 rfl) ?_
    refine fm_iast (a := 37) hx hb hc hw hI hE hS kl_37 sh_37 ty_37 bd_37 (by omega) (zi_lt _) cd_37 (by decide) dX9_addStep_19 (fun M4 H locs eM4 hw hI hE hS => ?_)
    refine lv_aload_n hx hb dX9_addStep_20 rfl (lv_at hl 0 rfl) ?_
    refine lv_dup hx hb dX9_addStep_21 rfl ?_
    refine fm_getI (a := 36) (j := 1) (T := TX9) (N := 3) hx hb hts hinX9 hown hc hw hI kl_36 sh_36 rfl (by decide) rfl bd_36_1 (hts (.fieldLink RX9 15 "RedTent$Text" "size" "I") (List.mem_cons_of_mem _ tw_1_187)) (fun _ h9 => h9) dX9_addStep_22 (fun x5 ex5 bx5 => ?_)
    obtain rfl : x1 = x5 := by rw [ex5, eM4, fm_wI_nj (fun z => absurd z.1 (by decide))]; exact ex1
    refine lv_iconst (v := 1) hx hb dX9_addStep_25 (by decide) ?_
    refine fx_iadd hx hb dX9_addStep_26 rfl zk_1 (by omega) (fun y6 ey6 ty6 => ?_)
    refine fm_putI (a := 36) (j := 1) (T := TX9) (N := 3) hx hb hts hinX9 tyX9 tyX9_ok nmX9 hown hc hw hI hE hS kl_36 sh_36 od_36 rfl (by decide) rfl bd_36_1 (hts (.fieldLink RX9 15 "RedTent$Text" "size" "I") (List.mem_cons_of_mem _ tw_1_187)) (fun _ h9 => h9) rfl (by decide +kernel) (by omega) (by decide) (by decide) dX9_addStep_27 (fun M7 H locs eM7 hw hI hE hS => ?_)
    exact W.vret hx hb hr (fun t ht hW => ⟨⟨M7, rfl, ⟨hI, hE, trivial⟩, by show fm_at D ad C nb _ t.heap; rw [ht]; exact hw⟩, hS.F ht⟩) hS.2.2 dX9_addStep_30
set_option maxHeartbeats 400000 in
set_option maxRecDepth 20000 in
theorem fc_X9_become (l : Launch) (D : va_G) (ad : Nat → Nat → Nat) (C : Nat → Nat → ClassId) (nb : Nat) (M : fm_M) (hI : fm_I nb ad M) (kt : Nat) (hkt : kt < 6) : Met l yX9_become wsX9_become ({ frames := 1, cells := 0, slots := 0, locals := 40 }) (va_Pc [.ref (ad 48 kt), .ref (ad 36 0)] (fm_P D ad C nb M)) (va_Qv (fun (u : fm_M) => fm_I nb ad u ∧ fm_same [48001, 48002, 49000] M u ∧ True) (fun u t => fm_at D ad C nb u t.heap) (fm_A nb ad)) 0 0 (fm_A nb ad) := by
  refine Met.ofW (cc := cX9_become) (maxL := 2) (ret := none) (by decide) rfl ?_
  intro p e s m args below meth c s₁ B hml hv
  obtain ⟨rfl, hw, hc⟩ := hv
  have hx := B.exec
  have hb := B.bytes
  have hr := B.returns
  have hts := atoms_spec (ws := wsX9_become) B.pre
  have hown : s.vm.findClass RX9 = some m.cls := findClass_of_methodNamed B.named
  have hinX9 : ∀ w ∈ u_ws RX9 TX9 3, w ∈ wsX9_become := fun w h => List.mem_cons_of_mem _ (iT_X9 w h)
  have hS : va_S (fm_A nb ad) s.heap s.heap [] := va_S.rf
  have hE : fm_same [48001, 48002, 49000] M M := fm_same.rf
  have hl := lv_entry ([.ref (ad 48 kt), .ref (ad 36 0)]) (n := 2) (Nat.le_of_ble_eq_true rfl)
  rw [lg_entry_eq]
  generalize (lg_sl ([.ref (ad 48 kt), .ref (ad 36 0)]) ++ List.replicate (2 - (lg_sl ([.ref (ad 48 kt), .ref (ad 36 0)])).length) Slot.unset).toArray = ls at hl ⊢
  have hl : lv_has ls 2 [(0, .ref (ad 48 kt)), (1, .ref (ad 36 0))] := hl
  refine lv_aload_n hx hb dX9_become_0 rfl (lv_at hl 1 rfl) ?_
  refine fm_getG (a := 36) (j := 0) (T := TX9) (N := 3) hx hb hts hinX9 hown hc hw kl_36 sh_36 rfl (by decide) rfl (hI.to kl_36 tg_36_0) (hts (.fieldLink RX9 9 "RedTent$Text" "steps" "[I") (List.mem_cons_of_mem _ tw_1_186)) (fun _ h9 => h9) dX9_become_1 ?_
  refine lv_iconst (v := 0) hx hb dX9_become_4 (by decide) ?_
  refine lv_aload_n hx hb dX9_become_5 rfl (lv_at hl 0 rfl) ?_
  refine fm_getG (a := 48) (j := 0) (T := TX9) (N := 3) hx hb hts hinX9 hown hc hw (kl_48 hkt) sh_48 rfl (by decide) rfl (hI.to (kl_48 hkt) tg_48_0) (hts (.fieldLink RX9 9 "RedTent$Text" "steps" "[I") (List.mem_cons_of_mem _ tw_1_186)) (fun _ h9 => h9) dX9_become_6 ?_
  refine lv_iconst (v := 0) hx hb dX9_become_9 (by decide) ?_
  refine lv_sipush (v := 160) hx hb dX9_become_10 (by decide) ?_
  refine fm_copy (a := 37) (b := 49) hx hb (by rw [hml]; exact hl.1.symm) hown (hts (.methodLink RX9 35 arraycopyName) (List.mem_cons_of_mem _ tw_4_199)) (hts (.native arraycopyName) (List.mem_cons_of_mem _ tw_3_238)) (hts (.static arraycopyName) (List.mem_cons_of_mem _ tw_3_237)) (hts (.initialized "java/lang/System") (List.mem_cons_of_mem _ tw_1_20)) hc hw hI hE hS kl_37 sh_37 ty_37 bd_37 (kl_49 hkt) sh_49 ty_49 bd_49 zk_0 zk_0 zk_160 (by omega) (Nat.le_of_ble_eq_true rfl) (by decide) cd_49 (by decide) dX9_become_13 (fun M1 H locs eM1 hw hI hE hS => ?_)
  refine lv_aload_n hx hb dX9_become_16 rfl (lv_at hl 0 rfl) ?_
  refine lv_aload_n hx hb dX9_become_17 rfl (lv_at hl 1 rfl) ?_
  refine fm_getI (a := 36) (j := 1) (T := TX9) (N := 3) hx hb hts hinX9 hown hc hw hI kl_36 sh_36 rfl (by decide) rfl bd_36_1 (hts (.fieldLink RX9 15 "RedTent$Text" "size" "I") (List.mem_cons_of_mem _ tw_1_187)) (fun _ h9 => h9) dX9_become_18 (fun x2 ex2 bx2 => ?_)
  refine fm_putI (a := 48) (j := 1) (T := TX9) (N := 3) hx hb hts hinX9 tyX9 tyX9_ok nmX9 hown hc hw hI hE hS (kl_48 hkt) sh_48 od_48 rfl (by decide) rfl bd_48_1 (hts (.fieldLink RX9 15 "RedTent$Text" "size" "I") (List.mem_cons_of_mem _ tw_1_187)) (fun _ h9 => h9) rfl (by decide +kernel) (by omega) (by decide) (by decide) dX9_become_21 (fun M3 H locs eM3 hw hI hE hS => ?_)
  refine lv_aload_n hx hb dX9_become_24 rfl (lv_at hl 0 rfl) ?_
  refine lv_aload_n hx hb dX9_become_25 rfl (lv_at hl 1 rfl) ?_
  refine fm_getI (a := 36) (j := 2) (T := TX9) (N := 3) hx hb hts hinX9 hown hc hw hI kl_36 sh_36 rfl (by decide) rfl bd_36_2 (hts (.fieldLink RX9 19 "RedTent$Text" "goFrom" "I") (List.mem_cons_of_mem _ tw_1_189)) (fun _ h9 => h9) dX9_become_26 (fun x4 ex4 bx4 => ?_)
  refine fm_putI (a := 48) (j := 2) (T := TX9) (N := 3) hx hb hts hinX9 tyX9 tyX9_ok nmX9 hown hc hw hI hE hS (kl_48 hkt) sh_48 od_48 rfl (by decide) rfl bd_48_2 (hts (.fieldLink RX9 19 "RedTent$Text" "goFrom" "I") (List.mem_cons_of_mem _ tw_1_189)) (fun _ h9 => h9) rfl (by decide +kernel) (by omega) (by decide) (by decide) dX9_become_29 (fun M5 H locs eM5 hw hI hE hS => ?_)
  exact W.vret hx hb hr (fun t ht hW => ⟨⟨M5, rfl, ⟨hI, hE, trivial⟩, by show fm_at D ad C nb _ t.heap; rw [ht]; exact hw⟩, hS.F ht⟩) hS.2.2 dX9_become_32
set_option maxHeartbeats 400000 in
set_option maxRecDepth 20000 in
theorem fc_X9_put (l : Launch) (D : va_G) (ad : Nat → Nat → Nat) (C : Nat → Nat → ClassId) (nb : Nat) (M : fm_M) (hI : fm_I nb ad M) (p0 p1 : Int32) (b_p1 : 0 ≤ p1.toInt ∧ p1.toInt ≤ 64) : Met l yX9_put wsX9_put ({ frames := 0, cells := 0, slots := 0, locals := 0 }) (va_Pc [.int p0, .ref (ad 31 0), .int p1] (fm_P D ad C nb M)) (va_Qi (fun (r : Int32) (u : fm_M) => fm_I nb ad u ∧ fm_same [31000] M u ∧ (0 ≤ r.toInt ∧ r.toInt ≤ 64)) (fun u t => fm_at D ad C nb u t.heap) (fm_A nb ad)) 0 0 (fm_A nb ad) := by
  refine Met.ofW (cc := cX9_put) (maxL := 3) (ret := (some .int)) (by decide) rfl ?_
  intro p e s m args below meth c s₁ B hml hv
  obtain ⟨rfl, hw, hc⟩ := hv
  have hx := B.exec
  have hb := B.bytes
  have hr := B.returns
  have hts := atoms_spec (ws := wsX9_put) B.pre
  have hown : s.vm.findClass RX9 = some m.cls := findClass_of_methodNamed B.named
  have hS : va_S (fm_A nb ad) s.heap s.heap [] := va_S.rf
  have hE : fm_same [31000] M M := fm_same.rf
  have hl := lv_entry ([.int p0, .ref (ad 31 0), .int p1]) (n := 3) (Nat.le_of_ble_eq_true rfl)
  rw [lg_entry_eq]
  generalize (lg_sl ([.int p0, .ref (ad 31 0), .int p1]) ++ List.replicate (3 - (lg_sl ([.int p0, .ref (ad 31 0), .int p1])).length) Slot.unset).toArray = ls at hl ⊢
  have hl : lv_has ls 3 [(0, .int p0), (1, .ref (ad 31 0)), (2, .int p1)] := hl
  refine lv_iload_n hx hb dX9_put_0 rfl (lv_at hl 2 rfl) ?_
  refine lv_aload_n hx hb dX9_put_1 rfl (lv_at hl 1 rfl) ?_
  refine fm_alen (a := 31) (v := 64) hx hb hc hw kl_31 sh_31 (by decide) (by decide) dX9_put_2 ?_
  refine fx_icmp_lt (tgt := 8) hx hb dX9_put_3 (by decide) rfl zk_64 (fun c1 => ?_) (fun c1 => ?_)
  · refine lv_aload_n hx hb dX9_put_8 rfl (lv_at hl 1 rfl) ?_
    refine lv_iload_n hx hb dX9_put_9 rfl (lv_at hl 2 rfl) ?_
    refine lv_iload_n hx hb dX9_put_10 rfl (lv_at hl 0 rfl) ?_
    refine fm_iast (a := 31) hx hb hc hw hI hE hS kl_31 sh_31 ty_31 bd_31 (by omega) (zi_lt _) cd_31 (by decide) dX9_put_11 (fun M2 H locs eM2 hw hI hE hS => ?_)
    refine lv_iload_n hx hb dX9_put_12 rfl (lv_at hl 2 rfl) ?_
    refine lv_iconst (v := 1) hx hb dX9_put_13 (by decide) ?_
    refine fx_iadd hx hb dX9_put_14 rfl zk_1 (by omega) (fun y3 ey3 ty3 => ?_)
    exact W.iret (v := y3) hx hb hr (fun t ht hW => ⟨⟨y3, M2, rfl, ⟨hI, hE, (by omega)⟩, by show fm_at D ad C nb _ t.heap; rw [ht]; exact hw⟩, hS.F ht⟩) hS.2.2 dX9_put_15
  · refine lv_iload_n hx hb dX9_put_6 rfl (lv_at hl 2 rfl) ?_
    exact W.iret (v := p1) hx hb hr (fun t ht hW => ⟨⟨p1, M, rfl, ⟨hI, hE, (by omega)⟩, by show fm_at D ad C nb _ t.heap; rw [ht]; exact hw⟩, hS.F ht⟩) hS.2.2 dX9_put_7
set_option maxHeartbeats 400000 in
set_option maxRecDepth 20000 in
theorem fc_X9_afterStep (l : Launch) (D : va_G) (ad : Nat → Nat → Nat) (C : Nat → Nat → ClassId) (nb : Nat) (M : fm_M) (hI : fm_I nb ad M) (p0 p1 : Int32) (b_p1 : 0 ≤ p1.toInt ∧ p1.toInt ≤ 64) : Met l yX9_afterStep wsX9_afterStep ({ frames := 2, cells := 0, slots := 0, locals := 42 }) (va_Pc [.int p0, .ref (ad 30 0), .ref (ad 31 0), .int p1] (fm_P D ad C nb M)) (va_Qi (fun (r : Int32) (u : fm_M) => fm_I nb ad u ∧ fm_same [31000] M u ∧ (0 ≤ r.toInt ∧ r.toInt ≤ 64)) (fun u t => fm_at D ad C nb u t.heap) (fm_A nb ad)) 0 0 (fm_A nb ad) := by
  refine Met.ofW (cc := cX9_afterStep) (maxL := 4) (ret := (some .int)) (by decide) rfl ?_
  intro p e s m args below meth c s₁ B hml hv
  obtain ⟨rfl, hw, hc⟩ := hv
  have hx := B.exec
  have hb := B.bytes
  have hr := B.returns
  have hts := atoms_spec (ws := wsX9_afterStep) B.pre
  have hown : s.vm.findClass RX9 = some m.cls := findClass_of_methodNamed B.named
  have hS : va_S (fm_A nb ad) s.heap s.heap [] := va_S.rf
  have hE : fm_same [31000] M M := fm_same.rf
  have hl := lv_entry ([.int p0, .ref (ad 30 0), .ref (ad 31 0), .int p1]) (n := 4) (Nat.le_of_ble_eq_true rfl)
  rw [lg_entry_eq]
  generalize (lg_sl ([.int p0, .ref (ad 30 0), .ref (ad 31 0), .int p1]) ++ List.replicate (4 - (lg_sl ([.int p0, .ref (ad 30 0), .ref (ad 31 0), .int p1])).length) Slot.unset).toArray = ls at hl ⊢
  have hl : lv_has ls 4 [(0, .int p0), (1, .ref (ad 30 0)), (2, .ref (ad 31 0)), (3, .int p1)] := hl
  refine lv_iload_n hx hb dX9_afterStep_0 rfl (lv_at hl 0 rfl) ?_
  refine lv_bipush (v := (-6)) hx hb dX9_afterStep_1 (by decide) ?_
  refine fx_icmp_lt (tgt := 25) hx hb dX9_afterStep_3 (by decide) rfl zk_m6 (fun c1 => ?_) (fun c1 => ?_)
  · refine lv_iload_n hx hb dX9_afterStep_25 rfl (lv_at hl 0 rfl) ?_
    refine lv_bipush (v := (-13)) hx hb dX9_afterStep_26 (by decide) ?_
    refine fx_icmp_eq (tgt := 37) hx hb dX9_afterStep_28 (by decide) rfl zk_m13 (fun c2 => ?_) (fun c2 => ?_)
    · refine lv_iload_n hx hb dX9_afterStep_37 rfl (lv_at hl 3 rfl) ?_
      refine fx_if_le (tgt := 77) hx hb dX9_afterStep_38 (by decide) rfl (fun c3 => ?_) (fun c3 => ?_)
      · refine lv_iload_n hx hb dX9_afterStep_77 rfl (lv_at hl 3 rfl) ?_
        exact W.iret (v := p1) hx hb hr (fun t ht hW => ⟨⟨p1, M, rfl, ⟨hI, hE, (by omega)⟩, by show fm_at D ad C nb _ t.heap; rw [ht]; exact hw⟩, hS.F ht⟩) hS.2.2 dX9_afterStep_78
      · refine lv_aload_n hx hb dX9_afterStep_41 rfl (lv_at hl 2 rfl) ?_
        refine lv_iload_n hx hb dX9_afterStep_42 rfl (lv_at hl 3 rfl) ?_
        refine lv_iconst (v := 1) hx hb dX9_afterStep_43 (by decide) ?_
        refine fx_isub hx hb dX9_afterStep_44 rfl zk_1 (by omega) (fun y4 ey4 ty4 => ?_)
        refine lv_iload_n hx hb dX9_afterStep_45 rfl (lv_at hl 0 rfl) ?_
        refine lv_bipush (v := (-19)) hx hb dX9_afterStep_46 (by decide) ?_
        refine fx_icmp_ne (tgt := 60) hx hb dX9_afterStep_48 (by decide) rfl zk_m19 (fun c5 => ?_) (fun c5 => by exfalso; omega)
        refine lv_aload_n hx hb dX9_afterStep_60 rfl (lv_at hl 2 rfl) ?_
        refine lv_iload_n hx hb dX9_afterStep_61 rfl (lv_at hl 3 rfl) ?_
        refine lv_iconst (v := 1) hx hb dX9_afterStep_62 (by decide) ?_
        refine fx_isub hx hb dX9_afterStep_63 rfl zk_1 (by omega) (fun y6 ey6 ty6 => ?_)
        refine fm_iald (a := 31) hx hb hc hw hI kl_31 sh_31 ty_31 bd_31 (by omega) dX9_afterStep_64 (fun x7 ex7 bx7 => ?_)
        refine fx_if_ne (tgt := 72) hx hb dX9_afterStep_65 (by decide) rfl (fun c8 => ?_) (fun c8 => ?_)
        · refine lv_iconst (v := 0) hx hb dX9_afterStep_72 (by decide) ?_
          refine vp_callSi (va_Run.run (va_runS (As := [.int 0]) (rest := [.int y4, .ref (ad 31 0)]) ⟨hx, hb, hml, hown, hts⟩ (fc_X9_truth l 0) (va_cwS 1 hts gX9_afterStep_X9_truth rfl rfl rfl (by decide +kernel) ⟨Nat.le_of_ble_eq_true rfl, Nat.le_of_ble_eq_true rfl⟩) ⟨fun a U g mk q => q, fun U hU hW => ⟨rfl, trivial⟩⟩ rfl rfl hl.1 rfl (lv_room (Nat.le_of_ble_eq_true rfl)) dX9_afterStep_73 ⟨by decide +kernel, by decide +kernel⟩)) (fun r9 hr9 => ?_)
          refine fm_iast (a := 31) hx hb hc hw hI hE hS kl_31 sh_31 ty_31 bd_31 (by omega) (zi_lt _) cd_31 (by decide) dX9_afterStep_76 (fun M10 H locs eM10 hw hI hE hS => ?_)
          refine lv_iload_n hx hb dX9_afterStep_77 rfl (lv_at hl 3 rfl) ?_
          exact W.iret (v := p1) hx hb hr (fun t ht hW => ⟨⟨p1, M10, rfl, ⟨hI, hE, (by omega)⟩, by show fm_at D ad C nb _ t.heap; rw [ht]; exact hw⟩, hS.F ht⟩) hS.2.2 dX9_afterStep_78
        · refine lv_iconst (v := 1) hx hb dX9_afterStep_68 (by decide) ?_
          refine lv_goto (tgt := 73) hx hb dX9_afterStep_69 (by decide) ?_
          refine vp_callSi (va_Run.run (va_runS (As := [.int 1]) (rest := [.int y4, .ref (ad 31 0)]) ⟨hx, hb, hml, hown, hts⟩ (fc_X9_truth l 1) (va_cwS 1 hts gX9_afterStep_X9_truth rfl rfl rfl (by decide +kernel) ⟨Nat.le_of_ble_eq_true rfl, Nat.le_of_ble_eq_true rfl⟩) ⟨fun a U g mk q => q, fun U hU hW => ⟨rfl, trivial⟩⟩ rfl rfl hl.1 rfl (lv_room (Nat.le_of_ble_eq_true rfl)) dX9_afterStep_73 ⟨by decide +kernel, by decide +kernel⟩)) (fun r11 hr11 => ?_)
          refine fm_iast (a := 31) hx hb hc hw hI hE hS kl_31 sh_31 ty_31 bd_31 (by omega) (zi_lt _) cd_31 (by decide) dX9_afterStep_76 (fun M12 H locs eM12 hw hI hE hS => ?_)
          refine lv_iload_n hx hb dX9_afterStep_77 rfl (lv_at hl 3 rfl) ?_
          exact W.iret (v := p1) hx hb hr (fun t ht hW => ⟨⟨p1, M12, rfl, ⟨hI, hE, (by omega)⟩, by show fm_at D ad C nb _ t.heap; rw [ht]; exact hw⟩, hS.F ht⟩) hS.2.2 dX9_afterStep_78
    · refine lv_iload_n hx hb dX9_afterStep_31 rfl (lv_at hl 0 rfl) ?_
      refine lv_bipush (v := (-19)) hx hb dX9_afterStep_32 (by decide) ?_
      refine fx_icmp_ne (tgt := 79) hx hb dX9_afterStep_34 (by decide) rfl zk_m19 (fun c13 => ?_) (fun c13 => ?_)
      · refine lv_iload_n hx hb dX9_afterStep_79 rfl (lv_at hl 3 rfl) ?_
        refine lv_iconst (v := 2) hx hb dX9_afterStep_80 (by decide) ?_
        refine fx_icmp_ge (tgt := 86) hx hb dX9_afterStep_81 (by decide) rfl zk_2 (fun c14 => ?_) (fun c14 => ?_)
        · refine lv_aload_n hx hb dX9_afterStep_86 rfl (lv_at hl 2 rfl) ?_
          refine lv_iload_n hx hb dX9_afterStep_87 rfl (lv_at hl 3 rfl) ?_
          refine lv_iconst (v := 2) hx hb dX9_afterStep_88 (by decide) ?_
          refine fx_isub hx hb dX9_afterStep_89 rfl zk_2 (by omega) (fun y15 ey15 ty15 => ?_)
          refine lv_iload_n hx hb dX9_afterStep_90 rfl (lv_at hl 0 rfl) ?_
          refine lv_aload_n hx hb dX9_afterStep_91 rfl (lv_at hl 2 rfl) ?_
          refine lv_iload_n hx hb dX9_afterStep_92 rfl (lv_at hl 3 rfl) ?_
          refine lv_iconst (v := 2) hx hb dX9_afterStep_93 (by decide) ?_
          refine fx_isub hx hb dX9_afterStep_94 rfl zk_2 (by omega) (fun y16 ey16 ty16 => ?_)
          refine fm_iald (a := 31) hx hb hc hw hI kl_31 sh_31 ty_31 bd_31 (by omega) dX9_afterStep_95 (fun x17 ex17 bx17 => ?_)
          refine lv_aload_n hx hb dX9_afterStep_96 rfl (lv_at hl 2 rfl) ?_
          refine lv_iload_n hx hb dX9_afterStep_97 rfl (lv_at hl 3 rfl) ?_
          refine lv_iconst (v := 1) hx hb dX9_afterStep_98 (by decide) ?_
          refine fx_isub hx hb dX9_afterStep_99 rfl zk_1 (by omega) (fun y18 ey18 ty18 => ?_)
          refine fm_iald (a := 31) hx hb hc hw hI kl_31 sh_31 ty_31 bd_31 (by omega) dX9_afterStep_100 (fun x19 ex19 bx19 => ?_)
          refine vp_callSi (va_Run.run (va_runS (As := [.int p0, .int x17, .int x19]) (rest := [.int y15, .ref (ad 31 0)]) ⟨hx, hb, hml, hown, hts⟩ (fc_X9_joined l p0 x17 x19) (va_cwS 3 hts gX9_afterStep_X9_joined rfl rfl rfl (by decide +kernel) ⟨Nat.le_of_ble_eq_true rfl, Nat.le_of_ble_eq_true rfl⟩) ⟨fun a U g mk q => q, fun U hU hW => ⟨rfl, trivial⟩⟩ rfl rfl hl.1 rfl (lv_room (Nat.le_of_ble_eq_true rfl)) dX9_afterStep_101 ⟨by decide +kernel, by decide +kernel⟩)) (fun r20 hr20 => ?_)
          refine fm_iast (a := 31) hx hb hc hw hI hE hS kl_31 sh_31 ty_31 bd_31 (by omega) (zi_lt _) cd_31 (by decide) dX9_afterStep_104 (fun M21 H locs eM21 hw hI hE hS => ?_)
          refine lv_iload_n hx hb dX9_afterStep_105 rfl (lv_at hl 3 rfl) ?_
          refine lv_iconst (v := 1) hx hb dX9_afterStep_106 (by decide) ?_
          refine fx_isub hx hb dX9_afterStep_107 rfl zk_1 (by omega) (fun y22 ey22 ty22 => ?_)
          exact W.iret (v := y22) hx hb hr (fun t ht hW => ⟨⟨y22, M21, rfl, ⟨hI, hE, (by omega)⟩, by show fm_at D ad C nb _ t.heap; rw [ht]; exact hw⟩, hS.F ht⟩) hS.2.2 dX9_afterStep_108
        · refine lv_iload_n hx hb dX9_afterStep_84 rfl (lv_at hl 3 rfl) ?_
          exact W.iret (v := p1) hx hb hr (fun t ht hW => ⟨⟨p1, M, rfl, ⟨hI, hE, (by omega)⟩, by show fm_at D ad C nb _ t.heap; rw [ht]; exact hw⟩, hS.F ht⟩) hS.2.2 dX9_afterStep_85
      · refine lv_iload_n hx hb dX9_afterStep_37 rfl (lv_at hl 3 rfl) ?_
        refine fx_if_le (tgt := 77) hx hb dX9_afterStep_38 (by decide) rfl (fun c23 => ?_) (fun c23 => ?_)
        · refine lv_iload_n hx hb dX9_afterStep_77 rfl (lv_at hl 3 rfl) ?_
          exact W.iret (v := p1) hx hb hr (fun t ht hW => ⟨⟨p1, M, rfl, ⟨hI, hE, (by omega)⟩, by show fm_at D ad C nb _ t.heap; rw [ht]; exact hw⟩, hS.F ht⟩) hS.2.2 dX9_afterStep_78
        · refine lv_aload_n hx hb dX9_afterStep_41 rfl (lv_at hl 2 rfl) ?_
          refine lv_iload_n hx hb dX9_afterStep_42 rfl (lv_at hl 3 rfl) ?_
          refine lv_iconst (v := 1) hx hb dX9_afterStep_43 (by decide) ?_
          refine fx_isub hx hb dX9_afterStep_44 rfl zk_1 (by omega) (fun y24 ey24 ty24 => ?_)
          refine lv_iload_n hx hb dX9_afterStep_45 rfl (lv_at hl 0 rfl) ?_
          refine lv_bipush (v := (-19)) hx hb dX9_afterStep_46 (by decide) ?_
          refine fx_icmp_ne (tgt := 60) hx hb dX9_afterStep_48 (by decide) rfl zk_m19 (fun c25 => by exfalso; omega) (fun c25 => ?_)
          refine lv_aload_n hx hb dX9_afterStep_51 rfl (lv_at hl 2 rfl) ?_
          refine lv_iload_n hx hb dX9_afterStep_52 rfl (lv_at hl 3 rfl) ?_
          refine lv_iconst (v := 1) hx hb dX9_afterStep_53 (by decide) ?_
          refine fx_isub hx hb dX9_afterStep_54 rfl zk_1 (by omega) (fun y26 ey26 ty26 => ?_)
          refine fm_iald (a := 31) hx hb hc hw hI kl_31 sh_31 ty_31 bd_31 (by omega) dX9_afterStep_55 (fun x27 ex27 bx27 => ?_)
          refine lv_ineg hx hb dX9_afterStep_56 ?_
          refine lv_topi (fun y28 ey28 => ?_)
          refine lv_goto (tgt := 76) hx hb dX9_afterStep_57 (by decide) ?_
          refine fm_iast (a := 31) hx hb hc hw hI hE hS kl_31 sh_31 ty_31 bd_31 (by omega) (zi_lt _) cd_31 (by decide) dX9_afterStep_76 (fun M29 H locs eM29 hw hI hE hS => ?_)
          refine lv_iload_n hx hb dX9_afterStep_77 rfl (lv_at hl 3 rfl) ?_
          exact W.iret (v := p1) hx hb hr (fun t ht hW => ⟨⟨p1, M29, rfl, ⟨hI, hE, (by omega)⟩, by show fm_at D ad C nb _ t.heap; rw [ht]; exact hw⟩, hS.F ht⟩) hS.2.2 dX9_afterStep_78
  · refine lv_iload_n hx hb dX9_afterStep_6 rfl (lv_at hl 0 rfl) ?_
    refine fx_if_lt (tgt := 14) hx hb dX9_afterStep_7 (by decide) rfl (fun c30 => ?_) (fun c30 => ?_)
    · refine lv_aload_n hx hb dX9_afterStep_14 rfl (lv_at hl 1 rfl) ?_
      refine lv_iconst (v := (-1)) hx hb dX9_afterStep_15 (by decide) ?_
      refine lv_iload_n hx hb dX9_afterStep_16 rfl (lv_at hl 0 rfl) ?_
      refine fx_isub hx hb dX9_afterStep_17 zk_m1 rfl (by omega) (fun y31 ey31 ty31 => ?_)
      refine fm_iald (a := 30) hx hb hc hw hI kl_30 sh_30 ty_30 bd_30 (by omega) dX9_afterStep_18 (fun x32 ex32 bx32 => ?_)
      refine lv_aload_n hx hb dX9_afterStep_19 rfl (lv_at hl 2 rfl) ?_
      refine lv_iload_n hx hb dX9_afterStep_20 rfl (lv_at hl 3 rfl) ?_
      refine fm_ci (va_runS (As := [.int x32, .ref (ad 31 0), .int p1]) (rest := []) ⟨hx, hb, hml, hown, hts⟩ (fc_X9_put l D ad C nb M hI x32 p1 (by omega)) (va_cwS 3 hts gX9_afterStep_X9_put rfl rfl rfl (by decide +kernel) ⟨Nat.le_of_ble_eq_true rfl, Nat.le_of_ble_eq_true rfl⟩) (fm_preS hc hw hS) rfl rfl hl.1 rfl (lv_room (Nat.le_of_ble_eq_true rfl)) dX9_afterStep_21 ⟨by decide +kernel, by decide +kernel⟩) hS hc (fun r33 M34 H locs hr33 hw hS => ?_)
      obtain ⟨hI, hEM34, hr33⟩ := hr33
      have hE := hE.tr hEM34 (by decide)
      exact W.iret (v := r33) hx hb hr (fun t ht hW => ⟨⟨r33, M34, rfl, ⟨hI, hE, (by omega)⟩, by show fm_at D ad C nb _ t.heap; rw [ht]; exact hw⟩, hS.F ht⟩) hS.2.2 dX9_afterStep_24
    · refine lv_iload_n hx hb dX9_afterStep_10 rfl (lv_at hl 0 rfl) ?_
      refine lv_goto (tgt := 19) hx hb dX9_afterStep_11 (by decide) ?_
      refine lv_aload_n hx hb dX9_afterStep_19 rfl (lv_at hl 2 rfl) ?_
      refine lv_iload_n hx hb dX9_afterStep_20 rfl (lv_at hl 3 rfl) ?_
      refine fm_ci (va_runS (As := [.int p0, .ref (ad 31 0), .int p1]) (rest := []) ⟨hx, hb, hml, hown, hts⟩ (fc_X9_put l D ad C nb M hI p0 p1 (by omega)) (va_cwS 3 hts gX9_afterStep_X9_put rfl rfl rfl (by decide +kernel) ⟨Nat.le_of_ble_eq_true rfl, Nat.le_of_ble_eq_true rfl⟩) (fm_preS hc hw hS) rfl rfl hl.1 rfl (lv_room (Nat.le_of_ble_eq_true rfl)) dX9_afterStep_21 ⟨by decide +kernel, by decide +kernel⟩) hS hc (fun r35 M36 H locs hr35 hw hS => ?_)
      obtain ⟨hI, hEM36, hr35⟩ := hr35
      have hE := hE.tr hEM36 (by decide)
      exact W.iret (v := r35) hx hb hr (fun t ht hW => ⟨⟨r35, M36, rfl, ⟨hI, hE, (by omega)⟩, by show fm_at D ad C nb _ t.heap; rw [ht]; exact hw⟩, hS.F ht⟩) hS.2.2 dX9_afterStep_24
set_option maxHeartbeats 400000 in
set_option maxRecDepth 20000 in
theorem fc_X9_valueOf (l : Launch) (D : va_G) (ad : Nat → Nat → Nat) (C : Nat → Nat → ClassId) (nb : Nat) (M : fm_M) (hI : fm_I nb ad M) (kt : Nat) (hkt : kt < 6) (p0 : Int32) : Met l yX9_valueOf wsX9_valueOf ({ frames := 3, cells := 0, slots := 0, locals := 65 }) (va_Pc [.ref (ad 48 kt), .int p0, .ref (ad 30 0), .ref (ad 31 0)] (fm_P D ad C nb M)) (va_Qi (fun (r : Int32) (u : fm_M) => fm_I nb ad u ∧ fm_same [31000] M u ∧ True) (fun u t => fm_at D ad C nb u t.heap) (fm_A nb ad)) 0 0 (fm_A nb ad) := by
  refine Met.ofW (cc := cX9_valueOf) (maxL := 8) (ret := (some .int)) (by decide) rfl ?_
  intro p e s m args below meth c s₁ B hml hv
  obtain ⟨rfl, hw, hc⟩ := hv
  have hx := B.exec
  have hb := B.bytes
  have hr := B.returns
  have hts := atoms_spec (ws := wsX9_valueOf) B.pre
  have hown : s.vm.findClass RX9 = some m.cls := findClass_of_methodNamed B.named
  have hinX9 : ∀ w ∈ u_ws RX9 TX9 3, w ∈ wsX9_valueOf := fun w h => List.mem_cons_of_mem _ (iT_X9 w h)
  have hS : va_S (fm_A nb ad) s.heap s.heap [] := va_S.rf
  have hE : fm_same [31000] M M := fm_same.rf
  have hl := lv_entry ([.ref (ad 48 kt), .int p0, .ref (ad 30 0), .ref (ad 31 0)]) (n := 8) (Nat.le_of_ble_eq_true rfl)
  rw [lg_entry_eq]
  generalize (lg_sl ([.ref (ad 48 kt), .int p0, .ref (ad 30 0), .ref (ad 31 0)]) ++ List.replicate (8 - (lg_sl ([.ref (ad 48 kt), .int p0, .ref (ad 30 0), .ref (ad 31 0)])).length) Slot.unset).toArray = ls at hl ⊢
  have hl : lv_has ls 8 [(0, .ref (ad 48 kt)), (1, .int p0), (2, .ref (ad 30 0)), (3, .ref (ad 31 0))] := hl
  have j1 : ∀ (j1_4 : Int32) (M_j1 : fm_M), (0 ≤ j1_4.toInt ∧ j1_4.toInt ≤ 160) → fm_I nb ad M_j1 → fm_same [31000] M M_j1 → ∀ (H : Heap) (locs : List Loc), fm_at D ad C nb M_j1 H → va_S (fm_A nb ad) s.heap H locs → ∀ (ls : Array Slot), lv_has ls 8 [(0, .ref (ad 48 kt)), (1, .int p0), (2, .ref (ad 30 0)), (3, .ref (ad 31 0)), (4, .int j1_4)] → W p l e (headSpec wsX9_valueOf ({ frames := 3, cells := 0, slots := 0, locals := 65 })).room s m ([.ref (ad 48 kt), .int p0, .ref (ad 30 0), .ref (ad 31 0)] : List Value).toArray below meth c H locs 0 0 (MQ below (va_Qi (fun (r : Int32) (u : fm_M) => fm_I nb ad u ∧ fm_same [31000] M u ∧ True) (fun u t => fm_at D ad C nb u t.heap) (fm_A nb ad)) ([.ref (ad 48 kt), .int p0, .ref (ad 30 0), .ref (ad 31 0)] : List Value).toArray s 0 0 (fm_A nb ad)) (F0 m 14 ls []) := by
    intro j1_4 M_j1 b_j1_4 hI hE H locs hw hS ls hl
    have j2 : ∀ (j2_5 : Int32) (M_j2 : fm_M), (0 ≤ j2_5.toInt ∧ j2_5.toInt ≤ 160) → fm_I nb ad M_j2 → fm_same [31000] M M_j2 → ∀ (H : Heap) (locs : List Loc), fm_at D ad C nb M_j2 H → va_S (fm_A nb ad) s.heap H locs → ∀ (ls : Array Slot), lv_has ls 8 [(0, .ref (ad 48 kt)), (1, .int p0), (2, .ref (ad 30 0)), (3, .ref (ad 31 0)), (4, .int j1_4), (5, .int j2_5)] → W p l e (headSpec wsX9_valueOf ({ frames := 3, cells := 0, slots := 0, locals := 65 })).room s m ([.ref (ad 48 kt), .int p0, .ref (ad 30 0), .ref (ad 31 0)] : List Value).toArray below meth c H locs 0 0 (MQ below (va_Qi (fun (r : Int32) (u : fm_M) => fm_I nb ad u ∧ fm_same [31000] M u ∧ True) (fun u t => fm_at D ad C nb u t.heap) (fm_A nb ad)) ([.ref (ad 48 kt), .int p0, .ref (ad 30 0), .ref (ad 31 0)] : List Value).toArray s 0 0 (fm_A nb ad)) (F0 m 31 ls []) := by
      intro j2_5 M_j2 b_j2_5 hI hE H locs hw hS ls hl
      refine lv_iconst (v := 0) hx hb dX9_valueOf_31 (by decide) ?_
      refine lv_istore (lv' := [(6, .int 0), (0, .ref (ad 48 kt)), (1, .int p0), (2, .ref (ad 30 0)), (3, .ref (ad 31 0)), (4, .int j1_4), (5, .int j2_5)]) hx hb dX9_valueOf_32 hl (by decide) rfl (fun ls hl => ?_)
      refine lv_iload hx hb dX9_valueOf_34 (lv_at hl 5 rfl) ?_
      refine lv_istore (lv' := [(7, .int j1_4), (6, .int 0), (0, .ref (ad 48 kt)), (1, .int p0), (2, .ref (ad 30 0)), (3, .ref (ad 31 0)), (4, .int j1_4), (5, .int j2_5)]) hx hb dX9_valueOf_36 hl (by decide) rfl (fun ls hl => ?_)
      have lp : ∀ (n_lp : Nat) (lp_7 : Int32) (lp_6 : Int32) (M_lp : fm_M), (160 - lp_7.toInt).toNat < n_lp → (0 ≤ lp_7.toInt ∧ lp_7.toInt ≤ 160) → (0 ≤ lp_6.toInt ∧ lp_6.toInt ≤ 64) → fm_I nb ad M_lp → fm_same [31000] M M_lp → ∀ (H : Heap) (locs : List Loc), fm_at D ad C nb M_lp H → va_S (fm_A nb ad) s.heap H locs → ∀ (ls : Array Slot), lv_has ls 8 [(7, .int lp_7), (6, .int lp_6), (0, .ref (ad 48 kt)), (1, .int p0), (2, .ref (ad 30 0)), (3, .ref (ad 31 0)), (4, .int j1_4), (5, .int j2_5)] → W p l e (headSpec wsX9_valueOf ({ frames := 3, cells := 0, slots := 0, locals := 65 })).room s m ([.ref (ad 48 kt), .int p0, .ref (ad 30 0), .ref (ad 31 0)] : List Value).toArray below meth c H locs 0 0 (MQ below (va_Qi (fun (r : Int32) (u : fm_M) => fm_I nb ad u ∧ fm_same [31000] M u ∧ True) (fun u t => fm_at D ad C nb u t.heap) (fm_A nb ad)) ([.ref (ad 48 kt), .int p0, .ref (ad 30 0), .ref (ad 31 0)] : List Value).toArray s 0 0 (fm_A nb ad)) (F0 m 38 ls []) := by
        intro n_lp
        induction n_lp with
        | zero => intro lp_7 lp_6 M_lp hm_lp b_lp_7 b_lp_6 hI hE H locs hw hS ls hl; exact absurd hm_lp (Nat.not_lt_zero _)
        | succ n_lp ih_lp =>
          intro lp_7 lp_6 M_lp hm_lp b_lp_7 b_lp_6 hI hE H locs hw hS ls hl
          refine lv_iload hx hb dX9_valueOf_38 (lv_at hl 0 rfl) ?_
          refine lv_iload hx hb dX9_valueOf_40 (lv_at hl 7 rfl) ?_
          refine fx_icmp_ge (tgt := 67) hx hb dX9_valueOf_42 (by decide) rfl rfl (fun c1 => ?_) (fun c1 => ?_)
          · refine lv_iload hx hb dX9_valueOf_67 (lv_at hl 1 rfl) ?_
            refine fx_if_le (tgt := 78) hx hb dX9_valueOf_69 (by decide) rfl (fun c2 => ?_) (fun c2 => ?_)
            · refine lv_iconst (v := 0) hx hb dX9_valueOf_78 (by decide) ?_
              exact W.iret (v := 0) hx hb hr (fun t ht hW => ⟨⟨0, M_lp, rfl, ⟨hI, hE, trivial⟩, by show fm_at D ad C nb _ t.heap; rw [ht]; exact hw⟩, hS.F ht⟩) hS.2.2 dX9_valueOf_79
            · refine lv_aload_n hx hb dX9_valueOf_72 rfl (lv_at hl 5 rfl) ?_
              refine lv_iconst (v := 0) hx hb dX9_valueOf_73 (by decide) ?_
              refine fm_iald (a := 31) hx hb hc hw hI kl_31 sh_31 ty_31 bd_31 (by decide) dX9_valueOf_74 (fun x3 ex3 bx3 => ?_)
              refine lv_goto (tgt := 79) hx hb dX9_valueOf_75 (by decide) ?_
              exact W.iret (v := x3) hx hb hr (fun t ht hW => ⟨⟨x3, M_lp, rfl, ⟨hI, hE, trivial⟩, by show fm_at D ad C nb _ t.heap; rw [ht]; exact hw⟩, hS.F ht⟩) hS.2.2 dX9_valueOf_79
          · refine lv_aload_n hx hb dX9_valueOf_45 rfl (lv_at hl 2 rfl) ?_
            refine fm_getG (a := 48) (j := 0) (T := TX9) (N := 3) hx hb hts hinX9 hown hc hw (kl_48 hkt) sh_48 rfl (by decide) rfl (hI.to (kl_48 hkt) tg_48_0) (hts (.fieldLink RX9 9 "RedTent$Text" "steps" "[I") (List.mem_cons_of_mem _ tw_1_186)) (fun _ h9 => h9) dX9_valueOf_46 ?_
            refine lv_iload hx hb dX9_valueOf_49 (lv_at hl 0 rfl) ?_
            refine fm_iald (a := 49) hx hb hc hw hI (kl_49 hkt) sh_49 ty_49 bd_49 (by omega) dX9_valueOf_51 (fun x4 ex4 bx4 => ?_)
            refine lv_aload_n hx hb dX9_valueOf_52 rfl (lv_at hl 4 rfl) ?_
            refine lv_aload_n hx hb dX9_valueOf_53 rfl (lv_at hl 5 rfl) ?_
            refine lv_iload hx hb dX9_valueOf_54 (lv_at hl 1 rfl) ?_
            refine fm_ci (va_runS (As := [.int x4, .ref (ad 30 0), .ref (ad 31 0), .int lp_6]) (rest := []) ⟨hx, hb, hml, hown, hts⟩ (fc_X9_afterStep l D ad C nb M_lp hI x4 lp_6 (by omega)) (va_cwS 4 hts gX9_valueOf_X9_afterStep rfl rfl rfl (by decide +kernel) ⟨Nat.le_of_ble_eq_true rfl, Nat.le_of_ble_eq_true rfl⟩) (fm_preS hc hw hS) rfl rfl hl.1 rfl (lv_room (Nat.le_of_ble_eq_true rfl)) dX9_valueOf_56 ⟨by decide +kernel, by decide +kernel⟩) hS hc (fun r5 M6 H locs hr5 hw hS => ?_)
            obtain ⟨hI, hEM6, hr5⟩ := hr5
            have hE := hE.tr hEM6 (by decide)
            refine lv_istore (lv' := [(6, .int r5), (7, .int lp_7), (0, .ref (ad 48 kt)), (1, .int p0), (2, .ref (ad 30 0)), (3, .ref (ad 31 0)), (4, .int j1_4), (5, .int j2_5)]) hx hb dX9_valueOf_59 hl (by decide) rfl (fun ls hl => ?_)
            obtain ⟨y7, ey7⟩ : ∃ y : Int32, y = lp_7 + 1 := ⟨_, rfl⟩
            have ty7 : y7.toInt = lp_7.toInt + 1 := by rw [ey7, zi_add _ _ (by rw [zk_1]; omega) (by rw [zk_1]; omega), zk_1]
            refine lv_iinc (v := y7) (lv' := [(7, .int y7), (6, .int r5), (0, .ref (ad 48 kt)), (1, .int p0), (2, .ref (ad 30 0)), (3, .ref (ad 31 0)), (4, .int j1_4), (5, .int j2_5)]) hx hb dX9_valueOf_61 hl (k := 1) rfl (by rw [ey7]; rfl) (by decide) rfl (fun ls hl => ?_)
            refine lv_goto (tgt := 38) hx hb dX9_valueOf_64 (by decide) ?_
            exact ih_lp y7 r5 M6 (by omega) (by omega) (by omega) hI hE _ _ hw hS ls (lv_sub hl [0, 1, 2, 3, 4, 5, 6, 7] rfl)
      exact lp _ j1_4 0 M_j2 (Nat.lt_succ_self _) (by omega) (by decide) hI hE _ _ hw hS ls (lv_sub hl [0, 1, 2, 3, 4, 5, 6, 7] rfl)
    refine lv_iload_n hx hb dX9_valueOf_14 rfl (lv_at hl 1 rfl) ?_
    refine fx_if_ne (tgt := 25) hx hb dX9_valueOf_15 (by decide) rfl (fun c8 => ?_) (fun c8 => ?_)
    · refine lv_aload_n hx hb dX9_valueOf_25 rfl (lv_at hl 0 rfl) ?_
      refine fm_getI (a := 48) (j := 1) (T := TX9) (N := 3) hx hb hts hinX9 hown hc hw hI (kl_48 hkt) sh_48 rfl (by decide) rfl bd_48_1 (hts (.fieldLink RX9 15 "RedTent$Text" "size" "I") (List.mem_cons_of_mem _ tw_1_187)) (fun _ h9 => h9) dX9_valueOf_26 (fun x9 ex9 bx9 => ?_)
      refine lv_istore (lv' := [(5, .int x9), (0, .ref (ad 48 kt)), (1, .int p0), (2, .ref (ad 30 0)), (3, .ref (ad 31 0)), (4, .int j1_4)]) hx hb dX9_valueOf_29 hl (by decide) rfl (fun ls hl => ?_)
      exact j2 x9 M_j1 (by omega) hI hE _ _ hw hS ls (lv_sub hl [1, 2, 3, 4, 5, 0] rfl)
    · refine lv_aload_n hx hb dX9_valueOf_18 rfl (lv_at hl 0 rfl) ?_
      refine fm_getI (a := 48) (j := 2) (T := TX9) (N := 3) hx hb hts hinX9 hown hc hw hI (kl_48 hkt) sh_48 rfl (by decide) rfl bd_48_2 (hts (.fieldLink RX9 19 "RedTent$Text" "goFrom" "I") (List.mem_cons_of_mem _ tw_1_189)) (fun _ h9 => h9) dX9_valueOf_19 (fun x10 ex10 bx10 => ?_)
      refine lv_goto (tgt := 29) hx hb dX9_valueOf_22 (by decide) ?_
      refine lv_istore (lv' := [(5, .int x10), (0, .ref (ad 48 kt)), (1, .int p0), (2, .ref (ad 30 0)), (3, .ref (ad 31 0)), (4, .int j1_4)]) hx hb dX9_valueOf_29 hl (by decide) rfl (fun ls hl => ?_)
      exact j2 x10 M_j1 (by omega) hI hE _ _ hw hS ls (lv_sub hl [1, 2, 3, 4, 5, 0] rfl)
  refine lv_iload_n hx hb dX9_valueOf_0 rfl (lv_at hl 1 rfl) ?_
  refine fx_if_ne (tgt := 8) hx hb dX9_valueOf_1 (by decide) rfl (fun c11 => ?_) (fun c11 => ?_)
  · refine lv_aload_n hx hb dX9_valueOf_8 rfl (lv_at hl 0 rfl) ?_
    refine fm_getI (a := 48) (j := 2) (T := TX9) (N := 3) hx hb hts hinX9 hown hc hw hI (kl_48 hkt) sh_48 rfl (by decide) rfl bd_48_2 (hts (.fieldLink RX9 19 "RedTent$Text" "goFrom" "I") (List.mem_cons_of_mem _ tw_1_189)) (fun _ h9 => h9) dX9_valueOf_9 (fun x12 ex12 bx12 => ?_)
    refine lv_istore (lv' := [(4, .int x12), (0, .ref (ad 48 kt)), (1, .int p0), (2, .ref (ad 30 0)), (3, .ref (ad 31 0))]) hx hb dX9_valueOf_12 hl (by decide) rfl (fun ls hl => ?_)
    exact j1 x12 M (by omega) hI hE _ _ hw hS ls (lv_sub hl [1, 2, 3, 4, 0] rfl)
  · refine lv_iconst (v := 0) hx hb dX9_valueOf_4 (by decide) ?_
    refine lv_goto (tgt := 12) hx hb dX9_valueOf_5 (by decide) ?_
    refine lv_istore (lv' := [(4, .int 0), (0, .ref (ad 48 kt)), (1, .int p0), (2, .ref (ad 30 0)), (3, .ref (ad 31 0))]) hx hb dX9_valueOf_12 hl (by decide) rfl (fun ls hl => ?_)
    exact j1 0 M (by decide) hI hE _ _ hw hS ls (lv_sub hl [1, 2, 3, 4, 0] rfl)
set_option maxHeartbeats 400000 in
set_option maxRecDepth 20000 in
theorem fc_X3_addBytes (l : Launch) (D : va_G) (ad : Nat → Nat → Nat) (C : Nat → Nat → ClassId) (nb : Nat) (M : fm_M) (hI : fm_I nb ad M) (p0 : Int32) (p1 : Int64) (b_p0 : 1 ≤ p0.toInt ∧ p0.toInt ≤ 8) : Met l yX3_addBytes wsX3_addBytes ({ frames := 0, cells := 0, slots := 0, locals := 0 }) (va_Pc [.ref (ad 27 0), .int p0, .long p1] (fm_P D ad C nb M)) (va_Qi (fun (r : Int32) (u : fm_M) => fm_I nb ad u ∧ fm_same [27001, 28000] M u ∧ (0 ≤ r.toInt ∧ r.toInt ≤ 160)) (fun u t => fm_at D ad C nb u t.heap) (fm_A nb ad)) 0 0 (fm_A nb ad) := by
  refine Met.ofW (cc := cX3_addBytes) (maxL := 5) (ret := (some .int)) (by decide) rfl ?_
  intro p e s m args below meth c s₁ B hml hv
  obtain ⟨rfl, hw, hc⟩ := hv
  have hx := B.exec
  have hb := B.bytes
  have hr := B.returns
  have hts := atoms_spec (ws := wsX3_addBytes) B.pre
  have hown : s.vm.findClass RX3 = some m.cls := findClass_of_methodNamed B.named
  have hinX3 : ∀ w ∈ u_ws RX3 TX3 8, w ∈ wsX3_addBytes := fun w h => List.mem_cons_of_mem _ (iT_X3 w h)
  have hS : va_S (fm_A nb ad) s.heap s.heap [] := va_S.rf
  have hE : fm_same [27001, 28000] M M := fm_same.rf
  have hl := lv_entry ([.ref (ad 27 0), .int p0, .long p1]) (n := 5) (Nat.le_of_ble_eq_true rfl)
  rw [lg_entry_eq]
  generalize (lg_sl ([.ref (ad 27 0), .int p0, .long p1]) ++ List.replicate (5 - (lg_sl ([.ref (ad 27 0), .int p0, .long p1])).length) Slot.unset).toArray = ls at hl ⊢
  have hl : lv_has ls 5 [(0, .ref (ad 27 0)), (1, .int p0), (2, .long p1)] := hl
  refine lv_iconst (v := 0) hx hb dX3_addBytes_0 (by decide) ?_
  refine lv_istore (lv' := [(4, .int 0), (0, .ref (ad 27 0)), (1, .int p0), (2, .long p1)]) hx hb dX3_addBytes_1 hl (by decide) rfl (fun ls hl => ?_)
  have lp : ∀ (n_lp : Nat) (lp_4 : Int32) (M_lp : fm_M), (8 - lp_4.toInt).toNat < n_lp → (0 ≤ lp_4.toInt ∧ lp_4.toInt ≤ 8) → fm_I nb ad M_lp → fm_same [27001, 28000] M M_lp → ∀ (H : Heap) (locs : List Loc), fm_at D ad C nb M_lp H → va_S (fm_A nb ad) s.heap H locs → ∀ (ls : Array Slot), lv_has ls 5 [(4, .int lp_4), (0, .ref (ad 27 0)), (1, .int p0), (2, .long p1)] → W p l e (headSpec wsX3_addBytes ({ frames := 0, cells := 0, slots := 0, locals := 0 })).room s m ([.ref (ad 27 0), .int p0, .long p1] : List Value).toArray below meth c H locs 0 0 (MQ below (va_Qi (fun (r : Int32) (u : fm_M) => fm_I nb ad u ∧ fm_same [27001, 28000] M u ∧ (0 ≤ r.toInt ∧ r.toInt ≤ 160)) (fun u t => fm_at D ad C nb u t.heap) (fm_A nb ad)) ([.ref (ad 27 0), .int p0, .long p1] : List Value).toArray s 0 0 (fm_A nb ad)) (F0 m 3 ls []) := by
    intro n_lp
    induction n_lp with
    | zero => intro lp_4 M_lp hm_lp b_lp_4 hI hE H locs hw hS ls hl; exact absurd hm_lp (Nat.not_lt_zero _)
    | succ n_lp ih_lp =>
      intro lp_4 M_lp hm_lp b_lp_4 hI hE H locs hw hS ls hl
      refine lv_iload hx hb dX3_addBytes_3 (lv_at hl 0 rfl) ?_
      refine lv_iload_n hx hb dX3_addBytes_5 rfl (lv_at hl 2 rfl) ?_
      refine fx_icmp_ge (tgt := 56) hx hb dX3_addBytes_6 (by decide) rfl rfl (fun c1 => ?_) (fun c1 => ?_)
      · refine lv_aload_n hx hb dX3_addBytes_56 rfl (lv_at hl 1 rfl) ?_
        refine fm_getI (a := 27) (j := 1) (T := TX3) (N := 8) hx hb hts hinX3 hown hc hw hI kl_27 sh_27 rfl (by decide) rfl bd_27_1 (hts (.fieldLink RX3 42 "RedTent$Orders" "tapeSize" "I") (List.mem_cons_of_mem _ tw_2_2)) (fun _ h9 => h9) dX3_addBytes_57 (fun x2 ex2 bx2 => ?_)
        exact W.iret (v := x2) hx hb hr (fun t ht hW => ⟨⟨x2, M_lp, rfl, ⟨hI, hE, (by omega)⟩, by show fm_at D ad C nb _ t.heap; rw [ht]; exact hw⟩, hS.F ht⟩) hS.2.2 dX3_addBytes_60
      · refine lv_aload_n hx hb dX3_addBytes_9 rfl (lv_at hl 1 rfl) ?_
        refine fm_getI (a := 27) (j := 1) (T := TX3) (N := 8) hx hb hts hinX3 hown hc hw hI kl_27 sh_27 rfl (by decide) rfl bd_27_1 (hts (.fieldLink RX3 42 "RedTent$Orders" "tapeSize" "I") (List.mem_cons_of_mem _ tw_2_2)) (fun _ h9 => h9) dX3_addBytes_10 (fun x3 ex3 bx3 => ?_)
        refine lv_sipush (v := 160) hx hb dX3_addBytes_13 (by decide) ?_
        refine fx_icmp_ge (tgt := 56) hx hb dX3_addBytes_16 (by decide) rfl zk_160 (fun c4 => ?_) (fun c4 => ?_)
        · refine lv_aload_n hx hb dX3_addBytes_56 rfl (lv_at hl 1 rfl) ?_
          refine fm_getI (a := 27) (j := 1) (T := TX3) (N := 8) hx hb hts hinX3 hown hc hw hI kl_27 sh_27 rfl (by decide) rfl bd_27_1 (hts (.fieldLink RX3 42 "RedTent$Orders" "tapeSize" "I") (List.mem_cons_of_mem _ tw_2_2)) (fun _ h9 => h9) dX3_addBytes_57 (fun x5 ex5 bx5 => ?_)
          obtain rfl : x3 = x5 := by rw [ex5]; exact ex3
          exact W.iret (v := x3) hx hb hr (fun t ht hW => ⟨⟨x3, M_lp, rfl, ⟨hI, hE, (by omega)⟩, by show fm_at D ad C nb _ t.heap; rw [ht]; exact hw⟩, hS.F ht⟩) hS.2.2 dX3_addBytes_60
        · refine lv_aload_n hx hb dX3_addBytes_19 rfl (lv_at hl 1 rfl) ?_
          refine fm_getG (a := 27) (j := 0) (T := TX3) (N := 8) hx hb hts hinX3 hown hc hw kl_27 sh_27 rfl (by decide) rfl (hI.to kl_27 tg_27_0) (hts (.fieldLink RX3 9 "RedTent$Orders" "tape" "[I") (List.mem_cons_of_mem _ tw_2_1)) (fun _ h9 => h9) dX3_addBytes_20 ?_
          refine lv_aload_n hx hb dX3_addBytes_23 rfl (lv_at hl 1 rfl) ?_
          refine fm_getI (a := 27) (j := 1) (T := TX3) (N := 8) hx hb hts hinX3 hown hc hw hI kl_27 sh_27 rfl (by decide) rfl bd_27_1 (hts (.fieldLink RX3 42 "RedTent$Orders" "tapeSize" "I") (List.mem_cons_of_mem _ tw_2_2)) (fun _ h9 => h9) dX3_addBytes_24 (fun x6 ex6 bx6 => ?_)
          obtain rfl : x3 = x6 := by rw [ex6]; exact ex3
          refine lv_lload_n hx hb dX3_addBytes_27 rfl (lv_at hl 3 rfl) ?_
          refine lv_bipush (v := 8) hx hb dX3_addBytes_28 (by decide) ?_
          refine lv_iload hx hb dX3_addBytes_30 (lv_at hl 0 rfl) ?_
          refine fx_imul hx hb dX3_addBytes_32 zk_8 rfl (by omega) (fun y7 ey7 ty7 => ?_)
          refine lv_lushr (v := (p1.toUInt64 >>> (y7.toInt64.toUInt64 &&& Int64.toUInt64 63)).toInt64) hx hb dX3_addBytes_33 rfl ?_
          refine lv_topl (fun y8 ey8 => ?_)
          refine lv_ldc2 (v := 255) hx hb hown (hts (.constantLong RX3 45 (255)) (List.mem_cons_of_mem _ tw_4_45)) dX3_addBytes_34 ?_
          refine lv_land hx hb dX3_addBytes_37 ?_
          refine lv_topl (fun y9 ey9 => ?_)
          refine lv_l2i (v := y9.toInt32) hx hb dX3_addBytes_38 rfl ?_
          refine lv_topi (fun y10 ey10 => ?_)
          refine fm_iast (a := 28) hx hb hc hw hI hE hS kl_28 sh_28 ty_28 bd_28 (by omega) (zi_lt _) cd_28 (by decide) dX3_addBytes_39 (fun M11 H locs eM11 hw hI hE hS => ?_)
          refine lv_aload_n hx hb dX3_addBytes_40 rfl (lv_at hl 1 rfl) ?_
          refine lv_dup hx hb dX3_addBytes_41 rfl ?_
          refine fm_getI (a := 27) (j := 1) (T := TX3) (N := 8) hx hb hts hinX3 hown hc hw hI kl_27 sh_27 rfl (by decide) rfl bd_27_1 (hts (.fieldLink RX3 42 "RedTent$Orders" "tapeSize" "I") (List.mem_cons_of_mem _ tw_2_2)) (fun _ h9 => h9) dX3_addBytes_42 (fun x12 ex12 bx12 => ?_)
          obtain rfl : x3 = x12 := by rw [ex12, eM11, fm_wI_nj (fun z => absurd z.1 (by decide))]; exact ex3
          refine lv_iconst (v := 1) hx hb dX3_addBytes_45 (by decide) ?_
          refine fx_iadd hx hb dX3_addBytes_46 rfl zk_1 (by omega) (fun y13 ey13 ty13 => ?_)
          refine fm_putI (a := 27) (j := 1) (T := TX3) (N := 8) hx hb hts hinX3 tyX3 tyX3_ok nmX3 hown hc hw hI hE hS kl_27 sh_27 od_27 rfl (by decide) rfl bd_27_1 (hts (.fieldLink RX3 42 "RedTent$Orders" "tapeSize" "I") (List.mem_cons_of_mem _ tw_2_2)) (fun _ h9 => h9) rfl (by decide +kernel) (by omega) (by decide) (by decide) dX3_addBytes_47 (fun M14 H locs eM14 hw hI hE hS => ?_)
          obtain ⟨y15, ey15⟩ : ∃ y : Int32, y = lp_4 + 1 := ⟨_, rfl⟩
          have ty15 : y15.toInt = lp_4.toInt + 1 := by rw [ey15, zi_add _ _ (by rw [zk_1]; omega) (by rw [zk_1]; omega), zk_1]
          refine lv_iinc (v := y15) (lv' := [(4, .int y15), (0, .ref (ad 27 0)), (1, .int p0), (2, .long p1)]) hx hb dX3_addBytes_50 hl (k := 0) rfl (by rw [ey15]; rfl) (by decide) rfl (fun ls hl => ?_)
          refine lv_goto (tgt := 3) hx hb dX3_addBytes_53 (by decide) ?_
          exact ih_lp y15 M14 (by omega) (by omega) hI hE _ _ hw hS ls (lv_sub hl [0, 1, 2, 3] rfl)
  exact lp _ 0 M (Nat.lt_succ_self _) (by decide) hI hE _ _ hw hS ls (lv_sub hl [0, 1, 2, 3] rfl)
set_option maxHeartbeats 400000 in
set_option maxRecDepth 20000 in
theorem fc_X3_ask (l : Launch) (D : va_G) (ad : Nat → Nat → Nat) (C : Nat → Nat → ClassId) (nb : Nat) (M : fm_M) (hI : fm_I nb ad M) (p0 p1 p2 p3 p4 p5 p6 : Int32) : Met l yX3_ask wsX3_ask ({ frames := 4, cells := 0, slots := 0, locals := 92 }) (va_Pc [.ref (ad 27 0), .int p0, .int p1, .int p2, .int p3, .int p4, .int p5, .int p6] (fm_P D ad C nb M)) (va_Qi (fun (r : Int32) (u : fm_M) => fm_I nb ad u ∧ fm_same [30000, 31000] M u ∧ True) (fun u t => fm_at D ad C nb u t.heap) (fm_A nb ad)) 0 0 (fm_A nb ad) := by
  refine Met.ofW (cc := cX3_ask) (maxL := 8) (ret := (some .int)) (by decide) rfl ?_
  intro p e s m args below meth c s₁ B hml hv
  obtain ⟨rfl, hw, hc⟩ := hv
  have hx := B.exec
  have hb := B.bytes
  have hr := B.returns
  have hts := atoms_spec (ws := wsX3_ask) B.pre
  have hown : s.vm.findClass RX3 = some m.cls := findClass_of_methodNamed B.named
  have hinX3 : ∀ w ∈ u_ws RX3 TX3 8, w ∈ wsX3_ask := fun w h => List.mem_cons_of_mem _ (iT_X3 w h)
  have hS : va_S (fm_A nb ad) s.heap s.heap [] := va_S.rf
  have hE : fm_same [30000, 31000] M M := fm_same.rf
  have hl := lv_entry ([.ref (ad 27 0), .int p0, .int p1, .int p2, .int p3, .int p4, .int p5, .int p6]) (n := 8) (Nat.le_of_ble_eq_true rfl)
  rw [lg_entry_eq]
  generalize (lg_sl ([.ref (ad 27 0), .int p0, .int p1, .int p2, .int p3, .int p4, .int p5, .int p6]) ++ List.replicate (8 - (lg_sl ([.ref (ad 27 0), .int p0, .int p1, .int p2, .int p3, .int p4, .int p5, .int p6])).length) Slot.unset).toArray = ls at hl ⊢
  have hl : lv_has ls 8 [(0, .ref (ad 27 0)), (1, .int p0), (2, .int p1), (3, .int p2), (4, .int p3), (5, .int p4), (6, .int p5), (7, .int p6)] := hl
  refine lv_aload_n hx hb dX3_ask_0 rfl (lv_at hl 0 rfl) ?_
  refine fm_getG (a := 27) (j := 6) (T := TX3) (N := 8) hx hb hts hinX3 hown hc hw kl_27 sh_27 rfl (by decide) rfl (hI.to kl_27 tg_27_6) (hts (.fieldLink RX3 28 "RedTent$Orders" "names" "[I") (List.mem_cons_of_mem _ tw_2_10)) (fun _ h9 => h9) dX3_ask_1 ?_
  refine lv_iconst (v := 0) hx hb dX3_ask_4 (by decide) ?_
  refine lv_iload_n hx hb dX3_ask_5 rfl (lv_at hl 2 rfl) ?_
  refine fm_iast (a := 30) hx hb hc hw hI hE hS kl_30 sh_30 ty_30 bd_30 (by decide) (zi_lt _) cd_30 (by decide) dX3_ask_6 (fun M1 H locs eM1 hw hI hE hS => ?_)
  refine lv_aload_n hx hb dX3_ask_7 rfl (lv_at hl 0 rfl) ?_
  refine fm_getG (a := 27) (j := 6) (T := TX3) (N := 8) hx hb hts hinX3 hown hc hw kl_27 sh_27 rfl (by decide) rfl (hI.to kl_27 tg_27_6) (hts (.fieldLink RX3 28 "RedTent$Orders" "names" "[I") (List.mem_cons_of_mem _ tw_2_10)) (fun _ h9 => h9) dX3_ask_8 ?_
  refine lv_iconst (v := 1) hx hb dX3_ask_11 (by decide) ?_
  refine lv_iload_n hx hb dX3_ask_12 rfl (lv_at hl 3 rfl) ?_
  refine fm_iast (a := 30) hx hb hc hw hI hE hS kl_30 sh_30 ty_30 bd_30 (by decide) (zi_lt _) cd_30 (by decide) dX3_ask_13 (fun M2 H locs eM2 hw hI hE hS => ?_)
  refine lv_aload_n hx hb dX3_ask_14 rfl (lv_at hl 0 rfl) ?_
  refine fm_getG (a := 27) (j := 6) (T := TX3) (N := 8) hx hb hts hinX3 hown hc hw kl_27 sh_27 rfl (by decide) rfl (hI.to kl_27 tg_27_6) (hts (.fieldLink RX3 28 "RedTent$Orders" "names" "[I") (List.mem_cons_of_mem _ tw_2_10)) (fun _ h9 => h9) dX3_ask_15 ?_
  refine lv_iconst (v := 2) hx hb dX3_ask_18 (by decide) ?_
  refine lv_iload hx hb dX3_ask_19 (lv_at hl 4 rfl) ?_
  refine fm_iast (a := 30) hx hb hc hw hI hE hS kl_30 sh_30 ty_30 bd_30 (by decide) (zi_lt _) cd_30 (by decide) dX3_ask_21 (fun M3 H locs eM3 hw hI hE hS => ?_)
  refine lv_aload_n hx hb dX3_ask_22 rfl (lv_at hl 0 rfl) ?_
  refine fm_getG (a := 27) (j := 6) (T := TX3) (N := 8) hx hb hts hinX3 hown hc hw kl_27 sh_27 rfl (by decide) rfl (hI.to kl_27 tg_27_6) (hts (.fieldLink RX3 28 "RedTent$Orders" "names" "[I") (List.mem_cons_of_mem _ tw_2_10)) (fun _ h9 => h9) dX3_ask_23 ?_
  refine lv_iconst (v := 3) hx hb dX3_ask_26 (by decide) ?_
  refine lv_iload hx hb dX3_ask_27 (lv_at hl 5 rfl) ?_
  refine fm_iast (a := 30) hx hb hc hw hI hE hS kl_30 sh_30 ty_30 bd_30 (by decide) (zi_lt _) cd_30 (by decide) dX3_ask_29 (fun M4 H locs eM4 hw hI hE hS => ?_)
  refine lv_aload_n hx hb dX3_ask_30 rfl (lv_at hl 0 rfl) ?_
  refine fm_getG (a := 27) (j := 6) (T := TX3) (N := 8) hx hb hts hinX3 hown hc hw kl_27 sh_27 rfl (by decide) rfl (hI.to kl_27 tg_27_6) (hts (.fieldLink RX3 28 "RedTent$Orders" "names" "[I") (List.mem_cons_of_mem _ tw_2_10)) (fun _ h9 => h9) dX3_ask_31 ?_
  refine lv_iconst (v := 4) hx hb dX3_ask_34 (by decide) ?_
  refine lv_iload hx hb dX3_ask_35 (lv_at hl 6 rfl) ?_
  refine fm_iast (a := 30) hx hb hc hw hI hE hS kl_30 sh_30 ty_30 bd_30 (by decide) (zi_lt _) cd_30 (by decide) dX3_ask_37 (fun M5 H locs eM5 hw hI hE hS => ?_)
  refine lv_aload_n hx hb dX3_ask_38 rfl (lv_at hl 0 rfl) ?_
  refine fm_getG (a := 27) (j := 6) (T := TX3) (N := 8) hx hb hts hinX3 hown hc hw kl_27 sh_27 rfl (by decide) rfl (hI.to kl_27 tg_27_6) (hts (.fieldLink RX3 28 "RedTent$Orders" "names" "[I") (List.mem_cons_of_mem _ tw_2_10)) (fun _ h9 => h9) dX3_ask_39 ?_
  refine lv_iconst (v := 5) hx hb dX3_ask_42 (by decide) ?_
  refine lv_iload hx hb dX3_ask_43 (lv_at hl 7 rfl) ?_
  refine fm_iast (a := 30) hx hb hc hw hI hE hS kl_30 sh_30 ty_30 bd_30 (by decide) (zi_lt _) cd_30 (by decide) dX3_ask_45 (fun M6 H locs eM6 hw hI hE hS => ?_)
  refine lv_aload_n hx hb dX3_ask_46 rfl (lv_at hl 0 rfl) ?_
  refine fm_getG (a := 27) (j := 2) (T := TX3) (N := 8) hx hb hts hinX3 hown hc hw kl_27 sh_27 rfl (by decide) rfl (hI.to kl_27 tg_27_2) (hts (.fieldLink RX3 17 "RedTent$Orders" "texts" "[LRedTent$Text;") (List.mem_cons_of_mem _ tw_2_4)) (fun _ h9 => h9) dX3_ask_47 ?_
  refine lv_aload_n hx hb dX3_ask_50 rfl (lv_at hl 0 rfl) ?_
  refine fm_getI (a := 27) (j := 4) (T := TX3) (N := 8) hx hb hts hinX3 hown hc hw hI kl_27 sh_27 rfl (by decide) rfl bd_27_4 (hts (.fieldLink RX3 59 "RedTent$Orders" "inForce" "I") (List.mem_cons_of_mem _ tw_2_7)) (fun _ h9 => h9) dX3_ask_51 (fun x7 ex7 bx7 => ?_)
  have hk8 : x7.toNatClampNeg < 6 := zi_cln (by omega)
  refine fm_aald (a := 29) (i := x7) hx hb hc hw kl_29 sh_29 ty_29 (by omega) dX3_ask_54 (hI.2.2.2.1 _ hk8) ?_
  refine lv_iload_n hx hb dX3_ask_55 rfl (lv_at hl 1 rfl) ?_
  refine lv_aload_n hx hb dX3_ask_56 rfl (lv_at hl 0 rfl) ?_
  refine fm_getG (a := 27) (j := 6) (T := TX3) (N := 8) hx hb hts hinX3 hown hc hw kl_27 sh_27 rfl (by decide) rfl (hI.to kl_27 tg_27_6) (hts (.fieldLink RX3 28 "RedTent$Orders" "names" "[I") (List.mem_cons_of_mem _ tw_2_10)) (fun _ h9 => h9) dX3_ask_57 ?_
  refine lv_aload_n hx hb dX3_ask_60 rfl (lv_at hl 0 rfl) ?_
  refine fm_getG (a := 27) (j := 7) (T := TX3) (N := 8) hx hb hts hinX3 hown hc hw kl_27 sh_27 rfl (by decide) rfl (hI.to kl_27 tg_27_7) (hts (.fieldLink RX3 31 "RedTent$Orders" "stack" "[I") (List.mem_cons_of_mem _ tw_2_11)) (fun _ h9 => h9) dX3_ask_61 ?_
  refine fm_ci (va_runV (As := [.int p0, .ref (ad 30 0), .ref (ad 31 0)]) (rest := []) ⟨hx, hb, hml, hown, hts⟩ (fc_X9_valueOf l D ad C nb M6 hI x7.toNatClampNeg hk8 p0) (cwV 3 hts gX3_ask_X9_valueOf rfl rfl rfl (by decide +kernel) ⟨Nat.le_of_ble_eq_true rfl, Nat.le_of_ble_eq_true rfl⟩) (fm_preV hc hw hS (kl_48 hk8) sh_48 rfl) rfl rfl hl.1 rfl (lv_room (Nat.le_of_ble_eq_true rfl)) dX3_ask_64 ⟨by decide +kernel, by decide +kernel⟩) hS hc (fun r9 M10 H locs hr9 hw hS => ?_)
  obtain ⟨hI, hEM10, hr9⟩ := hr9
  have hE := hE.tr hEM10 (by decide)
  exact W.iret (v := r9) hx hb hr (fun t ht hW => ⟨⟨r9, M10, rfl, ⟨hI, hE, trivial⟩, by show fm_at D ad C nb _ t.heap; rw [ht]; exact hw⟩, hS.F ht⟩) hS.2.2 dX3_ask_67

theorem zb_X10_setHours_0 : (decode cX10_setHours 0 = .ok (.iload_n 1, 1)) ∧ (decode cX10_setHours 1 = .ok (.iconst 0, 1)) ∧ (decode cX10_setHours 2 = .ok (.invokestatic 29, 3)) ∧ (decode cX10_setHours 5 = .ok (.istore 4, 2)) ∧ (decode cX10_setHours 7 = .ok (.iload 4, 2)) ∧ (decode cX10_setHours 9 = .ok (.iload_n 2, 1)) ∧ (decode cX10_setHours 10 = .ok (.if_icmp .ge 21, 3)) ∧ (decode cX10_setHours 31 = .ok (.return_, 1)) ∧ (decode cX10_setHours 13 = .ok (.iload 4, 2)) := by decide +kernel
theorem dX10_setHours_0 : decode cX10_setHours 0 = .ok (.iload_n 1, 1) := zb_X10_setHours_0.1
theorem dX10_setHours_1 : decode cX10_setHours 1 = .ok (.iconst 0, 1) := zb_X10_setHours_0.2.1
theorem dX10_setHours_2 : decode cX10_setHours 2 = .ok (.invokestatic 29, 3) := zb_X10_setHours_0.2.2.1
theorem dX10_setHours_5 : decode cX10_setHours 5 = .ok (.istore 4, 2) := zb_X10_setHours_0.2.2.2.1
theorem dX10_setHours_7 : decode cX10_setHours 7 = .ok (.iload 4, 2) := zb_X10_setHours_0.2.2.2.2.1
theorem dX10_setHours_9 : decode cX10_setHours 9 = .ok (.iload_n 2, 1) := zb_X10_setHours_0.2.2.2.2.2.1
theorem dX10_setHours_10 : decode cX10_setHours 10 = .ok (.if_icmp .ge 21, 3) := zb_X10_setHours_0.2.2.2.2.2.2.1
theorem dX10_setHours_31 : decode cX10_setHours 31 = .ok (.return_, 1) := zb_X10_setHours_0.2.2.2.2.2.2.2.1
theorem dX10_setHours_13 : decode cX10_setHours 13 = .ok (.iload 4, 2) := zb_X10_setHours_0.2.2.2.2.2.2.2.2
theorem zb_X10_setHours_15 : (decode cX10_setHours 15 = .ok (.aload_n 0, 1)) ∧ (decode cX10_setHours 16 = .ok (.arraylength, 1)) ∧ (decode cX10_setHours 17 = .ok (.if_icmp .ge 14, 3)) ∧ (decode cX10_setHours 20 = .ok (.aload_n 0, 1)) ∧ (decode cX10_setHours 21 = .ok (.iload 4, 2)) ∧ (decode cX10_setHours 23 = .ok (.iload_n 3, 1)) ∧ (decode cX10_setHours 24 = .ok (.iastore, 1)) ∧ (decode cX10_setHours 25 = .ok (.iinc 4 1, 3)) ∧ (decode cX10_setHours 28 = .ok (.goto (-21), 3)) := by decide +kernel
theorem dX10_setHours_15 : decode cX10_setHours 15 = .ok (.aload_n 0, 1) := zb_X10_setHours_15.1
theorem dX10_setHours_16 : decode cX10_setHours 16 = .ok (.arraylength, 1) := zb_X10_setHours_15.2.1
theorem dX10_setHours_17 : decode cX10_setHours 17 = .ok (.if_icmp .ge 14, 3) := zb_X10_setHours_15.2.2.1
theorem dX10_setHours_20 : decode cX10_setHours 20 = .ok (.aload_n 0, 1) := zb_X10_setHours_15.2.2.2.1
theorem dX10_setHours_21 : decode cX10_setHours 21 = .ok (.iload 4, 2) := zb_X10_setHours_15.2.2.2.2.1
theorem dX10_setHours_23 : decode cX10_setHours 23 = .ok (.iload_n 3, 1) := zb_X10_setHours_15.2.2.2.2.2.1
theorem dX10_setHours_24 : decode cX10_setHours 24 = .ok (.iastore, 1) := zb_X10_setHours_15.2.2.2.2.2.2.1
theorem dX10_setHours_25 : decode cX10_setHours 25 = .ok (.iinc 4 1, 3) := zb_X10_setHours_15.2.2.2.2.2.2.2.1
theorem dX10_setHours_28 : decode cX10_setHours 28 = .ok (.goto (-21), 3) := zb_X10_setHours_15.2.2.2.2.2.2.2.2
theorem zb_X10_tellWind_0 : (decode cX10_tellWind 0 = .ok (.aload_n 0, 1)) ∧ (decode cX10_tellWind 1 = .ok (.getfield 9, 3)) ∧ (decode cX10_tellWind 4 = .ok (.iload_n 1, 1)) ∧ (decode cX10_tellWind 5 = .ok (.iload_n 2, 1)) ∧ (decode cX10_tellWind 6 = .ok (.iload_n 3, 1)) ∧ (decode cX10_tellWind 7 = .ok (.invokestatic 18, 3)) ∧ (decode cX10_tellWind 10 = .ok (.aload_n 0, 1)) := by decide +kernel
theorem dX10_tellWind_0 : decode cX10_tellWind 0 = .ok (.aload_n 0, 1) := zb_X10_tellWind_0.1
theorem dX10_tellWind_1 : decode cX10_tellWind 1 = .ok (.getfield 9, 3) := zb_X10_tellWind_0.2.1
theorem dX10_tellWind_4 : decode cX10_tellWind 4 = .ok (.iload_n 1, 1) := zb_X10_tellWind_0.2.2.1
theorem dX10_tellWind_5 : decode cX10_tellWind 5 = .ok (.iload_n 2, 1) := zb_X10_tellWind_0.2.2.2.1
theorem dX10_tellWind_6 : decode cX10_tellWind 6 = .ok (.iload_n 3, 1) := zb_X10_tellWind_0.2.2.2.2.1
theorem dX10_tellWind_7 : decode cX10_tellWind 7 = .ok (.invokestatic 18, 3) := zb_X10_tellWind_0.2.2.2.2.2.1
theorem dX10_tellWind_10 : decode cX10_tellWind 10 = .ok (.aload_n 0, 1) := zb_X10_tellWind_0.2.2.2.2.2.2
theorem zb_X10_tellWind_11 : (decode cX10_tellWind 11 = .ok (.dup, 1)) ∧ (decode cX10_tellWind 12 = .ok (.getfield 22, 3)) ∧ (decode cX10_tellWind 15 = .ok (.iconst 1, 1)) ∧ (decode cX10_tellWind 16 = .ok (.iadd, 1)) ∧ (decode cX10_tellWind 17 = .ok (.putfield 22, 3)) ∧ (decode cX10_tellWind 20 = .ok (.return_, 1)) := by decide +kernel
theorem dX10_tellWind_11 : decode cX10_tellWind 11 = .ok (.dup, 1) := zb_X10_tellWind_11.1
theorem dX10_tellWind_12 : decode cX10_tellWind 12 = .ok (.getfield 22, 3) := zb_X10_tellWind_11.2.1
theorem dX10_tellWind_15 : decode cX10_tellWind 15 = .ok (.iconst 1, 1) := zb_X10_tellWind_11.2.2.1
theorem dX10_tellWind_16 : decode cX10_tellWind 16 = .ok (.iadd, 1) := zb_X10_tellWind_11.2.2.2.1
theorem dX10_tellWind_17 : decode cX10_tellWind 17 = .ok (.putfield 22, 3) := zb_X10_tellWind_11.2.2.2.2.1
theorem dX10_tellWind_20 : decode cX10_tellWind 20 = .ok (.return_, 1) := zb_X10_tellWind_11.2.2.2.2.2
theorem zb_X10_tellFog_0 : (decode cX10_tellFog 0 = .ok (.aload_n 0, 1)) ∧ (decode cX10_tellFog 1 = .ok (.getfield 15, 3)) ∧ (decode cX10_tellFog 4 = .ok (.iload_n 1, 1)) ∧ (decode cX10_tellFog 5 = .ok (.iload_n 2, 1)) ∧ (decode cX10_tellFog 6 = .ok (.iload_n 3, 1)) ∧ (decode cX10_tellFog 7 = .ok (.invokestatic 18, 3)) ∧ (decode cX10_tellFog 10 = .ok (.aload_n 0, 1)) := by decide +kernel
theorem dX10_tellFog_0 : decode cX10_tellFog 0 = .ok (.aload_n 0, 1) := zb_X10_tellFog_0.1
theorem dX10_tellFog_1 : decode cX10_tellFog 1 = .ok (.getfield 15, 3) := zb_X10_tellFog_0.2.1
theorem dX10_tellFog_4 : decode cX10_tellFog 4 = .ok (.iload_n 1, 1) := zb_X10_tellFog_0.2.2.1
theorem dX10_tellFog_5 : decode cX10_tellFog 5 = .ok (.iload_n 2, 1) := zb_X10_tellFog_0.2.2.2.1
theorem dX10_tellFog_6 : decode cX10_tellFog 6 = .ok (.iload_n 3, 1) := zb_X10_tellFog_0.2.2.2.2.1
theorem dX10_tellFog_7 : decode cX10_tellFog 7 = .ok (.invokestatic 18, 3) := zb_X10_tellFog_0.2.2.2.2.2.1
theorem dX10_tellFog_10 : decode cX10_tellFog 10 = .ok (.aload_n 0, 1) := zb_X10_tellFog_0.2.2.2.2.2.2
theorem zb_X10_tellFog_11 : (decode cX10_tellFog 11 = .ok (.dup, 1)) ∧ (decode cX10_tellFog 12 = .ok (.getfield 26, 3)) ∧ (decode cX10_tellFog 15 = .ok (.iconst 1, 1)) ∧ (decode cX10_tellFog 16 = .ok (.iadd, 1)) ∧ (decode cX10_tellFog 17 = .ok (.putfield 26, 3)) ∧ (decode cX10_tellFog 20 = .ok (.return_, 1)) := by decide +kernel
theorem dX10_tellFog_11 : decode cX10_tellFog 11 = .ok (.dup, 1) := zb_X10_tellFog_11.1
theorem dX10_tellFog_12 : decode cX10_tellFog 12 = .ok (.getfield 26, 3) := zb_X10_tellFog_11.2.1
theorem dX10_tellFog_15 : decode cX10_tellFog 15 = .ok (.iconst 1, 1) := zb_X10_tellFog_11.2.2.1
theorem dX10_tellFog_16 : decode cX10_tellFog 16 = .ok (.iadd, 1) := zb_X10_tellFog_11.2.2.2.1
theorem dX10_tellFog_17 : decode cX10_tellFog 17 = .ok (.putfield 26, 3) := zb_X10_tellFog_11.2.2.2.2.1
theorem dX10_tellFog_20 : decode cX10_tellFog 20 = .ok (.return_, 1) := zb_X10_tellFog_11.2.2.2.2.2
theorem zb_X10_fogAt_0 : (decode cX10_fogAt 0 = .ok (.iload_n 1, 1)) ∧ (decode cX10_fogAt 1 = .ok (.ifCond .lt 19, 3)) ∧ (decode cX10_fogAt 20 = .ok (.iconst 0, 1)) ∧ (decode cX10_fogAt 21 = .ok (.ireturn, 1)) ∧ (decode cX10_fogAt 4 = .ok (.iload_n 1, 1)) ∧ (decode cX10_fogAt 5 = .ok (.sipush 240, 3)) ∧ (decode cX10_fogAt 8 = .ok (.if_icmp .ge 12, 3)) ∧ (decode cX10_fogAt 11 = .ok (.aload_n 0, 1)) ∧ (decode cX10_fogAt 12 = .ok (.getfield 15, 3)) ∧ (decode cX10_fogAt 15 = .ok (.iload_n 1, 1)) ∧ (decode cX10_fogAt 16 = .ok (.iaload, 1)) ∧ (decode cX10_fogAt 17 = .ok (.goto 4, 3)) := by decide +kernel
theorem dX10_fogAt_0 : decode cX10_fogAt 0 = .ok (.iload_n 1, 1) := zb_X10_fogAt_0.1
theorem dX10_fogAt_1 : decode cX10_fogAt 1 = .ok (.ifCond .lt 19, 3) := zb_X10_fogAt_0.2.1
theorem dX10_fogAt_20 : decode cX10_fogAt 20 = .ok (.iconst 0, 1) := zb_X10_fogAt_0.2.2.1
theorem dX10_fogAt_21 : decode cX10_fogAt 21 = .ok (.ireturn, 1) := zb_X10_fogAt_0.2.2.2.1
theorem dX10_fogAt_4 : decode cX10_fogAt 4 = .ok (.iload_n 1, 1) := zb_X10_fogAt_0.2.2.2.2.1
theorem dX10_fogAt_5 : decode cX10_fogAt 5 = .ok (.sipush 240, 3) := zb_X10_fogAt_0.2.2.2.2.2.1
theorem dX10_fogAt_8 : decode cX10_fogAt 8 = .ok (.if_icmp .ge 12, 3) := zb_X10_fogAt_0.2.2.2.2.2.2.1
theorem dX10_fogAt_11 : decode cX10_fogAt 11 = .ok (.aload_n 0, 1) := zb_X10_fogAt_0.2.2.2.2.2.2.2.1
theorem dX10_fogAt_12 : decode cX10_fogAt 12 = .ok (.getfield 15, 3) := zb_X10_fogAt_0.2.2.2.2.2.2.2.2.1
theorem dX10_fogAt_15 : decode cX10_fogAt 15 = .ok (.iload_n 1, 1) := zb_X10_fogAt_0.2.2.2.2.2.2.2.2.2.1
theorem dX10_fogAt_16 : decode cX10_fogAt 16 = .ok (.iaload, 1) := zb_X10_fogAt_0.2.2.2.2.2.2.2.2.2.2.1
theorem dX10_fogAt_17 : decode cX10_fogAt 17 = .ok (.goto 4, 3) := zb_X10_fogAt_0.2.2.2.2.2.2.2.2.2.2.2
theorem zb_X10_isClear_0 : (decode cX10_isClear 0 = .ok (.iload_n 1, 1)) ∧ (decode cX10_isClear 1 = .ok (.istore_n 3, 1)) ∧ (decode cX10_isClear 2 = .ok (.iload_n 3, 1)) ∧ (decode cX10_isClear 3 = .ok (.iload_n 1, 1)) ∧ (decode cX10_isClear 4 = .ok (.iload_n 2, 1)) ∧ (decode cX10_isClear 5 = .ok (.iadd, 1)) ∧ (decode cX10_isClear 6 = .ok (.if_icmp .ge 21, 3)) ∧ (decode cX10_isClear 27 = .ok (.iconst 1, 1)) ∧ (decode cX10_isClear 28 = .ok (.ireturn, 1)) := by decide +kernel
theorem dX10_isClear_0 : decode cX10_isClear 0 = .ok (.iload_n 1, 1) := zb_X10_isClear_0.1
theorem dX10_isClear_1 : decode cX10_isClear 1 = .ok (.istore_n 3, 1) := zb_X10_isClear_0.2.1
theorem dX10_isClear_2 : decode cX10_isClear 2 = .ok (.iload_n 3, 1) := zb_X10_isClear_0.2.2.1
theorem dX10_isClear_3 : decode cX10_isClear 3 = .ok (.iload_n 1, 1) := zb_X10_isClear_0.2.2.2.1
theorem dX10_isClear_4 : decode cX10_isClear 4 = .ok (.iload_n 2, 1) := zb_X10_isClear_0.2.2.2.2.1
theorem dX10_isClear_5 : decode cX10_isClear 5 = .ok (.iadd, 1) := zb_X10_isClear_0.2.2.2.2.2.1
theorem dX10_isClear_6 : decode cX10_isClear 6 = .ok (.if_icmp .ge 21, 3) := zb_X10_isClear_0.2.2.2.2.2.2.1
theorem dX10_isClear_27 : decode cX10_isClear 27 = .ok (.iconst 1, 1) := zb_X10_isClear_0.2.2.2.2.2.2.2.1
theorem dX10_isClear_28 : decode cX10_isClear 28 = .ok (.ireturn, 1) := zb_X10_isClear_0.2.2.2.2.2.2.2.2
theorem zb_X10_isClear_9 : (decode cX10_isClear 9 = .ok (.aload_n 0, 1)) ∧ (decode cX10_isClear 10 = .ok (.iload_n 3, 1)) ∧ (decode cX10_isClear 11 = .ok (.invokevirtual 35, 3)) ∧ (decode cX10_isClear 14 = .ok (.bipush 8, 2)) ∧ (decode cX10_isClear 16 = .ok (.if_icmp .le 5, 3)) ∧ (decode cX10_isClear 21 = .ok (.iinc 3 1, 3)) ∧ (decode cX10_isClear 24 = .ok (.goto (-22), 3)) ∧ (decode cX10_isClear 19 = .ok (.iconst 0, 1)) ∧ (decode cX10_isClear 20 = .ok (.ireturn, 1)) := by decide +kernel
theorem dX10_isClear_9 : decode cX10_isClear 9 = .ok (.aload_n 0, 1) := zb_X10_isClear_9.1
theorem dX10_isClear_10 : decode cX10_isClear 10 = .ok (.iload_n 3, 1) := zb_X10_isClear_9.2.1
theorem dX10_isClear_11 : decode cX10_isClear 11 = .ok (.invokevirtual 35, 3) := zb_X10_isClear_9.2.2.1
theorem dX10_isClear_14 : decode cX10_isClear 14 = .ok (.bipush 8, 2) := zb_X10_isClear_9.2.2.2.1
theorem dX10_isClear_16 : decode cX10_isClear 16 = .ok (.if_icmp .le 5, 3) := zb_X10_isClear_9.2.2.2.2.1
theorem dX10_isClear_21 : decode cX10_isClear 21 = .ok (.iinc 3 1, 3) := zb_X10_isClear_9.2.2.2.2.2.1
theorem dX10_isClear_24 : decode cX10_isClear 24 = .ok (.goto (-22), 3) := zb_X10_isClear_9.2.2.2.2.2.2.1
theorem dX10_isClear_19 : decode cX10_isClear 19 = .ok (.iconst 0, 1) := zb_X10_isClear_9.2.2.2.2.2.2.2.1
theorem dX10_isClear_20 : decode cX10_isClear 20 = .ok (.ireturn, 1) := zb_X10_isClear_9.2.2.2.2.2.2.2.2
theorem zb_X4_addHearer_0 : (decode cX4_addHearer 0 = .ok (.aload_n 0, 1)) ∧ (decode cX4_addHearer 1 = .ok (.getfield 9, 3)) ∧ (decode cX4_addHearer 4 = .ok (.aload_n 0, 1)) ∧ (decode cX4_addHearer 5 = .ok (.getfield 43, 3)) ∧ (decode cX4_addHearer 8 = .ok (.iload_n 1, 1)) ∧ (decode cX4_addHearer 9 = .ok (.iastore, 1)) ∧ (decode cX4_addHearer 10 = .ok (.aload_n 0, 1)) := by decide +kernel
theorem dX4_addHearer_0 : decode cX4_addHearer 0 = .ok (.aload_n 0, 1) := zb_X4_addHearer_0.1
theorem dX4_addHearer_1 : decode cX4_addHearer 1 = .ok (.getfield 9, 3) := zb_X4_addHearer_0.2.1
theorem dX4_addHearer_4 : decode cX4_addHearer 4 = .ok (.aload_n 0, 1) := zb_X4_addHearer_0.2.2.1
theorem dX4_addHearer_5 : decode cX4_addHearer 5 = .ok (.getfield 43, 3) := zb_X4_addHearer_0.2.2.2.1
theorem dX4_addHearer_8 : decode cX4_addHearer 8 = .ok (.iload_n 1, 1) := zb_X4_addHearer_0.2.2.2.2.1
theorem dX4_addHearer_9 : decode cX4_addHearer 9 = .ok (.iastore, 1) := zb_X4_addHearer_0.2.2.2.2.2.1
theorem dX4_addHearer_10 : decode cX4_addHearer 10 = .ok (.aload_n 0, 1) := zb_X4_addHearer_0.2.2.2.2.2.2
theorem zb_X4_addHearer_11 : (decode cX4_addHearer 11 = .ok (.dup, 1)) ∧ (decode cX4_addHearer 12 = .ok (.getfield 43, 3)) ∧ (decode cX4_addHearer 15 = .ok (.dup_x1, 1)) ∧ (decode cX4_addHearer 16 = .ok (.iconst 1, 1)) ∧ (decode cX4_addHearer 17 = .ok (.iadd, 1)) ∧ (decode cX4_addHearer 18 = .ok (.putfield 43, 3)) ∧ (decode cX4_addHearer 21 = .ok (.ireturn, 1)) := by decide +kernel
theorem dX4_addHearer_11 : decode cX4_addHearer 11 = .ok (.dup, 1) := zb_X4_addHearer_11.1
theorem dX4_addHearer_12 : decode cX4_addHearer 12 = .ok (.getfield 43, 3) := zb_X4_addHearer_11.2.1
theorem dX4_addHearer_15 : decode cX4_addHearer 15 = .ok (.dup_x1, 1) := zb_X4_addHearer_11.2.2.1
theorem dX4_addHearer_16 : decode cX4_addHearer 16 = .ok (.iconst 1, 1) := zb_X4_addHearer_11.2.2.2.1
theorem dX4_addHearer_17 : decode cX4_addHearer 17 = .ok (.iadd, 1) := zb_X4_addHearer_11.2.2.2.2.1
theorem dX4_addHearer_18 : decode cX4_addHearer 18 = .ok (.putfield 43, 3) := zb_X4_addHearer_11.2.2.2.2.2.1
theorem dX4_addHearer_21 : decode cX4_addHearer 21 = .ok (.ireturn, 1) := zb_X4_addHearer_11.2.2.2.2.2.2
theorem zb_X4_setWave_0 : (decode cX4_setWave 0 = .ok (.bipush 10, 2)) ∧ (decode cX4_setWave 2 = .ok (.aload_n 0, 1)) ∧ (decode cX4_setWave 3 = .ok (.getfield 15, 3)) ∧ (decode cX4_setWave 6 = .ok (.iload_n 1, 1)) ∧ (decode cX4_setWave 7 = .ok (.iaload, 1)) ∧ (decode cX4_setWave 8 = .ok (.imul, 1)) ∧ (decode cX4_setWave 9 = .ok (.aload_n 0, 1)) ∧ (decode cX4_setWave 10 = .ok (.getfield 18, 3)) ∧ (decode cX4_setWave 13 = .ok (.iload_n 1, 1)) ∧ (decode cX4_setWave 14 = .ok (.iaload, 1)) ∧ (decode cX4_setWave 15 = .ok (.iadd, 1)) ∧ (decode cX4_setWave 16 = .ok (.istore 4, 2)) := by decide +kernel
theorem dX4_setWave_0 : decode cX4_setWave 0 = .ok (.bipush 10, 2) := zb_X4_setWave_0.1
theorem dX4_setWave_2 : decode cX4_setWave 2 = .ok (.aload_n 0, 1) := zb_X4_setWave_0.2.1
theorem dX4_setWave_3 : decode cX4_setWave 3 = .ok (.getfield 15, 3) := zb_X4_setWave_0.2.2.1
theorem dX4_setWave_6 : decode cX4_setWave 6 = .ok (.iload_n 1, 1) := zb_X4_setWave_0.2.2.2.1
theorem dX4_setWave_7 : decode cX4_setWave 7 = .ok (.iaload, 1) := zb_X4_setWave_0.2.2.2.2.1
theorem dX4_setWave_8 : decode cX4_setWave 8 = .ok (.imul, 1) := zb_X4_setWave_0.2.2.2.2.2.1
theorem dX4_setWave_9 : decode cX4_setWave 9 = .ok (.aload_n 0, 1) := zb_X4_setWave_0.2.2.2.2.2.2.1
theorem dX4_setWave_10 : decode cX4_setWave 10 = .ok (.getfield 18, 3) := zb_X4_setWave_0.2.2.2.2.2.2.2.1
theorem dX4_setWave_13 : decode cX4_setWave 13 = .ok (.iload_n 1, 1) := zb_X4_setWave_0.2.2.2.2.2.2.2.2.1
theorem dX4_setWave_14 : decode cX4_setWave 14 = .ok (.iaload, 1) := zb_X4_setWave_0.2.2.2.2.2.2.2.2.2.1
theorem dX4_setWave_15 : decode cX4_setWave 15 = .ok (.iadd, 1) := zb_X4_setWave_0.2.2.2.2.2.2.2.2.2.2.1
theorem dX4_setWave_16 : decode cX4_setWave 16 = .ok (.istore 4, 2) := zb_X4_setWave_0.2.2.2.2.2.2.2.2.2.2.2
theorem zb_X4_setWave_18 : (decode cX4_setWave 18 = .ok (.aload_n 0, 1)) ∧ (decode cX4_setWave 19 = .ok (.getfield 15, 3)) ∧ (decode cX4_setWave 22 = .ok (.iload_n 1, 1)) ∧ (decode cX4_setWave 23 = .ok (.iload_n 2, 1)) ∧ (decode cX4_setWave 24 = .ok (.iastore, 1)) ∧ (decode cX4_setWave 25 = .ok (.aload_n 0, 1)) ∧ (decode cX4_setWave 26 = .ok (.getfield 18, 3)) ∧ (decode cX4_setWave 29 = .ok (.iload_n 1, 1)) ∧ (decode cX4_setWave 30 = .ok (.iload_n 3, 1)) ∧ (decode cX4_setWave 31 = .ok (.iastore, 1)) ∧ (decode cX4_setWave 32 = .ok (.iload 4, 2)) ∧ (decode cX4_setWave 34 = .ok (.ireturn, 1)) := by decide +kernel
theorem dX4_setWave_18 : decode cX4_setWave 18 = .ok (.aload_n 0, 1) := zb_X4_setWave_18.1
theorem dX4_setWave_19 : decode cX4_setWave 19 = .ok (.getfield 15, 3) := zb_X4_setWave_18.2.1
theorem dX4_setWave_22 : decode cX4_setWave 22 = .ok (.iload_n 1, 1) := zb_X4_setWave_18.2.2.1
theorem dX4_setWave_23 : decode cX4_setWave 23 = .ok (.iload_n 2, 1) := zb_X4_setWave_18.2.2.2.1
theorem dX4_setWave_24 : decode cX4_setWave 24 = .ok (.iastore, 1) := zb_X4_setWave_18.2.2.2.2.1
theorem dX4_setWave_25 : decode cX4_setWave 25 = .ok (.aload_n 0, 1) := zb_X4_setWave_18.2.2.2.2.2.1
theorem dX4_setWave_26 : decode cX4_setWave 26 = .ok (.getfield 18, 3) := zb_X4_setWave_18.2.2.2.2.2.2.1
theorem dX4_setWave_29 : decode cX4_setWave 29 = .ok (.iload_n 1, 1) := zb_X4_setWave_18.2.2.2.2.2.2.2.1
theorem dX4_setWave_30 : decode cX4_setWave 30 = .ok (.iload_n 3, 1) := zb_X4_setWave_18.2.2.2.2.2.2.2.2.1
theorem dX4_setWave_31 : decode cX4_setWave 31 = .ok (.iastore, 1) := zb_X4_setWave_18.2.2.2.2.2.2.2.2.2.1
theorem dX4_setWave_32 : decode cX4_setWave 32 = .ok (.iload 4, 2) := zb_X4_setWave_18.2.2.2.2.2.2.2.2.2.2.1
theorem dX4_setWave_34 : decode cX4_setWave 34 = .ok (.ireturn, 1) := zb_X4_setWave_18.2.2.2.2.2.2.2.2.2.2.2
theorem zb_X4_hasCall_0 : (decode cX4_hasCall 0 = .ok (.iload_n 1, 1)) ∧ (decode cX4_hasCall 1 = .ok (.ifCond .lt 15, 3)) ∧ (decode cX4_hasCall 16 = .ok (.iconst 0, 1)) ∧ (decode cX4_hasCall 17 = .ok (.ireturn, 1)) ∧ (decode cX4_hasCall 4 = .ok (.iload_n 1, 1)) ∧ (decode cX4_hasCall 5 = .ok (.aload_n 0, 1)) ∧ (decode cX4_hasCall 6 = .ok (.getfield 47, 3)) ∧ (decode cX4_hasCall 9 = .ok (.if_icmp .ge 7, 3)) ∧ (decode cX4_hasCall 12 = .ok (.iconst 1, 1)) ∧ (decode cX4_hasCall 13 = .ok (.goto 4, 3)) := by decide +kernel
theorem dX4_hasCall_0 : decode cX4_hasCall 0 = .ok (.iload_n 1, 1) := zb_X4_hasCall_0.1
theorem dX4_hasCall_1 : decode cX4_hasCall 1 = .ok (.ifCond .lt 15, 3) := zb_X4_hasCall_0.2.1
theorem dX4_hasCall_16 : decode cX4_hasCall 16 = .ok (.iconst 0, 1) := zb_X4_hasCall_0.2.2.1
theorem dX4_hasCall_17 : decode cX4_hasCall 17 = .ok (.ireturn, 1) := zb_X4_hasCall_0.2.2.2.1
theorem dX4_hasCall_4 : decode cX4_hasCall 4 = .ok (.iload_n 1, 1) := zb_X4_hasCall_0.2.2.2.2.1
theorem dX4_hasCall_5 : decode cX4_hasCall 5 = .ok (.aload_n 0, 1) := zb_X4_hasCall_0.2.2.2.2.2.1
theorem dX4_hasCall_6 : decode cX4_hasCall 6 = .ok (.getfield 47, 3) := zb_X4_hasCall_0.2.2.2.2.2.2.1
theorem dX4_hasCall_9 : decode cX4_hasCall 9 = .ok (.if_icmp .ge 7, 3) := zb_X4_hasCall_0.2.2.2.2.2.2.2.1
theorem dX4_hasCall_12 : decode cX4_hasCall 12 = .ok (.iconst 1, 1) := zb_X4_hasCall_0.2.2.2.2.2.2.2.2.1
theorem dX4_hasCall_13 : decode cX4_hasCall 13 = .ok (.goto 4, 3) := zb_X4_hasCall_0.2.2.2.2.2.2.2.2.2
theorem zb_X4_addCall_0 : (decode cX4_addCall 0 = .ok (.aload_n 0, 1)) ∧ (decode cX4_addCall 1 = .ok (.getfield 21, 3)) ∧ (decode cX4_addCall 4 = .ok (.aload_n 0, 1)) ∧ (decode cX4_addCall 5 = .ok (.getfield 47, 3)) ∧ (decode cX4_addCall 8 = .ok (.iload_n 1, 1)) ∧ (decode cX4_addCall 9 = .ok (.iastore, 1)) ∧ (decode cX4_addCall 10 = .ok (.aload_n 0, 1)) ∧ (decode cX4_addCall 11 = .ok (.getfield 24, 3)) ∧ (decode cX4_addCall 14 = .ok (.aload_n 0, 1)) ∧ (decode cX4_addCall 15 = .ok (.getfield 47, 3)) ∧ (decode cX4_addCall 18 = .ok (.iload_n 2, 1)) := by decide +kernel
theorem dX4_addCall_0 : decode cX4_addCall 0 = .ok (.aload_n 0, 1) := zb_X4_addCall_0.1
theorem dX4_addCall_1 : decode cX4_addCall 1 = .ok (.getfield 21, 3) := zb_X4_addCall_0.2.1
theorem dX4_addCall_4 : decode cX4_addCall 4 = .ok (.aload_n 0, 1) := zb_X4_addCall_0.2.2.1
theorem dX4_addCall_5 : decode cX4_addCall 5 = .ok (.getfield 47, 3) := zb_X4_addCall_0.2.2.2.1
theorem dX4_addCall_8 : decode cX4_addCall 8 = .ok (.iload_n 1, 1) := zb_X4_addCall_0.2.2.2.2.1
theorem dX4_addCall_9 : decode cX4_addCall 9 = .ok (.iastore, 1) := zb_X4_addCall_0.2.2.2.2.2.1
theorem dX4_addCall_10 : decode cX4_addCall 10 = .ok (.aload_n 0, 1) := zb_X4_addCall_0.2.2.2.2.2.2.1
theorem dX4_addCall_11 : decode cX4_addCall 11 = .ok (.getfield 24, 3) := zb_X4_addCall_0.2.2.2.2.2.2.2.1
theorem dX4_addCall_14 : decode cX4_addCall 14 = .ok (.aload_n 0, 1) := zb_X4_addCall_0.2.2.2.2.2.2.2.2.1
theorem dX4_addCall_15 : decode cX4_addCall 15 = .ok (.getfield 47, 3) := zb_X4_addCall_0.2.2.2.2.2.2.2.2.2.1
theorem dX4_addCall_18 : decode cX4_addCall 18 = .ok (.iload_n 2, 1) := zb_X4_addCall_0.2.2.2.2.2.2.2.2.2.2
theorem zb_X4_addCall_19 : (decode cX4_addCall 19 = .ok (.iastore, 1)) ∧ (decode cX4_addCall 20 = .ok (.aload_n 0, 1)) ∧ (decode cX4_addCall 21 = .ok (.getfield 27, 3)) ∧ (decode cX4_addCall 24 = .ok (.aload_n 0, 1)) ∧ (decode cX4_addCall 25 = .ok (.getfield 47, 3)) ∧ (decode cX4_addCall 28 = .ok (.iload_n 3, 1)) ∧ (decode cX4_addCall 29 = .ok (.iastore, 1)) ∧ (decode cX4_addCall 30 = .ok (.aload_n 0, 1)) ∧ (decode cX4_addCall 31 = .ok (.getfield 30, 3)) ∧ (decode cX4_addCall 34 = .ok (.aload_n 0, 1)) ∧ (decode cX4_addCall 35 = .ok (.getfield 47, 3)) := by decide +kernel
theorem dX4_addCall_19 : decode cX4_addCall 19 = .ok (.iastore, 1) := zb_X4_addCall_19.1
theorem dX4_addCall_20 : decode cX4_addCall 20 = .ok (.aload_n 0, 1) := zb_X4_addCall_19.2.1
theorem dX4_addCall_21 : decode cX4_addCall 21 = .ok (.getfield 27, 3) := zb_X4_addCall_19.2.2.1
theorem dX4_addCall_24 : decode cX4_addCall 24 = .ok (.aload_n 0, 1) := zb_X4_addCall_19.2.2.2.1
theorem dX4_addCall_25 : decode cX4_addCall 25 = .ok (.getfield 47, 3) := zb_X4_addCall_19.2.2.2.2.1
theorem dX4_addCall_28 : decode cX4_addCall 28 = .ok (.iload_n 3, 1) := zb_X4_addCall_19.2.2.2.2.2.1
theorem dX4_addCall_29 : decode cX4_addCall 29 = .ok (.iastore, 1) := zb_X4_addCall_19.2.2.2.2.2.2.1
theorem dX4_addCall_30 : decode cX4_addCall 30 = .ok (.aload_n 0, 1) := zb_X4_addCall_19.2.2.2.2.2.2.2.1
theorem dX4_addCall_31 : decode cX4_addCall 31 = .ok (.getfield 30, 3) := zb_X4_addCall_19.2.2.2.2.2.2.2.2.1
theorem dX4_addCall_34 : decode cX4_addCall 34 = .ok (.aload_n 0, 1) := zb_X4_addCall_19.2.2.2.2.2.2.2.2.2.1
theorem dX4_addCall_35 : decode cX4_addCall 35 = .ok (.getfield 47, 3) := zb_X4_addCall_19.2.2.2.2.2.2.2.2.2.2
theorem zb_X4_addCall_38 : (decode cX4_addCall 38 = .ok (.lload 4, 2)) ∧ (decode cX4_addCall 40 = .ok (.lastore, 1)) ∧ (decode cX4_addCall 41 = .ok (.aload_n 0, 1)) ∧ (decode cX4_addCall 42 = .ok (.dup, 1)) ∧ (decode cX4_addCall 43 = .ok (.getfield 47, 3)) ∧ (decode cX4_addCall 46 = .ok (.dup_x1, 1)) ∧ (decode cX4_addCall 47 = .ok (.iconst 1, 1)) ∧ (decode cX4_addCall 48 = .ok (.iadd, 1)) ∧ (decode cX4_addCall 49 = .ok (.putfield 47, 3)) ∧ (decode cX4_addCall 52 = .ok (.ireturn, 1)) := by decide +kernel
theorem dX4_addCall_38 : decode cX4_addCall 38 = .ok (.lload 4, 2) := zb_X4_addCall_38.1
theorem dX4_addCall_40 : decode cX4_addCall 40 = .ok (.lastore, 1) := zb_X4_addCall_38.2.1
theorem dX4_addCall_41 : decode cX4_addCall 41 = .ok (.aload_n 0, 1) := zb_X4_addCall_38.2.2.1
theorem dX4_addCall_42 : decode cX4_addCall 42 = .ok (.dup, 1) := zb_X4_addCall_38.2.2.2.1
theorem dX4_addCall_43 : decode cX4_addCall 43 = .ok (.getfield 47, 3) := zb_X4_addCall_38.2.2.2.2.1
theorem dX4_addCall_46 : decode cX4_addCall 46 = .ok (.dup_x1, 1) := zb_X4_addCall_38.2.2.2.2.2.1
theorem dX4_addCall_47 : decode cX4_addCall 47 = .ok (.iconst 1, 1) := zb_X4_addCall_38.2.2.2.2.2.2.1
theorem dX4_addCall_48 : decode cX4_addCall 48 = .ok (.iadd, 1) := zb_X4_addCall_38.2.2.2.2.2.2.2.1
theorem dX4_addCall_49 : decode cX4_addCall 49 = .ok (.putfield 47, 3) := zb_X4_addCall_38.2.2.2.2.2.2.2.2.1
theorem dX4_addCall_52 : decode cX4_addCall 52 = .ok (.ireturn, 1) := zb_X4_addCall_38.2.2.2.2.2.2.2.2.2
theorem zb_X4_addPart_0 : (decode cX4_addPart 0 = .ok (.aload_n 0, 1)) ∧ (decode cX4_addPart 1 = .ok (.getfield 34, 3)) ∧ (decode cX4_addPart 4 = .ok (.aload_n 0, 1)) ∧ (decode cX4_addPart 5 = .ok (.getfield 50, 3)) ∧ (decode cX4_addPart 8 = .ok (.iload_n 1, 1)) ∧ (decode cX4_addPart 9 = .ok (.iastore, 1)) ∧ (decode cX4_addPart 10 = .ok (.aload_n 0, 1)) ∧ (decode cX4_addPart 11 = .ok (.getfield 37, 3)) ∧ (decode cX4_addPart 14 = .ok (.aload_n 0, 1)) := by decide +kernel
theorem dX4_addPart_0 : decode cX4_addPart 0 = .ok (.aload_n 0, 1) := zb_X4_addPart_0.1
theorem dX4_addPart_1 : decode cX4_addPart 1 = .ok (.getfield 34, 3) := zb_X4_addPart_0.2.1
theorem dX4_addPart_4 : decode cX4_addPart 4 = .ok (.aload_n 0, 1) := zb_X4_addPart_0.2.2.1
theorem dX4_addPart_5 : decode cX4_addPart 5 = .ok (.getfield 50, 3) := zb_X4_addPart_0.2.2.2.1
theorem dX4_addPart_8 : decode cX4_addPart 8 = .ok (.iload_n 1, 1) := zb_X4_addPart_0.2.2.2.2.1
theorem dX4_addPart_9 : decode cX4_addPart 9 = .ok (.iastore, 1) := zb_X4_addPart_0.2.2.2.2.2.1
theorem dX4_addPart_10 : decode cX4_addPart 10 = .ok (.aload_n 0, 1) := zb_X4_addPart_0.2.2.2.2.2.2.1
theorem dX4_addPart_11 : decode cX4_addPart 11 = .ok (.getfield 37, 3) := zb_X4_addPart_0.2.2.2.2.2.2.2.1
theorem dX4_addPart_14 : decode cX4_addPart 14 = .ok (.aload_n 0, 1) := zb_X4_addPart_0.2.2.2.2.2.2.2.2
theorem zb_X4_addPart_15 : (decode cX4_addPart 15 = .ok (.getfield 50, 3)) ∧ (decode cX4_addPart 18 = .ok (.iload_n 2, 1)) ∧ (decode cX4_addPart 19 = .ok (.iastore, 1)) ∧ (decode cX4_addPart 20 = .ok (.aload_n 0, 1)) ∧ (decode cX4_addPart 21 = .ok (.getfield 40, 3)) ∧ (decode cX4_addPart 24 = .ok (.aload_n 0, 1)) ∧ (decode cX4_addPart 25 = .ok (.getfield 50, 3)) ∧ (decode cX4_addPart 28 = .ok (.lload_n 3, 1)) ∧ (decode cX4_addPart 29 = .ok (.lastore, 1)) := by decide +kernel
theorem dX4_addPart_15 : decode cX4_addPart 15 = .ok (.getfield 50, 3) := zb_X4_addPart_15.1
theorem dX4_addPart_18 : decode cX4_addPart 18 = .ok (.iload_n 2, 1) := zb_X4_addPart_15.2.1
theorem dX4_addPart_19 : decode cX4_addPart 19 = .ok (.iastore, 1) := zb_X4_addPart_15.2.2.1
theorem dX4_addPart_20 : decode cX4_addPart 20 = .ok (.aload_n 0, 1) := zb_X4_addPart_15.2.2.2.1
theorem dX4_addPart_21 : decode cX4_addPart 21 = .ok (.getfield 40, 3) := zb_X4_addPart_15.2.2.2.2.1
theorem dX4_addPart_24 : decode cX4_addPart 24 = .ok (.aload_n 0, 1) := zb_X4_addPart_15.2.2.2.2.2.1
theorem dX4_addPart_25 : decode cX4_addPart 25 = .ok (.getfield 50, 3) := zb_X4_addPart_15.2.2.2.2.2.2.1
theorem dX4_addPart_28 : decode cX4_addPart 28 = .ok (.lload_n 3, 1) := zb_X4_addPart_15.2.2.2.2.2.2.2.1
theorem dX4_addPart_29 : decode cX4_addPart 29 = .ok (.lastore, 1) := zb_X4_addPart_15.2.2.2.2.2.2.2.2
theorem zb_X4_addPart_30 : (decode cX4_addPart 30 = .ok (.aload_n 0, 1)) ∧ (decode cX4_addPart 31 = .ok (.dup, 1)) ∧ (decode cX4_addPart 32 = .ok (.getfield 50, 3)) ∧ (decode cX4_addPart 35 = .ok (.iconst 1, 1)) ∧ (decode cX4_addPart 36 = .ok (.iadd, 1)) ∧ (decode cX4_addPart 37 = .ok (.dup_x1, 1)) ∧ (decode cX4_addPart 38 = .ok (.putfield 50, 3)) ∧ (decode cX4_addPart 41 = .ok (.ireturn, 1)) := by decide +kernel
theorem dX4_addPart_30 : decode cX4_addPart 30 = .ok (.aload_n 0, 1) := zb_X4_addPart_30.1
theorem dX4_addPart_31 : decode cX4_addPart 31 = .ok (.dup, 1) := zb_X4_addPart_30.2.1
theorem dX4_addPart_32 : decode cX4_addPart 32 = .ok (.getfield 50, 3) := zb_X4_addPart_30.2.2.1
theorem dX4_addPart_35 : decode cX4_addPart 35 = .ok (.iconst 1, 1) := zb_X4_addPart_30.2.2.2.1
theorem dX4_addPart_36 : decode cX4_addPart 36 = .ok (.iadd, 1) := zb_X4_addPart_30.2.2.2.2.1
theorem dX4_addPart_37 : decode cX4_addPart 37 = .ok (.dup_x1, 1) := zb_X4_addPart_30.2.2.2.2.2.1
theorem dX4_addPart_38 : decode cX4_addPart 38 = .ok (.putfield 50, 3) := zb_X4_addPart_30.2.2.2.2.2.2.1
theorem dX4_addPart_41 : decode cX4_addPart 41 = .ok (.ireturn, 1) := zb_X4_addPart_30.2.2.2.2.2.2.2
theorem zb_X4_isAnyApart_0 : (decode cX4_isAnyApart 0 = .ok (.iconst 0, 1)) ∧ (decode cX4_isAnyApart 1 = .ok (.istore 5, 2)) ∧ (decode cX4_isAnyApart 3 = .ok (.iload 5, 2)) ∧ (decode cX4_isAnyApart 5 = .ok (.bipush 64, 2)) ∧ (decode cX4_isAnyApart 7 = .ok (.if_icmp .ge 41, 3)) ∧ (decode cX4_isAnyApart 48 = .ok (.iconst 0, 1)) ∧ (decode cX4_isAnyApart 49 = .ok (.ireturn, 1)) ∧ (decode cX4_isAnyApart 10 = .ok (.iload_n 2, 1)) ∧ (decode cX4_isAnyApart 11 = .ok (.iload 5, 2)) := by decide +kernel
theorem dX4_isAnyApart_0 : decode cX4_isAnyApart 0 = .ok (.iconst 0, 1) := zb_X4_isAnyApart_0.1
theorem dX4_isAnyApart_1 : decode cX4_isAnyApart 1 = .ok (.istore 5, 2) := zb_X4_isAnyApart_0.2.1
theorem dX4_isAnyApart_3 : decode cX4_isAnyApart 3 = .ok (.iload 5, 2) := zb_X4_isAnyApart_0.2.2.1
theorem dX4_isAnyApart_5 : decode cX4_isAnyApart 5 = .ok (.bipush 64, 2) := zb_X4_isAnyApart_0.2.2.2.1
theorem dX4_isAnyApart_7 : decode cX4_isAnyApart 7 = .ok (.if_icmp .ge 41, 3) := zb_X4_isAnyApart_0.2.2.2.2.1
theorem dX4_isAnyApart_48 : decode cX4_isAnyApart 48 = .ok (.iconst 0, 1) := zb_X4_isAnyApart_0.2.2.2.2.2.1
theorem dX4_isAnyApart_49 : decode cX4_isAnyApart 49 = .ok (.ireturn, 1) := zb_X4_isAnyApart_0.2.2.2.2.2.2.1
theorem dX4_isAnyApart_10 : decode cX4_isAnyApart 10 = .ok (.iload_n 2, 1) := zb_X4_isAnyApart_0.2.2.2.2.2.2.2.1
theorem dX4_isAnyApart_11 : decode cX4_isAnyApart 11 = .ok (.iload 5, 2) := zb_X4_isAnyApart_0.2.2.2.2.2.2.2.2
theorem zb_X4_isAnyApart_13 : (decode cX4_isAnyApart 13 = .ok (.invokestatic 57, 3)) ∧ (decode cX4_isAnyApart 16 = .ok (.istore 6, 2)) ∧ (decode cX4_isAnyApart 18 = .ok (.lload_n 0, 1)) ∧ (decode cX4_isAnyApart 19 = .ok (.iload 5, 2)) ∧ (decode cX4_isAnyApart 21 = .ok (.invokestatic 61, 3)) ∧ (decode cX4_isAnyApart 24 = .ok (.ifCond .eq 18, 3)) ∧ (decode cX4_isAnyApart 27 = .ok (.iload 6, 2)) ∧ (decode cX4_isAnyApart 29 = .ok (.iload_n 3, 1)) ∧ (decode cX4_isAnyApart 30 = .ok (.if_icmp .lt 12, 3)) := by decide +kernel
theorem dX4_isAnyApart_13 : decode cX4_isAnyApart 13 = .ok (.invokestatic 57, 3) := zb_X4_isAnyApart_13.1
theorem dX4_isAnyApart_16 : decode cX4_isAnyApart 16 = .ok (.istore 6, 2) := zb_X4_isAnyApart_13.2.1
theorem dX4_isAnyApart_18 : decode cX4_isAnyApart 18 = .ok (.lload_n 0, 1) := zb_X4_isAnyApart_13.2.2.1
theorem dX4_isAnyApart_19 : decode cX4_isAnyApart 19 = .ok (.iload 5, 2) := zb_X4_isAnyApart_13.2.2.2.1
theorem dX4_isAnyApart_21 : decode cX4_isAnyApart 21 = .ok (.invokestatic 61, 3) := zb_X4_isAnyApart_13.2.2.2.2.1
theorem dX4_isAnyApart_24 : decode cX4_isAnyApart 24 = .ok (.ifCond .eq 18, 3) := zb_X4_isAnyApart_13.2.2.2.2.2.1
theorem dX4_isAnyApart_27 : decode cX4_isAnyApart 27 = .ok (.iload 6, 2) := zb_X4_isAnyApart_13.2.2.2.2.2.2.1
theorem dX4_isAnyApart_29 : decode cX4_isAnyApart 29 = .ok (.iload_n 3, 1) := zb_X4_isAnyApart_13.2.2.2.2.2.2.2.1
theorem dX4_isAnyApart_30 : decode cX4_isAnyApart 30 = .ok (.if_icmp .lt 12, 3) := zb_X4_isAnyApart_13.2.2.2.2.2.2.2.2
theorem zb_X4_isAnyApart_42 : (decode cX4_isAnyApart 42 = .ok (.iinc 5 1, 3)) ∧ (decode cX4_isAnyApart 45 = .ok (.goto (-42), 3)) ∧ (decode cX4_isAnyApart 33 = .ok (.iload 6, 2)) ∧ (decode cX4_isAnyApart 35 = .ok (.iload 4, 2)) ∧ (decode cX4_isAnyApart 37 = .ok (.if_icmp .gt 5, 3)) ∧ (decode cX4_isAnyApart 40 = .ok (.iconst 1, 1)) ∧ (decode cX4_isAnyApart 41 = .ok (.ireturn, 1)) := by decide +kernel
theorem dX4_isAnyApart_42 : decode cX4_isAnyApart 42 = .ok (.iinc 5 1, 3) := zb_X4_isAnyApart_42.1
theorem dX4_isAnyApart_45 : decode cX4_isAnyApart 45 = .ok (.goto (-42), 3) := zb_X4_isAnyApart_42.2.1
theorem dX4_isAnyApart_33 : decode cX4_isAnyApart 33 = .ok (.iload 6, 2) := zb_X4_isAnyApart_42.2.2.1
theorem dX4_isAnyApart_35 : decode cX4_isAnyApart 35 = .ok (.iload 4, 2) := zb_X4_isAnyApart_42.2.2.2.1
theorem dX4_isAnyApart_37 : decode cX4_isAnyApart 37 = .ok (.if_icmp .gt 5, 3) := zb_X4_isAnyApart_42.2.2.2.2.1
theorem dX4_isAnyApart_40 : decode cX4_isAnyApart 40 = .ok (.iconst 1, 1) := zb_X4_isAnyApart_42.2.2.2.2.2.1
theorem dX4_isAnyApart_41 : decode cX4_isAnyApart 41 = .ok (.ireturn, 1) := zb_X4_isAnyApart_42.2.2.2.2.2.2
theorem zb_X4_hearersOf_0 : (decode cX4_hearersOf 0 = .ok (.aload_n 0, 1)) ∧ (decode cX4_hearersOf 1 = .ok (.getfield 27, 3)) ∧ (decode cX4_hearersOf 4 = .ok (.iload_n 1, 1)) ∧ (decode cX4_hearersOf 5 = .ok (.iaload, 1)) ∧ (decode cX4_hearersOf 6 = .ok (.bipush 24, 2)) ∧ (decode cX4_hearersOf 8 = .ok (.irem, 1)) ∧ (decode cX4_hearersOf 9 = .ok (.istore 4, 2)) ∧ (decode cX4_hearersOf 41 = .ok (.iconst 0, 1)) ∧ (decode cX4_hearersOf 42 = .ok (.istore 6, 2)) ∧ (decode cX4_hearersOf 44 = .ok (.iconst 0, 1)) ∧ (decode cX4_hearersOf 45 = .ok (.istore 7, 2)) ∧ (decode cX4_hearersOf 47 = .ok (.iload 7, 2)) := by decide +kernel
theorem dX4_hearersOf_0 : decode cX4_hearersOf 0 = .ok (.aload_n 0, 1) := zb_X4_hearersOf_0.1
theorem dX4_hearersOf_1 : decode cX4_hearersOf 1 = .ok (.getfield 27, 3) := zb_X4_hearersOf_0.2.1
theorem dX4_hearersOf_4 : decode cX4_hearersOf 4 = .ok (.iload_n 1, 1) := zb_X4_hearersOf_0.2.2.1
theorem dX4_hearersOf_5 : decode cX4_hearersOf 5 = .ok (.iaload, 1) := zb_X4_hearersOf_0.2.2.2.1
theorem dX4_hearersOf_6 : decode cX4_hearersOf 6 = .ok (.bipush 24, 2) := zb_X4_hearersOf_0.2.2.2.2.1
theorem dX4_hearersOf_8 : decode cX4_hearersOf 8 = .ok (.irem, 1) := zb_X4_hearersOf_0.2.2.2.2.2.1
theorem dX4_hearersOf_9 : decode cX4_hearersOf 9 = .ok (.istore 4, 2) := zb_X4_hearersOf_0.2.2.2.2.2.2.1
theorem dX4_hearersOf_41 : decode cX4_hearersOf 41 = .ok (.iconst 0, 1) := zb_X4_hearersOf_0.2.2.2.2.2.2.2.1
theorem dX4_hearersOf_42 : decode cX4_hearersOf 42 = .ok (.istore 6, 2) := zb_X4_hearersOf_0.2.2.2.2.2.2.2.2.1
theorem dX4_hearersOf_44 : decode cX4_hearersOf 44 = .ok (.iconst 0, 1) := zb_X4_hearersOf_0.2.2.2.2.2.2.2.2.2.1
theorem dX4_hearersOf_45 : decode cX4_hearersOf 45 = .ok (.istore 7, 2) := zb_X4_hearersOf_0.2.2.2.2.2.2.2.2.2.2.1
theorem dX4_hearersOf_47 : decode cX4_hearersOf 47 = .ok (.iload 7, 2) := zb_X4_hearersOf_0.2.2.2.2.2.2.2.2.2.2.2
theorem zb_X4_hearersOf_49 : (decode cX4_hearersOf 49 = .ok (.aload_n 0, 1)) ∧ (decode cX4_hearersOf 50 = .ok (.getfield 43, 3)) ∧ (decode cX4_hearersOf 53 = .ok (.if_icmp .ge 46, 3)) ∧ (decode cX4_hearersOf 99 = .ok (.iload 6, 2)) ∧ (decode cX4_hearersOf 101 = .ok (.ireturn, 1)) ∧ (decode cX4_hearersOf 56 = .ok (.lload_n 2, 1)) ∧ (decode cX4_hearersOf 57 = .ok (.aload_n 0, 1)) ∧ (decode cX4_hearersOf 58 = .ok (.getfield 9, 3)) ∧ (decode cX4_hearersOf 61 = .ok (.iload 7, 2)) ∧ (decode cX4_hearersOf 63 = .ok (.iaload, 1)) ∧ (decode cX4_hearersOf 64 = .ok (.aload_n 0, 1)) ∧ (decode cX4_hearersOf 65 = .ok (.getfield 15, 3)) := by decide +kernel
theorem dX4_hearersOf_49 : decode cX4_hearersOf 49 = .ok (.aload_n 0, 1) := zb_X4_hearersOf_49.1
theorem dX4_hearersOf_50 : decode cX4_hearersOf 50 = .ok (.getfield 43, 3) := zb_X4_hearersOf_49.2.1
theorem dX4_hearersOf_53 : decode cX4_hearersOf 53 = .ok (.if_icmp .ge 46, 3) := zb_X4_hearersOf_49.2.2.1
theorem dX4_hearersOf_99 : decode cX4_hearersOf 99 = .ok (.iload 6, 2) := zb_X4_hearersOf_49.2.2.2.1
theorem dX4_hearersOf_101 : decode cX4_hearersOf 101 = .ok (.ireturn, 1) := zb_X4_hearersOf_49.2.2.2.2.1
theorem dX4_hearersOf_56 : decode cX4_hearersOf 56 = .ok (.lload_n 2, 1) := zb_X4_hearersOf_49.2.2.2.2.2.1
theorem dX4_hearersOf_57 : decode cX4_hearersOf 57 = .ok (.aload_n 0, 1) := zb_X4_hearersOf_49.2.2.2.2.2.2.1
theorem dX4_hearersOf_58 : decode cX4_hearersOf 58 = .ok (.getfield 9, 3) := zb_X4_hearersOf_49.2.2.2.2.2.2.2.1
theorem dX4_hearersOf_61 : decode cX4_hearersOf 61 = .ok (.iload 7, 2) := zb_X4_hearersOf_49.2.2.2.2.2.2.2.2.1
theorem dX4_hearersOf_63 : decode cX4_hearersOf 63 = .ok (.iaload, 1) := zb_X4_hearersOf_49.2.2.2.2.2.2.2.2.2.1
theorem dX4_hearersOf_64 : decode cX4_hearersOf 64 = .ok (.aload_n 0, 1) := zb_X4_hearersOf_49.2.2.2.2.2.2.2.2.2.2.1
theorem dX4_hearersOf_65 : decode cX4_hearersOf 65 = .ok (.getfield 15, 3) := zb_X4_hearersOf_49.2.2.2.2.2.2.2.2.2.2.2
theorem zb_X4_hearersOf_68 : (decode cX4_hearersOf 68 = .ok (.iload 5, 2)) ∧ (decode cX4_hearersOf 70 = .ok (.iaload, 1)) ∧ (decode cX4_hearersOf 71 = .ok (.aload_n 0, 1)) ∧ (decode cX4_hearersOf 72 = .ok (.getfield 18, 3)) ∧ (decode cX4_hearersOf 75 = .ok (.iload 5, 2)) ∧ (decode cX4_hearersOf 77 = .ok (.iaload, 1)) ∧ (decode cX4_hearersOf 78 = .ok (.invokestatic 53, 3)) ∧ (decode cX4_hearersOf 81 = .ok (.ifCond .eq 12, 3)) ∧ (decode cX4_hearersOf 93 = .ok (.iinc 7 1, 3)) ∧ (decode cX4_hearersOf 96 = .ok (.goto (-49), 3)) ∧ (decode cX4_hearersOf 84 = .ok (.iload 6, 2)) ∧ (decode cX4_hearersOf 86 = .ok (.iconst 1, 1)) := by decide +kernel
theorem dX4_hearersOf_68 : decode cX4_hearersOf 68 = .ok (.iload 5, 2) := zb_X4_hearersOf_68.1
theorem dX4_hearersOf_70 : decode cX4_hearersOf 70 = .ok (.iaload, 1) := zb_X4_hearersOf_68.2.1
theorem dX4_hearersOf_71 : decode cX4_hearersOf 71 = .ok (.aload_n 0, 1) := zb_X4_hearersOf_68.2.2.1
theorem dX4_hearersOf_72 : decode cX4_hearersOf 72 = .ok (.getfield 18, 3) := zb_X4_hearersOf_68.2.2.2.1
theorem dX4_hearersOf_75 : decode cX4_hearersOf 75 = .ok (.iload 5, 2) := zb_X4_hearersOf_68.2.2.2.2.1
theorem dX4_hearersOf_77 : decode cX4_hearersOf 77 = .ok (.iaload, 1) := zb_X4_hearersOf_68.2.2.2.2.2.1
theorem dX4_hearersOf_78 : decode cX4_hearersOf 78 = .ok (.invokestatic 53, 3) := zb_X4_hearersOf_68.2.2.2.2.2.2.1
theorem dX4_hearersOf_81 : decode cX4_hearersOf 81 = .ok (.ifCond .eq 12, 3) := zb_X4_hearersOf_68.2.2.2.2.2.2.2.1
theorem dX4_hearersOf_93 : decode cX4_hearersOf 93 = .ok (.iinc 7 1, 3) := zb_X4_hearersOf_68.2.2.2.2.2.2.2.2.1
theorem dX4_hearersOf_96 : decode cX4_hearersOf 96 = .ok (.goto (-49), 3) := zb_X4_hearersOf_68.2.2.2.2.2.2.2.2.2.1
theorem dX4_hearersOf_84 : decode cX4_hearersOf 84 = .ok (.iload 6, 2) := zb_X4_hearersOf_68.2.2.2.2.2.2.2.2.2.2.1
theorem dX4_hearersOf_86 : decode cX4_hearersOf 86 = .ok (.iconst 1, 1) := zb_X4_hearersOf_68.2.2.2.2.2.2.2.2.2.2.2
theorem zb_X4_hearersOf_87 : (decode cX4_hearersOf 87 = .ok (.iload 7, 2)) ∧ (decode cX4_hearersOf 89 = .ok (.ishl, 1)) ∧ (decode cX4_hearersOf 90 = .ok (.ior, 1)) ∧ (decode cX4_hearersOf 91 = .ok (.istore 6, 2)) ∧ (decode cX4_hearersOf 11 = .ok (.iconst 2, 1)) ∧ (decode cX4_hearersOf 12 = .ok (.aload_n 0, 1)) ∧ (decode cX4_hearersOf 13 = .ok (.getfield 24, 3)) ∧ (decode cX4_hearersOf 16 = .ok (.iload_n 1, 1)) ∧ (decode cX4_hearersOf 17 = .ok (.iaload, 1)) ∧ (decode cX4_hearersOf 18 = .ok (.imul, 1)) ∧ (decode cX4_hearersOf 19 = .ok (.iload 4, 2)) ∧ (decode cX4_hearersOf 21 = .ok (.bipush 6, 2)) := by decide +kernel
theorem dX4_hearersOf_87 : decode cX4_hearersOf 87 = .ok (.iload 7, 2) := zb_X4_hearersOf_87.1
theorem dX4_hearersOf_89 : decode cX4_hearersOf 89 = .ok (.ishl, 1) := zb_X4_hearersOf_87.2.1
theorem dX4_hearersOf_90 : decode cX4_hearersOf 90 = .ok (.ior, 1) := zb_X4_hearersOf_87.2.2.1
theorem dX4_hearersOf_91 : decode cX4_hearersOf 91 = .ok (.istore 6, 2) := zb_X4_hearersOf_87.2.2.2.1
theorem dX4_hearersOf_11 : decode cX4_hearersOf 11 = .ok (.iconst 2, 1) := zb_X4_hearersOf_87.2.2.2.2.1
theorem dX4_hearersOf_12 : decode cX4_hearersOf 12 = .ok (.aload_n 0, 1) := zb_X4_hearersOf_87.2.2.2.2.2.1
theorem dX4_hearersOf_13 : decode cX4_hearersOf 13 = .ok (.getfield 24, 3) := zb_X4_hearersOf_87.2.2.2.2.2.2.1
theorem dX4_hearersOf_16 : decode cX4_hearersOf 16 = .ok (.iload_n 1, 1) := zb_X4_hearersOf_87.2.2.2.2.2.2.2.1
theorem dX4_hearersOf_17 : decode cX4_hearersOf 17 = .ok (.iaload, 1) := zb_X4_hearersOf_87.2.2.2.2.2.2.2.2.1
theorem dX4_hearersOf_18 : decode cX4_hearersOf 18 = .ok (.imul, 1) := zb_X4_hearersOf_87.2.2.2.2.2.2.2.2.2.1
theorem dX4_hearersOf_19 : decode cX4_hearersOf 19 = .ok (.iload 4, 2) := zb_X4_hearersOf_87.2.2.2.2.2.2.2.2.2.2.1
theorem dX4_hearersOf_21 : decode cX4_hearersOf 21 = .ok (.bipush 6, 2) := zb_X4_hearersOf_87.2.2.2.2.2.2.2.2.2.2.2
theorem zb_X4_hearersOf_23 : (decode cX4_hearersOf 23 = .ok (.if_icmp .lt 10, 3)) ∧ (decode cX4_hearersOf 33 = .ok (.iconst 1, 1)) ∧ (decode cX4_hearersOf 34 = .ok (.goto 4, 3)) ∧ (decode cX4_hearersOf 38 = .ok (.iadd, 1)) ∧ (decode cX4_hearersOf 39 = .ok (.istore 5, 2)) ∧ (decode cX4_hearersOf 26 = .ok (.iload 4, 2)) ∧ (decode cX4_hearersOf 28 = .ok (.bipush 17, 2)) ∧ (decode cX4_hearersOf 30 = .ok (.if_icmp .le 7, 3)) ∧ (decode cX4_hearersOf 37 = .ok (.iconst 0, 1)) := by decide +kernel
theorem dX4_hearersOf_23 : decode cX4_hearersOf 23 = .ok (.if_icmp .lt 10, 3) := zb_X4_hearersOf_23.1
theorem dX4_hearersOf_33 : decode cX4_hearersOf 33 = .ok (.iconst 1, 1) := zb_X4_hearersOf_23.2.1
theorem dX4_hearersOf_34 : decode cX4_hearersOf 34 = .ok (.goto 4, 3) := zb_X4_hearersOf_23.2.2.1
theorem dX4_hearersOf_38 : decode cX4_hearersOf 38 = .ok (.iadd, 1) := zb_X4_hearersOf_23.2.2.2.1
theorem dX4_hearersOf_39 : decode cX4_hearersOf 39 = .ok (.istore 5, 2) := zb_X4_hearersOf_23.2.2.2.2.1
theorem dX4_hearersOf_26 : decode cX4_hearersOf 26 = .ok (.iload 4, 2) := zb_X4_hearersOf_23.2.2.2.2.2.1
theorem dX4_hearersOf_28 : decode cX4_hearersOf 28 = .ok (.bipush 17, 2) := zb_X4_hearersOf_23.2.2.2.2.2.2.1
theorem dX4_hearersOf_30 : decode cX4_hearersOf 30 = .ok (.if_icmp .le 7, 3) := zb_X4_hearersOf_23.2.2.2.2.2.2.2.1
theorem dX4_hearersOf_37 : decode cX4_hearersOf 37 = .ok (.iconst 0, 1) := zb_X4_hearersOf_23.2.2.2.2.2.2.2.2
theorem zb_X4_putTogether_0 : (decode cX4_putTogether 0 = .ok (.iconst (-1), 1)) ∧ (decode cX4_putTogether 1 = .ok (.istore_n 3, 1)) ∧ (decode cX4_putTogether 2 = .ok (.iconst 0, 1)) ∧ (decode cX4_putTogether 3 = .ok (.istore 4, 2)) ∧ (decode cX4_putTogether 5 = .ok (.iload 4, 2)) ∧ (decode cX4_putTogether 7 = .ok (.aload_n 0, 1)) ∧ (decode cX4_putTogether 8 = .ok (.getfield 50, 3)) ∧ (decode cX4_putTogether 11 = .ok (.if_icmp .ge 64, 3)) ∧ (decode cX4_putTogether 75 = .ok (.iload_n 3, 1)) ∧ (decode cX4_putTogether 76 = .ok (.ireturn, 1)) ∧ (decode cX4_putTogether 14 = .ok (.aload_n 0, 1)) := by decide +kernel
theorem dX4_putTogether_0 : decode cX4_putTogether 0 = .ok (.iconst (-1), 1) := zb_X4_putTogether_0.1
theorem dX4_putTogether_1 : decode cX4_putTogether 1 = .ok (.istore_n 3, 1) := zb_X4_putTogether_0.2.1
theorem dX4_putTogether_2 : decode cX4_putTogether 2 = .ok (.iconst 0, 1) := zb_X4_putTogether_0.2.2.1
theorem dX4_putTogether_3 : decode cX4_putTogether 3 = .ok (.istore 4, 2) := zb_X4_putTogether_0.2.2.2.1
theorem dX4_putTogether_5 : decode cX4_putTogether 5 = .ok (.iload 4, 2) := zb_X4_putTogether_0.2.2.2.2.1
theorem dX4_putTogether_7 : decode cX4_putTogether 7 = .ok (.aload_n 0, 1) := zb_X4_putTogether_0.2.2.2.2.2.1
theorem dX4_putTogether_8 : decode cX4_putTogether 8 = .ok (.getfield 50, 3) := zb_X4_putTogether_0.2.2.2.2.2.2.1
theorem dX4_putTogether_11 : decode cX4_putTogether 11 = .ok (.if_icmp .ge 64, 3) := zb_X4_putTogether_0.2.2.2.2.2.2.2.1
theorem dX4_putTogether_75 : decode cX4_putTogether 75 = .ok (.iload_n 3, 1) := zb_X4_putTogether_0.2.2.2.2.2.2.2.2.1
theorem dX4_putTogether_76 : decode cX4_putTogether 76 = .ok (.ireturn, 1) := zb_X4_putTogether_0.2.2.2.2.2.2.2.2.2.1
theorem dX4_putTogether_14 : decode cX4_putTogether 14 = .ok (.aload_n 0, 1) := zb_X4_putTogether_0.2.2.2.2.2.2.2.2.2.2
theorem zb_X4_putTogether_15 : (decode cX4_putTogether 15 = .ok (.getfield 34, 3)) ∧ (decode cX4_putTogether 18 = .ok (.iload 4, 2)) ∧ (decode cX4_putTogether 20 = .ok (.iaload, 1)) ∧ (decode cX4_putTogether 21 = .ok (.iload_n 1, 1)) ∧ (decode cX4_putTogether 22 = .ok (.if_icmp .ne 47, 3)) ∧ (decode cX4_putTogether 69 = .ok (.iinc 4 1, 3)) ∧ (decode cX4_putTogether 72 = .ok (.goto (-67), 3)) ∧ (decode cX4_putTogether 25 = .ok (.aload_n 0, 1)) ∧ (decode cX4_putTogether 26 = .ok (.getfield 37, 3)) ∧ (decode cX4_putTogether 29 = .ok (.iload 4, 2)) ∧ (decode cX4_putTogether 31 = .ok (.iaload, 1)) := by decide +kernel
theorem dX4_putTogether_15 : decode cX4_putTogether 15 = .ok (.getfield 34, 3) := zb_X4_putTogether_15.1
theorem dX4_putTogether_18 : decode cX4_putTogether 18 = .ok (.iload 4, 2) := zb_X4_putTogether_15.2.1
theorem dX4_putTogether_20 : decode cX4_putTogether 20 = .ok (.iaload, 1) := zb_X4_putTogether_15.2.2.1
theorem dX4_putTogether_21 : decode cX4_putTogether 21 = .ok (.iload_n 1, 1) := zb_X4_putTogether_15.2.2.2.1
theorem dX4_putTogether_22 : decode cX4_putTogether 22 = .ok (.if_icmp .ne 47, 3) := zb_X4_putTogether_15.2.2.2.2.1
theorem dX4_putTogether_69 : decode cX4_putTogether 69 = .ok (.iinc 4 1, 3) := zb_X4_putTogether_15.2.2.2.2.2.1
theorem dX4_putTogether_72 : decode cX4_putTogether 72 = .ok (.goto (-67), 3) := zb_X4_putTogether_15.2.2.2.2.2.2.1
theorem dX4_putTogether_25 : decode cX4_putTogether 25 = .ok (.aload_n 0, 1) := zb_X4_putTogether_15.2.2.2.2.2.2.2.1
theorem dX4_putTogether_26 : decode cX4_putTogether 26 = .ok (.getfield 37, 3) := zb_X4_putTogether_15.2.2.2.2.2.2.2.2.1
theorem dX4_putTogether_29 : decode cX4_putTogether 29 = .ok (.iload 4, 2) := zb_X4_putTogether_15.2.2.2.2.2.2.2.2.2.1
theorem dX4_putTogether_31 : decode cX4_putTogether 31 = .ok (.iaload, 1) := zb_X4_putTogether_15.2.2.2.2.2.2.2.2.2.2
theorem zb_X4_putTogether_32 : (decode cX4_putTogether 32 = .ok (.iload_n 2, 1)) ∧ (decode cX4_putTogether 33 = .ok (.ishr, 1)) ∧ (decode cX4_putTogether 34 = .ok (.iconst 1, 1)) ∧ (decode cX4_putTogether 35 = .ok (.iand, 1)) ∧ (decode cX4_putTogether 36 = .ok (.ifCond .eq 33, 3)) ∧ (decode cX4_putTogether 39 = .ok (.aload_n 0, 1)) ∧ (decode cX4_putTogether 40 = .ok (.getfield 40, 3)) ∧ (decode cX4_putTogether 43 = .ok (.iload 4, 2)) ∧ (decode cX4_putTogether 45 = .ok (.laload, 1)) ∧ (decode cX4_putTogether 46 = .ok (.iload_n 2, 1)) ∧ (decode cX4_putTogether 47 = .ok (.invokestatic 65, 3)) := by decide +kernel
theorem dX4_putTogether_32 : decode cX4_putTogether 32 = .ok (.iload_n 2, 1) := zb_X4_putTogether_32.1
theorem dX4_putTogether_33 : decode cX4_putTogether 33 = .ok (.ishr, 1) := zb_X4_putTogether_32.2.1
theorem dX4_putTogether_34 : decode cX4_putTogether 34 = .ok (.iconst 1, 1) := zb_X4_putTogether_32.2.2.1
theorem dX4_putTogether_35 : decode cX4_putTogether 35 = .ok (.iand, 1) := zb_X4_putTogether_32.2.2.2.1
theorem dX4_putTogether_36 : decode cX4_putTogether 36 = .ok (.ifCond .eq 33, 3) := zb_X4_putTogether_32.2.2.2.2.1
theorem dX4_putTogether_39 : decode cX4_putTogether 39 = .ok (.aload_n 0, 1) := zb_X4_putTogether_32.2.2.2.2.2.1
theorem dX4_putTogether_40 : decode cX4_putTogether 40 = .ok (.getfield 40, 3) := zb_X4_putTogether_32.2.2.2.2.2.2.1
theorem dX4_putTogether_43 : decode cX4_putTogether 43 = .ok (.iload 4, 2) := zb_X4_putTogether_32.2.2.2.2.2.2.2.1
theorem dX4_putTogether_45 : decode cX4_putTogether 45 = .ok (.laload, 1) := zb_X4_putTogether_32.2.2.2.2.2.2.2.2.1
theorem dX4_putTogether_46 : decode cX4_putTogether 46 = .ok (.iload_n 2, 1) := zb_X4_putTogether_32.2.2.2.2.2.2.2.2.2.1
theorem dX4_putTogether_47 : decode cX4_putTogether 47 = .ok (.invokestatic 65, 3) := zb_X4_putTogether_32.2.2.2.2.2.2.2.2.2.2
theorem zb_X4_putTogether_50 : (decode cX4_putTogether 50 = .ok (.istore 5, 2)) ∧ (decode cX4_putTogether 52 = .ok (.iload_n 3, 1)) ∧ (decode cX4_putTogether 53 = .ok (.iconst (-1), 1)) ∧ (decode cX4_putTogether 54 = .ok (.if_icmp .eq 12, 3)) ∧ (decode cX4_putTogether 66 = .ok (.iload 5, 2)) ∧ (decode cX4_putTogether 68 = .ok (.istore_n 3, 1)) ∧ (decode cX4_putTogether 57 = .ok (.iload_n 3, 1)) ∧ (decode cX4_putTogether 58 = .ok (.iload 5, 2)) ∧ (decode cX4_putTogether 60 = .ok (.if_icmp .eq 6, 3)) ∧ (decode cX4_putTogether 63 = .ok (.bipush (-2), 2)) ∧ (decode cX4_putTogether 65 = .ok (.ireturn, 1)) := by decide +kernel
theorem dX4_putTogether_50 : decode cX4_putTogether 50 = .ok (.istore 5, 2) := zb_X4_putTogether_50.1
theorem dX4_putTogether_52 : decode cX4_putTogether 52 = .ok (.iload_n 3, 1) := zb_X4_putTogether_50.2.1
theorem dX4_putTogether_53 : decode cX4_putTogether 53 = .ok (.iconst (-1), 1) := zb_X4_putTogether_50.2.2.1
theorem dX4_putTogether_54 : decode cX4_putTogether 54 = .ok (.if_icmp .eq 12, 3) := zb_X4_putTogether_50.2.2.2.1
theorem dX4_putTogether_66 : decode cX4_putTogether 66 = .ok (.iload 5, 2) := zb_X4_putTogether_50.2.2.2.2.1
theorem dX4_putTogether_68 : decode cX4_putTogether 68 = .ok (.istore_n 3, 1) := zb_X4_putTogether_50.2.2.2.2.2.1
theorem dX4_putTogether_57 : decode cX4_putTogether 57 = .ok (.iload_n 3, 1) := zb_X4_putTogether_50.2.2.2.2.2.2.1
theorem dX4_putTogether_58 : decode cX4_putTogether 58 = .ok (.iload 5, 2) := zb_X4_putTogether_50.2.2.2.2.2.2.2.1
theorem dX4_putTogether_60 : decode cX4_putTogether 60 = .ok (.if_icmp .eq 6, 3) := zb_X4_putTogether_50.2.2.2.2.2.2.2.2.1
theorem dX4_putTogether_63 : decode cX4_putTogether 63 = .ok (.bipush (-2), 2) := zb_X4_putTogether_50.2.2.2.2.2.2.2.2.2.1
theorem dX4_putTogether_65 : decode cX4_putTogether 65 = .ok (.ireturn, 1) := zb_X4_putTogether_50.2.2.2.2.2.2.2.2.2.2
theorem zb_X4_isAsSent_0 : (decode cX4_isAsSent 0 = .ok (.aload_n 0, 1)) ∧ (decode cX4_isAsSent 1 = .ok (.getfield 30, 3)) ∧ (decode cX4_isAsSent 4 = .ok (.aload_n 0, 1)) ∧ (decode cX4_isAsSent 5 = .ok (.getfield 34, 3)) ∧ (decode cX4_isAsSent 8 = .ok (.iload_n 1, 1)) ∧ (decode cX4_isAsSent 9 = .ok (.iaload, 1)) ∧ (decode cX4_isAsSent 10 = .ok (.laload, 1)) ∧ (decode cX4_isAsSent 11 = .ok (.lstore_n 2, 1)) ∧ (decode cX4_isAsSent 12 = .ok (.iconst 0, 1)) ∧ (decode cX4_isAsSent 13 = .ok (.istore 4, 2)) := by decide +kernel
theorem dX4_isAsSent_0 : decode cX4_isAsSent 0 = .ok (.aload_n 0, 1) := zb_X4_isAsSent_0.1
theorem dX4_isAsSent_1 : decode cX4_isAsSent 1 = .ok (.getfield 30, 3) := zb_X4_isAsSent_0.2.1
theorem dX4_isAsSent_4 : decode cX4_isAsSent 4 = .ok (.aload_n 0, 1) := zb_X4_isAsSent_0.2.2.1
theorem dX4_isAsSent_5 : decode cX4_isAsSent 5 = .ok (.getfield 34, 3) := zb_X4_isAsSent_0.2.2.2.1
theorem dX4_isAsSent_8 : decode cX4_isAsSent 8 = .ok (.iload_n 1, 1) := zb_X4_isAsSent_0.2.2.2.2.1
theorem dX4_isAsSent_9 : decode cX4_isAsSent 9 = .ok (.iaload, 1) := zb_X4_isAsSent_0.2.2.2.2.2.1
theorem dX4_isAsSent_10 : decode cX4_isAsSent 10 = .ok (.laload, 1) := zb_X4_isAsSent_0.2.2.2.2.2.2.1
theorem dX4_isAsSent_11 : decode cX4_isAsSent 11 = .ok (.lstore_n 2, 1) := zb_X4_isAsSent_0.2.2.2.2.2.2.2.1
theorem dX4_isAsSent_12 : decode cX4_isAsSent 12 = .ok (.iconst 0, 1) := zb_X4_isAsSent_0.2.2.2.2.2.2.2.2.1
theorem dX4_isAsSent_13 : decode cX4_isAsSent 13 = .ok (.istore 4, 2) := zb_X4_isAsSent_0.2.2.2.2.2.2.2.2.2
theorem zb_X4_isAsSent_15 : (decode cX4_isAsSent 15 = .ok (.iload 4, 2)) ∧ (decode cX4_isAsSent 17 = .ok (.bipush 16, 2)) ∧ (decode cX4_isAsSent 19 = .ok (.if_icmp .ge 45, 3)) ∧ (decode cX4_isAsSent 64 = .ok (.iconst 1, 1)) ∧ (decode cX4_isAsSent 65 = .ok (.ireturn, 1)) ∧ (decode cX4_isAsSent 22 = .ok (.aload_n 0, 1)) ∧ (decode cX4_isAsSent 23 = .ok (.getfield 37, 3)) ∧ (decode cX4_isAsSent 26 = .ok (.iload_n 1, 1)) ∧ (decode cX4_isAsSent 27 = .ok (.iaload, 1)) ∧ (decode cX4_isAsSent 28 = .ok (.iload 4, 2)) := by decide +kernel
theorem dX4_isAsSent_15 : decode cX4_isAsSent 15 = .ok (.iload 4, 2) := zb_X4_isAsSent_15.1
theorem dX4_isAsSent_17 : decode cX4_isAsSent 17 = .ok (.bipush 16, 2) := zb_X4_isAsSent_15.2.1
theorem dX4_isAsSent_19 : decode cX4_isAsSent 19 = .ok (.if_icmp .ge 45, 3) := zb_X4_isAsSent_15.2.2.1
theorem dX4_isAsSent_64 : decode cX4_isAsSent 64 = .ok (.iconst 1, 1) := zb_X4_isAsSent_15.2.2.2.1
theorem dX4_isAsSent_65 : decode cX4_isAsSent 65 = .ok (.ireturn, 1) := zb_X4_isAsSent_15.2.2.2.2.1
theorem dX4_isAsSent_22 : decode cX4_isAsSent 22 = .ok (.aload_n 0, 1) := zb_X4_isAsSent_15.2.2.2.2.2.1
theorem dX4_isAsSent_23 : decode cX4_isAsSent 23 = .ok (.getfield 37, 3) := zb_X4_isAsSent_15.2.2.2.2.2.2.1
theorem dX4_isAsSent_26 : decode cX4_isAsSent 26 = .ok (.iload_n 1, 1) := zb_X4_isAsSent_15.2.2.2.2.2.2.2.1
theorem dX4_isAsSent_27 : decode cX4_isAsSent 27 = .ok (.iaload, 1) := zb_X4_isAsSent_15.2.2.2.2.2.2.2.2.1
theorem dX4_isAsSent_28 : decode cX4_isAsSent 28 = .ok (.iload 4, 2) := zb_X4_isAsSent_15.2.2.2.2.2.2.2.2.2
theorem zb_X4_isAsSent_30 : (decode cX4_isAsSent 30 = .ok (.ishr, 1)) ∧ (decode cX4_isAsSent 31 = .ok (.iconst 1, 1)) ∧ (decode cX4_isAsSent 32 = .ok (.iand, 1)) ∧ (decode cX4_isAsSent 33 = .ok (.ifCond .eq 25, 3)) ∧ (decode cX4_isAsSent 58 = .ok (.iinc 4 1, 3)) ∧ (decode cX4_isAsSent 61 = .ok (.goto (-46), 3)) ∧ (decode cX4_isAsSent 36 = .ok (.aload_n 0, 1)) ∧ (decode cX4_isAsSent 37 = .ok (.getfield 40, 3)) ∧ (decode cX4_isAsSent 40 = .ok (.iload_n 1, 1)) ∧ (decode cX4_isAsSent 41 = .ok (.laload, 1)) := by decide +kernel
theorem dX4_isAsSent_30 : decode cX4_isAsSent 30 = .ok (.ishr, 1) := zb_X4_isAsSent_30.1
theorem dX4_isAsSent_31 : decode cX4_isAsSent 31 = .ok (.iconst 1, 1) := zb_X4_isAsSent_30.2.1
theorem dX4_isAsSent_32 : decode cX4_isAsSent 32 = .ok (.iand, 1) := zb_X4_isAsSent_30.2.2.1
theorem dX4_isAsSent_33 : decode cX4_isAsSent 33 = .ok (.ifCond .eq 25, 3) := zb_X4_isAsSent_30.2.2.2.1
theorem dX4_isAsSent_58 : decode cX4_isAsSent 58 = .ok (.iinc 4 1, 3) := zb_X4_isAsSent_30.2.2.2.2.1
theorem dX4_isAsSent_61 : decode cX4_isAsSent 61 = .ok (.goto (-46), 3) := zb_X4_isAsSent_30.2.2.2.2.2.1
theorem dX4_isAsSent_36 : decode cX4_isAsSent 36 = .ok (.aload_n 0, 1) := zb_X4_isAsSent_30.2.2.2.2.2.2.1
theorem dX4_isAsSent_37 : decode cX4_isAsSent 37 = .ok (.getfield 40, 3) := zb_X4_isAsSent_30.2.2.2.2.2.2.2.1
theorem dX4_isAsSent_40 : decode cX4_isAsSent 40 = .ok (.iload_n 1, 1) := zb_X4_isAsSent_30.2.2.2.2.2.2.2.2.1
theorem dX4_isAsSent_41 : decode cX4_isAsSent 41 = .ok (.laload, 1) := zb_X4_isAsSent_30.2.2.2.2.2.2.2.2.2
theorem zb_X4_isAsSent_42 : (decode cX4_isAsSent 42 = .ok (.iload 4, 2)) ∧ (decode cX4_isAsSent 44 = .ok (.invokestatic 65, 3)) ∧ (decode cX4_isAsSent 47 = .ok (.lload_n 2, 1)) ∧ (decode cX4_isAsSent 48 = .ok (.iload 4, 2)) ∧ (decode cX4_isAsSent 50 = .ok (.invokestatic 65, 3)) ∧ (decode cX4_isAsSent 53 = .ok (.if_icmp .eq 5, 3)) ∧ (decode cX4_isAsSent 56 = .ok (.iconst 0, 1)) ∧ (decode cX4_isAsSent 57 = .ok (.ireturn, 1)) := by decide +kernel
theorem dX4_isAsSent_42 : decode cX4_isAsSent 42 = .ok (.iload 4, 2) := zb_X4_isAsSent_42.1
theorem dX4_isAsSent_44 : decode cX4_isAsSent 44 = .ok (.invokestatic 65, 3) := zb_X4_isAsSent_42.2.1
theorem dX4_isAsSent_47 : decode cX4_isAsSent 47 = .ok (.lload_n 2, 1) := zb_X4_isAsSent_42.2.2.1
theorem dX4_isAsSent_48 : decode cX4_isAsSent 48 = .ok (.iload 4, 2) := zb_X4_isAsSent_42.2.2.2.1
theorem dX4_isAsSent_50 : decode cX4_isAsSent 50 = .ok (.invokestatic 65, 3) := zb_X4_isAsSent_42.2.2.2.2.1
theorem dX4_isAsSent_53 : decode cX4_isAsSent 53 = .ok (.if_icmp .eq 5, 3) := zb_X4_isAsSent_42.2.2.2.2.2.1
theorem dX4_isAsSent_56 : decode cX4_isAsSent 56 = .ok (.iconst 0, 1) := zb_X4_isAsSent_42.2.2.2.2.2.2.1
theorem dX4_isAsSent_57 : decode cX4_isAsSent 57 = .ok (.ireturn, 1) := zb_X4_isAsSent_42.2.2.2.2.2.2.2
theorem zb_X6_addLane_0 : (decode cX6_addLane 0 = .ok (.aload_n 0, 1)) ∧ (decode cX6_addLane 1 = .ok (.getfield 9, 3)) ∧ (decode cX6_addLane 4 = .ok (.aload_n 0, 1)) ∧ (decode cX6_addLane 5 = .ok (.getfield 25, 3)) ∧ (decode cX6_addLane 8 = .ok (.lload_n 1, 1)) ∧ (decode cX6_addLane 9 = .ok (.lastore, 1)) ∧ (decode cX6_addLane 10 = .ok (.aload_n 0, 1)) := by decide +kernel
theorem dX6_addLane_0 : decode cX6_addLane 0 = .ok (.aload_n 0, 1) := zb_X6_addLane_0.1
theorem dX6_addLane_1 : decode cX6_addLane 1 = .ok (.getfield 9, 3) := zb_X6_addLane_0.2.1
theorem dX6_addLane_4 : decode cX6_addLane 4 = .ok (.aload_n 0, 1) := zb_X6_addLane_0.2.2.1
theorem dX6_addLane_5 : decode cX6_addLane 5 = .ok (.getfield 25, 3) := zb_X6_addLane_0.2.2.2.1
theorem dX6_addLane_8 : decode cX6_addLane 8 = .ok (.lload_n 1, 1) := zb_X6_addLane_0.2.2.2.2.1
theorem dX6_addLane_9 : decode cX6_addLane 9 = .ok (.lastore, 1) := zb_X6_addLane_0.2.2.2.2.2.1
theorem dX6_addLane_10 : decode cX6_addLane 10 = .ok (.aload_n 0, 1) := zb_X6_addLane_0.2.2.2.2.2.2
theorem zb_X6_addLane_11 : (decode cX6_addLane 11 = .ok (.dup, 1)) ∧ (decode cX6_addLane 12 = .ok (.getfield 25, 3)) ∧ (decode cX6_addLane 15 = .ok (.dup_x1, 1)) ∧ (decode cX6_addLane 16 = .ok (.iconst 1, 1)) ∧ (decode cX6_addLane 17 = .ok (.iadd, 1)) ∧ (decode cX6_addLane 18 = .ok (.putfield 25, 3)) ∧ (decode cX6_addLane 21 = .ok (.ireturn, 1)) := by decide +kernel
theorem dX6_addLane_11 : decode cX6_addLane 11 = .ok (.dup, 1) := zb_X6_addLane_11.1
theorem dX6_addLane_12 : decode cX6_addLane 12 = .ok (.getfield 25, 3) := zb_X6_addLane_11.2.1
theorem dX6_addLane_15 : decode cX6_addLane 15 = .ok (.dup_x1, 1) := zb_X6_addLane_11.2.2.1
theorem dX6_addLane_16 : decode cX6_addLane 16 = .ok (.iconst 1, 1) := zb_X6_addLane_11.2.2.2.1
theorem dX6_addLane_17 : decode cX6_addLane 17 = .ok (.iadd, 1) := zb_X6_addLane_11.2.2.2.2.1
theorem dX6_addLane_18 : decode cX6_addLane 18 = .ok (.putfield 25, 3) := zb_X6_addLane_11.2.2.2.2.2.1
theorem dX6_addLane_21 : decode cX6_addLane 21 = .ok (.ireturn, 1) := zb_X6_addLane_11.2.2.2.2.2.2
theorem zb_X6_weightIn_0 : (decode cX6_weightIn 0 = .ok (.lconst 1, 1)) ∧ (decode cX6_weightIn 1 = .ok (.lstore 4, 2)) ∧ (decode cX6_weightIn 3 = .ok (.iconst 0, 1)) ∧ (decode cX6_weightIn 4 = .ok (.istore 6, 2)) ∧ (decode cX6_weightIn 6 = .ok (.iload 6, 2)) ∧ (decode cX6_weightIn 8 = .ok (.aload_n 1, 1)) ∧ (decode cX6_weightIn 9 = .ok (.getfield 41, 3)) ∧ (decode cX6_weightIn 12 = .ok (.if_icmp .ge 55, 3)) ∧ (decode cX6_weightIn 67 = .ok (.lload 4, 2)) ∧ (decode cX6_weightIn 69 = .ok (.lreturn, 1)) ∧ (decode cX6_weightIn 15 = .ok (.aload_n 0, 1)) ∧ (decode cX6_weightIn 16 = .ok (.getfield 9, 3)) := by decide +kernel
theorem dX6_weightIn_0 : decode cX6_weightIn 0 = .ok (.lconst 1, 1) := zb_X6_weightIn_0.1
theorem dX6_weightIn_1 : decode cX6_weightIn 1 = .ok (.lstore 4, 2) := zb_X6_weightIn_0.2.1
theorem dX6_weightIn_3 : decode cX6_weightIn 3 = .ok (.iconst 0, 1) := zb_X6_weightIn_0.2.2.1
theorem dX6_weightIn_4 : decode cX6_weightIn 4 = .ok (.istore 6, 2) := zb_X6_weightIn_0.2.2.2.1
theorem dX6_weightIn_6 : decode cX6_weightIn 6 = .ok (.iload 6, 2) := zb_X6_weightIn_0.2.2.2.2.1
theorem dX6_weightIn_8 : decode cX6_weightIn 8 = .ok (.aload_n 1, 1) := zb_X6_weightIn_0.2.2.2.2.2.1
theorem dX6_weightIn_9 : decode cX6_weightIn 9 = .ok (.getfield 41, 3) := zb_X6_weightIn_0.2.2.2.2.2.2.1
theorem dX6_weightIn_12 : decode cX6_weightIn 12 = .ok (.if_icmp .ge 55, 3) := zb_X6_weightIn_0.2.2.2.2.2.2.2.1
theorem dX6_weightIn_67 : decode cX6_weightIn 67 = .ok (.lload 4, 2) := zb_X6_weightIn_0.2.2.2.2.2.2.2.2.1
theorem dX6_weightIn_69 : decode cX6_weightIn 69 = .ok (.lreturn, 1) := zb_X6_weightIn_0.2.2.2.2.2.2.2.2.2.1
theorem dX6_weightIn_15 : decode cX6_weightIn 15 = .ok (.aload_n 0, 1) := zb_X6_weightIn_0.2.2.2.2.2.2.2.2.2.2.1
theorem dX6_weightIn_16 : decode cX6_weightIn 16 = .ok (.getfield 9, 3) := zb_X6_weightIn_0.2.2.2.2.2.2.2.2.2.2.2
theorem zb_X6_weightIn_19 : (decode cX6_weightIn 19 = .ok (.aload_n 1, 1)) ∧ (decode cX6_weightIn 20 = .ok (.getfield 46, 3)) ∧ (decode cX6_weightIn 23 = .ok (.iload 6, 2)) ∧ (decode cX6_weightIn 25 = .ok (.iaload, 1)) ∧ (decode cX6_weightIn 26 = .ok (.laload, 1)) ∧ (decode cX6_weightIn 27 = .ok (.iload_n 2, 1)) ∧ (decode cX6_weightIn 28 = .ok (.invokestatic 33, 3)) ∧ (decode cX6_weightIn 31 = .ok (.istore 7, 2)) ∧ (decode cX6_weightIn 33 = .ok (.lload 4, 2)) ∧ (decode cX6_weightIn 35 = .ok (.iload 7, 2)) ∧ (decode cX6_weightIn 37 = .ok (.ifCond .eq 18, 3)) ∧ (decode cX6_weightIn 40 = .ok (.aload_n 3, 1)) := by decide +kernel
theorem dX6_weightIn_19 : decode cX6_weightIn 19 = .ok (.aload_n 1, 1) := zb_X6_weightIn_19.1
theorem dX6_weightIn_20 : decode cX6_weightIn 20 = .ok (.getfield 46, 3) := zb_X6_weightIn_19.2.1
theorem dX6_weightIn_23 : decode cX6_weightIn 23 = .ok (.iload 6, 2) := zb_X6_weightIn_19.2.2.1
theorem dX6_weightIn_25 : decode cX6_weightIn 25 = .ok (.iaload, 1) := zb_X6_weightIn_19.2.2.2.1
theorem dX6_weightIn_26 : decode cX6_weightIn 26 = .ok (.laload, 1) := zb_X6_weightIn_19.2.2.2.2.1
theorem dX6_weightIn_27 : decode cX6_weightIn 27 = .ok (.iload_n 2, 1) := zb_X6_weightIn_19.2.2.2.2.2.1
theorem dX6_weightIn_28 : decode cX6_weightIn 28 = .ok (.invokestatic 33, 3) := zb_X6_weightIn_19.2.2.2.2.2.2.1
theorem dX6_weightIn_31 : decode cX6_weightIn 31 = .ok (.istore 7, 2) := zb_X6_weightIn_19.2.2.2.2.2.2.2.1
theorem dX6_weightIn_33 : decode cX6_weightIn 33 = .ok (.lload 4, 2) := zb_X6_weightIn_19.2.2.2.2.2.2.2.2.1
theorem dX6_weightIn_35 : decode cX6_weightIn 35 = .ok (.iload 7, 2) := zb_X6_weightIn_19.2.2.2.2.2.2.2.2.2.1
theorem dX6_weightIn_37 : decode cX6_weightIn 37 = .ok (.ifCond .eq 18, 3) := zb_X6_weightIn_19.2.2.2.2.2.2.2.2.2.2.1
theorem dX6_weightIn_40 : decode cX6_weightIn 40 = .ok (.aload_n 3, 1) := zb_X6_weightIn_19.2.2.2.2.2.2.2.2.2.2.2
theorem zb_X6_weightIn_41 : (decode cX6_weightIn 41 = .ok (.aload_n 1, 1)) ∧ (decode cX6_weightIn 42 = .ok (.getfield 49, 3)) ∧ (decode cX6_weightIn 45 = .ok (.iload 6, 2)) ∧ (decode cX6_weightIn 47 = .ok (.iaload, 1)) ∧ (decode cX6_weightIn 48 = .ok (.invokevirtual 52, 3)) ∧ (decode cX6_weightIn 51 = .ok (.i2l, 1)) ∧ (decode cX6_weightIn 52 = .ok (.goto 6, 3)) ∧ (decode cX6_weightIn 58 = .ok (.lmul, 1)) ∧ (decode cX6_weightIn 59 = .ok (.lstore 4, 2)) ∧ (decode cX6_weightIn 61 = .ok (.iinc 6 1, 3)) ∧ (decode cX6_weightIn 64 = .ok (.goto (-58), 3)) ∧ (decode cX6_weightIn 55 = .ok (.ldc2_w 58, 3)) := by decide +kernel
theorem dX6_weightIn_41 : decode cX6_weightIn 41 = .ok (.aload_n 1, 1) := zb_X6_weightIn_41.1
theorem dX6_weightIn_42 : decode cX6_weightIn 42 = .ok (.getfield 49, 3) := zb_X6_weightIn_41.2.1
theorem dX6_weightIn_45 : decode cX6_weightIn 45 = .ok (.iload 6, 2) := zb_X6_weightIn_41.2.2.1
theorem dX6_weightIn_47 : decode cX6_weightIn 47 = .ok (.iaload, 1) := zb_X6_weightIn_41.2.2.2.1
theorem dX6_weightIn_48 : decode cX6_weightIn 48 = .ok (.invokevirtual 52, 3) := zb_X6_weightIn_41.2.2.2.2.1
theorem dX6_weightIn_51 : decode cX6_weightIn 51 = .ok (.i2l, 1) := zb_X6_weightIn_41.2.2.2.2.2.1
theorem dX6_weightIn_52 : decode cX6_weightIn 52 = .ok (.goto 6, 3) := zb_X6_weightIn_41.2.2.2.2.2.2.1
theorem dX6_weightIn_58 : decode cX6_weightIn 58 = .ok (.lmul, 1) := zb_X6_weightIn_41.2.2.2.2.2.2.2.1
theorem dX6_weightIn_59 : decode cX6_weightIn 59 = .ok (.lstore 4, 2) := zb_X6_weightIn_41.2.2.2.2.2.2.2.2.1
theorem dX6_weightIn_61 : decode cX6_weightIn 61 = .ok (.iinc 6 1, 3) := zb_X6_weightIn_41.2.2.2.2.2.2.2.2.2.1
theorem dX6_weightIn_64 : decode cX6_weightIn 64 = .ok (.goto (-58), 3) := zb_X6_weightIn_41.2.2.2.2.2.2.2.2.2.2.1
theorem dX6_weightIn_55 : decode cX6_weightIn 55 = .ok (.ldc2_w 58, 3) := zb_X6_weightIn_41.2.2.2.2.2.2.2.2.2.2.2
theorem zb_X6_weigh_0 : (decode cX6_weigh 0 = .ok (.aload_n 0, 1)) ∧ (decode cX6_weigh 1 = .ok (.lconst 0, 1)) ∧ (decode cX6_weigh 2 = .ok (.putfield 29, 3)) ∧ (decode cX6_weigh 5 = .ok (.iconst 0, 1)) ∧ (decode cX6_weigh 6 = .ok (.istore 5, 2)) ∧ (decode cX6_weigh 8 = .ok (.iload 5, 2)) ∧ (decode cX6_weigh 10 = .ok (.bipush 64, 2)) ∧ (decode cX6_weigh 12 = .ok (.if_icmp .ge 54, 3)) ∧ (decode cX6_weigh 66 = .ok (.return_, 1)) ∧ (decode cX6_weigh 15 = .ok (.aload_n 0, 1)) ∧ (decode cX6_weigh 16 = .ok (.getfield 15, 3)) ∧ (decode cX6_weigh 19 = .ok (.iload 5, 2)) := by decide +kernel
theorem dX6_weigh_0 : decode cX6_weigh 0 = .ok (.aload_n 0, 1) := zb_X6_weigh_0.1
theorem dX6_weigh_1 : decode cX6_weigh 1 = .ok (.lconst 0, 1) := zb_X6_weigh_0.2.1
theorem dX6_weigh_2 : decode cX6_weigh 2 = .ok (.putfield 29, 3) := zb_X6_weigh_0.2.2.1
theorem dX6_weigh_5 : decode cX6_weigh 5 = .ok (.iconst 0, 1) := zb_X6_weigh_0.2.2.2.1
theorem dX6_weigh_6 : decode cX6_weigh 6 = .ok (.istore 5, 2) := zb_X6_weigh_0.2.2.2.2.1
theorem dX6_weigh_8 : decode cX6_weigh 8 = .ok (.iload 5, 2) := zb_X6_weigh_0.2.2.2.2.2.1
theorem dX6_weigh_10 : decode cX6_weigh 10 = .ok (.bipush 64, 2) := zb_X6_weigh_0.2.2.2.2.2.2.1
theorem dX6_weigh_12 : decode cX6_weigh 12 = .ok (.if_icmp .ge 54, 3) := zb_X6_weigh_0.2.2.2.2.2.2.2.1
theorem dX6_weigh_66 : decode cX6_weigh 66 = .ok (.return_, 1) := zb_X6_weigh_0.2.2.2.2.2.2.2.2.1
theorem dX6_weigh_15 : decode cX6_weigh 15 = .ok (.aload_n 0, 1) := zb_X6_weigh_0.2.2.2.2.2.2.2.2.2.1
theorem dX6_weigh_16 : decode cX6_weigh 16 = .ok (.getfield 15, 3) := zb_X6_weigh_0.2.2.2.2.2.2.2.2.2.2.1
theorem dX6_weigh_19 : decode cX6_weigh 19 = .ok (.iload 5, 2) := zb_X6_weigh_0.2.2.2.2.2.2.2.2.2.2.2
theorem zb_X6_weigh_21 : (decode cX6_weigh 21 = .ok (.lload_n 2, 1)) ∧ (decode cX6_weigh 22 = .ok (.iload 5, 2)) ∧ (decode cX6_weigh 24 = .ok (.invokestatic 33, 3)) ∧ (decode cX6_weigh 27 = .ok (.ifCond .eq 15, 3)) ∧ (decode cX6_weigh 30 = .ok (.aload_n 0, 1)) ∧ (decode cX6_weigh 31 = .ok (.aload_n 1, 1)) ∧ (decode cX6_weigh 32 = .ok (.iload 5, 2)) ∧ (decode cX6_weigh 34 = .ok (.aload 4, 2)) ∧ (decode cX6_weigh 36 = .ok (.invokevirtual 37, 3)) ∧ (decode cX6_weigh 39 = .ok (.goto 4, 3)) ∧ (decode cX6_weigh 43 = .ok (.lastore, 1)) ∧ (decode cX6_weigh 44 = .ok (.aload_n 0, 1)) := by decide +kernel
theorem dX6_weigh_21 : decode cX6_weigh 21 = .ok (.lload_n 2, 1) := zb_X6_weigh_21.1
theorem dX6_weigh_22 : decode cX6_weigh 22 = .ok (.iload 5, 2) := zb_X6_weigh_21.2.1
theorem dX6_weigh_24 : decode cX6_weigh 24 = .ok (.invokestatic 33, 3) := zb_X6_weigh_21.2.2.1
theorem dX6_weigh_27 : decode cX6_weigh 27 = .ok (.ifCond .eq 15, 3) := zb_X6_weigh_21.2.2.2.1
theorem dX6_weigh_30 : decode cX6_weigh 30 = .ok (.aload_n 0, 1) := zb_X6_weigh_21.2.2.2.2.1
theorem dX6_weigh_31 : decode cX6_weigh 31 = .ok (.aload_n 1, 1) := zb_X6_weigh_21.2.2.2.2.2.1
theorem dX6_weigh_32 : decode cX6_weigh 32 = .ok (.iload 5, 2) := zb_X6_weigh_21.2.2.2.2.2.2.1
theorem dX6_weigh_34 : decode cX6_weigh 34 = .ok (.aload 4, 2) := zb_X6_weigh_21.2.2.2.2.2.2.2.1
theorem dX6_weigh_36 : decode cX6_weigh 36 = .ok (.invokevirtual 37, 3) := zb_X6_weigh_21.2.2.2.2.2.2.2.2.1
theorem dX6_weigh_39 : decode cX6_weigh 39 = .ok (.goto 4, 3) := zb_X6_weigh_21.2.2.2.2.2.2.2.2.2.1
theorem dX6_weigh_43 : decode cX6_weigh 43 = .ok (.lastore, 1) := zb_X6_weigh_21.2.2.2.2.2.2.2.2.2.2.1
theorem dX6_weigh_44 : decode cX6_weigh 44 = .ok (.aload_n 0, 1) := zb_X6_weigh_21.2.2.2.2.2.2.2.2.2.2.2
theorem zb_X6_weigh_45 : (decode cX6_weigh 45 = .ok (.dup, 1)) ∧ (decode cX6_weigh 46 = .ok (.getfield 29, 3)) ∧ (decode cX6_weigh 49 = .ok (.aload_n 0, 1)) ∧ (decode cX6_weigh 50 = .ok (.getfield 15, 3)) ∧ (decode cX6_weigh 53 = .ok (.iload 5, 2)) ∧ (decode cX6_weigh 55 = .ok (.laload, 1)) ∧ (decode cX6_weigh 56 = .ok (.ladd, 1)) ∧ (decode cX6_weigh 57 = .ok (.putfield 29, 3)) ∧ (decode cX6_weigh 60 = .ok (.iinc 5 1, 3)) ∧ (decode cX6_weigh 63 = .ok (.goto (-55), 3)) ∧ (decode cX6_weigh 42 = .ok (.lconst 0, 1)) := by decide +kernel
theorem dX6_weigh_45 : decode cX6_weigh 45 = .ok (.dup, 1) := zb_X6_weigh_45.1
theorem dX6_weigh_46 : decode cX6_weigh 46 = .ok (.getfield 29, 3) := zb_X6_weigh_45.2.1
theorem dX6_weigh_49 : decode cX6_weigh 49 = .ok (.aload_n 0, 1) := zb_X6_weigh_45.2.2.1
theorem dX6_weigh_50 : decode cX6_weigh 50 = .ok (.getfield 15, 3) := zb_X6_weigh_45.2.2.2.1
theorem dX6_weigh_53 : decode cX6_weigh 53 = .ok (.iload 5, 2) := zb_X6_weigh_45.2.2.2.2.1
theorem dX6_weigh_55 : decode cX6_weigh 55 = .ok (.laload, 1) := zb_X6_weigh_45.2.2.2.2.2.1
theorem dX6_weigh_56 : decode cX6_weigh 56 = .ok (.ladd, 1) := zb_X6_weigh_45.2.2.2.2.2.2.1
theorem dX6_weigh_57 : decode cX6_weigh 57 = .ok (.putfield 29, 3) := zb_X6_weigh_45.2.2.2.2.2.2.2.1
theorem dX6_weigh_60 : decode cX6_weigh 60 = .ok (.iinc 5 1, 3) := zb_X6_weigh_45.2.2.2.2.2.2.2.2.1
theorem dX6_weigh_63 : decode cX6_weigh 63 = .ok (.goto (-55), 3) := zb_X6_weigh_45.2.2.2.2.2.2.2.2.2.1
theorem dX6_weigh_42 : decode cX6_weigh 42 = .ok (.lconst 0, 1) := zb_X6_weigh_45.2.2.2.2.2.2.2.2.2.2
theorem zb_X6_shareOf_0 : (decode cX6_shareOf 0 = .ok (.aload_n 0, 1)) ∧ (decode cX6_shareOf 1 = .ok (.getfield 15, 3)) ∧ (decode cX6_shareOf 4 = .ok (.iload_n 1, 1)) ∧ (decode cX6_shareOf 5 = .ok (.laload, 1)) ∧ (decode cX6_shareOf 6 = .ok (.lconst 0, 1)) ∧ (decode cX6_shareOf 7 = .ok (.lcmp, 1)) ∧ (decode cX6_shareOf 8 = .ok (.ifCond .eq 12, 3)) ∧ (decode cX6_shareOf 20 = .ok (.iload_n 2, 1)) ∧ (decode cX6_shareOf 21 = .ok (.i2l, 1)) ∧ (decode cX6_shareOf 22 = .ok (.lreturn, 1)) ∧ (decode cX6_shareOf 11 = .ok (.aload_n 0, 1)) ∧ (decode cX6_shareOf 12 = .ok (.getfield 29, 3)) := by decide +kernel
theorem dX6_shareOf_0 : decode cX6_shareOf 0 = .ok (.aload_n 0, 1) := zb_X6_shareOf_0.1
theorem dX6_shareOf_1 : decode cX6_shareOf 1 = .ok (.getfield 15, 3) := zb_X6_shareOf_0.2.1
theorem dX6_shareOf_4 : decode cX6_shareOf 4 = .ok (.iload_n 1, 1) := zb_X6_shareOf_0.2.2.1
theorem dX6_shareOf_5 : decode cX6_shareOf 5 = .ok (.laload, 1) := zb_X6_shareOf_0.2.2.2.1
theorem dX6_shareOf_6 : decode cX6_shareOf 6 = .ok (.lconst 0, 1) := zb_X6_shareOf_0.2.2.2.2.1
theorem dX6_shareOf_7 : decode cX6_shareOf 7 = .ok (.lcmp, 1) := zb_X6_shareOf_0.2.2.2.2.2.1
theorem dX6_shareOf_8 : decode cX6_shareOf 8 = .ok (.ifCond .eq 12, 3) := zb_X6_shareOf_0.2.2.2.2.2.2.1
theorem dX6_shareOf_20 : decode cX6_shareOf 20 = .ok (.iload_n 2, 1) := zb_X6_shareOf_0.2.2.2.2.2.2.2.1
theorem dX6_shareOf_21 : decode cX6_shareOf 21 = .ok (.i2l, 1) := zb_X6_shareOf_0.2.2.2.2.2.2.2.2.1
theorem dX6_shareOf_22 : decode cX6_shareOf 22 = .ok (.lreturn, 1) := zb_X6_shareOf_0.2.2.2.2.2.2.2.2.2.1
theorem dX6_shareOf_11 : decode cX6_shareOf 11 = .ok (.aload_n 0, 1) := zb_X6_shareOf_0.2.2.2.2.2.2.2.2.2.2.1
theorem dX6_shareOf_12 : decode cX6_shareOf 12 = .ok (.getfield 29, 3) := zb_X6_shareOf_0.2.2.2.2.2.2.2.2.2.2.2
theorem zb_X6_shareOf_15 : (decode cX6_shareOf 15 = .ok (.lconst 0, 1)) ∧ (decode cX6_shareOf 16 = .ok (.lcmp, 1)) ∧ (decode cX6_shareOf 17 = .ok (.ifCond .ne 6, 3)) ∧ (decode cX6_shareOf 23 = .ok (.aload_n 0, 1)) ∧ (decode cX6_shareOf 24 = .ok (.getfield 29, 3)) ∧ (decode cX6_shareOf 27 = .ok (.aload_n 0, 1)) ∧ (decode cX6_shareOf 28 = .ok (.getfield 15, 3)) ∧ (decode cX6_shareOf 31 = .ok (.iload_n 1, 1)) ∧ (decode cX6_shareOf 32 = .ok (.laload, 1)) ∧ (decode cX6_shareOf 33 = .ok (.invokestatic 60, 3)) ∧ (decode cX6_shareOf 36 = .ok (.lstore_n 3, 1)) ∧ (decode cX6_shareOf 37 = .ok (.iload_n 2, 1)) := by decide +kernel
theorem dX6_shareOf_15 : decode cX6_shareOf 15 = .ok (.lconst 0, 1) := zb_X6_shareOf_15.1
theorem dX6_shareOf_16 : decode cX6_shareOf 16 = .ok (.lcmp, 1) := zb_X6_shareOf_15.2.1
theorem dX6_shareOf_17 : decode cX6_shareOf 17 = .ok (.ifCond .ne 6, 3) := zb_X6_shareOf_15.2.2.1
theorem dX6_shareOf_23 : decode cX6_shareOf 23 = .ok (.aload_n 0, 1) := zb_X6_shareOf_15.2.2.2.1
theorem dX6_shareOf_24 : decode cX6_shareOf 24 = .ok (.getfield 29, 3) := zb_X6_shareOf_15.2.2.2.2.1
theorem dX6_shareOf_27 : decode cX6_shareOf 27 = .ok (.aload_n 0, 1) := zb_X6_shareOf_15.2.2.2.2.2.1
theorem dX6_shareOf_28 : decode cX6_shareOf 28 = .ok (.getfield 15, 3) := zb_X6_shareOf_15.2.2.2.2.2.2.1
theorem dX6_shareOf_31 : decode cX6_shareOf 31 = .ok (.iload_n 1, 1) := zb_X6_shareOf_15.2.2.2.2.2.2.2.1
theorem dX6_shareOf_32 : decode cX6_shareOf 32 = .ok (.laload, 1) := zb_X6_shareOf_15.2.2.2.2.2.2.2.2.1
theorem dX6_shareOf_33 : decode cX6_shareOf 33 = .ok (.invokestatic 60, 3) := zb_X6_shareOf_15.2.2.2.2.2.2.2.2.2.1
theorem dX6_shareOf_36 : decode cX6_shareOf 36 = .ok (.lstore_n 3, 1) := zb_X6_shareOf_15.2.2.2.2.2.2.2.2.2.2.1
theorem dX6_shareOf_37 : decode cX6_shareOf 37 = .ok (.iload_n 2, 1) := zb_X6_shareOf_15.2.2.2.2.2.2.2.2.2.2.2
theorem zb_X6_shareOf_38 : (decode cX6_shareOf 38 = .ok (.ifCond .ne 12, 3)) ∧ (decode cX6_shareOf 50 = .ok (.aload_n 0, 1)) ∧ (decode cX6_shareOf 51 = .ok (.getfield 29, 3)) ∧ (decode cX6_shareOf 54 = .ok (.lload_n 3, 1)) ∧ (decode cX6_shareOf 55 = .ok (.ldiv, 1)) ∧ (decode cX6_shareOf 56 = .ok (.lreturn, 1)) ∧ (decode cX6_shareOf 41 = .ok (.aload_n 0, 1)) ∧ (decode cX6_shareOf 42 = .ok (.getfield 15, 3)) ∧ (decode cX6_shareOf 45 = .ok (.iload_n 1, 1)) ∧ (decode cX6_shareOf 46 = .ok (.laload, 1)) ∧ (decode cX6_shareOf 47 = .ok (.goto 7, 3)) := by decide +kernel
theorem dX6_shareOf_38 : decode cX6_shareOf 38 = .ok (.ifCond .ne 12, 3) := zb_X6_shareOf_38.1
theorem dX6_shareOf_50 : decode cX6_shareOf 50 = .ok (.aload_n 0, 1) := zb_X6_shareOf_38.2.1
theorem dX6_shareOf_51 : decode cX6_shareOf 51 = .ok (.getfield 29, 3) := zb_X6_shareOf_38.2.2.1
theorem dX6_shareOf_54 : decode cX6_shareOf 54 = .ok (.lload_n 3, 1) := zb_X6_shareOf_38.2.2.2.1
theorem dX6_shareOf_55 : decode cX6_shareOf 55 = .ok (.ldiv, 1) := zb_X6_shareOf_38.2.2.2.2.1
theorem dX6_shareOf_56 : decode cX6_shareOf 56 = .ok (.lreturn, 1) := zb_X6_shareOf_38.2.2.2.2.2.1
theorem dX6_shareOf_41 : decode cX6_shareOf 41 = .ok (.aload_n 0, 1) := zb_X6_shareOf_38.2.2.2.2.2.2.1
theorem dX6_shareOf_42 : decode cX6_shareOf 42 = .ok (.getfield 15, 3) := zb_X6_shareOf_38.2.2.2.2.2.2.2.1
theorem dX6_shareOf_45 : decode cX6_shareOf 45 = .ok (.iload_n 1, 1) := zb_X6_shareOf_38.2.2.2.2.2.2.2.2.1
theorem dX6_shareOf_46 : decode cX6_shareOf 46 = .ok (.laload, 1) := zb_X6_shareOf_38.2.2.2.2.2.2.2.2.2.1
theorem dX6_shareOf_47 : decode cX6_shareOf 47 = .ok (.goto 7, 3) := zb_X6_shareOf_38.2.2.2.2.2.2.2.2.2.2
theorem zb_X6_thousandths_0 : (decode cX6_thousandths 0 = .ok (.aload_n 0, 1)) ∧ (decode cX6_thousandths 1 = .ok (.getfield 29, 3)) ∧ (decode cX6_thousandths 4 = .ok (.lconst 0, 1)) ∧ (decode cX6_thousandths 5 = .ok (.lcmp, 1)) ∧ (decode cX6_thousandths 6 = .ok (.ifCond .ne 7, 3)) ∧ (decode cX6_thousandths 13 = .ok (.ldc2_w 64, 3)) ∧ (decode cX6_thousandths 16 = .ok (.aload_n 0, 1)) ∧ (decode cX6_thousandths 17 = .ok (.getfield 66, 3)) := by decide +kernel
theorem dX6_thousandths_0 : decode cX6_thousandths 0 = .ok (.aload_n 0, 1) := zb_X6_thousandths_0.1
theorem dX6_thousandths_1 : decode cX6_thousandths 1 = .ok (.getfield 29, 3) := zb_X6_thousandths_0.2.1
theorem dX6_thousandths_4 : decode cX6_thousandths 4 = .ok (.lconst 0, 1) := zb_X6_thousandths_0.2.2.1
theorem dX6_thousandths_5 : decode cX6_thousandths 5 = .ok (.lcmp, 1) := zb_X6_thousandths_0.2.2.2.1
theorem dX6_thousandths_6 : decode cX6_thousandths 6 = .ok (.ifCond .ne 7, 3) := zb_X6_thousandths_0.2.2.2.2.1
theorem dX6_thousandths_13 : decode cX6_thousandths 13 = .ok (.ldc2_w 64, 3) := zb_X6_thousandths_0.2.2.2.2.2.1
theorem dX6_thousandths_16 : decode cX6_thousandths 16 = .ok (.aload_n 0, 1) := zb_X6_thousandths_0.2.2.2.2.2.2.1
theorem dX6_thousandths_17 : decode cX6_thousandths 17 = .ok (.getfield 66, 3) := zb_X6_thousandths_0.2.2.2.2.2.2.2
theorem zb_X6_thousandths_20 : (decode cX6_thousandths 20 = .ok (.lmul, 1)) ∧ (decode cX6_thousandths 21 = .ok (.aload_n 0, 1)) ∧ (decode cX6_thousandths 22 = .ok (.getfield 29, 3)) ∧ (decode cX6_thousandths 25 = .ok (.ldiv, 1)) ∧ (decode cX6_thousandths 26 = .ok (.l2i, 1)) ∧ (decode cX6_thousandths 27 = .ok (.ireturn, 1)) ∧ (decode cX6_thousandths 9 = .ok (.iconst 0, 1)) ∧ (decode cX6_thousandths 10 = .ok (.goto 17, 3)) := by decide +kernel
theorem dX6_thousandths_20 : decode cX6_thousandths 20 = .ok (.lmul, 1) := zb_X6_thousandths_20.1
theorem dX6_thousandths_21 : decode cX6_thousandths 21 = .ok (.aload_n 0, 1) := zb_X6_thousandths_20.2.1
theorem dX6_thousandths_22 : decode cX6_thousandths 22 = .ok (.getfield 29, 3) := zb_X6_thousandths_20.2.2.1
theorem dX6_thousandths_25 : decode cX6_thousandths 25 = .ok (.ldiv, 1) := zb_X6_thousandths_20.2.2.2.1
theorem dX6_thousandths_26 : decode cX6_thousandths 26 = .ok (.l2i, 1) := zb_X6_thousandths_20.2.2.2.2.1
theorem dX6_thousandths_27 : decode cX6_thousandths 27 = .ok (.ireturn, 1) := zb_X6_thousandths_20.2.2.2.2.2.1
theorem dX6_thousandths_9 : decode cX6_thousandths 9 = .ok (.iconst 0, 1) := zb_X6_thousandths_20.2.2.2.2.2.2.1
theorem dX6_thousandths_10 : decode cX6_thousandths 10 = .ok (.goto 17, 3) := zb_X6_thousandths_20.2.2.2.2.2.2.2
theorem zb_X6_keepIfBetter_0 : (decode cX6_keepIfBetter 0 = .ok (.lconst 0, 1)) ∧ (decode cX6_keepIfBetter 1 = .ok (.lstore_n 3, 1)) ∧ (decode cX6_keepIfBetter 2 = .ok (.iconst 0, 1)) ∧ (decode cX6_keepIfBetter 3 = .ok (.istore 5, 2)) ∧ (decode cX6_keepIfBetter 5 = .ok (.iload 5, 2)) ∧ (decode cX6_keepIfBetter 7 = .ok (.bipush 64, 2)) ∧ (decode cX6_keepIfBetter 9 = .ok (.if_icmp .ge 28, 3)) ∧ (decode cX6_keepIfBetter 37 = .ok (.lload_n 3, 1)) ∧ (decode cX6_keepIfBetter 38 = .ok (.aload_n 0, 1)) ∧ (decode cX6_keepIfBetter 39 = .ok (.getfield 66, 3)) := by decide +kernel
theorem dX6_keepIfBetter_0 : decode cX6_keepIfBetter 0 = .ok (.lconst 0, 1) := zb_X6_keepIfBetter_0.1
theorem dX6_keepIfBetter_1 : decode cX6_keepIfBetter 1 = .ok (.lstore_n 3, 1) := zb_X6_keepIfBetter_0.2.1
theorem dX6_keepIfBetter_2 : decode cX6_keepIfBetter 2 = .ok (.iconst 0, 1) := zb_X6_keepIfBetter_0.2.2.1
theorem dX6_keepIfBetter_3 : decode cX6_keepIfBetter 3 = .ok (.istore 5, 2) := zb_X6_keepIfBetter_0.2.2.2.1
theorem dX6_keepIfBetter_5 : decode cX6_keepIfBetter 5 = .ok (.iload 5, 2) := zb_X6_keepIfBetter_0.2.2.2.2.1
theorem dX6_keepIfBetter_7 : decode cX6_keepIfBetter 7 = .ok (.bipush 64, 2) := zb_X6_keepIfBetter_0.2.2.2.2.2.1
theorem dX6_keepIfBetter_9 : decode cX6_keepIfBetter 9 = .ok (.if_icmp .ge 28, 3) := zb_X6_keepIfBetter_0.2.2.2.2.2.2.1
theorem dX6_keepIfBetter_37 : decode cX6_keepIfBetter 37 = .ok (.lload_n 3, 1) := zb_X6_keepIfBetter_0.2.2.2.2.2.2.2.1
theorem dX6_keepIfBetter_38 : decode cX6_keepIfBetter 38 = .ok (.aload_n 0, 1) := zb_X6_keepIfBetter_0.2.2.2.2.2.2.2.2.1
theorem dX6_keepIfBetter_39 : decode cX6_keepIfBetter 39 = .ok (.getfield 66, 3) := zb_X6_keepIfBetter_0.2.2.2.2.2.2.2.2.2
theorem zb_X6_keepIfBetter_42 : (decode cX6_keepIfBetter 42 = .ok (.lcmp, 1)) ∧ (decode cX6_keepIfBetter 43 = .ok (.ifCond .le 22, 3)) ∧ (decode cX6_keepIfBetter 65 = .ok (.return_, 1)) ∧ (decode cX6_keepIfBetter 46 = .ok (.aload_n 0, 1)) ∧ (decode cX6_keepIfBetter 47 = .ok (.lload_n 3, 1)) ∧ (decode cX6_keepIfBetter 48 = .ok (.putfield 66, 3)) ∧ (decode cX6_keepIfBetter 51 = .ok (.aload_n 0, 1)) ∧ (decode cX6_keepIfBetter 52 = .ok (.getfield 18, 3)) ∧ (decode cX6_keepIfBetter 55 = .ok (.iconst 0, 1)) ∧ (decode cX6_keepIfBetter 56 = .ok (.aload_n 0, 1)) := by decide +kernel
theorem dX6_keepIfBetter_42 : decode cX6_keepIfBetter 42 = .ok (.lcmp, 1) := zb_X6_keepIfBetter_42.1
theorem dX6_keepIfBetter_43 : decode cX6_keepIfBetter 43 = .ok (.ifCond .le 22, 3) := zb_X6_keepIfBetter_42.2.1
theorem dX6_keepIfBetter_65 : decode cX6_keepIfBetter 65 = .ok (.return_, 1) := zb_X6_keepIfBetter_42.2.2.1
theorem dX6_keepIfBetter_46 : decode cX6_keepIfBetter 46 = .ok (.aload_n 0, 1) := zb_X6_keepIfBetter_42.2.2.2.1
theorem dX6_keepIfBetter_47 : decode cX6_keepIfBetter 47 = .ok (.lload_n 3, 1) := zb_X6_keepIfBetter_42.2.2.2.2.1
theorem dX6_keepIfBetter_48 : decode cX6_keepIfBetter 48 = .ok (.putfield 66, 3) := zb_X6_keepIfBetter_42.2.2.2.2.2.1
theorem dX6_keepIfBetter_51 : decode cX6_keepIfBetter 51 = .ok (.aload_n 0, 1) := zb_X6_keepIfBetter_42.2.2.2.2.2.2.1
theorem dX6_keepIfBetter_52 : decode cX6_keepIfBetter 52 = .ok (.getfield 18, 3) := zb_X6_keepIfBetter_42.2.2.2.2.2.2.2.1
theorem dX6_keepIfBetter_55 : decode cX6_keepIfBetter 55 = .ok (.iconst 0, 1) := zb_X6_keepIfBetter_42.2.2.2.2.2.2.2.2.1
theorem dX6_keepIfBetter_56 : decode cX6_keepIfBetter 56 = .ok (.aload_n 0, 1) := zb_X6_keepIfBetter_42.2.2.2.2.2.2.2.2.2
theorem zb_X6_keepIfBetter_57 : (decode cX6_keepIfBetter 57 = .ok (.getfield 22, 3)) ∧ (decode cX6_keepIfBetter 60 = .ok (.iconst 0, 1)) ∧ (decode cX6_keepIfBetter 61 = .ok (.iconst 3, 1)) ∧ (decode cX6_keepIfBetter 62 = .ok (.invokestatic 79, 3)) ∧ (decode cX6_keepIfBetter 12 = .ok (.lload_n 1, 1)) ∧ (decode cX6_keepIfBetter 13 = .ok (.iload 5, 2)) ∧ (decode cX6_keepIfBetter 15 = .ok (.invokestatic 33, 3)) ∧ (decode cX6_keepIfBetter 18 = .ok (.ifCond .eq 13, 3)) ∧ (decode cX6_keepIfBetter 21 = .ok (.lload_n 3, 1)) ∧ (decode cX6_keepIfBetter 22 = .ok (.aload_n 0, 1)) := by decide +kernel
theorem dX6_keepIfBetter_57 : decode cX6_keepIfBetter 57 = .ok (.getfield 22, 3) := zb_X6_keepIfBetter_57.1
theorem dX6_keepIfBetter_60 : decode cX6_keepIfBetter 60 = .ok (.iconst 0, 1) := zb_X6_keepIfBetter_57.2.1
theorem dX6_keepIfBetter_61 : decode cX6_keepIfBetter 61 = .ok (.iconst 3, 1) := zb_X6_keepIfBetter_57.2.2.1
theorem dX6_keepIfBetter_62 : decode cX6_keepIfBetter 62 = .ok (.invokestatic 79, 3) := zb_X6_keepIfBetter_57.2.2.2.1
theorem dX6_keepIfBetter_12 : decode cX6_keepIfBetter 12 = .ok (.lload_n 1, 1) := zb_X6_keepIfBetter_57.2.2.2.2.1
theorem dX6_keepIfBetter_13 : decode cX6_keepIfBetter 13 = .ok (.iload 5, 2) := zb_X6_keepIfBetter_57.2.2.2.2.2.1
theorem dX6_keepIfBetter_15 : decode cX6_keepIfBetter 15 = .ok (.invokestatic 33, 3) := zb_X6_keepIfBetter_57.2.2.2.2.2.2.1
theorem dX6_keepIfBetter_18 : decode cX6_keepIfBetter 18 = .ok (.ifCond .eq 13, 3) := zb_X6_keepIfBetter_57.2.2.2.2.2.2.2.1
theorem dX6_keepIfBetter_21 : decode cX6_keepIfBetter 21 = .ok (.lload_n 3, 1) := zb_X6_keepIfBetter_57.2.2.2.2.2.2.2.2.1
theorem dX6_keepIfBetter_22 : decode cX6_keepIfBetter 22 = .ok (.aload_n 0, 1) := zb_X6_keepIfBetter_57.2.2.2.2.2.2.2.2.2
theorem zb_X6_keepIfBetter_23 : (decode cX6_keepIfBetter 23 = .ok (.getfield 15, 3)) ∧ (decode cX6_keepIfBetter 26 = .ok (.iload 5, 2)) ∧ (decode cX6_keepIfBetter 28 = .ok (.laload, 1)) ∧ (decode cX6_keepIfBetter 29 = .ok (.ladd, 1)) ∧ (decode cX6_keepIfBetter 30 = .ok (.lstore_n 3, 1)) ∧ (decode cX6_keepIfBetter 31 = .ok (.iinc 5 1, 3)) ∧ (decode cX6_keepIfBetter 34 = .ok (.goto (-29), 3)) := by decide +kernel
theorem dX6_keepIfBetter_23 : decode cX6_keepIfBetter 23 = .ok (.getfield 15, 3) := zb_X6_keepIfBetter_23.1
theorem dX6_keepIfBetter_26 : decode cX6_keepIfBetter 26 = .ok (.iload 5, 2) := zb_X6_keepIfBetter_23.2.1
theorem dX6_keepIfBetter_28 : decode cX6_keepIfBetter 28 = .ok (.laload, 1) := zb_X6_keepIfBetter_23.2.2.1
theorem dX6_keepIfBetter_29 : decode cX6_keepIfBetter 29 = .ok (.ladd, 1) := zb_X6_keepIfBetter_23.2.2.2.1
theorem dX6_keepIfBetter_30 : decode cX6_keepIfBetter 30 = .ok (.lstore_n 3, 1) := zb_X6_keepIfBetter_23.2.2.2.2.1
theorem dX6_keepIfBetter_31 : decode cX6_keepIfBetter 31 = .ok (.iinc 5 1, 3) := zb_X6_keepIfBetter_23.2.2.2.2.2.1
theorem dX6_keepIfBetter_34 : decode cX6_keepIfBetter 34 = .ok (.goto (-29), 3) := zb_X6_keepIfBetter_23.2.2.2.2.2.2
theorem zb_X6_tryLanes_0 : (decode cX6_tryLanes 0 = .ok (.iload_n 3, 1)) ∧ (decode cX6_tryLanes 1 = .ok (.iload_n 2, 1)) ∧ (decode cX6_tryLanes 2 = .ok (.if_icmp .ge 8, 3)) ∧ (decode cX6_tryLanes 10 = .ok (.aload_n 0, 1)) ∧ (decode cX6_tryLanes 11 = .ok (.lload 5, 2)) ∧ (decode cX6_tryLanes 13 = .ok (.invokevirtual 75, 3)) ∧ (decode cX6_tryLanes 16 = .ok (.return_, 1)) ∧ (decode cX6_tryLanes 5 = .ok (.iload_n 3, 1)) ∧ (decode cX6_tryLanes 6 = .ok (.iconst 3, 1)) ∧ (decode cX6_tryLanes 7 = .ok (.if_icmp .lt 10, 3)) ∧ (decode cX6_tryLanes 17 = .ok (.iload 4, 2)) ∧ (decode cX6_tryLanes 19 = .ok (.istore 7, 2)) := by decide +kernel
theorem dX6_tryLanes_0 : decode cX6_tryLanes 0 = .ok (.iload_n 3, 1) := zb_X6_tryLanes_0.1
theorem dX6_tryLanes_1 : decode cX6_tryLanes 1 = .ok (.iload_n 2, 1) := zb_X6_tryLanes_0.2.1
theorem dX6_tryLanes_2 : decode cX6_tryLanes 2 = .ok (.if_icmp .ge 8, 3) := zb_X6_tryLanes_0.2.2.1
theorem dX6_tryLanes_10 : decode cX6_tryLanes 10 = .ok (.aload_n 0, 1) := zb_X6_tryLanes_0.2.2.2.1
theorem dX6_tryLanes_11 : decode cX6_tryLanes 11 = .ok (.lload 5, 2) := zb_X6_tryLanes_0.2.2.2.2.1
theorem dX6_tryLanes_13 : decode cX6_tryLanes 13 = .ok (.invokevirtual 75, 3) := zb_X6_tryLanes_0.2.2.2.2.2.1
theorem dX6_tryLanes_16 : decode cX6_tryLanes 16 = .ok (.return_, 1) := zb_X6_tryLanes_0.2.2.2.2.2.2.1
theorem dX6_tryLanes_5 : decode cX6_tryLanes 5 = .ok (.iload_n 3, 1) := zb_X6_tryLanes_0.2.2.2.2.2.2.2.1
theorem dX6_tryLanes_6 : decode cX6_tryLanes 6 = .ok (.iconst 3, 1) := zb_X6_tryLanes_0.2.2.2.2.2.2.2.2.1
theorem dX6_tryLanes_7 : decode cX6_tryLanes 7 = .ok (.if_icmp .lt 10, 3) := zb_X6_tryLanes_0.2.2.2.2.2.2.2.2.2.1
theorem dX6_tryLanes_17 : decode cX6_tryLanes 17 = .ok (.iload 4, 2) := zb_X6_tryLanes_0.2.2.2.2.2.2.2.2.2.2.1
theorem dX6_tryLanes_19 : decode cX6_tryLanes 19 = .ok (.istore 7, 2) := zb_X6_tryLanes_0.2.2.2.2.2.2.2.2.2.2.2
theorem zb_X6_tryLanes_21 : (decode cX6_tryLanes 21 = .ok (.iload 7, 2)) ∧ (decode cX6_tryLanes 23 = .ok (.aload_n 0, 1)) ∧ (decode cX6_tryLanes 24 = .ok (.getfield 25, 3)) ∧ (decode cX6_tryLanes 27 = .ok (.if_icmp .ge 49, 3)) ∧ (decode cX6_tryLanes 76 = .ok (.return_, 1)) ∧ (decode cX6_tryLanes 30 = .ok (.iload_n 1, 1)) ∧ (decode cX6_tryLanes 31 = .ok (.iload 7, 2)) ∧ (decode cX6_tryLanes 33 = .ok (.ishr, 1)) ∧ (decode cX6_tryLanes 34 = .ok (.iconst 1, 1)) ∧ (decode cX6_tryLanes 35 = .ok (.iand, 1)) ∧ (decode cX6_tryLanes 36 = .ok (.ifCond .eq 34, 3)) ∧ (decode cX6_tryLanes 70 = .ok (.iinc 7 1, 3)) := by decide +kernel
theorem dX6_tryLanes_21 : decode cX6_tryLanes 21 = .ok (.iload 7, 2) := zb_X6_tryLanes_21.1
theorem dX6_tryLanes_23 : decode cX6_tryLanes 23 = .ok (.aload_n 0, 1) := zb_X6_tryLanes_21.2.1
theorem dX6_tryLanes_24 : decode cX6_tryLanes 24 = .ok (.getfield 25, 3) := zb_X6_tryLanes_21.2.2.1
theorem dX6_tryLanes_27 : decode cX6_tryLanes 27 = .ok (.if_icmp .ge 49, 3) := zb_X6_tryLanes_21.2.2.2.1
theorem dX6_tryLanes_76 : decode cX6_tryLanes 76 = .ok (.return_, 1) := zb_X6_tryLanes_21.2.2.2.2.1
theorem dX6_tryLanes_30 : decode cX6_tryLanes 30 = .ok (.iload_n 1, 1) := zb_X6_tryLanes_21.2.2.2.2.2.1
theorem dX6_tryLanes_31 : decode cX6_tryLanes 31 = .ok (.iload 7, 2) := zb_X6_tryLanes_21.2.2.2.2.2.2.1
theorem dX6_tryLanes_33 : decode cX6_tryLanes 33 = .ok (.ishr, 1) := zb_X6_tryLanes_21.2.2.2.2.2.2.2.1
theorem dX6_tryLanes_34 : decode cX6_tryLanes 34 = .ok (.iconst 1, 1) := zb_X6_tryLanes_21.2.2.2.2.2.2.2.2.1
theorem dX6_tryLanes_35 : decode cX6_tryLanes 35 = .ok (.iand, 1) := zb_X6_tryLanes_21.2.2.2.2.2.2.2.2.2.1
theorem dX6_tryLanes_36 : decode cX6_tryLanes 36 = .ok (.ifCond .eq 34, 3) := zb_X6_tryLanes_21.2.2.2.2.2.2.2.2.2.2.1
theorem dX6_tryLanes_70 : decode cX6_tryLanes 70 = .ok (.iinc 7 1, 3) := zb_X6_tryLanes_21.2.2.2.2.2.2.2.2.2.2.2
theorem zb_X6_tryLanes_73 : (decode cX6_tryLanes 73 = .ok (.goto (-52), 3)) ∧ (decode cX6_tryLanes 39 = .ok (.aload_n 0, 1)) ∧ (decode cX6_tryLanes 40 = .ok (.getfield 18, 3)) ∧ (decode cX6_tryLanes 43 = .ok (.iload_n 3, 1)) ∧ (decode cX6_tryLanes 44 = .ok (.iload 7, 2)) ∧ (decode cX6_tryLanes 46 = .ok (.iastore, 1)) ∧ (decode cX6_tryLanes 47 = .ok (.aload_n 0, 1)) ∧ (decode cX6_tryLanes 48 = .ok (.iload_n 1, 1)) ∧ (decode cX6_tryLanes 49 = .ok (.iload_n 2, 1)) ∧ (decode cX6_tryLanes 50 = .ok (.iload_n 3, 1)) ∧ (decode cX6_tryLanes 51 = .ok (.iconst 1, 1)) ∧ (decode cX6_tryLanes 52 = .ok (.iadd, 1)) := by decide +kernel
theorem dX6_tryLanes_73 : decode cX6_tryLanes 73 = .ok (.goto (-52), 3) := zb_X6_tryLanes_73.1
theorem dX6_tryLanes_39 : decode cX6_tryLanes 39 = .ok (.aload_n 0, 1) := zb_X6_tryLanes_73.2.1
theorem dX6_tryLanes_40 : decode cX6_tryLanes 40 = .ok (.getfield 18, 3) := zb_X6_tryLanes_73.2.2.1
theorem dX6_tryLanes_43 : decode cX6_tryLanes 43 = .ok (.iload_n 3, 1) := zb_X6_tryLanes_73.2.2.2.1
theorem dX6_tryLanes_44 : decode cX6_tryLanes 44 = .ok (.iload 7, 2) := zb_X6_tryLanes_73.2.2.2.2.1
theorem dX6_tryLanes_46 : decode cX6_tryLanes 46 = .ok (.iastore, 1) := zb_X6_tryLanes_73.2.2.2.2.2.1
theorem dX6_tryLanes_47 : decode cX6_tryLanes 47 = .ok (.aload_n 0, 1) := zb_X6_tryLanes_73.2.2.2.2.2.2.1
theorem dX6_tryLanes_48 : decode cX6_tryLanes 48 = .ok (.iload_n 1, 1) := zb_X6_tryLanes_73.2.2.2.2.2.2.2.1
theorem dX6_tryLanes_49 : decode cX6_tryLanes 49 = .ok (.iload_n 2, 1) := zb_X6_tryLanes_73.2.2.2.2.2.2.2.2.1
theorem dX6_tryLanes_50 : decode cX6_tryLanes 50 = .ok (.iload_n 3, 1) := zb_X6_tryLanes_73.2.2.2.2.2.2.2.2.2.1
theorem dX6_tryLanes_51 : decode cX6_tryLanes 51 = .ok (.iconst 1, 1) := zb_X6_tryLanes_73.2.2.2.2.2.2.2.2.2.2.1
theorem dX6_tryLanes_52 : decode cX6_tryLanes 52 = .ok (.iadd, 1) := zb_X6_tryLanes_73.2.2.2.2.2.2.2.2.2.2.2
theorem zb_X6_tryLanes_53 : (decode cX6_tryLanes 53 = .ok (.iload 7, 2)) ∧ (decode cX6_tryLanes 55 = .ok (.iconst 1, 1)) ∧ (decode cX6_tryLanes 56 = .ok (.iadd, 1)) ∧ (decode cX6_tryLanes 57 = .ok (.lload 5, 2)) ∧ (decode cX6_tryLanes 59 = .ok (.aload_n 0, 1)) ∧ (decode cX6_tryLanes 60 = .ok (.getfield 9, 3)) ∧ (decode cX6_tryLanes 63 = .ok (.iload 7, 2)) ∧ (decode cX6_tryLanes 65 = .ok (.laload, 1)) ∧ (decode cX6_tryLanes 66 = .ok (.lor, 1)) ∧ (decode cX6_tryLanes 67 = .ok (.invokevirtual 71, 3)) := by decide +kernel
theorem dX6_tryLanes_53 : decode cX6_tryLanes 53 = .ok (.iload 7, 2) := zb_X6_tryLanes_53.1
theorem dX6_tryLanes_55 : decode cX6_tryLanes 55 = .ok (.iconst 1, 1) := zb_X6_tryLanes_53.2.1
theorem dX6_tryLanes_56 : decode cX6_tryLanes 56 = .ok (.iadd, 1) := zb_X6_tryLanes_53.2.2.1
theorem dX6_tryLanes_57 : decode cX6_tryLanes 57 = .ok (.lload 5, 2) := zb_X6_tryLanes_53.2.2.2.1
theorem dX6_tryLanes_59 : decode cX6_tryLanes 59 = .ok (.aload_n 0, 1) := zb_X6_tryLanes_53.2.2.2.2.1
theorem dX6_tryLanes_60 : decode cX6_tryLanes 60 = .ok (.getfield 9, 3) := zb_X6_tryLanes_53.2.2.2.2.2.1
theorem dX6_tryLanes_63 : decode cX6_tryLanes 63 = .ok (.iload 7, 2) := zb_X6_tryLanes_53.2.2.2.2.2.2.1
theorem dX6_tryLanes_65 : decode cX6_tryLanes 65 = .ok (.laload, 1) := zb_X6_tryLanes_53.2.2.2.2.2.2.2.1
theorem dX6_tryLanes_66 : decode cX6_tryLanes 66 = .ok (.lor, 1) := zb_X6_tryLanes_53.2.2.2.2.2.2.2.2.1
theorem dX6_tryLanes_67 : decode cX6_tryLanes 67 = .ok (.invokevirtual 71, 3) := zb_X6_tryLanes_53.2.2.2.2.2.2.2.2.2
theorem zb_X6_choose_0 : (decode cX6_choose 0 = .ok (.aload_n 0, 1)) ∧ (decode cX6_choose 1 = .ok (.ldc2_w 69, 3)) ∧ (decode cX6_choose 4 = .ok (.putfield 66, 3)) ∧ (decode cX6_choose 7 = .ok (.aload_n 0, 1)) ∧ (decode cX6_choose 8 = .ok (.iload_n 1, 1)) ∧ (decode cX6_choose 9 = .ok (.iload_n 2, 1)) ∧ (decode cX6_choose 10 = .ok (.iconst 0, 1)) ∧ (decode cX6_choose 11 = .ok (.iconst 0, 1)) ∧ (decode cX6_choose 12 = .ok (.lconst 0, 1)) ∧ (decode cX6_choose 13 = .ok (.invokevirtual 71, 3)) ∧ (decode cX6_choose 16 = .ok (.return_, 1)) := by decide +kernel
theorem dX6_choose_0 : decode cX6_choose 0 = .ok (.aload_n 0, 1) := zb_X6_choose_0.1
theorem dX6_choose_1 : decode cX6_choose 1 = .ok (.ldc2_w 69, 3) := zb_X6_choose_0.2.1
theorem dX6_choose_4 : decode cX6_choose 4 = .ok (.putfield 66, 3) := zb_X6_choose_0.2.2.1
theorem dX6_choose_7 : decode cX6_choose 7 = .ok (.aload_n 0, 1) := zb_X6_choose_0.2.2.2.1
theorem dX6_choose_8 : decode cX6_choose 8 = .ok (.iload_n 1, 1) := zb_X6_choose_0.2.2.2.2.1
theorem dX6_choose_9 : decode cX6_choose 9 = .ok (.iload_n 2, 1) := zb_X6_choose_0.2.2.2.2.2.1
theorem dX6_choose_10 : decode cX6_choose 10 = .ok (.iconst 0, 1) := zb_X6_choose_0.2.2.2.2.2.2.1
theorem dX6_choose_11 : decode cX6_choose 11 = .ok (.iconst 0, 1) := zb_X6_choose_0.2.2.2.2.2.2.2.1
theorem dX6_choose_12 : decode cX6_choose 12 = .ok (.lconst 0, 1) := zb_X6_choose_0.2.2.2.2.2.2.2.2.1
theorem dX6_choose_13 : decode cX6_choose 13 = .ok (.invokevirtual 71, 3) := zb_X6_choose_0.2.2.2.2.2.2.2.2.2.1
theorem dX6_choose_16 : decode cX6_choose 16 = .ok (.return_, 1) := zb_X6_choose_0.2.2.2.2.2.2.2.2.2.2
theorem zb_X2_addMan_0 : (decode cX2_addMan 0 = .ok (.aload_n 0, 1)) ∧ (decode cX2_addMan 1 = .ok (.getfield 9, 3)) ∧ (decode cX2_addMan 4 = .ok (.aload_n 0, 1)) ∧ (decode cX2_addMan 5 = .ok (.getfield 27, 3)) ∧ (decode cX2_addMan 8 = .ok (.iload_n 1, 1)) ∧ (decode cX2_addMan 9 = .ok (.iastore, 1)) ∧ (decode cX2_addMan 10 = .ok (.aload_n 0, 1)) ∧ (decode cX2_addMan 11 = .ok (.getfield 15, 3)) ∧ (decode cX2_addMan 14 = .ok (.aload_n 0, 1)) ∧ (decode cX2_addMan 15 = .ok (.getfield 27, 3)) ∧ (decode cX2_addMan 18 = .ok (.iload_n 2, 1)) := by decide +kernel
theorem dX2_addMan_0 : decode cX2_addMan 0 = .ok (.aload_n 0, 1) := zb_X2_addMan_0.1
theorem dX2_addMan_1 : decode cX2_addMan 1 = .ok (.getfield 9, 3) := zb_X2_addMan_0.2.1
theorem dX2_addMan_4 : decode cX2_addMan 4 = .ok (.aload_n 0, 1) := zb_X2_addMan_0.2.2.1
theorem dX2_addMan_5 : decode cX2_addMan 5 = .ok (.getfield 27, 3) := zb_X2_addMan_0.2.2.2.1
theorem dX2_addMan_8 : decode cX2_addMan 8 = .ok (.iload_n 1, 1) := zb_X2_addMan_0.2.2.2.2.1
theorem dX2_addMan_9 : decode cX2_addMan 9 = .ok (.iastore, 1) := zb_X2_addMan_0.2.2.2.2.2.1
theorem dX2_addMan_10 : decode cX2_addMan 10 = .ok (.aload_n 0, 1) := zb_X2_addMan_0.2.2.2.2.2.2.1
theorem dX2_addMan_11 : decode cX2_addMan 11 = .ok (.getfield 15, 3) := zb_X2_addMan_0.2.2.2.2.2.2.2.1
theorem dX2_addMan_14 : decode cX2_addMan 14 = .ok (.aload_n 0, 1) := zb_X2_addMan_0.2.2.2.2.2.2.2.2.1
theorem dX2_addMan_15 : decode cX2_addMan 15 = .ok (.getfield 27, 3) := zb_X2_addMan_0.2.2.2.2.2.2.2.2.2.1
theorem dX2_addMan_18 : decode cX2_addMan 18 = .ok (.iload_n 2, 1) := zb_X2_addMan_0.2.2.2.2.2.2.2.2.2.2
theorem zb_X2_addMan_19 : (decode cX2_addMan 19 = .ok (.iastore, 1)) ∧ (decode cX2_addMan 20 = .ok (.aload_n 0, 1)) ∧ (decode cX2_addMan 21 = .ok (.getfield 18, 3)) ∧ (decode cX2_addMan 24 = .ok (.aload_n 0, 1)) ∧ (decode cX2_addMan 25 = .ok (.getfield 27, 3)) ∧ (decode cX2_addMan 28 = .ok (.iload_n 3, 1)) ∧ (decode cX2_addMan 29 = .ok (.iastore, 1)) ∧ (decode cX2_addMan 30 = .ok (.aload_n 0, 1)) ∧ (decode cX2_addMan 31 = .ok (.getfield 21, 3)) ∧ (decode cX2_addMan 34 = .ok (.aload_n 0, 1)) ∧ (decode cX2_addMan 35 = .ok (.getfield 27, 3)) := by decide +kernel
theorem dX2_addMan_19 : decode cX2_addMan 19 = .ok (.iastore, 1) := zb_X2_addMan_19.1
theorem dX2_addMan_20 : decode cX2_addMan 20 = .ok (.aload_n 0, 1) := zb_X2_addMan_19.2.1
theorem dX2_addMan_21 : decode cX2_addMan 21 = .ok (.getfield 18, 3) := zb_X2_addMan_19.2.2.1
theorem dX2_addMan_24 : decode cX2_addMan 24 = .ok (.aload_n 0, 1) := zb_X2_addMan_19.2.2.2.1
theorem dX2_addMan_25 : decode cX2_addMan 25 = .ok (.getfield 27, 3) := zb_X2_addMan_19.2.2.2.2.1
theorem dX2_addMan_28 : decode cX2_addMan 28 = .ok (.iload_n 3, 1) := zb_X2_addMan_19.2.2.2.2.2.1
theorem dX2_addMan_29 : decode cX2_addMan 29 = .ok (.iastore, 1) := zb_X2_addMan_19.2.2.2.2.2.2.1
theorem dX2_addMan_30 : decode cX2_addMan 30 = .ok (.aload_n 0, 1) := zb_X2_addMan_19.2.2.2.2.2.2.2.1
theorem dX2_addMan_31 : decode cX2_addMan 31 = .ok (.getfield 21, 3) := zb_X2_addMan_19.2.2.2.2.2.2.2.2.1
theorem dX2_addMan_34 : decode cX2_addMan 34 = .ok (.aload_n 0, 1) := zb_X2_addMan_19.2.2.2.2.2.2.2.2.2.1
theorem dX2_addMan_35 : decode cX2_addMan 35 = .ok (.getfield 27, 3) := zb_X2_addMan_19.2.2.2.2.2.2.2.2.2.2
theorem zb_X2_addMan_38 : (decode cX2_addMan 38 = .ok (.iload 4, 2)) ∧ (decode cX2_addMan 40 = .ok (.iastore, 1)) ∧ (decode cX2_addMan 41 = .ok (.aload_n 0, 1)) ∧ (decode cX2_addMan 42 = .ok (.dup, 1)) ∧ (decode cX2_addMan 43 = .ok (.getfield 27, 3)) ∧ (decode cX2_addMan 46 = .ok (.dup_x1, 1)) ∧ (decode cX2_addMan 47 = .ok (.iconst 1, 1)) ∧ (decode cX2_addMan 48 = .ok (.iadd, 1)) ∧ (decode cX2_addMan 49 = .ok (.putfield 27, 3)) ∧ (decode cX2_addMan 52 = .ok (.ireturn, 1)) := by decide +kernel
theorem dX2_addMan_38 : decode cX2_addMan 38 = .ok (.iload 4, 2) := zb_X2_addMan_38.1
theorem dX2_addMan_40 : decode cX2_addMan 40 = .ok (.iastore, 1) := zb_X2_addMan_38.2.1
theorem dX2_addMan_41 : decode cX2_addMan 41 = .ok (.aload_n 0, 1) := zb_X2_addMan_38.2.2.1
theorem dX2_addMan_42 : decode cX2_addMan 42 = .ok (.dup, 1) := zb_X2_addMan_38.2.2.2.1
theorem dX2_addMan_43 : decode cX2_addMan 43 = .ok (.getfield 27, 3) := zb_X2_addMan_38.2.2.2.2.1
theorem dX2_addMan_46 : decode cX2_addMan 46 = .ok (.dup_x1, 1) := zb_X2_addMan_38.2.2.2.2.2.1
theorem dX2_addMan_47 : decode cX2_addMan 47 = .ok (.iconst 1, 1) := zb_X2_addMan_38.2.2.2.2.2.2.1
theorem dX2_addMan_48 : decode cX2_addMan 48 = .ok (.iadd, 1) := zb_X2_addMan_38.2.2.2.2.2.2.2.1
theorem dX2_addMan_49 : decode cX2_addMan 49 = .ok (.putfield 27, 3) := zb_X2_addMan_38.2.2.2.2.2.2.2.2.1
theorem dX2_addMan_52 : decode cX2_addMan 52 = .ok (.ireturn, 1) := zb_X2_addMan_38.2.2.2.2.2.2.2.2.2
theorem zb_X2_aheadOf_0 : (decode cX2_aheadOf 0 = .ok (.iconst 0, 1)) ∧ (decode cX2_aheadOf 1 = .ok (.istore_n 2, 1)) ∧ (decode cX2_aheadOf 2 = .ok (.iconst 0, 1)) ∧ (decode cX2_aheadOf 3 = .ok (.istore_n 3, 1)) ∧ (decode cX2_aheadOf 4 = .ok (.iload_n 3, 1)) ∧ (decode cX2_aheadOf 5 = .ok (.aload_n 0, 1)) ∧ (decode cX2_aheadOf 6 = .ok (.getfield 27, 3)) ∧ (decode cX2_aheadOf 9 = .ok (.if_icmp .ge 74, 3)) ∧ (decode cX2_aheadOf 83 = .ok (.iload_n 2, 1)) ∧ (decode cX2_aheadOf 84 = .ok (.ireturn, 1)) := by decide +kernel
theorem dX2_aheadOf_0 : decode cX2_aheadOf 0 = .ok (.iconst 0, 1) := zb_X2_aheadOf_0.1
theorem dX2_aheadOf_1 : decode cX2_aheadOf 1 = .ok (.istore_n 2, 1) := zb_X2_aheadOf_0.2.1
theorem dX2_aheadOf_2 : decode cX2_aheadOf 2 = .ok (.iconst 0, 1) := zb_X2_aheadOf_0.2.2.1
theorem dX2_aheadOf_3 : decode cX2_aheadOf 3 = .ok (.istore_n 3, 1) := zb_X2_aheadOf_0.2.2.2.1
theorem dX2_aheadOf_4 : decode cX2_aheadOf 4 = .ok (.iload_n 3, 1) := zb_X2_aheadOf_0.2.2.2.2.1
theorem dX2_aheadOf_5 : decode cX2_aheadOf 5 = .ok (.aload_n 0, 1) := zb_X2_aheadOf_0.2.2.2.2.2.1
theorem dX2_aheadOf_6 : decode cX2_aheadOf 6 = .ok (.getfield 27, 3) := zb_X2_aheadOf_0.2.2.2.2.2.2.1
theorem dX2_aheadOf_9 : decode cX2_aheadOf 9 = .ok (.if_icmp .ge 74, 3) := zb_X2_aheadOf_0.2.2.2.2.2.2.2.1
theorem dX2_aheadOf_83 : decode cX2_aheadOf 83 = .ok (.iload_n 2, 1) := zb_X2_aheadOf_0.2.2.2.2.2.2.2.2.1
theorem dX2_aheadOf_84 : decode cX2_aheadOf 84 = .ok (.ireturn, 1) := zb_X2_aheadOf_0.2.2.2.2.2.2.2.2.2
theorem zb_X2_aheadOf_12 : (decode cX2_aheadOf 12 = .ok (.aload_n 0, 1)) ∧ (decode cX2_aheadOf 13 = .ok (.getfield 24, 3)) ∧ (decode cX2_aheadOf 16 = .ok (.iload_n 3, 1)) ∧ (decode cX2_aheadOf 17 = .ok (.iaload, 1)) ∧ (decode cX2_aheadOf 18 = .ok (.aload_n 0, 1)) ∧ (decode cX2_aheadOf 19 = .ok (.getfield 24, 3)) ∧ (decode cX2_aheadOf 22 = .ok (.iload_n 1, 1)) ∧ (decode cX2_aheadOf 23 = .ok (.iaload, 1)) ∧ (decode cX2_aheadOf 24 = .ok (.if_icmp .gt 23, 3)) ∧ (decode cX2_aheadOf 47 = .ok (.iconst 1, 1)) := by decide +kernel
theorem dX2_aheadOf_12 : decode cX2_aheadOf 12 = .ok (.aload_n 0, 1) := zb_X2_aheadOf_12.1
theorem dX2_aheadOf_13 : decode cX2_aheadOf 13 = .ok (.getfield 24, 3) := zb_X2_aheadOf_12.2.1
theorem dX2_aheadOf_16 : decode cX2_aheadOf 16 = .ok (.iload_n 3, 1) := zb_X2_aheadOf_12.2.2.1
theorem dX2_aheadOf_17 : decode cX2_aheadOf 17 = .ok (.iaload, 1) := zb_X2_aheadOf_12.2.2.2.1
theorem dX2_aheadOf_18 : decode cX2_aheadOf 18 = .ok (.aload_n 0, 1) := zb_X2_aheadOf_12.2.2.2.2.1
theorem dX2_aheadOf_19 : decode cX2_aheadOf 19 = .ok (.getfield 24, 3) := zb_X2_aheadOf_12.2.2.2.2.2.1
theorem dX2_aheadOf_22 : decode cX2_aheadOf 22 = .ok (.iload_n 1, 1) := zb_X2_aheadOf_12.2.2.2.2.2.2.1
theorem dX2_aheadOf_23 : decode cX2_aheadOf 23 = .ok (.iaload, 1) := zb_X2_aheadOf_12.2.2.2.2.2.2.2.1
theorem dX2_aheadOf_24 : decode cX2_aheadOf 24 = .ok (.if_icmp .gt 23, 3) := zb_X2_aheadOf_12.2.2.2.2.2.2.2.2.1
theorem dX2_aheadOf_47 : decode cX2_aheadOf 47 = .ok (.iconst 1, 1) := zb_X2_aheadOf_12.2.2.2.2.2.2.2.2.2
theorem zb_X2_aheadOf_48 : (decode cX2_aheadOf 48 = .ok (.goto 4, 3)) ∧ (decode cX2_aheadOf 52 = .ok (.istore 4, 2)) ∧ (decode cX2_aheadOf 54 = .ok (.aload_n 0, 1)) ∧ (decode cX2_aheadOf 55 = .ok (.getfield 9, 3)) ∧ (decode cX2_aheadOf 58 = .ok (.iload_n 3, 1)) ∧ (decode cX2_aheadOf 59 = .ok (.iaload, 1)) ∧ (decode cX2_aheadOf 60 = .ok (.aload_n 0, 1)) ∧ (decode cX2_aheadOf 61 = .ok (.getfield 9, 3)) ∧ (decode cX2_aheadOf 64 = .ok (.iload_n 1, 1)) ∧ (decode cX2_aheadOf 65 = .ok (.iaload, 1)) := by decide +kernel
theorem dX2_aheadOf_48 : decode cX2_aheadOf 48 = .ok (.goto 4, 3) := zb_X2_aheadOf_48.1
theorem dX2_aheadOf_52 : decode cX2_aheadOf 52 = .ok (.istore 4, 2) := zb_X2_aheadOf_48.2.1
theorem dX2_aheadOf_54 : decode cX2_aheadOf 54 = .ok (.aload_n 0, 1) := zb_X2_aheadOf_48.2.2.1
theorem dX2_aheadOf_55 : decode cX2_aheadOf 55 = .ok (.getfield 9, 3) := zb_X2_aheadOf_48.2.2.2.1
theorem dX2_aheadOf_58 : decode cX2_aheadOf 58 = .ok (.iload_n 3, 1) := zb_X2_aheadOf_48.2.2.2.2.1
theorem dX2_aheadOf_59 : decode cX2_aheadOf 59 = .ok (.iaload, 1) := zb_X2_aheadOf_48.2.2.2.2.2.1
theorem dX2_aheadOf_60 : decode cX2_aheadOf 60 = .ok (.aload_n 0, 1) := zb_X2_aheadOf_48.2.2.2.2.2.2.1
theorem dX2_aheadOf_61 : decode cX2_aheadOf 61 = .ok (.getfield 9, 3) := zb_X2_aheadOf_48.2.2.2.2.2.2.2.1
theorem dX2_aheadOf_64 : decode cX2_aheadOf 64 = .ok (.iload_n 1, 1) := zb_X2_aheadOf_48.2.2.2.2.2.2.2.2.1
theorem dX2_aheadOf_65 : decode cX2_aheadOf 65 = .ok (.iaload, 1) := zb_X2_aheadOf_48.2.2.2.2.2.2.2.2.2
theorem zb_X2_aheadOf_66 : (decode cX2_aheadOf 66 = .ok (.if_icmp .ne 11, 3)) ∧ (decode cX2_aheadOf 77 = .ok (.iinc 3 1, 3)) ∧ (decode cX2_aheadOf 80 = .ok (.goto (-76), 3)) ∧ (decode cX2_aheadOf 69 = .ok (.iload 4, 2)) ∧ (decode cX2_aheadOf 71 = .ok (.ifCond .eq 6, 3)) ∧ (decode cX2_aheadOf 74 = .ok (.iinc 2 1, 3)) ∧ (decode cX2_aheadOf 27 = .ok (.aload_n 0, 1)) ∧ (decode cX2_aheadOf 28 = .ok (.getfield 24, 3)) ∧ (decode cX2_aheadOf 31 = .ok (.iload_n 3, 1)) ∧ (decode cX2_aheadOf 32 = .ok (.iaload, 1)) := by decide +kernel
theorem dX2_aheadOf_66 : decode cX2_aheadOf 66 = .ok (.if_icmp .ne 11, 3) := zb_X2_aheadOf_66.1
theorem dX2_aheadOf_77 : decode cX2_aheadOf 77 = .ok (.iinc 3 1, 3) := zb_X2_aheadOf_66.2.1
theorem dX2_aheadOf_80 : decode cX2_aheadOf 80 = .ok (.goto (-76), 3) := zb_X2_aheadOf_66.2.2.1
theorem dX2_aheadOf_69 : decode cX2_aheadOf 69 = .ok (.iload 4, 2) := zb_X2_aheadOf_66.2.2.2.1
theorem dX2_aheadOf_71 : decode cX2_aheadOf 71 = .ok (.ifCond .eq 6, 3) := zb_X2_aheadOf_66.2.2.2.2.1
theorem dX2_aheadOf_74 : decode cX2_aheadOf 74 = .ok (.iinc 2 1, 3) := zb_X2_aheadOf_66.2.2.2.2.2.1
theorem dX2_aheadOf_27 : decode cX2_aheadOf 27 = .ok (.aload_n 0, 1) := zb_X2_aheadOf_66.2.2.2.2.2.2.1
theorem dX2_aheadOf_28 : decode cX2_aheadOf 28 = .ok (.getfield 24, 3) := zb_X2_aheadOf_66.2.2.2.2.2.2.2.1
theorem dX2_aheadOf_31 : decode cX2_aheadOf 31 = .ok (.iload_n 3, 1) := zb_X2_aheadOf_66.2.2.2.2.2.2.2.2.1
theorem dX2_aheadOf_32 : decode cX2_aheadOf 32 = .ok (.iaload, 1) := zb_X2_aheadOf_66.2.2.2.2.2.2.2.2.2
theorem zb_X2_aheadOf_33 : (decode cX2_aheadOf 33 = .ok (.aload_n 0, 1)) ∧ (decode cX2_aheadOf 34 = .ok (.getfield 24, 3)) ∧ (decode cX2_aheadOf 37 = .ok (.iload_n 1, 1)) ∧ (decode cX2_aheadOf 38 = .ok (.iaload, 1)) ∧ (decode cX2_aheadOf 39 = .ok (.if_icmp .ne 12, 3)) ∧ (decode cX2_aheadOf 51 = .ok (.iconst 0, 1)) ∧ (decode cX2_aheadOf 42 = .ok (.iload_n 3, 1)) ∧ (decode cX2_aheadOf 43 = .ok (.iload_n 1, 1)) ∧ (decode cX2_aheadOf 44 = .ok (.if_icmp .ge 7, 3)) := by decide +kernel
theorem dX2_aheadOf_33 : decode cX2_aheadOf 33 = .ok (.aload_n 0, 1) := zb_X2_aheadOf_33.1
theorem dX2_aheadOf_34 : decode cX2_aheadOf 34 = .ok (.getfield 24, 3) := zb_X2_aheadOf_33.2.1
theorem dX2_aheadOf_37 : decode cX2_aheadOf 37 = .ok (.iload_n 1, 1) := zb_X2_aheadOf_33.2.2.1
theorem dX2_aheadOf_38 : decode cX2_aheadOf 38 = .ok (.iaload, 1) := zb_X2_aheadOf_33.2.2.2.1
theorem dX2_aheadOf_39 : decode cX2_aheadOf 39 = .ok (.if_icmp .ne 12, 3) := zb_X2_aheadOf_33.2.2.2.2.1
theorem dX2_aheadOf_51 : decode cX2_aheadOf 51 = .ok (.iconst 0, 1) := zb_X2_aheadOf_33.2.2.2.2.2.1
theorem dX2_aheadOf_42 : decode cX2_aheadOf 42 = .ok (.iload_n 3, 1) := zb_X2_aheadOf_33.2.2.2.2.2.2.1
theorem dX2_aheadOf_43 : decode cX2_aheadOf 43 = .ok (.iload_n 1, 1) := zb_X2_aheadOf_33.2.2.2.2.2.2.2.1
theorem dX2_aheadOf_44 : decode cX2_aheadOf 44 = .ok (.if_icmp .ge 7, 3) := zb_X2_aheadOf_33.2.2.2.2.2.2.2.2
theorem zb_X2_inTurn_0 : (decode cX2_inTurn 0 = .ok (.iconst 0, 1)) ∧ (decode cX2_inTurn 1 = .ok (.istore_n 3, 1)) ∧ (decode cX2_inTurn 2 = .ok (.iload_n 3, 1)) ∧ (decode cX2_inTurn 3 = .ok (.aload_n 0, 1)) ∧ (decode cX2_inTurn 4 = .ok (.getfield 27, 3)) ∧ (decode cX2_inTurn 7 = .ok (.if_icmp .ge 30, 3)) ∧ (decode cX2_inTurn 37 = .ok (.iconst (-1), 1)) ∧ (decode cX2_inTurn 38 = .ok (.ireturn, 1)) ∧ (decode cX2_inTurn 10 = .ok (.aload_n 0, 1)) ∧ (decode cX2_inTurn 11 = .ok (.getfield 9, 3)) ∧ (decode cX2_inTurn 14 = .ok (.iload_n 3, 1)) ∧ (decode cX2_inTurn 15 = .ok (.iaload, 1)) := by decide +kernel
theorem dX2_inTurn_0 : decode cX2_inTurn 0 = .ok (.iconst 0, 1) := zb_X2_inTurn_0.1
theorem dX2_inTurn_1 : decode cX2_inTurn 1 = .ok (.istore_n 3, 1) := zb_X2_inTurn_0.2.1
theorem dX2_inTurn_2 : decode cX2_inTurn 2 = .ok (.iload_n 3, 1) := zb_X2_inTurn_0.2.2.1
theorem dX2_inTurn_3 : decode cX2_inTurn 3 = .ok (.aload_n 0, 1) := zb_X2_inTurn_0.2.2.2.1
theorem dX2_inTurn_4 : decode cX2_inTurn 4 = .ok (.getfield 27, 3) := zb_X2_inTurn_0.2.2.2.2.1
theorem dX2_inTurn_7 : decode cX2_inTurn 7 = .ok (.if_icmp .ge 30, 3) := zb_X2_inTurn_0.2.2.2.2.2.1
theorem dX2_inTurn_37 : decode cX2_inTurn 37 = .ok (.iconst (-1), 1) := zb_X2_inTurn_0.2.2.2.2.2.2.1
theorem dX2_inTurn_38 : decode cX2_inTurn 38 = .ok (.ireturn, 1) := zb_X2_inTurn_0.2.2.2.2.2.2.2.1
theorem dX2_inTurn_10 : decode cX2_inTurn 10 = .ok (.aload_n 0, 1) := zb_X2_inTurn_0.2.2.2.2.2.2.2.2.1
theorem dX2_inTurn_11 : decode cX2_inTurn 11 = .ok (.getfield 9, 3) := zb_X2_inTurn_0.2.2.2.2.2.2.2.2.2.1
theorem dX2_inTurn_14 : decode cX2_inTurn 14 = .ok (.iload_n 3, 1) := zb_X2_inTurn_0.2.2.2.2.2.2.2.2.2.2.1
theorem dX2_inTurn_15 : decode cX2_inTurn 15 = .ok (.iaload, 1) := zb_X2_inTurn_0.2.2.2.2.2.2.2.2.2.2.2
theorem zb_X2_inTurn_16 : (decode cX2_inTurn 16 = .ok (.iload_n 1, 1)) ∧ (decode cX2_inTurn 17 = .ok (.if_icmp .ne 14, 3)) ∧ (decode cX2_inTurn 31 = .ok (.iinc 3 1, 3)) ∧ (decode cX2_inTurn 34 = .ok (.goto (-32), 3)) ∧ (decode cX2_inTurn 20 = .ok (.aload_n 0, 1)) ∧ (decode cX2_inTurn 21 = .ok (.iload_n 3, 1)) ∧ (decode cX2_inTurn 22 = .ok (.invokevirtual 31, 3)) ∧ (decode cX2_inTurn 25 = .ok (.iload_n 2, 1)) ∧ (decode cX2_inTurn 26 = .ok (.if_icmp .ne 5, 3)) ∧ (decode cX2_inTurn 29 = .ok (.iload_n 3, 1)) ∧ (decode cX2_inTurn 30 = .ok (.ireturn, 1)) := by decide +kernel
theorem dX2_inTurn_16 : decode cX2_inTurn 16 = .ok (.iload_n 1, 1) := zb_X2_inTurn_16.1
theorem dX2_inTurn_17 : decode cX2_inTurn 17 = .ok (.if_icmp .ne 14, 3) := zb_X2_inTurn_16.2.1
theorem dX2_inTurn_31 : decode cX2_inTurn 31 = .ok (.iinc 3 1, 3) := zb_X2_inTurn_16.2.2.1
theorem dX2_inTurn_34 : decode cX2_inTurn 34 = .ok (.goto (-32), 3) := zb_X2_inTurn_16.2.2.2.1
theorem dX2_inTurn_20 : decode cX2_inTurn 20 = .ok (.aload_n 0, 1) := zb_X2_inTurn_16.2.2.2.2.1
theorem dX2_inTurn_21 : decode cX2_inTurn 21 = .ok (.iload_n 3, 1) := zb_X2_inTurn_16.2.2.2.2.2.1
theorem dX2_inTurn_22 : decode cX2_inTurn 22 = .ok (.invokevirtual 31, 3) := zb_X2_inTurn_16.2.2.2.2.2.2.1
theorem dX2_inTurn_25 : decode cX2_inTurn 25 = .ok (.iload_n 2, 1) := zb_X2_inTurn_16.2.2.2.2.2.2.2.1
theorem dX2_inTurn_26 : decode cX2_inTurn 26 = .ok (.if_icmp .ne 5, 3) := zb_X2_inTurn_16.2.2.2.2.2.2.2.2.1
theorem dX2_inTurn_29 : decode cX2_inTurn 29 = .ok (.iload_n 3, 1) := zb_X2_inTurn_16.2.2.2.2.2.2.2.2.2.1
theorem dX2_inTurn_30 : decode cX2_inTurn 30 = .ok (.ireturn, 1) := zb_X2_inTurn_16.2.2.2.2.2.2.2.2.2.2
theorem zb_X8_hasStory_0 : (decode cX8_hasStory 0 = .ok (.iload_n 1, 1)) ∧ (decode cX8_hasStory 1 = .ok (.ifCond .lt 15, 3)) ∧ (decode cX8_hasStory 16 = .ok (.iconst 0, 1)) ∧ (decode cX8_hasStory 17 = .ok (.ireturn, 1)) ∧ (decode cX8_hasStory 4 = .ok (.iload_n 1, 1)) ∧ (decode cX8_hasStory 5 = .ok (.aload_n 0, 1)) ∧ (decode cX8_hasStory 6 = .ok (.getfield 21, 3)) ∧ (decode cX8_hasStory 9 = .ok (.if_icmp .ge 7, 3)) ∧ (decode cX8_hasStory 12 = .ok (.iconst 1, 1)) ∧ (decode cX8_hasStory 13 = .ok (.goto 4, 3)) := by decide +kernel
theorem dX8_hasStory_0 : decode cX8_hasStory 0 = .ok (.iload_n 1, 1) := zb_X8_hasStory_0.1
theorem dX8_hasStory_1 : decode cX8_hasStory 1 = .ok (.ifCond .lt 15, 3) := zb_X8_hasStory_0.2.1
theorem dX8_hasStory_16 : decode cX8_hasStory 16 = .ok (.iconst 0, 1) := zb_X8_hasStory_0.2.2.1
theorem dX8_hasStory_17 : decode cX8_hasStory 17 = .ok (.ireturn, 1) := zb_X8_hasStory_0.2.2.2.1
theorem dX8_hasStory_4 : decode cX8_hasStory 4 = .ok (.iload_n 1, 1) := zb_X8_hasStory_0.2.2.2.2.1
theorem dX8_hasStory_5 : decode cX8_hasStory 5 = .ok (.aload_n 0, 1) := zb_X8_hasStory_0.2.2.2.2.2.1
theorem dX8_hasStory_6 : decode cX8_hasStory 6 = .ok (.getfield 21, 3) := zb_X8_hasStory_0.2.2.2.2.2.2.1
theorem dX8_hasStory_9 : decode cX8_hasStory 9 = .ok (.if_icmp .ge 7, 3) := zb_X8_hasStory_0.2.2.2.2.2.2.2.1
theorem dX8_hasStory_12 : decode cX8_hasStory 12 = .ok (.iconst 1, 1) := zb_X8_hasStory_0.2.2.2.2.2.2.2.2.1
theorem dX8_hasStory_13 : decode cX8_hasStory 13 = .ok (.goto 4, 3) := zb_X8_hasStory_0.2.2.2.2.2.2.2.2.2
theorem zb_X8_addStory_0 : (decode cX8_addStory 0 = .ok (.aload_n 0, 1)) ∧ (decode cX8_addStory 1 = .ok (.getfield 9, 3)) ∧ (decode cX8_addStory 4 = .ok (.aload_n 0, 1)) ∧ (decode cX8_addStory 5 = .ok (.getfield 21, 3)) ∧ (decode cX8_addStory 8 = .ok (.iload_n 1, 1)) ∧ (decode cX8_addStory 9 = .ok (.iastore, 1)) ∧ (decode cX8_addStory 10 = .ok (.aload_n 0, 1)) ∧ (decode cX8_addStory 11 = .ok (.getfield 15, 3)) ∧ (decode cX8_addStory 14 = .ok (.aload_n 0, 1)) := by decide +kernel
theorem dX8_addStory_0 : decode cX8_addStory 0 = .ok (.aload_n 0, 1) := zb_X8_addStory_0.1
theorem dX8_addStory_1 : decode cX8_addStory 1 = .ok (.getfield 9, 3) := zb_X8_addStory_0.2.1
theorem dX8_addStory_4 : decode cX8_addStory 4 = .ok (.aload_n 0, 1) := zb_X8_addStory_0.2.2.1
theorem dX8_addStory_5 : decode cX8_addStory 5 = .ok (.getfield 21, 3) := zb_X8_addStory_0.2.2.2.1
theorem dX8_addStory_8 : decode cX8_addStory 8 = .ok (.iload_n 1, 1) := zb_X8_addStory_0.2.2.2.2.1
theorem dX8_addStory_9 : decode cX8_addStory 9 = .ok (.iastore, 1) := zb_X8_addStory_0.2.2.2.2.2.1
theorem dX8_addStory_10 : decode cX8_addStory 10 = .ok (.aload_n 0, 1) := zb_X8_addStory_0.2.2.2.2.2.2.1
theorem dX8_addStory_11 : decode cX8_addStory 11 = .ok (.getfield 15, 3) := zb_X8_addStory_0.2.2.2.2.2.2.2.1
theorem dX8_addStory_14 : decode cX8_addStory 14 = .ok (.aload_n 0, 1) := zb_X8_addStory_0.2.2.2.2.2.2.2.2
theorem zb_X8_addStory_15 : (decode cX8_addStory 15 = .ok (.getfield 21, 3)) ∧ (decode cX8_addStory 18 = .ok (.iload_n 2, 1)) ∧ (decode cX8_addStory 19 = .ok (.iastore, 1)) ∧ (decode cX8_addStory 20 = .ok (.aload_n 0, 1)) ∧ (decode cX8_addStory 21 = .ok (.getfield 18, 3)) ∧ (decode cX8_addStory 24 = .ok (.aload_n 0, 1)) ∧ (decode cX8_addStory 25 = .ok (.getfield 21, 3)) ∧ (decode cX8_addStory 28 = .ok (.iload_n 3, 1)) ∧ (decode cX8_addStory 29 = .ok (.iastore, 1)) := by decide +kernel
theorem dX8_addStory_15 : decode cX8_addStory 15 = .ok (.getfield 21, 3) := zb_X8_addStory_15.1
theorem dX8_addStory_18 : decode cX8_addStory 18 = .ok (.iload_n 2, 1) := zb_X8_addStory_15.2.1
theorem dX8_addStory_19 : decode cX8_addStory 19 = .ok (.iastore, 1) := zb_X8_addStory_15.2.2.1
theorem dX8_addStory_20 : decode cX8_addStory 20 = .ok (.aload_n 0, 1) := zb_X8_addStory_15.2.2.2.1
theorem dX8_addStory_21 : decode cX8_addStory 21 = .ok (.getfield 18, 3) := zb_X8_addStory_15.2.2.2.2.1
theorem dX8_addStory_24 : decode cX8_addStory 24 = .ok (.aload_n 0, 1) := zb_X8_addStory_15.2.2.2.2.2.1
theorem dX8_addStory_25 : decode cX8_addStory 25 = .ok (.getfield 21, 3) := zb_X8_addStory_15.2.2.2.2.2.2.1
theorem dX8_addStory_28 : decode cX8_addStory 28 = .ok (.iload_n 3, 1) := zb_X8_addStory_15.2.2.2.2.2.2.2.1
theorem dX8_addStory_29 : decode cX8_addStory 29 = .ok (.iastore, 1) := zb_X8_addStory_15.2.2.2.2.2.2.2.2
theorem zb_X8_addStory_30 : (decode cX8_addStory 30 = .ok (.aload_n 0, 1)) ∧ (decode cX8_addStory 31 = .ok (.dup, 1)) ∧ (decode cX8_addStory 32 = .ok (.getfield 21, 3)) ∧ (decode cX8_addStory 35 = .ok (.dup_x1, 1)) ∧ (decode cX8_addStory 36 = .ok (.iconst 1, 1)) ∧ (decode cX8_addStory 37 = .ok (.iadd, 1)) ∧ (decode cX8_addStory 38 = .ok (.putfield 21, 3)) ∧ (decode cX8_addStory 41 = .ok (.ireturn, 1)) := by decide +kernel
theorem dX8_addStory_30 : decode cX8_addStory 30 = .ok (.aload_n 0, 1) := zb_X8_addStory_30.1
theorem dX8_addStory_31 : decode cX8_addStory 31 = .ok (.dup, 1) := zb_X8_addStory_30.2.1
theorem dX8_addStory_32 : decode cX8_addStory 32 = .ok (.getfield 21, 3) := zb_X8_addStory_30.2.2.1
theorem dX8_addStory_35 : decode cX8_addStory 35 = .ok (.dup_x1, 1) := zb_X8_addStory_30.2.2.2.1
theorem dX8_addStory_36 : decode cX8_addStory 36 = .ok (.iconst 1, 1) := zb_X8_addStory_30.2.2.2.2.1
theorem dX8_addStory_37 : decode cX8_addStory 37 = .ok (.iadd, 1) := zb_X8_addStory_30.2.2.2.2.2.1
theorem dX8_addStory_38 : decode cX8_addStory 38 = .ok (.putfield 21, 3) := zb_X8_addStory_30.2.2.2.2.2.2.1
theorem dX8_addStory_41 : decode cX8_addStory 41 = .ok (.ireturn, 1) := zb_X8_addStory_30.2.2.2.2.2.2.2
theorem gX10_tellWind_X10_setHours : GoodIn wsX10_tellWind (va_wsS RX10 18 yX10_setHours wsX10_setHours) := ru_gG (ru_gS tw_2_172 tw_2_173 tw_1_2 mT_X10_setHours)
theorem gX10_tellFog_X10_setHours : GoodIn wsX10_tellFog (va_wsS RX10 18 yX10_setHours wsX10_setHours) := ru_gG (ru_gS tw_2_172 tw_2_173 tw_1_2 mT_X10_setHours)
theorem gX10_isClear_X10_fogAt : GoodIn wsX10_isClear (wsV RX10 35 RX10 yX10_fogAt wsX10_fogAt) := ru_gG (ru_gV tw_4_21 tw_3_198 tw_3_199 tw_1_2 mT_X10_fogAt)
theorem gX4_isAnyApart_X11_apart_n57 : GoodIn wsX4_isAnyApart (wsX11_apart) := ru_gG mT_X11_apart
theorem gX4_isAnyApart_X11_has_n61 : GoodIn wsX4_isAnyApart (wsX11_has) := ru_gG mT_X11_has
theorem gX4_hearersOf_X4_isAnyApart : GoodIn wsX4_hearersOf (va_wsS RX4 53 yX4_isAnyApart wsX4_isAnyApart) := ru_gG (ru_gS tw_3_115 tw_3_116 tw_1_3 mT_X4_isAnyApart)
theorem gX4_putTogether_X4_digit : GoodIn wsX4_putTogether (va_wsS RX4 65 yX4_digit wsX4_digit) := ru_gG (ru_gS tw_3_145 tw_3_146 tw_1_3 mT_X4_digit)
theorem gX4_isAsSent_X4_digit : GoodIn wsX4_isAsSent (va_wsS RX4 65 yX4_digit wsX4_digit) := ru_gG (ru_gS tw_3_145 tw_3_146 tw_1_3 mT_X4_digit)
theorem gX6_weightIn_X11_has_n33 : GoodIn wsX6_weightIn (wsX11_has) := ru_gG mT_X11_has
theorem gX6_weightIn_X10_fogAt : GoodIn wsX6_weightIn (wsV RX6 52 RX10 yX10_fogAt wsX10_fogAt) := ru_gG (ru_gV tw_3_197 tw_3_198 tw_3_199 tw_1_2 mT_X10_fogAt)
theorem gX6_weigh_X11_has_n33 : GoodIn wsX6_weigh (wsX11_has) := ru_gG mT_X11_has
theorem gX6_weigh_X6_weightIn : GoodIn wsX6_weigh (wsV RX6 37 RX6 yX6_weightIn wsX6_weightIn) := ru_gG (ru_gV tw_3_193 tw_3_195 tw_0_4 tw_1_4 mT_X6_weightIn)
theorem gX6_shareOf_X6_commonDivisor : GoodIn wsX6_shareOf (va_wsS RX6 60 yX6_commonDivisor wsX6_commonDivisor) := ru_gG (ru_gS tw_3_206 tw_3_207 tw_1_4 mT_X6_commonDivisor)
theorem gX6_keepIfBetter_X11_has_n33 : GoodIn wsX6_keepIfBetter (wsX11_has) := ru_gG mT_X11_has
theorem gX6_tryLanes_X6_keepIfBetter : GoodIn wsX6_tryLanes (wsV RX6 75 RX6 yX6_keepIfBetter wsX6_keepIfBetter) := ru_gG (ru_gV tw_3_232 tw_3_234 tw_0_7 tw_1_4 mT_X6_keepIfBetter)
theorem gX6_tryLanes_X6_tryLanes : GoodIn wsX6_tryLanes (wsV RX6 71 RX6 yX6_tryLanes wsX6_tryLanes) := ru_gG (ru_gV tw_3_228 tw_3_230 tw_0_6 tw_1_4 mT_X6_tryLanes)
theorem gX6_choose_X6_tryLanes : GoodIn wsX6_choose (wsV RX6 71 RX6 yX6_tryLanes wsX6_tryLanes) := ru_gG (ru_gV tw_3_228 tw_3_230 tw_0_6 tw_1_4 mT_X6_tryLanes)
theorem gX2_inTurn_X2_aheadOf : GoodIn wsX2_inTurn (wsV RX2 31 RX2 yX2_aheadOf wsX2_aheadOf) := ru_gG (ru_gV tw_5_6 tw_5_8 tw_0_25 tw_1_5 mT_X2_aheadOf)
set_option maxHeartbeats 400000 in
set_option maxRecDepth 20000 in
theorem fc_X10_setHoursW (l : Launch) (D : va_G) (ad : Nat → Nat → Nat) (C : Nat → Nat → ClassId) (nb : Nat) (M : fm_M) (hI : fm_I nb ad M) (p0 p1 p2 : Int32) (b_p0 : 0 ≤ p0.toInt ∧ p0.toInt ≤ 239) (b_p1 : 1 ≤ p1.toInt ∧ p1.toInt ≤ 240) (b_p2 : 0 ≤ p2.toInt ∧ p2.toInt ≤ 4444) : Met l yX10_setHours wsX10_setHours ({ frames := 1, cells := 0, slots := 0, locals := 13 }) (va_Pc [.ref (ad 2 0), .int p0, .int p1, .int p2] (fm_P D ad C nb M)) (va_Qv (fun (u : fm_M) => fm_I nb ad u ∧ fm_same [2000] M u ∧ True) (fun u t => fm_at D ad C nb u t.heap) (fm_A nb ad)) 0 0 (fm_A nb ad) := by
  refine Met.ofW (cc := cX10_setHours) (maxL := 5) (ret := none) (by decide) rfl ?_
  intro p e s m args below meth c s₁ B hml hv
  obtain ⟨rfl, hw, hc⟩ := hv
  have hx := B.exec
  have hb := B.bytes
  have hr := B.returns
  have hts := atoms_spec (ws := wsX10_setHours) B.pre
  have hown : s.vm.findClass RX10 = some m.cls := findClass_of_methodNamed B.named
  have hS : va_S (fm_A nb ad) s.heap s.heap [] := va_S.rf
  have hE : fm_same [2000] M M := fm_same.rf
  have hl := lv_entry ([.ref (ad 2 0), .int p0, .int p1, .int p2]) (n := 5) (Nat.le_of_ble_eq_true rfl)
  rw [lg_entry_eq]
  generalize (lg_sl ([.ref (ad 2 0), .int p0, .int p1, .int p2]) ++ List.replicate (5 - (lg_sl ([.ref (ad 2 0), .int p0, .int p1, .int p2])).length) Slot.unset).toArray = ls at hl ⊢
  have hl : lv_has ls 5 [(0, .ref (ad 2 0)), (1, .int p0), (2, .int p1), (3, .int p2)] := hl
  refine lv_iload_n hx hb dX10_setHours_0 rfl (lv_at hl 1 rfl) ?_
  refine lv_iconst (v := 0) hx hb dX10_setHours_1 (by decide) ?_
  refine va_mmax hx hb (by rw [hml]; exact hl.1.symm) hown (hts (.methodLink RX10 29 Lib.Math.max.name) (List.mem_cons_of_mem _ tw_2_175)) (hts (.static Lib.Math.max.name) (List.mem_cons_of_mem _ tw_2_156)) (hts (.initialized "java/lang/Math") (List.mem_cons_of_mem _ tw_1_17)) (hts (.code Lib.Math.max.name Lib.Math.max.code 2 (some .int)) (List.mem_cons_of_mem _ tw_2_157)) (Nat.le_of_ble_eq_true rfl) (Nat.le_of_ble_eq_true rfl) (Nat.le_of_ble_eq_true rfl) (Nat.le_of_ble_eq_true rfl) dX10_setHours_2 ?_
  refine lv_topi (fun y1 ey1 => ?_)
  have ty1 : y1.toInt = if p0.toInt < 0 then 0 else p0.toInt := by rw [ey1]; exact zi_max rfl zk_0
  refine lv_istore (lv' := [(4, .int y1), (0, .ref (ad 2 0)), (1, .int p0), (2, .int p1), (3, .int p2)]) hx hb dX10_setHours_5 hl (by decide) rfl (fun ls hl => ?_)
  have lp : ∀ (n_lp : Nat) (lp_4 : Int32) (M_lp : fm_M), (240 - lp_4.toInt).toNat < n_lp → (0 ≤ lp_4.toInt ∧ lp_4.toInt ≤ 240) → fm_I nb ad M_lp → fm_same [2000] M M_lp → ∀ (H : Heap) (locs : List Loc), fm_at D ad C nb M_lp H → va_S (fm_A nb ad) s.heap H locs → ∀ (ls : Array Slot), lv_has ls 5 [(4, .int lp_4), (0, .ref (ad 2 0)), (1, .int p0), (2, .int p1), (3, .int p2)] → W p l e (headSpec wsX10_setHours ({ frames := 1, cells := 0, slots := 0, locals := 13 })).room s m ([.ref (ad 2 0), .int p0, .int p1, .int p2] : List Value).toArray below meth c H locs 0 0 (MQ below (va_Qv (fun (u : fm_M) => fm_I nb ad u ∧ fm_same [2000] M u ∧ True) (fun u t => fm_at D ad C nb u t.heap) (fm_A nb ad)) ([.ref (ad 2 0), .int p0, .int p1, .int p2] : List Value).toArray s 0 0 (fm_A nb ad)) (F0 m 7 ls []) := by
    intro n_lp
    induction n_lp with
    | zero => intro lp_4 M_lp hm_lp b_lp_4 hI hE H locs hw hS ls hl; exact absurd hm_lp (Nat.not_lt_zero _)
    | succ n_lp ih_lp =>
      intro lp_4 M_lp hm_lp b_lp_4 hI hE H locs hw hS ls hl
      refine lv_iload hx hb dX10_setHours_7 (lv_at hl 0 rfl) ?_
      refine lv_iload_n hx hb dX10_setHours_9 rfl (lv_at hl 3 rfl) ?_
      refine fx_icmp_ge (tgt := 31) hx hb dX10_setHours_10 (by decide) rfl rfl (fun c2 => ?_) (fun c2 => ?_)
      · exact W.vret hx hb hr (fun t ht hW => ⟨⟨M_lp, rfl, ⟨hI, hE, trivial⟩, by show fm_at D ad C nb _ t.heap; rw [ht]; exact hw⟩, hS.F ht⟩) hS.2.2 dX10_setHours_31
      · refine lv_iload hx hb dX10_setHours_13 (lv_at hl 0 rfl) ?_
        refine lv_aload_n hx hb dX10_setHours_15 rfl (lv_at hl 1 rfl) ?_
        refine fm_alen (a := 2) (v := 240) hx hb hc hw kl_2 sh_2 (by decide) (by decide) dX10_setHours_16 ?_
        refine fx_icmp_ge (tgt := 31) hx hb dX10_setHours_17 (by decide) rfl zk_240 (fun c3 => by exfalso; omega) (fun c3 => ?_)
        refine lv_aload_n hx hb dX10_setHours_20 rfl (lv_at hl 1 rfl) ?_
        refine lv_iload hx hb dX10_setHours_21 (lv_at hl 0 rfl) ?_
        refine lv_iload_n hx hb dX10_setHours_23 rfl (lv_at hl 4 rfl) ?_
        refine fm_iast (a := 2) hx hb hc hw hI hE hS kl_2 sh_2 ty_2 bd_2 (by omega) (by omega) cd_2 (by decide) dX10_setHours_24 (fun M4 H locs eM4 hw hI hE hS => ?_)
        obtain ⟨y5, ey5⟩ : ∃ y : Int32, y = lp_4 + 1 := ⟨_, rfl⟩
        have ty5 : y5.toInt = lp_4.toInt + 1 := by rw [ey5, zi_add _ _ (by rw [zk_1]; omega) (by rw [zk_1]; omega), zk_1]
        refine lv_iinc (v := y5) (lv' := [(4, .int y5), (0, .ref (ad 2 0)), (1, .int p0), (2, .int p1), (3, .int p2)]) hx hb dX10_setHours_25 hl (k := 0) rfl (by rw [ey5]; rfl) (by decide) rfl (fun ls hl => ?_)
        refine lv_goto (tgt := 7) hx hb dX10_setHours_28 (by decide) ?_
        exact ih_lp y5 M4 (by omega) (by omega) hI hE _ _ hw hS ls (lv_sub hl [0, 1, 2, 3, 4] rfl)
  exact lp _ y1 M (Nat.lt_succ_self _) (by omega) hI hE _ _ hw hS ls (lv_sub hl [0, 1, 2, 3, 4] rfl)
set_option maxHeartbeats 400000 in
set_option maxRecDepth 20000 in
theorem fc_X10_setHoursF (l : Launch) (D : va_G) (ad : Nat → Nat → Nat) (C : Nat → Nat → ClassId) (nb : Nat) (M : fm_M) (hI : fm_I nb ad M) (p0 p1 p2 : Int32) (b_p0 : 0 ≤ p0.toInt ∧ p0.toInt ≤ 239) (b_p1 : 1 ≤ p1.toInt ∧ p1.toInt ≤ 240) (b_p2 : 0 ≤ p2.toInt ∧ p2.toInt ≤ 16) : Met l yX10_setHours wsX10_setHours ({ frames := 1, cells := 0, slots := 0, locals := 13 }) (va_Pc [.ref (ad 3 0), .int p0, .int p1, .int p2] (fm_P D ad C nb M)) (va_Qv (fun (u : fm_M) => fm_I nb ad u ∧ fm_same [3000] M u ∧ True) (fun u t => fm_at D ad C nb u t.heap) (fm_A nb ad)) 0 0 (fm_A nb ad) := by
  refine Met.ofW (cc := cX10_setHours) (maxL := 5) (ret := none) (by decide) rfl ?_
  intro p e s m args below meth c s₁ B hml hv
  obtain ⟨rfl, hw, hc⟩ := hv
  have hx := B.exec
  have hb := B.bytes
  have hr := B.returns
  have hts := atoms_spec (ws := wsX10_setHours) B.pre
  have hown : s.vm.findClass RX10 = some m.cls := findClass_of_methodNamed B.named
  have hS : va_S (fm_A nb ad) s.heap s.heap [] := va_S.rf
  have hE : fm_same [3000] M M := fm_same.rf
  have hl := lv_entry ([.ref (ad 3 0), .int p0, .int p1, .int p2]) (n := 5) (Nat.le_of_ble_eq_true rfl)
  rw [lg_entry_eq]
  generalize (lg_sl ([.ref (ad 3 0), .int p0, .int p1, .int p2]) ++ List.replicate (5 - (lg_sl ([.ref (ad 3 0), .int p0, .int p1, .int p2])).length) Slot.unset).toArray = ls at hl ⊢
  have hl : lv_has ls 5 [(0, .ref (ad 3 0)), (1, .int p0), (2, .int p1), (3, .int p2)] := hl
  refine lv_iload_n hx hb dX10_setHours_0 rfl (lv_at hl 1 rfl) ?_
  refine lv_iconst (v := 0) hx hb dX10_setHours_1 (by decide) ?_
  refine va_mmax hx hb (by rw [hml]; exact hl.1.symm) hown (hts (.methodLink RX10 29 Lib.Math.max.name) (List.mem_cons_of_mem _ tw_2_175)) (hts (.static Lib.Math.max.name) (List.mem_cons_of_mem _ tw_2_156)) (hts (.initialized "java/lang/Math") (List.mem_cons_of_mem _ tw_1_17)) (hts (.code Lib.Math.max.name Lib.Math.max.code 2 (some .int)) (List.mem_cons_of_mem _ tw_2_157)) (Nat.le_of_ble_eq_true rfl) (Nat.le_of_ble_eq_true rfl) (Nat.le_of_ble_eq_true rfl) (Nat.le_of_ble_eq_true rfl) dX10_setHours_2 ?_
  refine lv_topi (fun y1 ey1 => ?_)
  have ty1 : y1.toInt = if p0.toInt < 0 then 0 else p0.toInt := by rw [ey1]; exact zi_max rfl zk_0
  refine lv_istore (lv' := [(4, .int y1), (0, .ref (ad 3 0)), (1, .int p0), (2, .int p1), (3, .int p2)]) hx hb dX10_setHours_5 hl (by decide) rfl (fun ls hl => ?_)
  have lp : ∀ (n_lp : Nat) (lp_4 : Int32) (M_lp : fm_M), (240 - lp_4.toInt).toNat < n_lp → (0 ≤ lp_4.toInt ∧ lp_4.toInt ≤ 240) → fm_I nb ad M_lp → fm_same [3000] M M_lp → ∀ (H : Heap) (locs : List Loc), fm_at D ad C nb M_lp H → va_S (fm_A nb ad) s.heap H locs → ∀ (ls : Array Slot), lv_has ls 5 [(4, .int lp_4), (0, .ref (ad 3 0)), (1, .int p0), (2, .int p1), (3, .int p2)] → W p l e (headSpec wsX10_setHours ({ frames := 1, cells := 0, slots := 0, locals := 13 })).room s m ([.ref (ad 3 0), .int p0, .int p1, .int p2] : List Value).toArray below meth c H locs 0 0 (MQ below (va_Qv (fun (u : fm_M) => fm_I nb ad u ∧ fm_same [3000] M u ∧ True) (fun u t => fm_at D ad C nb u t.heap) (fm_A nb ad)) ([.ref (ad 3 0), .int p0, .int p1, .int p2] : List Value).toArray s 0 0 (fm_A nb ad)) (F0 m 7 ls []) := by
    intro n_lp
    induction n_lp with
    | zero => intro lp_4 M_lp hm_lp b_lp_4 hI hE H locs hw hS ls hl; exact absurd hm_lp (Nat.not_lt_zero _)
    | succ n_lp ih_lp =>
      intro lp_4 M_lp hm_lp b_lp_4 hI hE H locs hw hS ls hl
      refine lv_iload hx hb dX10_setHours_7 (lv_at hl 0 rfl) ?_
      refine lv_iload_n hx hb dX10_setHours_9 rfl (lv_at hl 3 rfl) ?_
      refine fx_icmp_ge (tgt := 31) hx hb dX10_setHours_10 (by decide) rfl rfl (fun c2 => ?_) (fun c2 => ?_)
      · exact W.vret hx hb hr (fun t ht hW => ⟨⟨M_lp, rfl, ⟨hI, hE, trivial⟩, by show fm_at D ad C nb _ t.heap; rw [ht]; exact hw⟩, hS.F ht⟩) hS.2.2 dX10_setHours_31
      · refine lv_iload hx hb dX10_setHours_13 (lv_at hl 0 rfl) ?_
        refine lv_aload_n hx hb dX10_setHours_15 rfl (lv_at hl 1 rfl) ?_
        refine fm_alen (a := 3) (v := 240) hx hb hc hw kl_3 sh_3 (by decide) (by decide) dX10_setHours_16 ?_
        refine fx_icmp_ge (tgt := 31) hx hb dX10_setHours_17 (by decide) rfl zk_240 (fun c3 => by exfalso; omega) (fun c3 => ?_)
        refine lv_aload_n hx hb dX10_setHours_20 rfl (lv_at hl 1 rfl) ?_
        refine lv_iload hx hb dX10_setHours_21 (lv_at hl 0 rfl) ?_
        refine lv_iload_n hx hb dX10_setHours_23 rfl (lv_at hl 4 rfl) ?_
        refine fm_iast (a := 3) hx hb hc hw hI hE hS kl_3 sh_3 ty_3 bd_3 (by omega) (by omega) cd_3 (by decide) dX10_setHours_24 (fun M4 H locs eM4 hw hI hE hS => ?_)
        obtain ⟨y5, ey5⟩ : ∃ y : Int32, y = lp_4 + 1 := ⟨_, rfl⟩
        have ty5 : y5.toInt = lp_4.toInt + 1 := by rw [ey5, zi_add _ _ (by rw [zk_1]; omega) (by rw [zk_1]; omega), zk_1]
        refine lv_iinc (v := y5) (lv' := [(4, .int y5), (0, .ref (ad 3 0)), (1, .int p0), (2, .int p1), (3, .int p2)]) hx hb dX10_setHours_25 hl (k := 0) rfl (by rw [ey5]; rfl) (by decide) rfl (fun ls hl => ?_)
        refine lv_goto (tgt := 7) hx hb dX10_setHours_28 (by decide) ?_
        exact ih_lp y5 M4 (by omega) (by omega) hI hE _ _ hw hS ls (lv_sub hl [0, 1, 2, 3, 4] rfl)
  exact lp _ y1 M (Nat.lt_succ_self _) (by omega) hI hE _ _ hw hS ls (lv_sub hl [0, 1, 2, 3, 4] rfl)
set_option maxHeartbeats 400000 in
set_option maxRecDepth 20000 in
theorem fc_X10_tellWind (l : Launch) (D : va_G) (ad : Nat → Nat → Nat) (C : Nat → Nat → ClassId) (nb : Nat) (M : fm_M) (hI : fm_I nb ad M) (p0 p1 p2 : Int32) (b_p0 : 0 ≤ p0.toInt ∧ p0.toInt ≤ 239) (b_p1 : 1 ≤ p1.toInt ∧ p1.toInt ≤ 240) (b_p2 : 0 ≤ p2.toInt ∧ p2.toInt ≤ 4444) (hf : 0 ≤ (M.1 1 0 2).toInt ∧ (M.1 1 0 2).toInt ≤ 29) : Met l yX10_tellWind wsX10_tellWind ({ frames := 2, cells := 0, slots := 0, locals := 37 }) (va_Pc [.ref (ad 1 0), .int p0, .int p1, .int p2] (fm_P D ad C nb M)) (va_Qv (fun (u : fm_M) => fm_I nb ad u ∧ fm_same [1002, 2000] M u ∧ ((u.1 1 0 2).toInt = (M.1 1 0 2).toInt + 1)) (fun u t => fm_at D ad C nb u t.heap) (fm_A nb ad)) 0 0 (fm_A nb ad) := by
  refine Met.ofW (cc := cX10_tellWind) (maxL := 4) (ret := none) (by decide) rfl ?_
  intro p e s m args below meth c s₁ B hml hv
  obtain ⟨rfl, hw, hc⟩ := hv
  have hx := B.exec
  have hb := B.bytes
  have hr := B.returns
  have hts := atoms_spec (ws := wsX10_tellWind) B.pre
  have hown : s.vm.findClass RX10 = some m.cls := findClass_of_methodNamed B.named
  have hinX10 : ∀ w ∈ u_ws RX10 TX10 4, w ∈ wsX10_tellWind := fun w h => List.mem_cons_of_mem _ (iT_X10 w h)
  have hS : va_S (fm_A nb ad) s.heap s.heap [] := va_S.rf
  have hE : fm_same [1002, 2000] M M := fm_same.rf
  have hl := lv_entry ([.ref (ad 1 0), .int p0, .int p1, .int p2]) (n := 4) (Nat.le_of_ble_eq_true rfl)
  rw [lg_entry_eq]
  generalize (lg_sl ([.ref (ad 1 0), .int p0, .int p1, .int p2]) ++ List.replicate (4 - (lg_sl ([.ref (ad 1 0), .int p0, .int p1, .int p2])).length) Slot.unset).toArray = ls at hl ⊢
  have hl : lv_has ls 4 [(0, .ref (ad 1 0)), (1, .int p0), (2, .int p1), (3, .int p2)] := hl
  refine lv_aload_n hx hb dX10_tellWind_0 rfl (lv_at hl 0 rfl) ?_
  refine fm_getG (a := 1) (j := 0) (T := TX10) (N := 4) hx hb hts hinX10 hown hc hw kl_1 sh_1 rfl (by decide) rfl (hI.to kl_1 tg_1_0) (hts (.fieldLink RX10 9 "RedTent$Weather" "windBy" "[I") (List.mem_cons_of_mem _ tw_1_35)) (fun _ h9 => h9) dX10_tellWind_1 ?_
  refine lv_iload_n hx hb dX10_tellWind_4 rfl (lv_at hl 1 rfl) ?_
  refine lv_iload_n hx hb dX10_tellWind_5 rfl (lv_at hl 2 rfl) ?_
  refine lv_iload_n hx hb dX10_tellWind_6 rfl (lv_at hl 3 rfl) ?_
  refine fm_cv (va_runS (As := [.ref (ad 2 0), .int p0, .int p1, .int p2]) (rest := []) ⟨hx, hb, hml, hown, hts⟩ (fc_X10_setHoursW l D ad C nb M hI p0 p1 p2 (by omega) (by omega) (by omega)) (va_cwS 4 hts gX10_tellWind_X10_setHours rfl rfl rfl (by decide +kernel) ⟨Nat.le_of_ble_eq_true rfl, Nat.le_of_ble_eq_true rfl⟩) (fm_preS hc hw hS) rfl rfl hl.1 rfl (lv_room (Nat.le_of_ble_eq_true rfl)) dX10_tellWind_7 ⟨by decide +kernel, by decide +kernel⟩) hS hc (fun M2 H locs hr1 hw hS => ?_)
  obtain ⟨hI, hEM2, hr1⟩ := hr1
  have hE := hE.tr hEM2 (by decide)
  refine lv_aload_n hx hb dX10_tellWind_10 rfl (lv_at hl 0 rfl) ?_
  refine lv_dup hx hb dX10_tellWind_11 rfl ?_
  refine fm_getI (a := 1) (j := 2) (T := TX10) (N := 4) hx hb hts hinX10 hown hc hw hI kl_1 sh_1 rfl (by decide) rfl bd_1_2 (hts (.fieldLink RX10 22 "RedTent$Weather" "windCount" "I") (List.mem_cons_of_mem _ tw_1_37)) (fun _ h9 => h9) dX10_tellWind_12 (fun x3 ex3 bx3 => ?_)
  have fx3 : 0 ≤ x3.toInt ∧ x3.toInt ≤ 29 := by rw [ex3, (hEM2 1 0 2 (by decide)).1]; exact hf
  refine lv_iconst (v := 1) hx hb dX10_tellWind_15 (by decide) ?_
  refine fx_iadd hx hb dX10_tellWind_16 rfl zk_1 (by omega) (fun y4 ey4 ty4 => ?_)
  refine fm_putI (a := 1) (j := 2) (T := TX10) (N := 4) hx hb hts hinX10 tyX10 tyX10_ok nmX10 hown hc hw hI hE hS kl_1 sh_1 od_1 rfl (by decide) rfl bd_1_2 (hts (.fieldLink RX10 22 "RedTent$Weather" "windCount" "I") (List.mem_cons_of_mem _ tw_1_37)) (fun _ h9 => h9) rfl (by decide +kernel) (by omega) (by decide) (by decide) dX10_tellWind_17 (fun M5 H locs eM5 hw hI hE hS => ?_)
  have qx3 : x3.toInt = (M.1 1 0 2).toInt := by rw [ex3, (hEM2 1 0 2 (by decide)).1]
  exact W.vret hx hb hr (fun t ht hW => ⟨⟨M5, rfl, ⟨hI, hE, (by first | omega | (rw [eM5, fm_wI_at]; omega))⟩, by show fm_at D ad C nb _ t.heap; rw [ht]; exact hw⟩, hS.F ht⟩) hS.2.2 dX10_tellWind_20
set_option maxHeartbeats 400000 in
set_option maxRecDepth 20000 in
theorem fc_X10_tellFog (l : Launch) (D : va_G) (ad : Nat → Nat → Nat) (C : Nat → Nat → ClassId) (nb : Nat) (M : fm_M) (hI : fm_I nb ad M) (p0 p1 p2 : Int32) (b_p0 : 0 ≤ p0.toInt ∧ p0.toInt ≤ 239) (b_p1 : 1 ≤ p1.toInt ∧ p1.toInt ≤ 240) (b_p2 : 0 ≤ p2.toInt ∧ p2.toInt ≤ 16) (hf : 0 ≤ (M.1 1 0 3).toInt ∧ (M.1 1 0 3).toInt ≤ 29) : Met l yX10_tellFog wsX10_tellFog ({ frames := 2, cells := 0, slots := 0, locals := 37 }) (va_Pc [.ref (ad 1 0), .int p0, .int p1, .int p2] (fm_P D ad C nb M)) (va_Qv (fun (u : fm_M) => fm_I nb ad u ∧ fm_same [1003, 3000] M u ∧ ((u.1 1 0 3).toInt = (M.1 1 0 3).toInt + 1)) (fun u t => fm_at D ad C nb u t.heap) (fm_A nb ad)) 0 0 (fm_A nb ad) := by
  refine Met.ofW (cc := cX10_tellFog) (maxL := 4) (ret := none) (by decide) rfl ?_
  intro p e s m args below meth c s₁ B hml hv
  obtain ⟨rfl, hw, hc⟩ := hv
  have hx := B.exec
  have hb := B.bytes
  have hr := B.returns
  have hts := atoms_spec (ws := wsX10_tellFog) B.pre
  have hown : s.vm.findClass RX10 = some m.cls := findClass_of_methodNamed B.named
  have hinX10 : ∀ w ∈ u_ws RX10 TX10 4, w ∈ wsX10_tellFog := fun w h => List.mem_cons_of_mem _ (iT_X10 w h)
  have hS : va_S (fm_A nb ad) s.heap s.heap [] := va_S.rf
  have hE : fm_same [1003, 3000] M M := fm_same.rf
  have hl := lv_entry ([.ref (ad 1 0), .int p0, .int p1, .int p2]) (n := 4) (Nat.le_of_ble_eq_true rfl)
  rw [lg_entry_eq]
  generalize (lg_sl ([.ref (ad 1 0), .int p0, .int p1, .int p2]) ++ List.replicate (4 - (lg_sl ([.ref (ad 1 0), .int p0, .int p1, .int p2])).length) Slot.unset).toArray = ls at hl ⊢
  have hl : lv_has ls 4 [(0, .ref (ad 1 0)), (1, .int p0), (2, .int p1), (3, .int p2)] := hl
  refine lv_aload_n hx hb dX10_tellFog_0 rfl (lv_at hl 0 rfl) ?_
  refine fm_getG (a := 1) (j := 1) (T := TX10) (N := 4) hx hb hts hinX10 hown hc hw kl_1 sh_1 rfl (by decide) rfl (hI.to kl_1 tg_1_1) (hts (.fieldLink RX10 15 "RedTent$Weather" "fogIn" "[I") (List.mem_cons_of_mem _ tw_1_36)) (fun _ h9 => h9) dX10_tellFog_1 ?_
  refine lv_iload_n hx hb dX10_tellFog_4 rfl (lv_at hl 1 rfl) ?_
  refine lv_iload_n hx hb dX10_tellFog_5 rfl (lv_at hl 2 rfl) ?_
  refine lv_iload_n hx hb dX10_tellFog_6 rfl (lv_at hl 3 rfl) ?_
  refine fm_cv (va_runS (As := [.ref (ad 3 0), .int p0, .int p1, .int p2]) (rest := []) ⟨hx, hb, hml, hown, hts⟩ (fc_X10_setHoursF l D ad C nb M hI p0 p1 p2 (by omega) (by omega) (by omega)) (va_cwS 4 hts gX10_tellFog_X10_setHours rfl rfl rfl (by decide +kernel) ⟨Nat.le_of_ble_eq_true rfl, Nat.le_of_ble_eq_true rfl⟩) (fm_preS hc hw hS) rfl rfl hl.1 rfl (lv_room (Nat.le_of_ble_eq_true rfl)) dX10_tellFog_7 ⟨by decide +kernel, by decide +kernel⟩) hS hc (fun M2 H locs hr1 hw hS => ?_)
  obtain ⟨hI, hEM2, hr1⟩ := hr1
  have hE := hE.tr hEM2 (by decide)
  refine lv_aload_n hx hb dX10_tellFog_10 rfl (lv_at hl 0 rfl) ?_
  refine lv_dup hx hb dX10_tellFog_11 rfl ?_
  refine fm_getI (a := 1) (j := 3) (T := TX10) (N := 4) hx hb hts hinX10 hown hc hw hI kl_1 sh_1 rfl (by decide) rfl bd_1_3 (hts (.fieldLink RX10 26 "RedTent$Weather" "fogCount" "I") (List.mem_cons_of_mem _ tw_1_39)) (fun _ h9 => h9) dX10_tellFog_12 (fun x3 ex3 bx3 => ?_)
  have fx3 : 0 ≤ x3.toInt ∧ x3.toInt ≤ 29 := by rw [ex3, (hEM2 1 0 3 (by decide)).1]; exact hf
  refine lv_iconst (v := 1) hx hb dX10_tellFog_15 (by decide) ?_
  refine fx_iadd hx hb dX10_tellFog_16 rfl zk_1 (by omega) (fun y4 ey4 ty4 => ?_)
  refine fm_putI (a := 1) (j := 3) (T := TX10) (N := 4) hx hb hts hinX10 tyX10 tyX10_ok nmX10 hown hc hw hI hE hS kl_1 sh_1 od_1 rfl (by decide) rfl bd_1_3 (hts (.fieldLink RX10 26 "RedTent$Weather" "fogCount" "I") (List.mem_cons_of_mem _ tw_1_39)) (fun _ h9 => h9) rfl (by decide +kernel) (by omega) (by decide) (by decide) dX10_tellFog_17 (fun M5 H locs eM5 hw hI hE hS => ?_)
  have qx3 : x3.toInt = (M.1 1 0 3).toInt := by rw [ex3, (hEM2 1 0 3 (by decide)).1]
  exact W.vret hx hb hr (fun t ht hW => ⟨⟨M5, rfl, ⟨hI, hE, (by first | omega | (rw [eM5, fm_wI_at]; omega))⟩, by show fm_at D ad C nb _ t.heap; rw [ht]; exact hw⟩, hS.F ht⟩) hS.2.2 dX10_tellFog_20
set_option maxHeartbeats 400000 in
set_option maxRecDepth 20000 in
theorem fc_X10_fogAt (l : Launch) (D : va_G) (ad : Nat → Nat → Nat) (C : Nat → Nat → ClassId) (nb : Nat) (M : fm_M) (hI : fm_I nb ad M) (p0 : Int32) : Met l yX10_fogAt wsX10_fogAt ({ frames := 0, cells := 0, slots := 0, locals := 0 }) (va_Pc [.ref (ad 1 0), .int p0] (fm_P D ad C nb M)) (vp_Si (fun r : Int32 => (0 ≤ r.toInt ∧ r.toInt ≤ 16))) 0 0 (fun _ => False) := by
  refine Met.ofW (cc := cX10_fogAt) (maxL := 2) (ret := (some .int)) (by decide) rfl ?_
  intro p e s m args below meth c s₁ B hml hv
  obtain ⟨rfl, hw, hc⟩ := hv
  have hx := B.exec
  have hb := B.bytes
  have hr := B.returns
  have hts := atoms_spec (ws := wsX10_fogAt) B.pre
  have hown : s.vm.findClass RX10 = some m.cls := findClass_of_methodNamed B.named
  have hinX10 : ∀ w ∈ u_ws RX10 TX10 4, w ∈ wsX10_fogAt := fun w h => List.mem_cons_of_mem _ (iT_X10 w h)
  have hS : va_S (fm_A nb ad) s.heap s.heap [] := va_S.rf
  have hl := lv_entry ([.ref (ad 1 0), .int p0]) (n := 2) (Nat.le_of_ble_eq_true rfl)
  rw [lg_entry_eq]
  generalize (lg_sl ([.ref (ad 1 0), .int p0]) ++ List.replicate (2 - (lg_sl ([.ref (ad 1 0), .int p0])).length) Slot.unset).toArray = ls at hl ⊢
  have hl : lv_has ls 2 [(0, .ref (ad 1 0)), (1, .int p0)] := hl
  refine lv_iload_n hx hb dX10_fogAt_0 rfl (lv_at hl 1 rfl) ?_
  refine fx_if_lt (tgt := 20) hx hb dX10_fogAt_1 (by decide) rfl (fun c1 => ?_) (fun c1 => ?_)
  · refine lv_iconst (v := 0) hx hb dX10_fogAt_20 (by decide) ?_
    exact W.iret (v := 0) hx hb hr (fun t ht hW => ⟨0, rfl, (by decide), ht⟩) (fun _ h => absurd h List.not_mem_nil) dX10_fogAt_21
  · refine lv_iload_n hx hb dX10_fogAt_4 rfl (lv_at hl 1 rfl) ?_
    refine lv_sipush (v := 240) hx hb dX10_fogAt_5 (by decide) ?_
    refine fx_icmp_ge (tgt := 20) hx hb dX10_fogAt_8 (by decide) rfl zk_240 (fun c2 => ?_) (fun c2 => ?_)
    · refine lv_iconst (v := 0) hx hb dX10_fogAt_20 (by decide) ?_
      exact W.iret (v := 0) hx hb hr (fun t ht hW => ⟨0, rfl, (by decide), ht⟩) (fun _ h => absurd h List.not_mem_nil) dX10_fogAt_21
    · refine lv_aload_n hx hb dX10_fogAt_11 rfl (lv_at hl 0 rfl) ?_
      refine fm_getG (a := 1) (j := 1) (T := TX10) (N := 4) hx hb hts hinX10 hown hc hw kl_1 sh_1 rfl (by decide) rfl (hI.to kl_1 tg_1_1) (hts (.fieldLink RX10 15 "RedTent$Weather" "fogIn" "[I") (List.mem_cons_of_mem _ tw_1_36)) (fun _ h9 => h9) dX10_fogAt_12 ?_
      refine lv_iload_n hx hb dX10_fogAt_15 rfl (lv_at hl 1 rfl) ?_
      refine fm_iald (a := 3) hx hb hc hw hI kl_3 sh_3 ty_3 bd_3 (by omega) dX10_fogAt_16 (fun x3 ex3 bx3 => ?_)
      refine lv_goto (tgt := 21) hx hb dX10_fogAt_17 (by decide) ?_
      exact W.iret (v := x3) hx hb hr (fun t ht hW => ⟨x3, rfl, (by omega), ht⟩) (fun _ h => absurd h List.not_mem_nil) dX10_fogAt_21
set_option maxHeartbeats 400000 in
set_option maxRecDepth 20000 in
theorem fc_X10_isClear (l : Launch) (D : va_G) (ad : Nat → Nat → Nat) (C : Nat → Nat → ClassId) (nb : Nat) (M : fm_M) (hI : fm_I nb ad M) (p0 p1 : Int32) (b_p0 : 0 ≤ p0.toInt ∧ p0.toInt ≤ 300) (b_p1 : 0 ≤ p1.toInt ∧ p1.toInt ≤ 7) : Met l yX10_isClear wsX10_isClear ({ frames := 1, cells := 0, slots := 0, locals := 21 }) (va_Pc [.ref (ad 1 0), .int p0, .int p1] (fm_P D ad C nb M)) (vp_Si (fun r : Int32 => (0 ≤ r.toInt ∧ r.toInt ≤ 1))) 0 0 (fun _ => False) := by
  refine Met.ofW (cc := cX10_isClear) (maxL := 4) (ret := (some .boolean)) (by decide) rfl ?_
  intro p e s m args below meth c s₁ B hml hv
  obtain ⟨rfl, hw, hc⟩ := hv
  have hx := B.exec
  have hb := B.bytes
  have hr := B.returns
  have hts := atoms_spec (ws := wsX10_isClear) B.pre
  have hown : s.vm.findClass RX10 = some m.cls := findClass_of_methodNamed B.named
  have hS : va_S (fm_A nb ad) s.heap s.heap [] := va_S.rf
  have hl := lv_entry ([.ref (ad 1 0), .int p0, .int p1]) (n := 4) (Nat.le_of_ble_eq_true rfl)
  rw [lg_entry_eq]
  generalize (lg_sl ([.ref (ad 1 0), .int p0, .int p1]) ++ List.replicate (4 - (lg_sl ([.ref (ad 1 0), .int p0, .int p1])).length) Slot.unset).toArray = ls at hl ⊢
  have hl : lv_has ls 4 [(0, .ref (ad 1 0)), (1, .int p0), (2, .int p1)] := hl
  refine lv_iload_n hx hb dX10_isClear_0 rfl (lv_at hl 1 rfl) ?_
  refine lv_istore_n (lv' := [(3, .int p0), (0, .ref (ad 1 0)), (1, .int p0), (2, .int p1)]) hx hb dX10_isClear_1 rfl hl (by decide) rfl (fun ls hl => ?_)
  have lp : ∀ (n_lp : Nat) (lp_3 : Int32), (310 - lp_3.toInt).toNat < n_lp → (0 ≤ lp_3.toInt ∧ lp_3.toInt ≤ 310) → ∀ (ls : Array Slot), lv_has ls 4 [(3, .int lp_3), (0, .ref (ad 1 0)), (1, .int p0), (2, .int p1)] → W p l e (headSpec wsX10_isClear ({ frames := 1, cells := 0, slots := 0, locals := 21 })).room s m ([.ref (ad 1 0), .int p0, .int p1] : List Value).toArray below meth c s.heap [] 0 0 (MQ below (vp_Si (fun r : Int32 => (0 ≤ r.toInt ∧ r.toInt ≤ 1))) ([.ref (ad 1 0), .int p0, .int p1] : List Value).toArray s 0 0 (fun _ => False)) (F0 m 2 ls []) := by
    intro n_lp
    induction n_lp with
    | zero => intro lp_3 hm_lp b_lp_3 ls hl; exact absurd hm_lp (Nat.not_lt_zero _)
    | succ n_lp ih_lp =>
      intro lp_3 hm_lp b_lp_3 ls hl
      refine lv_iload_n hx hb dX10_isClear_2 rfl (lv_at hl 0 rfl) ?_
      refine lv_iload_n hx hb dX10_isClear_3 rfl (lv_at hl 2 rfl) ?_
      refine lv_iload_n hx hb dX10_isClear_4 rfl (lv_at hl 3 rfl) ?_
      refine fx_iadd hx hb dX10_isClear_5 rfl rfl (by omega) (fun y1 ey1 ty1 => ?_)
      refine fx_icmp_ge (tgt := 27) hx hb dX10_isClear_6 (by decide) rfl rfl (fun c2 => ?_) (fun c2 => ?_)
      · refine lv_iconst (v := 1) hx hb dX10_isClear_27 (by decide) ?_
        exact W.zret (v := 1) hx hb hr rfl (fun t ht hW => ⟨1, rfl, (by decide), ht⟩) (fun _ h => absurd h List.not_mem_nil) dX10_isClear_28
      · refine lv_aload_n hx hb dX10_isClear_9 rfl (lv_at hl 1 rfl) ?_
        refine lv_iload_n hx hb dX10_isClear_10 rfl (lv_at hl 0 rfl) ?_
        refine vp_callSi (va_Run.run (va_runV (As := [.int lp_3]) (rest := []) ⟨hx, hb, hml, hown, hts⟩ (fc_X10_fogAt l D ad C nb M hI lp_3) (cwV 1 hts gX10_isClear_X10_fogAt rfl rfl rfl (by decide +kernel) ⟨Nat.le_of_ble_eq_true rfl, Nat.le_of_ble_eq_true rfl⟩) (fm_preV hc hw hS kl_1 sh_1 rfl) rfl rfl hl.1 rfl (lv_room (Nat.le_of_ble_eq_true rfl)) dX10_isClear_11 ⟨by decide +kernel, by decide +kernel⟩)) (fun r3 hr3 => ?_)
        refine lv_bipush (v := 8) hx hb dX10_isClear_14 (by decide) ?_
        refine fx_icmp_le (tgt := 21) hx hb dX10_isClear_16 (by decide) rfl zk_8 (fun c4 => ?_) (fun c4 => ?_)
        · obtain ⟨y5, ey5⟩ : ∃ y : Int32, y = lp_3 + 1 := ⟨_, rfl⟩
          have ty5 : y5.toInt = lp_3.toInt + 1 := by rw [ey5, zi_add _ _ (by rw [zk_1]; omega) (by rw [zk_1]; omega), zk_1]
          refine lv_iinc (v := y5) (lv' := [(3, .int y5), (0, .ref (ad 1 0)), (1, .int p0), (2, .int p1)]) hx hb dX10_isClear_21 hl (k := 0) rfl (by rw [ey5]; rfl) (by decide) rfl (fun ls hl => ?_)
          refine lv_goto (tgt := 2) hx hb dX10_isClear_24 (by decide) ?_
          exact ih_lp y5 (by omega) (by omega) ls (lv_sub hl [0, 1, 2, 3] rfl)
        · refine lv_iconst (v := 0) hx hb dX10_isClear_19 (by decide) ?_
          exact W.zret (v := 0) hx hb hr rfl (fun t ht hW => ⟨0, rfl, (by decide), ht⟩) (fun _ h => absurd h List.not_mem_nil) dX10_isClear_20
  exact lp _ p0 (Nat.lt_succ_self _) (by omega) ls (lv_sub hl [0, 1, 2, 3] rfl)
set_option maxHeartbeats 400000 in
set_option maxRecDepth 20000 in
theorem fc_X4_addHearer (l : Launch) (D : va_G) (ad : Nat → Nat → Nat) (C : Nat → Nat → ClassId) (nb : Nat) (M : fm_M) (hI : fm_I nb ad M) (p0 : Int32) (b_p0 : 0 ≤ p0.toInt ∧ p0.toInt ≤ 63) (hf : 0 ≤ (M.1 5 0 1).toInt ∧ (M.1 5 0 1).toInt ≤ 5) : Met l yX4_addHearer wsX4_addHearer ({ frames := 0, cells := 0, slots := 0, locals := 0 }) (va_Pc [.ref (ad 5 0), .int p0] (fm_P D ad C nb M)) (va_Qi (fun (r : Int32) (u : fm_M) => fm_I nb ad u ∧ fm_same [5001, 6000] M u ∧ (r.toInt = (M.1 5 0 1).toInt ∧ (u.1 5 0 1).toInt = (M.1 5 0 1).toInt + 1)) (fun u t => fm_at D ad C nb u t.heap) (fm_A nb ad)) 0 0 (fm_A nb ad) := by
  refine Met.ofW (cc := cX4_addHearer) (maxL := 2) (ret := (some .int)) (by decide) rfl ?_
  intro p e s m args below meth c s₁ B hml hv
  obtain ⟨rfl, hw, hc⟩ := hv
  have hx := B.exec
  have hb := B.bytes
  have hr := B.returns
  have hts := atoms_spec (ws := wsX4_addHearer) B.pre
  have hown : s.vm.findClass RX4 = some m.cls := findClass_of_methodNamed B.named
  have hinX4 : ∀ w ∈ u_ws RX4 TX4 13, w ∈ wsX4_addHearer := fun w h => List.mem_cons_of_mem _ (iT_X4 w h)
  have hS : va_S (fm_A nb ad) s.heap s.heap [] := va_S.rf
  have hE : fm_same [5001, 6000] M M := fm_same.rf
  have hl := lv_entry ([.ref (ad 5 0), .int p0]) (n := 2) (Nat.le_of_ble_eq_true rfl)
  rw [lg_entry_eq]
  generalize (lg_sl ([.ref (ad 5 0), .int p0]) ++ List.replicate (2 - (lg_sl ([.ref (ad 5 0), .int p0])).length) Slot.unset).toArray = ls at hl ⊢
  have hl : lv_has ls 2 [(0, .ref (ad 5 0)), (1, .int p0)] := hl
  refine lv_aload_n hx hb dX4_addHearer_0 rfl (lv_at hl 0 rfl) ?_
  refine fm_getG (a := 5) (j := 0) (T := TX4) (N := 13) hx hb hts hinX4 hown hc hw kl_5 sh_5 rfl (by decide) rfl (hI.to kl_5 tg_5_0) (hts (.fieldLink RX4 9 "RedTent$Radio" "hearerCell" "[I") (List.mem_cons_of_mem _ tw_1_59)) (fun _ h9 => h9) dX4_addHearer_1 ?_
  refine lv_aload_n hx hb dX4_addHearer_4 rfl (lv_at hl 0 rfl) ?_
  refine fm_getI (a := 5) (j := 1) (T := TX4) (N := 13) hx hb hts hinX4 hown hc hw hI kl_5 sh_5 rfl (by decide) rfl bd_5_1 (hts (.fieldLink RX4 43 "RedTent$Radio" "hearers" "I") (List.mem_cons_of_mem _ tw_1_60)) (fun _ h9 => h9) dX4_addHearer_5 (fun x1 ex1 bx1 => ?_)
  have fx1 : 0 ≤ x1.toInt ∧ x1.toInt ≤ 5 := by rw [ex1]; exact hf
  refine lv_iload_n hx hb dX4_addHearer_8 rfl (lv_at hl 1 rfl) ?_
  refine fm_iast (a := 6) hx hb hc hw hI hE hS kl_6 sh_6 ty_6 bd_6 (by omega) (by omega) cd_6 (by decide) dX4_addHearer_9 (fun M2 H locs eM2 hw hI hE hS => ?_)
  refine lv_aload_n hx hb dX4_addHearer_10 rfl (lv_at hl 0 rfl) ?_
  refine lv_dup hx hb dX4_addHearer_11 rfl ?_
  refine fm_getI (a := 5) (j := 1) (T := TX4) (N := 13) hx hb hts hinX4 hown hc hw hI kl_5 sh_5 rfl (by decide) rfl bd_5_1 (hts (.fieldLink RX4 43 "RedTent$Radio" "hearers" "I") (List.mem_cons_of_mem _ tw_1_60)) (fun _ h9 => h9) dX4_addHearer_12 (fun x3 ex3 bx3 => ?_)
  obtain rfl : x1 = x3 := by rw [ex3, eM2, fm_wI_nj (fun z => absurd z.1 (by decide))]; exact ex1
  refine lv_dup_x1 hx hb dX4_addHearer_15 rfl rfl ?_
  refine lv_iconst (v := 1) hx hb dX4_addHearer_16 (by decide) ?_
  refine fx_iadd hx hb dX4_addHearer_17 rfl zk_1 (by omega) (fun y4 ey4 ty4 => ?_)
  refine fm_putI (a := 5) (j := 1) (T := TX4) (N := 13) hx hb hts hinX4 tyX4 tyX4_ok nmX4 hown hc hw hI hE hS kl_5 sh_5 od_5 rfl (by decide) rfl bd_5_1 (hts (.fieldLink RX4 43 "RedTent$Radio" "hearers" "I") (List.mem_cons_of_mem _ tw_1_60)) (fun _ h9 => h9) rfl (by decide +kernel) (by omega) (by decide) (by decide) dX4_addHearer_18 (fun M5 H locs eM5 hw hI hE hS => ?_)
  have qx1 : x1.toInt = (M.1 5 0 1).toInt := by rw [ex1]
  exact W.iret (v := x1) hx hb hr (fun t ht hW => ⟨⟨x1, M5, rfl, ⟨hI, hE, ⟨by omega, (by first | omega | (rw [eM5, fm_wI_at]; omega))⟩⟩, by show fm_at D ad C nb _ t.heap; rw [ht]; exact hw⟩, hS.F ht⟩) hS.2.2 dX4_addHearer_21
set_option maxHeartbeats 400000 in
set_option maxRecDepth 20000 in
theorem fc_X4_setWave (l : Launch) (D : va_G) (ad : Nat → Nat → Nat) (C : Nat → Nat → ClassId) (nb : Nat) (M : fm_M) (hI : fm_I nb ad M) (p0 p1 p2 : Int32) (b_p0 : 0 ≤ p0.toInt ∧ p0.toInt ≤ 7) (b_p1 : 0 ≤ p1.toInt ∧ p1.toInt ≤ 9) (b_p2 : 0 ≤ p2.toInt ∧ p2.toInt ≤ 9) : Met l yX4_setWave wsX4_setWave ({ frames := 0, cells := 0, slots := 0, locals := 0 }) (va_Pc [.ref (ad 5 0), .int p0, .int p1, .int p2] (fm_P D ad C nb M)) (va_Qi (fun (r : Int32) (u : fm_M) => fm_I nb ad u ∧ fm_same [7000, 8000] M u ∧ (r.toInt = 10 * (M.1 7 0 p0.toNatClampNeg).toInt + (M.1 8 0 p0.toNatClampNeg).toInt ∧ (∀ j : Nat, u.1 7 0 j = if j = p0.toNatClampNeg then p1 else M.1 7 0 j) ∧ (∀ j : Nat, u.1 8 0 j = if j = p0.toNatClampNeg then p2 else M.1 8 0 j))) (fun u t => fm_at D ad C nb u t.heap) (fm_A nb ad)) 0 0 (fm_A nb ad) := by
  refine Met.ofW (cc := cX4_setWave) (maxL := 5) (ret := (some .int)) (by decide) rfl ?_
  intro p e s m args below meth c s₁ B hml hv
  obtain ⟨rfl, hw, hc⟩ := hv
  have hx := B.exec
  have hb := B.bytes
  have hr := B.returns
  have hts := atoms_spec (ws := wsX4_setWave) B.pre
  have hown : s.vm.findClass RX4 = some m.cls := findClass_of_methodNamed B.named
  have hinX4 : ∀ w ∈ u_ws RX4 TX4 13, w ∈ wsX4_setWave := fun w h => List.mem_cons_of_mem _ (iT_X4 w h)
  have hS : va_S (fm_A nb ad) s.heap s.heap [] := va_S.rf
  have hE : fm_same [7000, 8000] M M := fm_same.rf
  have hl := lv_entry ([.ref (ad 5 0), .int p0, .int p1, .int p2]) (n := 5) (Nat.le_of_ble_eq_true rfl)
  rw [lg_entry_eq]
  generalize (lg_sl ([.ref (ad 5 0), .int p0, .int p1, .int p2]) ++ List.replicate (5 - (lg_sl ([.ref (ad 5 0), .int p0, .int p1, .int p2])).length) Slot.unset).toArray = ls at hl ⊢
  have hl : lv_has ls 5 [(0, .ref (ad 5 0)), (1, .int p0), (2, .int p1), (3, .int p2)] := hl
  refine lv_bipush (v := 10) hx hb dX4_setWave_0 (by decide) ?_
  refine lv_aload_n hx hb dX4_setWave_2 rfl (lv_at hl 0 rfl) ?_
  refine fm_getG (a := 5) (j := 2) (T := TX4) (N := 13) hx hb hts hinX4 hown hc hw kl_5 sh_5 rfl (by decide) rfl (hI.to kl_5 tg_5_2) (hts (.fieldLink RX4 15 "RedTent$Radio" "heardFrom" "[I") (List.mem_cons_of_mem _ tw_1_62)) (fun _ h9 => h9) dX4_setWave_3 ?_
  refine lv_iload_n hx hb dX4_setWave_6 rfl (lv_at hl 1 rfl) ?_
  refine fm_iald (a := 7) hx hb hc hw hI kl_7 sh_7 ty_7 bd_7 (by omega) dX4_setWave_7 (fun x1 ex1 bx1 => ?_)
  refine fx_imul hx hb dX4_setWave_8 zk_10 rfl (by omega) (fun y2 ey2 ty2 => ?_)
  refine lv_aload_n hx hb dX4_setWave_9 rfl (lv_at hl 0 rfl) ?_
  refine fm_getG (a := 5) (j := 3) (T := TX4) (N := 13) hx hb hts hinX4 hown hc hw kl_5 sh_5 rfl (by decide) rfl (hI.to kl_5 tg_5_3) (hts (.fieldLink RX4 18 "RedTent$Radio" "heardTo" "[I") (List.mem_cons_of_mem _ tw_1_63)) (fun _ h9 => h9) dX4_setWave_10 ?_
  refine lv_iload_n hx hb dX4_setWave_13 rfl (lv_at hl 1 rfl) ?_
  refine fm_iald (a := 8) hx hb hc hw hI kl_8 sh_8 ty_8 bd_8 (by omega) dX4_setWave_14 (fun x3 ex3 bx3 => ?_)
  refine fx_iadd hx hb dX4_setWave_15 rfl rfl (by omega) (fun y4 ey4 ty4 => ?_)
  refine lv_istore (lv' := [(4, .int y4), (0, .ref (ad 5 0)), (1, .int p0), (2, .int p1), (3, .int p2)]) hx hb dX4_setWave_16 hl (by decide) rfl (fun ls hl => ?_)
  refine lv_aload_n hx hb dX4_setWave_18 rfl (lv_at hl 1 rfl) ?_
  refine fm_getG (a := 5) (j := 2) (T := TX4) (N := 13) hx hb hts hinX4 hown hc hw kl_5 sh_5 rfl (by decide) rfl (hI.to kl_5 tg_5_2) (hts (.fieldLink RX4 15 "RedTent$Radio" "heardFrom" "[I") (List.mem_cons_of_mem _ tw_1_62)) (fun _ h9 => h9) dX4_setWave_19 ?_
  refine lv_iload_n hx hb dX4_setWave_22 rfl (lv_at hl 2 rfl) ?_
  refine lv_iload_n hx hb dX4_setWave_23 rfl (lv_at hl 3 rfl) ?_
  refine fm_iast (a := 7) hx hb hc hw hI hE hS kl_7 sh_7 ty_7 bd_7 (by omega) (by omega) cd_7 (by decide) dX4_setWave_24 (fun M5 H locs eM5 hw hI hE hS => ?_)
  refine lv_aload_n hx hb dX4_setWave_25 rfl (lv_at hl 1 rfl) ?_
  refine fm_getG (a := 5) (j := 3) (T := TX4) (N := 13) hx hb hts hinX4 hown hc hw kl_5 sh_5 rfl (by decide) rfl (hI.to kl_5 tg_5_3) (hts (.fieldLink RX4 18 "RedTent$Radio" "heardTo" "[I") (List.mem_cons_of_mem _ tw_1_63)) (fun _ h9 => h9) dX4_setWave_26 ?_
  refine lv_iload_n hx hb dX4_setWave_29 rfl (lv_at hl 2 rfl) ?_
  refine lv_iload_n hx hb dX4_setWave_30 rfl (lv_at hl 4 rfl) ?_
  refine fm_iast (a := 8) hx hb hc hw hI hE hS kl_8 sh_8 ty_8 bd_8 (by omega) (by omega) cd_8 (by decide) dX4_setWave_31 (fun M6 H locs eM6 hw hI hE hS => ?_)
  refine lv_iload hx hb dX4_setWave_32 (lv_at hl 0 rfl) ?_
  have qx1 : x1.toInt = (M.1 7 0 p0.toNatClampNeg).toInt := by rw [ex1]
  have qx3 : x3.toInt = (M.1 8 0 p0.toNatClampNeg).toInt := by rw [ex3]
  exact W.iret (v := y4) hx hb hr (fun t ht hW => ⟨⟨y4, M6, rfl, ⟨hI, hE, ⟨by omega, fun j => by rw [eM6, fm_wI_nj (fun z => absurd z.1 (by decide)), eM5, fm_wI_ar], fun j => by rw [eM6, fm_wI_ar, eM5, fm_wI_nj (fun z => absurd z.1 (by decide))]⟩⟩, by show fm_at D ad C nb _ t.heap; rw [ht]; exact hw⟩, hS.F ht⟩) hS.2.2 dX4_setWave_34
set_option maxHeartbeats 400000 in
set_option maxRecDepth 20000 in
theorem fc_X4_hasCall (l : Launch) (D : va_G) (ad : Nat → Nat → Nat) (C : Nat → Nat → ClassId) (nb : Nat) (M : fm_M) (hI : fm_I nb ad M) (p0 : Int32) : Met l yX4_hasCall wsX4_hasCall ({ frames := 0, cells := 0, slots := 0, locals := 0 }) (va_Pc [.ref (ad 5 0), .int p0] (fm_P D ad C nb M)) (vp_Si (fun r : Int32 => ((r = 1 ∧ (0 ≤ p0.toInt ∧ p0.toInt < (M.1 5 0 8).toInt)) ∨ (r = 0 ∧ ¬ (0 ≤ p0.toInt ∧ p0.toInt < (M.1 5 0 8).toInt))))) 0 0 (fun _ => False) := by
  refine Met.ofW (cc := cX4_hasCall) (maxL := 2) (ret := (some .boolean)) (by decide) rfl ?_
  intro p e s m args below meth c s₁ B hml hv
  obtain ⟨rfl, hw, hc⟩ := hv
  have hx := B.exec
  have hb := B.bytes
  have hr := B.returns
  have hts := atoms_spec (ws := wsX4_hasCall) B.pre
  have hown : s.vm.findClass RX4 = some m.cls := findClass_of_methodNamed B.named
  have hinX4 : ∀ w ∈ u_ws RX4 TX4 13, w ∈ wsX4_hasCall := fun w h => List.mem_cons_of_mem _ (iT_X4 w h)
  have hS : va_S (fm_A nb ad) s.heap s.heap [] := va_S.rf
  have hl := lv_entry ([.ref (ad 5 0), .int p0]) (n := 2) (Nat.le_of_ble_eq_true rfl)
  rw [lg_entry_eq]
  generalize (lg_sl ([.ref (ad 5 0), .int p0]) ++ List.replicate (2 - (lg_sl ([.ref (ad 5 0), .int p0])).length) Slot.unset).toArray = ls at hl ⊢
  have hl : lv_has ls 2 [(0, .ref (ad 5 0)), (1, .int p0)] := hl
  refine lv_iload_n hx hb dX4_hasCall_0 rfl (lv_at hl 1 rfl) ?_
  refine fx_if_lt (tgt := 16) hx hb dX4_hasCall_1 (by decide) rfl (fun c1 => ?_) (fun c1 => ?_)
  · refine lv_iconst (v := 0) hx hb dX4_hasCall_16 (by decide) ?_
    exact W.zret (v := 0) hx hb hr rfl (fun t ht hW => ⟨0, rfl, Or.inr ⟨rfl, by omega⟩, ht⟩) (fun _ h => absurd h List.not_mem_nil) dX4_hasCall_17
  · refine lv_iload_n hx hb dX4_hasCall_4 rfl (lv_at hl 1 rfl) ?_
    refine lv_aload_n hx hb dX4_hasCall_5 rfl (lv_at hl 0 rfl) ?_
    refine fm_getI (a := 5) (j := 8) (T := TX4) (N := 13) hx hb hts hinX4 hown hc hw hI kl_5 sh_5 rfl (by decide) rfl bd_5_8 (hts (.fieldLink RX4 47 "RedTent$Radio" "calls" "I") (List.mem_cons_of_mem _ tw_1_70)) (fun _ h9 => h9) dX4_hasCall_6 (fun x2 ex2 bx2 => ?_)
    refine fx_icmp_ge (tgt := 16) hx hb dX4_hasCall_9 (by decide) rfl rfl (fun c3 => ?_) (fun c3 => ?_)
    · refine lv_iconst (v := 0) hx hb dX4_hasCall_16 (by decide) ?_
      have qx2 : x2.toInt = (M.1 5 0 8).toInt := by rw [ex2]
      exact W.zret (v := 0) hx hb hr rfl (fun t ht hW => ⟨0, rfl, Or.inr ⟨rfl, by omega⟩, ht⟩) (fun _ h => absurd h List.not_mem_nil) dX4_hasCall_17
    · refine lv_iconst (v := 1) hx hb dX4_hasCall_12 (by decide) ?_
      refine lv_goto (tgt := 17) hx hb dX4_hasCall_13 (by decide) ?_
      have qx2 : x2.toInt = (M.1 5 0 8).toInt := by rw [ex2]
      exact W.zret (v := 1) hx hb hr rfl (fun t ht hW => ⟨1, rfl, Or.inl ⟨rfl, by omega⟩, ht⟩) (fun _ h => absurd h List.not_mem_nil) dX4_hasCall_17
set_option maxHeartbeats 400000 in
set_option maxRecDepth 20000 in
theorem fc_X4_addCall (l : Launch) (D : va_G) (ad : Nat → Nat → Nat) (C : Nat → Nat → ClassId) (nb : Nat) (M : fm_M) (hI : fm_I nb ad M) (p0 p1 p2 : Int32) (p3 : Int64) (b_p0 : 0 ≤ p0.toInt ∧ p0.toInt ≤ 11) (b_p1 : 0 ≤ p1.toInt ∧ p1.toInt ≤ 3) (b_p2 : 0 ≤ p2.toInt ∧ p2.toInt ≤ 239) (hf : 0 ≤ (M.1 5 0 8).toInt ∧ (M.1 5 0 8).toInt ≤ 19) : Met l yX4_addCall wsX4_addCall ({ frames := 0, cells := 0, slots := 0, locals := 0 }) (va_Pc [.ref (ad 5 0), .int p0, .int p1, .int p2, .long p3] (fm_P D ad C nb M)) (va_Qi (fun (r : Int32) (u : fm_M) => fm_I nb ad u ∧ fm_same [5008, 9000, 10000, 11000, 12000] M u ∧ (r.toInt = (M.1 5 0 8).toInt ∧ (u.1 5 0 8).toInt = (M.1 5 0 8).toInt + 1)) (fun u t => fm_at D ad C nb u t.heap) (fm_A nb ad)) 0 0 (fm_A nb ad) := by
  refine Met.ofW (cc := cX4_addCall) (maxL := 6) (ret := (some .int)) (by decide) rfl ?_
  intro p e s m args below meth c s₁ B hml hv
  obtain ⟨rfl, hw, hc⟩ := hv
  have hx := B.exec
  have hb := B.bytes
  have hr := B.returns
  have hts := atoms_spec (ws := wsX4_addCall) B.pre
  have hown : s.vm.findClass RX4 = some m.cls := findClass_of_methodNamed B.named
  have hinX4 : ∀ w ∈ u_ws RX4 TX4 13, w ∈ wsX4_addCall := fun w h => List.mem_cons_of_mem _ (iT_X4 w h)
  have hS : va_S (fm_A nb ad) s.heap s.heap [] := va_S.rf
  have hE : fm_same [5008, 9000, 10000, 11000, 12000] M M := fm_same.rf
  have hl := lv_entry ([.ref (ad 5 0), .int p0, .int p1, .int p2, .long p3]) (n := 6) (Nat.le_of_ble_eq_true rfl)
  rw [lg_entry_eq]
  generalize (lg_sl ([.ref (ad 5 0), .int p0, .int p1, .int p2, .long p3]) ++ List.replicate (6 - (lg_sl ([.ref (ad 5 0), .int p0, .int p1, .int p2, .long p3])).length) Slot.unset).toArray = ls at hl ⊢
  have hl : lv_has ls 6 [(0, .ref (ad 5 0)), (1, .int p0), (2, .int p1), (3, .int p2), (4, .long p3)] := hl
  refine lv_aload_n hx hb dX4_addCall_0 rfl (lv_at hl 0 rfl) ?_
  refine fm_getG (a := 5) (j := 4) (T := TX4) (N := 13) hx hb hts hinX4 hown hc hw kl_5 sh_5 rfl (by decide) rfl (hI.to kl_5 tg_5_4) (hts (.fieldLink RX4 21 "RedTent$Radio" "callBody" "[I") (List.mem_cons_of_mem _ tw_1_64)) (fun _ h9 => h9) dX4_addCall_1 ?_
  refine lv_aload_n hx hb dX4_addCall_4 rfl (lv_at hl 0 rfl) ?_
  refine fm_getI (a := 5) (j := 8) (T := TX4) (N := 13) hx hb hts hinX4 hown hc hw hI kl_5 sh_5 rfl (by decide) rfl bd_5_8 (hts (.fieldLink RX4 47 "RedTent$Radio" "calls" "I") (List.mem_cons_of_mem _ tw_1_70)) (fun _ h9 => h9) dX4_addCall_5 (fun x1 ex1 bx1 => ?_)
  have fx1 : 0 ≤ x1.toInt ∧ x1.toInt ≤ 19 := by rw [ex1]; exact hf
  refine lv_iload_n hx hb dX4_addCall_8 rfl (lv_at hl 1 rfl) ?_
  refine fm_iast (a := 9) hx hb hc hw hI hE hS kl_9 sh_9 ty_9 bd_9 (by omega) (by omega) cd_9 (by decide) dX4_addCall_9 (fun M2 H locs eM2 hw hI hE hS => ?_)
  refine lv_aload_n hx hb dX4_addCall_10 rfl (lv_at hl 0 rfl) ?_
  refine fm_getG (a := 5) (j := 5) (T := TX4) (N := 13) hx hb hts hinX4 hown hc hw kl_5 sh_5 rfl (by decide) rfl (hI.to kl_5 tg_5_5) (hts (.fieldLink RX4 24 "RedTent$Radio" "callWave" "[I") (List.mem_cons_of_mem _ tw_1_66)) (fun _ h9 => h9) dX4_addCall_11 ?_
  refine lv_aload_n hx hb dX4_addCall_14 rfl (lv_at hl 0 rfl) ?_
  refine fm_getI (a := 5) (j := 8) (T := TX4) (N := 13) hx hb hts hinX4 hown hc hw hI kl_5 sh_5 rfl (by decide) rfl bd_5_8 (hts (.fieldLink RX4 47 "RedTent$Radio" "calls" "I") (List.mem_cons_of_mem _ tw_1_70)) (fun _ h9 => h9) dX4_addCall_15 (fun x3 ex3 bx3 => ?_)
  obtain rfl : x1 = x3 := by rw [ex3, eM2, fm_wI_nj (fun z => absurd z.1 (by decide))]; exact ex1
  refine lv_iload_n hx hb dX4_addCall_18 rfl (lv_at hl 2 rfl) ?_
  refine fm_iast (a := 10) hx hb hc hw hI hE hS kl_10 sh_10 ty_10 bd_10 (by omega) (by omega) cd_10 (by decide) dX4_addCall_19 (fun M4 H locs eM4 hw hI hE hS => ?_)
  refine lv_aload_n hx hb dX4_addCall_20 rfl (lv_at hl 0 rfl) ?_
  refine fm_getG (a := 5) (j := 6) (T := TX4) (N := 13) hx hb hts hinX4 hown hc hw kl_5 sh_5 rfl (by decide) rfl (hI.to kl_5 tg_5_6) (hts (.fieldLink RX4 27 "RedTent$Radio" "callHour" "[I") (List.mem_cons_of_mem _ tw_1_67)) (fun _ h9 => h9) dX4_addCall_21 ?_
  refine lv_aload_n hx hb dX4_addCall_24 rfl (lv_at hl 0 rfl) ?_
  refine fm_getI (a := 5) (j := 8) (T := TX4) (N := 13) hx hb hts hinX4 hown hc hw hI kl_5 sh_5 rfl (by decide) rfl bd_5_8 (hts (.fieldLink RX4 47 "RedTent$Radio" "calls" "I") (List.mem_cons_of_mem _ tw_1_70)) (fun _ h9 => h9) dX4_addCall_25 (fun x5 ex5 bx5 => ?_)
  obtain rfl : x1 = x5 := by rw [ex5, eM4, fm_wI_nj (fun z => absurd z.1 (by decide)), eM2, fm_wI_nj (fun z => absurd z.1 (by decide))]; exact ex1
  refine lv_iload_n hx hb dX4_addCall_28 rfl (lv_at hl 3 rfl) ?_
  refine fm_iast (a := 11) hx hb hc hw hI hE hS kl_11 sh_11 ty_11 bd_11 (by omega) (by omega) cd_11 (by decide) dX4_addCall_29 (fun M6 H locs eM6 hw hI hE hS => ?_)
  refine lv_aload_n hx hb dX4_addCall_30 rfl (lv_at hl 0 rfl) ?_
  refine fm_getG (a := 5) (j := 7) (T := TX4) (N := 13) hx hb hts hinX4 hown hc hw kl_5 sh_5 rfl (by decide) rfl (hI.to kl_5 tg_5_7) (hts (.fieldLink RX4 30 "RedTent$Radio" "callWords" "[J") (List.mem_cons_of_mem _ tw_1_69)) (fun _ h9 => h9) dX4_addCall_31 ?_
  refine lv_aload_n hx hb dX4_addCall_34 rfl (lv_at hl 0 rfl) ?_
  refine fm_getI (a := 5) (j := 8) (T := TX4) (N := 13) hx hb hts hinX4 hown hc hw hI kl_5 sh_5 rfl (by decide) rfl bd_5_8 (hts (.fieldLink RX4 47 "RedTent$Radio" "calls" "I") (List.mem_cons_of_mem _ tw_1_70)) (fun _ h9 => h9) dX4_addCall_35 (fun x7 ex7 bx7 => ?_)
  obtain rfl : x1 = x7 := by rw [ex7, eM6, fm_wI_nj (fun z => absurd z.1 (by decide)), eM4, fm_wI_nj (fun z => absurd z.1 (by decide)), eM2, fm_wI_nj (fun z => absurd z.1 (by decide))]; exact ex1
  refine lv_lload hx hb dX4_addCall_38 (lv_at hl 4 rfl) ?_
  refine fm_last (a := 12) hx hb hc hw hI hE hS kl_12 sh_12 ty_12 (by omega) cd_12 (by decide) dX4_addCall_40 (fun M8 H locs eM8 hw hI hE hS => ?_)
  refine lv_aload_n hx hb dX4_addCall_41 rfl (lv_at hl 0 rfl) ?_
  refine lv_dup hx hb dX4_addCall_42 rfl ?_
  refine fm_getI (a := 5) (j := 8) (T := TX4) (N := 13) hx hb hts hinX4 hown hc hw hI kl_5 sh_5 rfl (by decide) rfl bd_5_8 (hts (.fieldLink RX4 47 "RedTent$Radio" "calls" "I") (List.mem_cons_of_mem _ tw_1_70)) (fun _ h9 => h9) dX4_addCall_43 (fun x9 ex9 bx9 => ?_)
  obtain rfl : x1 = x9 := by rw [ex9, eM8, fm_wL_1, eM6, fm_wI_nj (fun z => absurd z.1 (by decide)), eM4, fm_wI_nj (fun z => absurd z.1 (by decide)), eM2, fm_wI_nj (fun z => absurd z.1 (by decide))]; exact ex1
  refine lv_dup_x1 hx hb dX4_addCall_46 rfl rfl ?_
  refine lv_iconst (v := 1) hx hb dX4_addCall_47 (by decide) ?_
  refine fx_iadd hx hb dX4_addCall_48 rfl zk_1 (by omega) (fun y10 ey10 ty10 => ?_)
  refine fm_putI (a := 5) (j := 8) (T := TX4) (N := 13) hx hb hts hinX4 tyX4 tyX4_ok nmX4 hown hc hw hI hE hS kl_5 sh_5 od_5 rfl (by decide) rfl bd_5_8 (hts (.fieldLink RX4 47 "RedTent$Radio" "calls" "I") (List.mem_cons_of_mem _ tw_1_70)) (fun _ h9 => h9) rfl (by decide +kernel) (by omega) (by decide) (by decide) dX4_addCall_49 (fun M11 H locs eM11 hw hI hE hS => ?_)
  have qx1 : x1.toInt = (M.1 5 0 8).toInt := by rw [ex1]
  exact W.iret (v := x1) hx hb hr (fun t ht hW => ⟨⟨x1, M11, rfl, ⟨hI, hE, ⟨by omega, (by first | omega | (rw [eM11, fm_wI_at]; omega))⟩⟩, by show fm_at D ad C nb _ t.heap; rw [ht]; exact hw⟩, hS.F ht⟩) hS.2.2 dX4_addCall_52
set_option maxHeartbeats 400000 in
set_option maxRecDepth 20000 in
theorem fc_X4_addPart (l : Launch) (D : va_G) (ad : Nat → Nat → Nat) (C : Nat → Nat → ClassId) (nb : Nat) (M : fm_M) (hI : fm_I nb ad M) (p0 p1 : Int32) (p2 : Int64) (b_p0 : 0 ≤ p0.toInt ∧ p0.toInt ≤ 19) (b_p1 : 0 ≤ p1.toInt ∧ p1.toInt ≤ 65535) (hf : 0 ≤ (M.1 5 0 12).toInt ∧ (M.1 5 0 12).toInt ≤ 39) : Met l yX4_addPart wsX4_addPart ({ frames := 0, cells := 0, slots := 0, locals := 0 }) (va_Pc [.ref (ad 5 0), .int p0, .int p1, .long p2] (fm_P D ad C nb M)) (va_Qi (fun (r : Int32) (u : fm_M) => fm_I nb ad u ∧ fm_same [5012, 13000, 14000, 15000] M u ∧ (r.toInt = (M.1 5 0 12).toInt + 1 ∧ (u.1 5 0 12).toInt = (M.1 5 0 12).toInt + 1)) (fun u t => fm_at D ad C nb u t.heap) (fm_A nb ad)) 0 0 (fm_A nb ad) := by
  refine Met.ofW (cc := cX4_addPart) (maxL := 5) (ret := (some .int)) (by decide) rfl ?_
  intro p e s m args below meth c s₁ B hml hv
  obtain ⟨rfl, hw, hc⟩ := hv
  have hx := B.exec
  have hb := B.bytes
  have hr := B.returns
  have hts := atoms_spec (ws := wsX4_addPart) B.pre
  have hown : s.vm.findClass RX4 = some m.cls := findClass_of_methodNamed B.named
  have hinX4 : ∀ w ∈ u_ws RX4 TX4 13, w ∈ wsX4_addPart := fun w h => List.mem_cons_of_mem _ (iT_X4 w h)
  have hS : va_S (fm_A nb ad) s.heap s.heap [] := va_S.rf
  have hE : fm_same [5012, 13000, 14000, 15000] M M := fm_same.rf
  have hl := lv_entry ([.ref (ad 5 0), .int p0, .int p1, .long p2]) (n := 5) (Nat.le_of_ble_eq_true rfl)
  rw [lg_entry_eq]
  generalize (lg_sl ([.ref (ad 5 0), .int p0, .int p1, .long p2]) ++ List.replicate (5 - (lg_sl ([.ref (ad 5 0), .int p0, .int p1, .long p2])).length) Slot.unset).toArray = ls at hl ⊢
  have hl : lv_has ls 5 [(0, .ref (ad 5 0)), (1, .int p0), (2, .int p1), (3, .long p2)] := hl
  refine lv_aload_n hx hb dX4_addPart_0 rfl (lv_at hl 0 rfl) ?_
  refine fm_getG (a := 5) (j := 9) (T := TX4) (N := 13) hx hb hts hinX4 hown hc hw kl_5 sh_5 rfl (by decide) rfl (hI.to kl_5 tg_5_9) (hts (.fieldLink RX4 34 "RedTent$Radio" "partCall" "[I") (List.mem_cons_of_mem _ tw_1_72)) (fun _ h9 => h9) dX4_addPart_1 ?_
  refine lv_aload_n hx hb dX4_addPart_4 rfl (lv_at hl 0 rfl) ?_
  refine fm_getI (a := 5) (j := 12) (T := TX4) (N := 13) hx hb hts hinX4 hown hc hw hI kl_5 sh_5 rfl (by decide) rfl bd_5_12 (hts (.fieldLink RX4 50 "RedTent$Radio" "parts" "I") (List.mem_cons_of_mem _ tw_1_75)) (fun _ h9 => h9) dX4_addPart_5 (fun x1 ex1 bx1 => ?_)
  have fx1 : 0 ≤ x1.toInt ∧ x1.toInt ≤ 39 := by rw [ex1]; exact hf
  refine lv_iload_n hx hb dX4_addPart_8 rfl (lv_at hl 1 rfl) ?_
  refine fm_iast (a := 13) hx hb hc hw hI hE hS kl_13 sh_13 ty_13 bd_13 (by omega) (by omega) cd_13 (by decide) dX4_addPart_9 (fun M2 H locs eM2 hw hI hE hS => ?_)
  refine lv_aload_n hx hb dX4_addPart_10 rfl (lv_at hl 0 rfl) ?_
  refine fm_getG (a := 5) (j := 10) (T := TX4) (N := 13) hx hb hts hinX4 hown hc hw kl_5 sh_5 rfl (by decide) rfl (hI.to kl_5 tg_5_10) (hts (.fieldLink RX4 37 "RedTent$Radio" "partHeard" "[I") (List.mem_cons_of_mem _ tw_1_73)) (fun _ h9 => h9) dX4_addPart_11 ?_
  refine lv_aload_n hx hb dX4_addPart_14 rfl (lv_at hl 0 rfl) ?_
  refine fm_getI (a := 5) (j := 12) (T := TX4) (N := 13) hx hb hts hinX4 hown hc hw hI kl_5 sh_5 rfl (by decide) rfl bd_5_12 (hts (.fieldLink RX4 50 "RedTent$Radio" "parts" "I") (List.mem_cons_of_mem _ tw_1_75)) (fun _ h9 => h9) dX4_addPart_15 (fun x3 ex3 bx3 => ?_)
  obtain rfl : x1 = x3 := by rw [ex3, eM2, fm_wI_nj (fun z => absurd z.1 (by decide))]; exact ex1
  refine lv_iload_n hx hb dX4_addPart_18 rfl (lv_at hl 2 rfl) ?_
  refine fm_iast (a := 14) hx hb hc hw hI hE hS kl_14 sh_14 ty_14 bd_14 (by omega) (by omega) cd_14 (by decide) dX4_addPart_19 (fun M4 H locs eM4 hw hI hE hS => ?_)
  refine lv_aload_n hx hb dX4_addPart_20 rfl (lv_at hl 0 rfl) ?_
  refine fm_getG (a := 5) (j := 11) (T := TX4) (N := 13) hx hb hts hinX4 hown hc hw kl_5 sh_5 rfl (by decide) rfl (hI.to kl_5 tg_5_11) (hts (.fieldLink RX4 40 "RedTent$Radio" "partWords" "[J") (List.mem_cons_of_mem _ tw_1_74)) (fun _ h9 => h9) dX4_addPart_21 ?_
  refine lv_aload_n hx hb dX4_addPart_24 rfl (lv_at hl 0 rfl) ?_
  refine fm_getI (a := 5) (j := 12) (T := TX4) (N := 13) hx hb hts hinX4 hown hc hw hI kl_5 sh_5 rfl (by decide) rfl bd_5_12 (hts (.fieldLink RX4 50 "RedTent$Radio" "parts" "I") (List.mem_cons_of_mem _ tw_1_75)) (fun _ h9 => h9) dX4_addPart_25 (fun x5 ex5 bx5 => ?_)
  obtain rfl : x1 = x5 := by rw [ex5, eM4, fm_wI_nj (fun z => absurd z.1 (by decide)), eM2, fm_wI_nj (fun z => absurd z.1 (by decide))]; exact ex1
  refine lv_lload_n hx hb dX4_addPart_28 rfl (lv_at hl 3 rfl) ?_
  refine fm_last (a := 15) hx hb hc hw hI hE hS kl_15 sh_15 ty_15 (by omega) cd_15 (by decide) dX4_addPart_29 (fun M6 H locs eM6 hw hI hE hS => ?_)
  refine lv_aload_n hx hb dX4_addPart_30 rfl (lv_at hl 0 rfl) ?_
  refine lv_dup hx hb dX4_addPart_31 rfl ?_
  refine fm_getI (a := 5) (j := 12) (T := TX4) (N := 13) hx hb hts hinX4 hown hc hw hI kl_5 sh_5 rfl (by decide) rfl bd_5_12 (hts (.fieldLink RX4 50 "RedTent$Radio" "parts" "I") (List.mem_cons_of_mem _ tw_1_75)) (fun _ h9 => h9) dX4_addPart_32 (fun x7 ex7 bx7 => ?_)
  obtain rfl : x1 = x7 := by rw [ex7, eM6, fm_wL_1, eM4, fm_wI_nj (fun z => absurd z.1 (by decide)), eM2, fm_wI_nj (fun z => absurd z.1 (by decide))]; exact ex1
  refine lv_iconst (v := 1) hx hb dX4_addPart_35 (by decide) ?_
  refine fx_iadd hx hb dX4_addPart_36 rfl zk_1 (by omega) (fun y8 ey8 ty8 => ?_)
  refine lv_dup_x1 hx hb dX4_addPart_37 rfl rfl ?_
  refine fm_putI (a := 5) (j := 12) (T := TX4) (N := 13) hx hb hts hinX4 tyX4 tyX4_ok nmX4 hown hc hw hI hE hS kl_5 sh_5 od_5 rfl (by decide) rfl bd_5_12 (hts (.fieldLink RX4 50 "RedTent$Radio" "parts" "I") (List.mem_cons_of_mem _ tw_1_75)) (fun _ h9 => h9) rfl (by decide +kernel) (by omega) (by decide) (by decide) dX4_addPart_38 (fun M9 H locs eM9 hw hI hE hS => ?_)
  have qx1 : x1.toInt = (M.1 5 0 12).toInt := by rw [ex1]
  exact W.iret (v := y8) hx hb hr (fun t ht hW => ⟨⟨y8, M9, rfl, ⟨hI, hE, ⟨by omega, (by first | omega | (rw [eM9, fm_wI_at]; omega))⟩⟩, by show fm_at D ad C nb _ t.heap; rw [ht]; exact hw⟩, hS.F ht⟩) hS.2.2 dX4_addPart_41
set_option maxHeartbeats 400000 in
set_option maxRecDepth 20000 in
theorem fc_X4_isAnyApart (l : Launch) (D : va_G) (ad : Nat → Nat → Nat) (C : Nat → Nat → ClassId) (nb : Nat) (M : fm_M) (hI : fm_I nb ad M) (p0 : Int64) (p1 p2 p3 : Int32) (b_p1 : 0 ≤ p1.toInt ∧ p1.toInt ≤ 63) : Met l yX4_isAnyApart wsX4_isAnyApart ({ frames := 2, cells := 0, slots := 0, locals := 36 }) (va_Pc [.long p0, .int p1, .int p2, .int p3] (fm_P D ad C nb M)) (vp_Si (fun r : Int32 => (0 ≤ r.toInt ∧ r.toInt ≤ 1))) 0 0 (fun _ => False) := by
  refine Met.ofW (cc := cX4_isAnyApart) (maxL := 7) (ret := (some .boolean)) (by decide) rfl ?_
  intro p e s m args below meth c s₁ B hml hv
  obtain ⟨rfl, hw, hc⟩ := hv
  have hx := B.exec
  have hb := B.bytes
  have hr := B.returns
  have hts := atoms_spec (ws := wsX4_isAnyApart) B.pre
  have hown : s.vm.findClass RX4 = some m.cls := findClass_of_methodNamed B.named
  have hS : va_S (fm_A nb ad) s.heap s.heap [] := va_S.rf
  have hl := lv_entry ([.long p0, .int p1, .int p2, .int p3]) (n := 7) (Nat.le_of_ble_eq_true rfl)
  rw [lg_entry_eq]
  generalize (lg_sl ([.long p0, .int p1, .int p2, .int p3]) ++ List.replicate (7 - (lg_sl ([.long p0, .int p1, .int p2, .int p3])).length) Slot.unset).toArray = ls at hl ⊢
  have hl : lv_has ls 7 [(0, .long p0), (2, .int p1), (3, .int p2), (4, .int p3)] := hl
  refine lv_iconst (v := 0) hx hb dX4_isAnyApart_0 (by decide) ?_
  refine lv_istore (lv' := [(5, .int 0), (0, .long p0), (2, .int p1), (3, .int p2), (4, .int p3)]) hx hb dX4_isAnyApart_1 hl (by decide) rfl (fun ls hl => ?_)
  have lp : ∀ (n_lp : Nat) (lp_5 : Int32), (64 - lp_5.toInt).toNat < n_lp → (0 ≤ lp_5.toInt ∧ lp_5.toInt ≤ 64) → ∀ (ls : Array Slot), lv_has ls 7 [(5, .int lp_5), (0, .long p0), (2, .int p1), (3, .int p2), (4, .int p3)] → W p l e (headSpec wsX4_isAnyApart ({ frames := 2, cells := 0, slots := 0, locals := 36 })).room s m ([.long p0, .int p1, .int p2, .int p3] : List Value).toArray below meth c s.heap [] 0 0 (MQ below (vp_Si (fun r : Int32 => (0 ≤ r.toInt ∧ r.toInt ≤ 1))) ([.long p0, .int p1, .int p2, .int p3] : List Value).toArray s 0 0 (fun _ => False)) (F0 m 3 ls []) := by
    intro n_lp
    induction n_lp with
    | zero => intro lp_5 hm_lp b_lp_5 ls hl; exact absurd hm_lp (Nat.not_lt_zero _)
    | succ n_lp ih_lp =>
      intro lp_5 hm_lp b_lp_5 ls hl
      refine lv_iload hx hb dX4_isAnyApart_3 (lv_at hl 0 rfl) ?_
      refine lv_bipush (v := 64) hx hb dX4_isAnyApart_5 (by decide) ?_
      refine fx_icmp_ge (tgt := 48) hx hb dX4_isAnyApart_7 (by decide) rfl zk_64 (fun c1 => ?_) (fun c1 => ?_)
      · refine lv_iconst (v := 0) hx hb dX4_isAnyApart_48 (by decide) ?_
        exact W.zret (v := 0) hx hb hr rfl (fun t ht hW => ⟨0, rfl, (by decide), ht⟩) (fun _ h => absurd h List.not_mem_nil) dX4_isAnyApart_49
      · refine lv_iload_n hx hb dX4_isAnyApart_10 rfl (lv_at hl 2 rfl) ?_
        refine lv_iload hx hb dX4_isAnyApart_11 (lv_at hl 0 rfl) ?_
        refine vp_callSi (va_Run.run (va_runSN (As := [.int p1, .int lp_5]) (rest := []) ⟨hx, hb, hml, hown, hts⟩ (fc_X11_apart l p1 lp_5 (by omega) (by omega)) ⟨va_cnB 2 hts gX4_isAnyApart_X11_apart_n57 rfl rfl rfl hc.2.2.1.2.2.2.2.2.2.2.2.2.2.2.1 (hts (.initialized RX11) (List.mem_cons_of_mem _ tw_1_1)) (by decide +kernel) ⟨Nat.le_of_ble_eq_true rfl, Nat.le_of_ble_eq_true rfl⟩, (hts (.static yX11_apart) (List.mem_cons_of_mem _ tw_3_119)), trivial⟩ ⟨fun a U g mk q => q, fun U hU hW => ⟨rfl, trivial⟩⟩ rfl rfl hl.1 rfl (lv_room (Nat.le_of_ble_eq_true rfl)) dX4_isAnyApart_13 ⟨by decide +kernel, by decide +kernel⟩)) (fun r2 hr2 => ?_)
        refine lv_istore (lv' := [(6, .int r2), (5, .int lp_5), (0, .long p0), (2, .int p1), (3, .int p2), (4, .int p3)]) hx hb dX4_isAnyApart_16 hl (by decide) rfl (fun ls hl => ?_)
        refine lv_lload_n hx hb dX4_isAnyApart_18 rfl (lv_at hl 2 rfl) ?_
        refine lv_iload hx hb dX4_isAnyApart_19 (lv_at hl 1 rfl) ?_
        refine vp_callSi (va_Run.run (va_runSN (As := [.long p0, .int lp_5]) (rest := []) ⟨hx, hb, hml, hown, hts⟩ (fc_X11_has l p0 lp_5) ⟨va_cnB 2 hts gX4_isAnyApart_X11_has_n61 rfl rfl rfl hc.2.2.1.2.2.2.2.2.2.2.2.2.2.2.2.1 (hts (.initialized RX11) (List.mem_cons_of_mem _ tw_1_1)) (by decide +kernel) ⟨Nat.le_of_ble_eq_true rfl, Nat.le_of_ble_eq_true rfl⟩, (hts (.static yX11_has) (List.mem_cons_of_mem _ tw_3_126)), trivial⟩ ⟨fun a U g mk q => q, fun U hU hW => ⟨rfl, trivial⟩⟩ rfl rfl hl.1 rfl (lv_room (Nat.le_of_ble_eq_true rfl)) dX4_isAnyApart_21 ⟨by decide +kernel, by decide +kernel⟩)) (fun r3 hr3 => ?_)
        rcases hr3 with ⟨rfl, c4⟩ | ⟨rfl, c4⟩
        · refine fx_if_eq (tgt := 42) hx hb dX4_isAnyApart_24 (by decide) zk_1 (fun c5 => by exfalso; omega) (fun c5 => ?_)
          refine lv_iload hx hb dX4_isAnyApart_27 (lv_at hl 0 rfl) ?_
          refine lv_iload_n hx hb dX4_isAnyApart_29 rfl (lv_at hl 4 rfl) ?_
          refine fx_icmp_lt (tgt := 42) hx hb dX4_isAnyApart_30 (by decide) rfl rfl (fun c6 => ?_) (fun c6 => ?_)
          · obtain ⟨y7, ey7⟩ : ∃ y : Int32, y = lp_5 + 1 := ⟨_, rfl⟩
            have ty7 : y7.toInt = lp_5.toInt + 1 := by rw [ey7, zi_add _ _ (by rw [zk_1]; omega) (by rw [zk_1]; omega), zk_1]
            refine lv_iinc (v := y7) (lv' := [(5, .int y7), (6, .int r2), (0, .long p0), (2, .int p1), (3, .int p2), (4, .int p3)]) hx hb dX4_isAnyApart_42 hl (k := 1) rfl (by rw [ey7]; rfl) (by decide) rfl (fun ls hl => ?_)
            refine lv_goto (tgt := 3) hx hb dX4_isAnyApart_45 (by decide) ?_
            exact ih_lp y7 (by omega) (by omega) ls (lv_sub hl [0, 2, 3, 4, 5] rfl)
          · refine lv_iload hx hb dX4_isAnyApart_33 (lv_at hl 0 rfl) ?_
            refine lv_iload hx hb dX4_isAnyApart_35 (lv_at hl 5 rfl) ?_
            refine fx_icmp_gt (tgt := 42) hx hb dX4_isAnyApart_37 (by decide) rfl rfl (fun c8 => ?_) (fun c8 => ?_)
            · obtain ⟨y9, ey9⟩ : ∃ y : Int32, y = lp_5 + 1 := ⟨_, rfl⟩
              have ty9 : y9.toInt = lp_5.toInt + 1 := by rw [ey9, zi_add _ _ (by rw [zk_1]; omega) (by rw [zk_1]; omega), zk_1]
              refine lv_iinc (v := y9) (lv' := [(5, .int y9), (6, .int r2), (0, .long p0), (2, .int p1), (3, .int p2), (4, .int p3)]) hx hb dX4_isAnyApart_42 hl (k := 1) rfl (by rw [ey9]; rfl) (by decide) rfl (fun ls hl => ?_)
              refine lv_goto (tgt := 3) hx hb dX4_isAnyApart_45 (by decide) ?_
              exact ih_lp y9 (by omega) (by omega) ls (lv_sub hl [0, 2, 3, 4, 5] rfl)
            · refine lv_iconst (v := 1) hx hb dX4_isAnyApart_40 (by decide) ?_
              exact W.zret (v := 1) hx hb hr rfl (fun t ht hW => ⟨1, rfl, (by decide), ht⟩) (fun _ h => absurd h List.not_mem_nil) dX4_isAnyApart_41
        · refine fx_if_eq (tgt := 42) hx hb dX4_isAnyApart_24 (by decide) zk_0 (fun c10 => ?_) (fun c10 => by exfalso; omega)
          obtain ⟨y11, ey11⟩ : ∃ y : Int32, y = lp_5 + 1 := ⟨_, rfl⟩
          have ty11 : y11.toInt = lp_5.toInt + 1 := by rw [ey11, zi_add _ _ (by rw [zk_1]; omega) (by rw [zk_1]; omega), zk_1]
          refine lv_iinc (v := y11) (lv' := [(5, .int y11), (6, .int r2), (0, .long p0), (2, .int p1), (3, .int p2), (4, .int p3)]) hx hb dX4_isAnyApart_42 hl (k := 1) rfl (by rw [ey11]; rfl) (by decide) rfl (fun ls hl => ?_)
          refine lv_goto (tgt := 3) hx hb dX4_isAnyApart_45 (by decide) ?_
          exact ih_lp y11 (by omega) (by omega) ls (lv_sub hl [0, 2, 3, 4, 5] rfl)
  exact lp _ 0 (Nat.lt_succ_self _) (by decide) ls (lv_sub hl [0, 1, 2, 3, 4] rfl)
set_option maxHeartbeats 400000 in
set_option maxRecDepth 20000 in
theorem fc_X4_hearersOf (l : Launch) (D : va_G) (ad : Nat → Nat → Nat) (C : Nat → Nat → ClassId) (nb : Nat) (M : fm_M) (hI : fm_I nb ad M) (p0 : Int32) (p1 : Int64) (b_p0 : 0 ≤ p0.toInt ∧ p0.toInt ≤ 19) : Met l yX4_hearersOf wsX4_hearersOf ({ frames := 3, cells := 0, slots := 0, locals := 62 }) (va_Pc [.ref (ad 5 0), .int p0, .long p1] (fm_P D ad C nb M)) (vp_Si (fun r : Int32 => True)) 0 0 (fun _ => False) := by
  refine Met.ofW (cc := cX4_hearersOf) (maxL := 8) (ret := (some .int)) (by decide) rfl ?_
  intro p e s m args below meth c s₁ B hml hv
  obtain ⟨rfl, hw, hc⟩ := hv
  have hx := B.exec
  have hb := B.bytes
  have hr := B.returns
  have hts := atoms_spec (ws := wsX4_hearersOf) B.pre
  have hown : s.vm.findClass RX4 = some m.cls := findClass_of_methodNamed B.named
  have hinX4 : ∀ w ∈ u_ws RX4 TX4 13, w ∈ wsX4_hearersOf := fun w h => List.mem_cons_of_mem _ (iT_X4 w h)
  have hS : va_S (fm_A nb ad) s.heap s.heap [] := va_S.rf
  have hl := lv_entry ([.ref (ad 5 0), .int p0, .long p1]) (n := 8) (Nat.le_of_ble_eq_true rfl)
  rw [lg_entry_eq]
  generalize (lg_sl ([.ref (ad 5 0), .int p0, .long p1]) ++ List.replicate (8 - (lg_sl ([.ref (ad 5 0), .int p0, .long p1])).length) Slot.unset).toArray = ls at hl ⊢
  have hl : lv_has ls 8 [(0, .ref (ad 5 0)), (1, .int p0), (2, .long p1)] := hl
  refine lv_aload_n hx hb dX4_hearersOf_0 rfl (lv_at hl 0 rfl) ?_
  refine fm_getG (a := 5) (j := 6) (T := TX4) (N := 13) hx hb hts hinX4 hown hc hw kl_5 sh_5 rfl (by decide) rfl (hI.to kl_5 tg_5_6) (hts (.fieldLink RX4 27 "RedTent$Radio" "callHour" "[I") (List.mem_cons_of_mem _ tw_1_67)) (fun _ h9 => h9) dX4_hearersOf_1 ?_
  refine lv_iload_n hx hb dX4_hearersOf_4 rfl (lv_at hl 1 rfl) ?_
  refine fm_iald (a := 11) hx hb hc hw hI kl_11 sh_11 ty_11 bd_11 (by omega) dX4_hearersOf_5 (fun x1 ex1 bx1 => ?_)
  refine lv_bipush (v := 24) hx hb dX4_hearersOf_6 (by decide) ?_
  refine fx_irem hx hb dX4_hearersOf_8 rfl zk_24 (by omega) (by omega) (fun y2 ey2 ty2 => ?_)
  refine lv_istore (lv' := [(4, .int y2), (0, .ref (ad 5 0)), (1, .int p0), (2, .long p1)]) hx hb dX4_hearersOf_9 hl (by decide) rfl (fun ls hl => ?_)
  have jt : ∀ (jt_5 : Int32), (0 ≤ jt_5.toInt ∧ jt_5.toInt ≤ 7) → ∀ (ls : Array Slot), lv_has ls 8 [(0, .ref (ad 5 0)), (1, .int p0), (2, .long p1), (5, .int jt_5)] → W p l e (headSpec wsX4_hearersOf ({ frames := 3, cells := 0, slots := 0, locals := 62 })).room s m ([.ref (ad 5 0), .int p0, .long p1] : List Value).toArray below meth c s.heap [] 0 0 (MQ below (vp_Si (fun r : Int32 => True)) ([.ref (ad 5 0), .int p0, .long p1] : List Value).toArray s 0 0 (fun _ => False)) (F0 m 41 ls []) := by
    intro jt_5 b_jt_5 ls hl
    refine lv_iconst (v := 0) hx hb dX4_hearersOf_41 (by decide) ?_
    refine lv_istore (lv' := [(6, .int 0), (0, .ref (ad 5 0)), (1, .int p0), (2, .long p1), (5, .int jt_5)]) hx hb dX4_hearersOf_42 hl (by decide) rfl (fun ls hl => ?_)
    refine lv_iconst (v := 0) hx hb dX4_hearersOf_44 (by decide) ?_
    refine lv_istore (lv' := [(7, .int 0), (6, .int 0), (0, .ref (ad 5 0)), (1, .int p0), (2, .long p1), (5, .int jt_5)]) hx hb dX4_hearersOf_45 hl (by decide) rfl (fun ls hl => ?_)
    have lp : ∀ (n_lp : Nat) (lp_7 : Int32) (lp_6 : Int32), (6 - lp_7.toInt).toNat < n_lp → (0 ≤ lp_7.toInt ∧ lp_7.toInt ≤ 6) → ∀ (ls : Array Slot), lv_has ls 8 [(7, .int lp_7), (6, .int lp_6), (0, .ref (ad 5 0)), (1, .int p0), (2, .long p1), (5, .int jt_5)] → W p l e (headSpec wsX4_hearersOf ({ frames := 3, cells := 0, slots := 0, locals := 62 })).room s m ([.ref (ad 5 0), .int p0, .long p1] : List Value).toArray below meth c s.heap [] 0 0 (MQ below (vp_Si (fun r : Int32 => True)) ([.ref (ad 5 0), .int p0, .long p1] : List Value).toArray s 0 0 (fun _ => False)) (F0 m 47 ls []) := by
      intro n_lp
      induction n_lp with
      | zero => intro lp_7 lp_6 hm_lp b_lp_7 ls hl; exact absurd hm_lp (Nat.not_lt_zero _)
      | succ n_lp ih_lp =>
        intro lp_7 lp_6 hm_lp b_lp_7 ls hl
        refine lv_iload hx hb dX4_hearersOf_47 (lv_at hl 0 rfl) ?_
        refine lv_aload_n hx hb dX4_hearersOf_49 rfl (lv_at hl 2 rfl) ?_
        refine fm_getI (a := 5) (j := 1) (T := TX4) (N := 13) hx hb hts hinX4 hown hc hw hI kl_5 sh_5 rfl (by decide) rfl bd_5_1 (hts (.fieldLink RX4 43 "RedTent$Radio" "hearers" "I") (List.mem_cons_of_mem _ tw_1_60)) (fun _ h9 => h9) dX4_hearersOf_50 (fun x3 ex3 bx3 => ?_)
        refine fx_icmp_ge (tgt := 99) hx hb dX4_hearersOf_53 (by decide) rfl rfl (fun c4 => ?_) (fun c4 => ?_)
        · refine lv_iload hx hb dX4_hearersOf_99 (lv_at hl 1 rfl) ?_
          exact W.iret (v := lp_6) hx hb hr (fun t ht hW => ⟨lp_6, rfl, trivial, ht⟩) (fun _ h => absurd h List.not_mem_nil) dX4_hearersOf_101
        · refine lv_lload_n hx hb dX4_hearersOf_56 rfl (lv_at hl 4 rfl) ?_
          refine lv_aload_n hx hb dX4_hearersOf_57 rfl (lv_at hl 2 rfl) ?_
          refine fm_getG (a := 5) (j := 0) (T := TX4) (N := 13) hx hb hts hinX4 hown hc hw kl_5 sh_5 rfl (by decide) rfl (hI.to kl_5 tg_5_0) (hts (.fieldLink RX4 9 "RedTent$Radio" "hearerCell" "[I") (List.mem_cons_of_mem _ tw_1_59)) (fun _ h9 => h9) dX4_hearersOf_58 ?_
          refine lv_iload hx hb dX4_hearersOf_61 (lv_at hl 0 rfl) ?_
          refine fm_iald (a := 6) hx hb hc hw hI kl_6 sh_6 ty_6 bd_6 (by omega) dX4_hearersOf_63 (fun x5 ex5 bx5 => ?_)
          refine lv_aload_n hx hb dX4_hearersOf_64 rfl (lv_at hl 2 rfl) ?_
          refine fm_getG (a := 5) (j := 2) (T := TX4) (N := 13) hx hb hts hinX4 hown hc hw kl_5 sh_5 rfl (by decide) rfl (hI.to kl_5 tg_5_2) (hts (.fieldLink RX4 15 "RedTent$Radio" "heardFrom" "[I") (List.mem_cons_of_mem _ tw_1_62)) (fun _ h9 => h9) dX4_hearersOf_65 ?_
          refine lv_iload hx hb dX4_hearersOf_68 (lv_at hl 5 rfl) ?_
          refine fm_iald (a := 7) hx hb hc hw hI kl_7 sh_7 ty_7 bd_7 (by omega) dX4_hearersOf_70 (fun x6 ex6 bx6 => ?_)
          refine lv_aload_n hx hb dX4_hearersOf_71 rfl (lv_at hl 2 rfl) ?_
          refine fm_getG (a := 5) (j := 3) (T := TX4) (N := 13) hx hb hts hinX4 hown hc hw kl_5 sh_5 rfl (by decide) rfl (hI.to kl_5 tg_5_3) (hts (.fieldLink RX4 18 "RedTent$Radio" "heardTo" "[I") (List.mem_cons_of_mem _ tw_1_63)) (fun _ h9 => h9) dX4_hearersOf_72 ?_
          refine lv_iload hx hb dX4_hearersOf_75 (lv_at hl 5 rfl) ?_
          refine fm_iald (a := 8) hx hb hc hw hI kl_8 sh_8 ty_8 bd_8 (by omega) dX4_hearersOf_77 (fun x7 ex7 bx7 => ?_)
          refine vp_callSi (va_Run.run (va_runS (As := [.long p1, .int x5, .int x6, .int x7]) (rest := []) ⟨hx, hb, hml, hown, hts⟩ (fc_X4_isAnyApart l D ad C nb M hI p1 x5 x6 x7 (by omega)) (va_cwS 4 hts gX4_hearersOf_X4_isAnyApart rfl rfl rfl (by decide +kernel) ⟨Nat.le_of_ble_eq_true rfl, Nat.le_of_ble_eq_true rfl⟩) (fm_preS hc hw hS) rfl rfl hl.1 rfl (lv_room (Nat.le_of_ble_eq_true rfl)) dX4_hearersOf_78 ⟨by decide +kernel, by decide +kernel⟩)) (fun r8 hr8 => ?_)
          refine fx_if_eq (tgt := 93) hx hb dX4_hearersOf_81 (by decide) rfl (fun c9 => ?_) (fun c9 => ?_)
          · obtain ⟨y10, ey10⟩ : ∃ y : Int32, y = lp_7 + 1 := ⟨_, rfl⟩
            have ty10 : y10.toInt = lp_7.toInt + 1 := by rw [ey10, zi_add _ _ (by rw [zk_1]; omega) (by rw [zk_1]; omega), zk_1]
            refine lv_iinc (v := y10) (lv' := [(7, .int y10), (6, .int lp_6), (0, .ref (ad 5 0)), (1, .int p0), (2, .long p1), (5, .int jt_5)]) hx hb dX4_hearersOf_93 hl (k := 0) rfl (by rw [ey10]; rfl) (by decide) rfl (fun ls hl => ?_)
            refine lv_goto (tgt := 47) hx hb dX4_hearersOf_96 (by decide) ?_
            exact ih_lp y10 lp_6 (by omega) (by omega) ls (lv_sub hl [0, 1, 2, 3, 4, 5] rfl)
          · refine lv_iload hx hb dX4_hearersOf_84 (lv_at hl 1 rfl) ?_
            refine lv_iconst (v := 1) hx hb dX4_hearersOf_86 (by decide) ?_
            refine lv_iload hx hb dX4_hearersOf_87 (lv_at hl 0 rfl) ?_
            refine lv_ishl hx hb dX4_hearersOf_89 ?_
            refine lv_topi (fun y11 ey11 => ?_)
            refine lv_ior hx hb dX4_hearersOf_90 ?_
            refine lv_topi (fun y12 ey12 => ?_)
            refine lv_istore (lv' := [(6, .int y12), (7, .int lp_7), (0, .ref (ad 5 0)), (1, .int p0), (2, .long p1), (5, .int jt_5)]) hx hb dX4_hearersOf_91 hl (by decide) rfl (fun ls hl => ?_)
            obtain ⟨y13, ey13⟩ : ∃ y : Int32, y = lp_7 + 1 := ⟨_, rfl⟩
            have ty13 : y13.toInt = lp_7.toInt + 1 := by rw [ey13, zi_add _ _ (by rw [zk_1]; omega) (by rw [zk_1]; omega), zk_1]
            refine lv_iinc (v := y13) (lv' := [(7, .int y13), (6, .int y12), (0, .ref (ad 5 0)), (1, .int p0), (2, .long p1), (5, .int jt_5)]) hx hb dX4_hearersOf_93 hl (k := 1) rfl (by rw [ey13]; rfl) (by decide) rfl (fun ls hl => ?_)
            refine lv_goto (tgt := 47) hx hb dX4_hearersOf_96 (by decide) ?_
            exact ih_lp y13 y12 (by omega) (by omega) ls (lv_sub hl [0, 1, 2, 3, 4, 5] rfl)
    exact lp _ 0 0 (Nat.lt_succ_self _) (by decide) ls (lv_sub hl [0, 1, 2, 3, 4, 5] rfl)
  refine lv_iconst (v := 2) hx hb dX4_hearersOf_11 (by decide) ?_
  refine lv_aload_n hx hb dX4_hearersOf_12 rfl (lv_at hl 1 rfl) ?_
  refine fm_getG (a := 5) (j := 5) (T := TX4) (N := 13) hx hb hts hinX4 hown hc hw kl_5 sh_5 rfl (by decide) rfl (hI.to kl_5 tg_5_5) (hts (.fieldLink RX4 24 "RedTent$Radio" "callWave" "[I") (List.mem_cons_of_mem _ tw_1_66)) (fun _ h9 => h9) dX4_hearersOf_13 ?_
  refine lv_iload_n hx hb dX4_hearersOf_16 rfl (lv_at hl 2 rfl) ?_
  refine fm_iald (a := 10) hx hb hc hw hI kl_10 sh_10 ty_10 bd_10 (by omega) dX4_hearersOf_17 (fun x14 ex14 bx14 => ?_)
  refine fx_imul hx hb dX4_hearersOf_18 zk_2 rfl (by omega) (fun y15 ey15 ty15 => ?_)
  refine lv_iload hx hb dX4_hearersOf_19 (lv_at hl 0 rfl) ?_
  refine lv_bipush (v := 6) hx hb dX4_hearersOf_21 (by decide) ?_
  refine fx_icmp_lt (tgt := 33) hx hb dX4_hearersOf_23 (by decide) rfl zk_6 (fun c16 => ?_) (fun c16 => ?_)
  · refine lv_iconst (v := 1) hx hb dX4_hearersOf_33 (by decide) ?_
    refine lv_goto (tgt := 38) hx hb dX4_hearersOf_34 (by decide) ?_
    refine fx_iadd hx hb dX4_hearersOf_38 rfl zk_1 (by omega) (fun y17 ey17 ty17 => ?_)
    refine lv_istore (lv' := [(5, .int y17), (4, .int y2), (0, .ref (ad 5 0)), (1, .int p0), (2, .long p1)]) hx hb dX4_hearersOf_39 hl (by decide) rfl (fun ls hl => ?_)
    exact jt y17 (by omega) ls (lv_sub hl [2, 3, 4, 0] rfl)
  · refine lv_iload hx hb dX4_hearersOf_26 (lv_at hl 0 rfl) ?_
    refine lv_bipush (v := 17) hx hb dX4_hearersOf_28 (by decide) ?_
    refine fx_icmp_le (tgt := 37) hx hb dX4_hearersOf_30 (by decide) rfl zk_17 (fun c18 => ?_) (fun c18 => ?_)
    · refine lv_iconst (v := 0) hx hb dX4_hearersOf_37 (by decide) ?_
      refine fx_iadd hx hb dX4_hearersOf_38 rfl zk_0 (by omega) (fun y19 ey19 ty19 => ?_)
      refine lv_istore (lv' := [(5, .int y19), (4, .int y2), (0, .ref (ad 5 0)), (1, .int p0), (2, .long p1)]) hx hb dX4_hearersOf_39 hl (by decide) rfl (fun ls hl => ?_)
      exact jt y19 (by omega) ls (lv_sub hl [2, 3, 4, 0] rfl)
    · refine lv_iconst (v := 1) hx hb dX4_hearersOf_33 (by decide) ?_
      refine lv_goto (tgt := 38) hx hb dX4_hearersOf_34 (by decide) ?_
      refine fx_iadd hx hb dX4_hearersOf_38 rfl zk_1 (by omega) (fun y20 ey20 ty20 => ?_)
      refine lv_istore (lv' := [(5, .int y20), (4, .int y2), (0, .ref (ad 5 0)), (1, .int p0), (2, .long p1)]) hx hb dX4_hearersOf_39 hl (by decide) rfl (fun ls hl => ?_)
      exact jt y20 (by omega) ls (lv_sub hl [2, 3, 4, 0] rfl)
set_option maxHeartbeats 400000 in
set_option maxRecDepth 20000 in
theorem fc_X4_putTogether (l : Launch) (D : va_G) (ad : Nat → Nat → Nat) (C : Nat → Nat → ClassId) (nb : Nat) (M : fm_M) (hI : fm_I nb ad M) (p0 p1 : Int32) : Met l yX4_putTogether wsX4_putTogether ({ frames := 1, cells := 0, slots := 0, locals := 22 }) (va_Pc [.ref (ad 5 0), .int p0, .int p1] (fm_P D ad C nb M)) (vp_Si (fun r : Int32 => True)) 0 0 (fun _ => False) := by
  refine Met.ofW (cc := cX4_putTogether) (maxL := 6) (ret := (some .int)) (by decide) rfl ?_
  intro p e s m args below meth c s₁ B hml hv
  obtain ⟨rfl, hw, hc⟩ := hv
  have hx := B.exec
  have hb := B.bytes
  have hr := B.returns
  have hts := atoms_spec (ws := wsX4_putTogether) B.pre
  have hown : s.vm.findClass RX4 = some m.cls := findClass_of_methodNamed B.named
  have hinX4 : ∀ w ∈ u_ws RX4 TX4 13, w ∈ wsX4_putTogether := fun w h => List.mem_cons_of_mem _ (iT_X4 w h)
  have hS : va_S (fm_A nb ad) s.heap s.heap [] := va_S.rf
  have hl := lv_entry ([.ref (ad 5 0), .int p0, .int p1]) (n := 6) (Nat.le_of_ble_eq_true rfl)
  rw [lg_entry_eq]
  generalize (lg_sl ([.ref (ad 5 0), .int p0, .int p1]) ++ List.replicate (6 - (lg_sl ([.ref (ad 5 0), .int p0, .int p1])).length) Slot.unset).toArray = ls at hl ⊢
  have hl : lv_has ls 6 [(0, .ref (ad 5 0)), (1, .int p0), (2, .int p1)] := hl
  refine lv_iconst (v := (-1)) hx hb dX4_putTogether_0 (by decide) ?_
  refine lv_istore_n (lv' := [(3, .int (-1)), (0, .ref (ad 5 0)), (1, .int p0), (2, .int p1)]) hx hb dX4_putTogether_1 rfl hl (by decide) rfl (fun ls hl => ?_)
  refine lv_iconst (v := 0) hx hb dX4_putTogether_2 (by decide) ?_
  refine lv_istore (lv' := [(4, .int 0), (3, .int (-1)), (0, .ref (ad 5 0)), (1, .int p0), (2, .int p1)]) hx hb dX4_putTogether_3 hl (by decide) rfl (fun ls hl => ?_)
  have lp : ∀ (n_lp : Nat) (lp_4 : Int32) (lp_3 : Int32), (40 - lp_4.toInt).toNat < n_lp → (0 ≤ lp_4.toInt ∧ lp_4.toInt ≤ 40) → ∀ (ls : Array Slot), lv_has ls 6 [(4, .int lp_4), (3, .int lp_3), (0, .ref (ad 5 0)), (1, .int p0), (2, .int p1)] → W p l e (headSpec wsX4_putTogether ({ frames := 1, cells := 0, slots := 0, locals := 22 })).room s m ([.ref (ad 5 0), .int p0, .int p1] : List Value).toArray below meth c s.heap [] 0 0 (MQ below (vp_Si (fun r : Int32 => True)) ([.ref (ad 5 0), .int p0, .int p1] : List Value).toArray s 0 0 (fun _ => False)) (F0 m 5 ls []) := by
    intro n_lp
    induction n_lp with
    | zero => intro lp_4 lp_3 hm_lp b_lp_4 ls hl; exact absurd hm_lp (Nat.not_lt_zero _)
    | succ n_lp ih_lp =>
      intro lp_4 lp_3 hm_lp b_lp_4 ls hl
      refine lv_iload hx hb dX4_putTogether_5 (lv_at hl 0 rfl) ?_
      refine lv_aload_n hx hb dX4_putTogether_7 rfl (lv_at hl 2 rfl) ?_
      refine fm_getI (a := 5) (j := 12) (T := TX4) (N := 13) hx hb hts hinX4 hown hc hw hI kl_5 sh_5 rfl (by decide) rfl bd_5_12 (hts (.fieldLink RX4 50 "RedTent$Radio" "parts" "I") (List.mem_cons_of_mem _ tw_1_75)) (fun _ h9 => h9) dX4_putTogether_8 (fun x1 ex1 bx1 => ?_)
      refine fx_icmp_ge (tgt := 75) hx hb dX4_putTogether_11 (by decide) rfl rfl (fun c2 => ?_) (fun c2 => ?_)
      · refine lv_iload_n hx hb dX4_putTogether_75 rfl (lv_at hl 1 rfl) ?_
        exact W.iret (v := lp_3) hx hb hr (fun t ht hW => ⟨lp_3, rfl, trivial, ht⟩) (fun _ h => absurd h List.not_mem_nil) dX4_putTogether_76
      · refine lv_aload_n hx hb dX4_putTogether_14 rfl (lv_at hl 2 rfl) ?_
        refine fm_getG (a := 5) (j := 9) (T := TX4) (N := 13) hx hb hts hinX4 hown hc hw kl_5 sh_5 rfl (by decide) rfl (hI.to kl_5 tg_5_9) (hts (.fieldLink RX4 34 "RedTent$Radio" "partCall" "[I") (List.mem_cons_of_mem _ tw_1_72)) (fun _ h9 => h9) dX4_putTogether_15 ?_
        refine lv_iload hx hb dX4_putTogether_18 (lv_at hl 0 rfl) ?_
        refine fm_iald (a := 13) hx hb hc hw hI kl_13 sh_13 ty_13 bd_13 (by omega) dX4_putTogether_20 (fun x3 ex3 bx3 => ?_)
        refine lv_iload_n hx hb dX4_putTogether_21 rfl (lv_at hl 3 rfl) ?_
        refine fx_icmp_ne (tgt := 69) hx hb dX4_putTogether_22 (by decide) rfl rfl (fun c4 => ?_) (fun c4 => ?_)
        · obtain ⟨y5, ey5⟩ : ∃ y : Int32, y = lp_4 + 1 := ⟨_, rfl⟩
          have ty5 : y5.toInt = lp_4.toInt + 1 := by rw [ey5, zi_add _ _ (by rw [zk_1]; omega) (by rw [zk_1]; omega), zk_1]
          refine lv_iinc (v := y5) (lv' := [(4, .int y5), (3, .int lp_3), (0, .ref (ad 5 0)), (1, .int p0), (2, .int p1)]) hx hb dX4_putTogether_69 hl (k := 0) rfl (by rw [ey5]; rfl) (by decide) rfl (fun ls hl => ?_)
          refine lv_goto (tgt := 5) hx hb dX4_putTogether_72 (by decide) ?_
          exact ih_lp y5 lp_3 (by omega) (by omega) ls (lv_sub hl [0, 1, 2, 3, 4] rfl)
        · refine lv_aload_n hx hb dX4_putTogether_25 rfl (lv_at hl 2 rfl) ?_
          refine fm_getG (a := 5) (j := 10) (T := TX4) (N := 13) hx hb hts hinX4 hown hc hw kl_5 sh_5 rfl (by decide) rfl (hI.to kl_5 tg_5_10) (hts (.fieldLink RX4 37 "RedTent$Radio" "partHeard" "[I") (List.mem_cons_of_mem _ tw_1_73)) (fun _ h9 => h9) dX4_putTogether_26 ?_
          refine lv_iload hx hb dX4_putTogether_29 (lv_at hl 0 rfl) ?_
          refine fm_iald (a := 14) hx hb hc hw hI kl_14 sh_14 ty_14 bd_14 (by omega) dX4_putTogether_31 (fun x6 ex6 bx6 => ?_)
          refine lv_iload_n hx hb dX4_putTogether_32 rfl (lv_at hl 4 rfl) ?_
          refine lv_ishr hx hb dX4_putTogether_33 ?_
          refine lv_topi (fun y7 ey7 => ?_)
          refine lv_iconst (v := 1) hx hb dX4_putTogether_34 (by decide) ?_
          refine fx_iand1 hx hb dX4_putTogether_35 (fun y8 ey8 by8 => ?_)
          refine fx_if_eq (tgt := 69) hx hb dX4_putTogether_36 (by decide) rfl (fun c9 => ?_) (fun c9 => ?_)
          · obtain ⟨y10, ey10⟩ : ∃ y : Int32, y = lp_4 + 1 := ⟨_, rfl⟩
            have ty10 : y10.toInt = lp_4.toInt + 1 := by rw [ey10, zi_add _ _ (by rw [zk_1]; omega) (by rw [zk_1]; omega), zk_1]
            refine lv_iinc (v := y10) (lv' := [(4, .int y10), (3, .int lp_3), (0, .ref (ad 5 0)), (1, .int p0), (2, .int p1)]) hx hb dX4_putTogether_69 hl (k := 0) rfl (by rw [ey10]; rfl) (by decide) rfl (fun ls hl => ?_)
            refine lv_goto (tgt := 5) hx hb dX4_putTogether_72 (by decide) ?_
            exact ih_lp y10 lp_3 (by omega) (by omega) ls (lv_sub hl [0, 1, 2, 3, 4] rfl)
          · refine lv_aload_n hx hb dX4_putTogether_39 rfl (lv_at hl 2 rfl) ?_
            refine fm_getG (a := 5) (j := 11) (T := TX4) (N := 13) hx hb hts hinX4 hown hc hw kl_5 sh_5 rfl (by decide) rfl (hI.to kl_5 tg_5_11) (hts (.fieldLink RX4 40 "RedTent$Radio" "partWords" "[J") (List.mem_cons_of_mem _ tw_1_74)) (fun _ h9 => h9) dX4_putTogether_40 ?_
            refine lv_iload hx hb dX4_putTogether_43 (lv_at hl 0 rfl) ?_
            refine fm_lald (a := 15) hx hb hc hw kl_15 sh_15 ty_15 (by omega) dX4_putTogether_45 (fun x11 ex11 => ?_)
            refine lv_iload_n hx hb dX4_putTogether_46 rfl (lv_at hl 4 rfl) ?_
            refine vp_callSi (va_Run.run (va_runS (As := [.long x11, .int p1]) (rest := []) ⟨hx, hb, hml, hown, hts⟩ (fc_X4_digit l x11 p1) (va_cwS 2 hts gX4_putTogether_X4_digit rfl rfl rfl (by decide +kernel) ⟨Nat.le_of_ble_eq_true rfl, Nat.le_of_ble_eq_true rfl⟩) ⟨fun a U g mk q => q, fun U hU hW => ⟨rfl, trivial⟩⟩ rfl rfl hl.1 rfl (lv_room (Nat.le_of_ble_eq_true rfl)) dX4_putTogether_47 ⟨by decide +kernel, by decide +kernel⟩)) (fun r12 hr12 => ?_)
            refine lv_istore (lv' := [(5, .int r12), (4, .int lp_4), (3, .int lp_3), (0, .ref (ad 5 0)), (1, .int p0), (2, .int p1)]) hx hb dX4_putTogether_50 hl (by decide) rfl (fun ls hl => ?_)
            refine lv_iload_n hx hb dX4_putTogether_52 rfl (lv_at hl 2 rfl) ?_
            refine lv_iconst (v := (-1)) hx hb dX4_putTogether_53 (by decide) ?_
            refine fx_icmp_eq (tgt := 66) hx hb dX4_putTogether_54 (by decide) rfl zk_m1 (fun c13 => ?_) (fun c13 => ?_)
            · refine lv_iload hx hb dX4_putTogether_66 (lv_at hl 0 rfl) ?_
              refine lv_istore_n (lv' := [(3, .int r12), (5, .int r12), (4, .int lp_4), (0, .ref (ad 5 0)), (1, .int p0), (2, .int p1)]) hx hb dX4_putTogether_68 rfl hl (by decide) rfl (fun ls hl => ?_)
              obtain ⟨y14, ey14⟩ : ∃ y : Int32, y = lp_4 + 1 := ⟨_, rfl⟩
              have ty14 : y14.toInt = lp_4.toInt + 1 := by rw [ey14, zi_add _ _ (by rw [zk_1]; omega) (by rw [zk_1]; omega), zk_1]
              refine lv_iinc (v := y14) (lv' := [(4, .int y14), (3, .int r12), (5, .int r12), (0, .ref (ad 5 0)), (1, .int p0), (2, .int p1)]) hx hb dX4_putTogether_69 hl (k := 2) rfl (by rw [ey14]; rfl) (by decide) rfl (fun ls hl => ?_)
              refine lv_goto (tgt := 5) hx hb dX4_putTogether_72 (by decide) ?_
              exact ih_lp y14 r12 (by omega) (by omega) ls (lv_sub hl [0, 1, 3, 4, 5] rfl)
            · refine lv_iload_n hx hb dX4_putTogether_57 rfl (lv_at hl 2 rfl) ?_
              refine lv_iload hx hb dX4_putTogether_58 (lv_at hl 0 rfl) ?_
              refine fx_icmp_eq (tgt := 66) hx hb dX4_putTogether_60 (by decide) rfl rfl (fun c15 => ?_) (fun c15 => ?_)
              · refine lv_iload hx hb dX4_putTogether_66 (lv_at hl 0 rfl) ?_
                refine lv_istore_n (lv' := [(3, .int r12), (5, .int r12), (4, .int lp_4), (0, .ref (ad 5 0)), (1, .int p0), (2, .int p1)]) hx hb dX4_putTogether_68 rfl hl (by decide) rfl (fun ls hl => ?_)
                obtain ⟨y16, ey16⟩ : ∃ y : Int32, y = lp_4 + 1 := ⟨_, rfl⟩
                have ty16 : y16.toInt = lp_4.toInt + 1 := by rw [ey16, zi_add _ _ (by rw [zk_1]; omega) (by rw [zk_1]; omega), zk_1]
                refine lv_iinc (v := y16) (lv' := [(4, .int y16), (3, .int r12), (5, .int r12), (0, .ref (ad 5 0)), (1, .int p0), (2, .int p1)]) hx hb dX4_putTogether_69 hl (k := 2) rfl (by rw [ey16]; rfl) (by decide) rfl (fun ls hl => ?_)
                refine lv_goto (tgt := 5) hx hb dX4_putTogether_72 (by decide) ?_
                exact ih_lp y16 r12 (by omega) (by omega) ls (lv_sub hl [0, 1, 3, 4, 5] rfl)
              · refine lv_bipush (v := (-2)) hx hb dX4_putTogether_63 (by decide) ?_
                exact W.iret (v := (-2)) hx hb hr (fun t ht hW => ⟨(-2), rfl, trivial, ht⟩) (fun _ h => absurd h List.not_mem_nil) dX4_putTogether_65
  exact lp _ 0 (-1) (Nat.lt_succ_self _) (by decide) ls (lv_sub hl [0, 1, 2, 3, 4] rfl)
set_option maxHeartbeats 400000 in
set_option maxRecDepth 20000 in
theorem fc_X4_isAsSent (l : Launch) (D : va_G) (ad : Nat → Nat → Nat) (C : Nat → Nat → ClassId) (nb : Nat) (M : fm_M) (hI : fm_I nb ad M) (p0 : Int32) (b_p0 : 0 ≤ p0.toInt ∧ p0.toInt ≤ 39) : Met l yX4_isAsSent wsX4_isAsSent ({ frames := 1, cells := 0, slots := 0, locals := 22 }) (va_Pc [.ref (ad 5 0), .int p0] (fm_P D ad C nb M)) (vp_Si (fun r : Int32 => (0 ≤ r.toInt ∧ r.toInt ≤ 1))) 0 0 (fun _ => False) := by
  refine Met.ofW (cc := cX4_isAsSent) (maxL := 5) (ret := (some .boolean)) (by decide) rfl ?_
  intro p e s m args below meth c s₁ B hml hv
  obtain ⟨rfl, hw, hc⟩ := hv
  have hx := B.exec
  have hb := B.bytes
  have hr := B.returns
  have hts := atoms_spec (ws := wsX4_isAsSent) B.pre
  have hown : s.vm.findClass RX4 = some m.cls := findClass_of_methodNamed B.named
  have hinX4 : ∀ w ∈ u_ws RX4 TX4 13, w ∈ wsX4_isAsSent := fun w h => List.mem_cons_of_mem _ (iT_X4 w h)
  have hS : va_S (fm_A nb ad) s.heap s.heap [] := va_S.rf
  have hl := lv_entry ([.ref (ad 5 0), .int p0]) (n := 5) (Nat.le_of_ble_eq_true rfl)
  rw [lg_entry_eq]
  generalize (lg_sl ([.ref (ad 5 0), .int p0]) ++ List.replicate (5 - (lg_sl ([.ref (ad 5 0), .int p0])).length) Slot.unset).toArray = ls at hl ⊢
  have hl : lv_has ls 5 [(0, .ref (ad 5 0)), (1, .int p0)] := hl
  refine lv_aload_n hx hb dX4_isAsSent_0 rfl (lv_at hl 0 rfl) ?_
  refine fm_getG (a := 5) (j := 7) (T := TX4) (N := 13) hx hb hts hinX4 hown hc hw kl_5 sh_5 rfl (by decide) rfl (hI.to kl_5 tg_5_7) (hts (.fieldLink RX4 30 "RedTent$Radio" "callWords" "[J") (List.mem_cons_of_mem _ tw_1_69)) (fun _ h9 => h9) dX4_isAsSent_1 ?_
  refine lv_aload_n hx hb dX4_isAsSent_4 rfl (lv_at hl 0 rfl) ?_
  refine fm_getG (a := 5) (j := 9) (T := TX4) (N := 13) hx hb hts hinX4 hown hc hw kl_5 sh_5 rfl (by decide) rfl (hI.to kl_5 tg_5_9) (hts (.fieldLink RX4 34 "RedTent$Radio" "partCall" "[I") (List.mem_cons_of_mem _ tw_1_72)) (fun _ h9 => h9) dX4_isAsSent_5 ?_
  refine lv_iload_n hx hb dX4_isAsSent_8 rfl (lv_at hl 1 rfl) ?_
  refine fm_iald (a := 13) hx hb hc hw hI kl_13 sh_13 ty_13 bd_13 (by omega) dX4_isAsSent_9 (fun x1 ex1 bx1 => ?_)
  refine fm_lald (a := 12) hx hb hc hw kl_12 sh_12 ty_12 (by omega) dX4_isAsSent_10 (fun x2 ex2 => ?_)
  refine lv_lstore_n (lv' := [(2, .long x2), (0, .ref (ad 5 0)), (1, .int p0)]) hx hb dX4_isAsSent_11 rfl hl (by decide) rfl (fun ls hl => ?_)
  refine lv_iconst (v := 0) hx hb dX4_isAsSent_12 (by decide) ?_
  refine lv_istore (lv' := [(4, .int 0), (2, .long x2), (0, .ref (ad 5 0)), (1, .int p0)]) hx hb dX4_isAsSent_13 hl (by decide) rfl (fun ls hl => ?_)
  have lp : ∀ (n_lp : Nat) (lp_4 : Int32), (16 - lp_4.toInt).toNat < n_lp → (0 ≤ lp_4.toInt ∧ lp_4.toInt ≤ 16) → ∀ (ls : Array Slot), lv_has ls 5 [(4, .int lp_4), (2, .long x2), (0, .ref (ad 5 0)), (1, .int p0)] → W p l e (headSpec wsX4_isAsSent ({ frames := 1, cells := 0, slots := 0, locals := 22 })).room s m ([.ref (ad 5 0), .int p0] : List Value).toArray below meth c s.heap [] 0 0 (MQ below (vp_Si (fun r : Int32 => (0 ≤ r.toInt ∧ r.toInt ≤ 1))) ([.ref (ad 5 0), .int p0] : List Value).toArray s 0 0 (fun _ => False)) (F0 m 15 ls []) := by
    intro n_lp
    induction n_lp with
    | zero => intro lp_4 hm_lp b_lp_4 ls hl; exact absurd hm_lp (Nat.not_lt_zero _)
    | succ n_lp ih_lp =>
      intro lp_4 hm_lp b_lp_4 ls hl
      refine lv_iload hx hb dX4_isAsSent_15 (lv_at hl 0 rfl) ?_
      refine lv_bipush (v := 16) hx hb dX4_isAsSent_17 (by decide) ?_
      refine fx_icmp_ge (tgt := 64) hx hb dX4_isAsSent_19 (by decide) rfl zk_16 (fun c3 => ?_) (fun c3 => ?_)
      · refine lv_iconst (v := 1) hx hb dX4_isAsSent_64 (by decide) ?_
        exact W.zret (v := 1) hx hb hr rfl (fun t ht hW => ⟨1, rfl, (by decide), ht⟩) (fun _ h => absurd h List.not_mem_nil) dX4_isAsSent_65
      · refine lv_aload_n hx hb dX4_isAsSent_22 rfl (lv_at hl 2 rfl) ?_
        refine fm_getG (a := 5) (j := 10) (T := TX4) (N := 13) hx hb hts hinX4 hown hc hw kl_5 sh_5 rfl (by decide) rfl (hI.to kl_5 tg_5_10) (hts (.fieldLink RX4 37 "RedTent$Radio" "partHeard" "[I") (List.mem_cons_of_mem _ tw_1_73)) (fun _ h9 => h9) dX4_isAsSent_23 ?_
        refine lv_iload_n hx hb dX4_isAsSent_26 rfl (lv_at hl 3 rfl) ?_
        refine fm_iald (a := 14) hx hb hc hw hI kl_14 sh_14 ty_14 bd_14 (by omega) dX4_isAsSent_27 (fun x4 ex4 bx4 => ?_)
        refine lv_iload hx hb dX4_isAsSent_28 (lv_at hl 0 rfl) ?_
        refine lv_ishr hx hb dX4_isAsSent_30 ?_
        refine lv_topi (fun y5 ey5 => ?_)
        refine lv_iconst (v := 1) hx hb dX4_isAsSent_31 (by decide) ?_
        refine fx_iand1 hx hb dX4_isAsSent_32 (fun y6 ey6 by6 => ?_)
        refine fx_if_eq (tgt := 58) hx hb dX4_isAsSent_33 (by decide) rfl (fun c7 => ?_) (fun c7 => ?_)
        · obtain ⟨y8, ey8⟩ : ∃ y : Int32, y = lp_4 + 1 := ⟨_, rfl⟩
          have ty8 : y8.toInt = lp_4.toInt + 1 := by rw [ey8, zi_add _ _ (by rw [zk_1]; omega) (by rw [zk_1]; omega), zk_1]
          refine lv_iinc (v := y8) (lv' := [(4, .int y8), (2, .long x2), (0, .ref (ad 5 0)), (1, .int p0)]) hx hb dX4_isAsSent_58 hl (k := 0) rfl (by rw [ey8]; rfl) (by decide) rfl (fun ls hl => ?_)
          refine lv_goto (tgt := 15) hx hb dX4_isAsSent_61 (by decide) ?_
          exact ih_lp y8 (by omega) (by omega) ls (lv_sub hl [0, 1, 2, 3] rfl)
        · refine lv_aload_n hx hb dX4_isAsSent_36 rfl (lv_at hl 2 rfl) ?_
          refine fm_getG (a := 5) (j := 11) (T := TX4) (N := 13) hx hb hts hinX4 hown hc hw kl_5 sh_5 rfl (by decide) rfl (hI.to kl_5 tg_5_11) (hts (.fieldLink RX4 40 "RedTent$Radio" "partWords" "[J") (List.mem_cons_of_mem _ tw_1_74)) (fun _ h9 => h9) dX4_isAsSent_37 ?_
          refine lv_iload_n hx hb dX4_isAsSent_40 rfl (lv_at hl 3 rfl) ?_
          refine fm_lald (a := 15) hx hb hc hw kl_15 sh_15 ty_15 (by omega) dX4_isAsSent_41 (fun x9 ex9 => ?_)
          refine lv_iload hx hb dX4_isAsSent_42 (lv_at hl 0 rfl) ?_
          refine vp_callSi (va_Run.run (va_runS (As := [.long x9, .int lp_4]) (rest := []) ⟨hx, hb, hml, hown, hts⟩ (fc_X4_digit l x9 lp_4) (va_cwS 2 hts gX4_isAsSent_X4_digit rfl rfl rfl (by decide +kernel) ⟨Nat.le_of_ble_eq_true rfl, Nat.le_of_ble_eq_true rfl⟩) ⟨fun a U g mk q => q, fun U hU hW => ⟨rfl, trivial⟩⟩ rfl rfl hl.1 rfl (lv_room (Nat.le_of_ble_eq_true rfl)) dX4_isAsSent_44 ⟨by decide +kernel, by decide +kernel⟩)) (fun r10 hr10 => ?_)
          refine lv_lload_n hx hb dX4_isAsSent_47 rfl (lv_at hl 1 rfl) ?_
          refine lv_iload hx hb dX4_isAsSent_48 (lv_at hl 0 rfl) ?_
          refine vp_callSi (va_Run.run (va_runS (As := [.long x2, .int lp_4]) (rest := [.int r10]) ⟨hx, hb, hml, hown, hts⟩ (fc_X4_digit l x2 lp_4) (va_cwS 2 hts gX4_isAsSent_X4_digit rfl rfl rfl (by decide +kernel) ⟨Nat.le_of_ble_eq_true rfl, Nat.le_of_ble_eq_true rfl⟩) ⟨fun a U g mk q => q, fun U hU hW => ⟨rfl, trivial⟩⟩ rfl rfl hl.1 rfl (lv_room (Nat.le_of_ble_eq_true rfl)) dX4_isAsSent_50 ⟨by decide +kernel, by decide +kernel⟩)) (fun r11 hr11 => ?_)
          refine fx_icmp_eq (tgt := 58) hx hb dX4_isAsSent_53 (by decide) rfl rfl (fun c12 => ?_) (fun c12 => ?_)
          · obtain ⟨y13, ey13⟩ : ∃ y : Int32, y = lp_4 + 1 := ⟨_, rfl⟩
            have ty13 : y13.toInt = lp_4.toInt + 1 := by rw [ey13, zi_add _ _ (by rw [zk_1]; omega) (by rw [zk_1]; omega), zk_1]
            refine lv_iinc (v := y13) (lv' := [(4, .int y13), (2, .long x2), (0, .ref (ad 5 0)), (1, .int p0)]) hx hb dX4_isAsSent_58 hl (k := 0) rfl (by rw [ey13]; rfl) (by decide) rfl (fun ls hl => ?_)
            refine lv_goto (tgt := 15) hx hb dX4_isAsSent_61 (by decide) ?_
            exact ih_lp y13 (by omega) (by omega) ls (lv_sub hl [0, 1, 2, 3] rfl)
          · refine lv_iconst (v := 0) hx hb dX4_isAsSent_56 (by decide) ?_
            exact W.zret (v := 0) hx hb hr rfl (fun t ht hW => ⟨0, rfl, (by decide), ht⟩) (fun _ h => absurd h List.not_mem_nil) dX4_isAsSent_57
  exact lp _ 0 (Nat.lt_succ_self _) (by decide) ls (lv_sub hl [0, 1, 2, 3] rfl)
set_option maxHeartbeats 400000 in
set_option maxRecDepth 20000 in
theorem fc_X6_addLane (l : Launch) (D : va_G) (ad : Nat → Nat → Nat) (C : Nat → Nat → ClassId) (nb : Nat) (M : fm_M) (hI : fm_I nb ad M) (p0 : Int64) (hf : 0 ≤ (M.1 16 0 1).toInt ∧ (M.1 16 0 1).toInt ≤ 15) : Met l yX6_addLane wsX6_addLane ({ frames := 0, cells := 0, slots := 0, locals := 0 }) (va_Pc [.ref (ad 16 0), .long p0] (fm_P D ad C nb M)) (va_Qi (fun (r : Int32) (u : fm_M) => fm_I nb ad u ∧ fm_same [16001, 17000] M u ∧ (r.toInt = (M.1 16 0 1).toInt ∧ (u.1 16 0 1).toInt = (M.1 16 0 1).toInt + 1)) (fun u t => fm_at D ad C nb u t.heap) (fm_A nb ad)) 0 0 (fm_A nb ad) := by
  refine Met.ofW (cc := cX6_addLane) (maxL := 3) (ret := (some .int)) (by decide) rfl ?_
  intro p e s m args below meth c s₁ B hml hv
  obtain ⟨rfl, hw, hc⟩ := hv
  have hx := B.exec
  have hb := B.bytes
  have hr := B.returns
  have hts := atoms_spec (ws := wsX6_addLane) B.pre
  have hown : s.vm.findClass RX6 = some m.cls := findClass_of_methodNamed B.named
  have hinX6 : ∀ w ∈ u_ws RX6 TX6 7, w ∈ wsX6_addLane := fun w h => List.mem_cons_of_mem _ (iT_X6 w h)
  have hS : va_S (fm_A nb ad) s.heap s.heap [] := va_S.rf
  have hE : fm_same [16001, 17000] M M := fm_same.rf
  have hl := lv_entry ([.ref (ad 16 0), .long p0]) (n := 3) (Nat.le_of_ble_eq_true rfl)
  rw [lg_entry_eq]
  generalize (lg_sl ([.ref (ad 16 0), .long p0]) ++ List.replicate (3 - (lg_sl ([.ref (ad 16 0), .long p0])).length) Slot.unset).toArray = ls at hl ⊢
  have hl : lv_has ls 3 [(0, .ref (ad 16 0)), (1, .long p0)] := hl
  refine lv_aload_n hx hb dX6_addLane_0 rfl (lv_at hl 0 rfl) ?_
  refine fm_getG (a := 16) (j := 0) (T := TX6) (N := 7) hx hb hts hinX6 hown hc hw kl_16 sh_16 rfl (by decide) rfl (hI.to kl_16 tg_16_0) (hts (.fieldLink RX6 9 "RedTent$Search" "lanes" "[J") (List.mem_cons_of_mem _ tw_1_111)) (fun _ h9 => h9) dX6_addLane_1 ?_
  refine lv_aload_n hx hb dX6_addLane_4 rfl (lv_at hl 0 rfl) ?_
  refine fm_getI (a := 16) (j := 1) (T := TX6) (N := 7) hx hb hts hinX6 hown hc hw hI kl_16 sh_16 rfl (by decide) rfl bd_16_1 (hts (.fieldLink RX6 25 "RedTent$Search" "laneCount" "I") (List.mem_cons_of_mem _ tw_1_112)) (fun _ h9 => h9) dX6_addLane_5 (fun x1 ex1 bx1 => ?_)
  have fx1 : 0 ≤ x1.toInt ∧ x1.toInt ≤ 15 := by rw [ex1]; exact hf
  refine lv_lload_n hx hb dX6_addLane_8 rfl (lv_at hl 1 rfl) ?_
  refine fm_last (a := 17) hx hb hc hw hI hE hS kl_17 sh_17 ty_17 (by omega) cd_17 (by decide) dX6_addLane_9 (fun M2 H locs eM2 hw hI hE hS => ?_)
  refine lv_aload_n hx hb dX6_addLane_10 rfl (lv_at hl 0 rfl) ?_
  refine lv_dup hx hb dX6_addLane_11 rfl ?_
  refine fm_getI (a := 16) (j := 1) (T := TX6) (N := 7) hx hb hts hinX6 hown hc hw hI kl_16 sh_16 rfl (by decide) rfl bd_16_1 (hts (.fieldLink RX6 25 "RedTent$Search" "laneCount" "I") (List.mem_cons_of_mem _ tw_1_112)) (fun _ h9 => h9) dX6_addLane_12 (fun x3 ex3 bx3 => ?_)
  obtain rfl : x1 = x3 := by rw [ex3, eM2, fm_wL_1]; exact ex1
  refine lv_dup_x1 hx hb dX6_addLane_15 rfl rfl ?_
  refine lv_iconst (v := 1) hx hb dX6_addLane_16 (by decide) ?_
  refine fx_iadd hx hb dX6_addLane_17 rfl zk_1 (by omega) (fun y4 ey4 ty4 => ?_)
  refine fm_putI (a := 16) (j := 1) (T := TX6) (N := 7) hx hb hts hinX6 tyX6 tyX6_ok nmX6 hown hc hw hI hE hS kl_16 sh_16 od_16 rfl (by decide) rfl bd_16_1 (hts (.fieldLink RX6 25 "RedTent$Search" "laneCount" "I") (List.mem_cons_of_mem _ tw_1_112)) (fun _ h9 => h9) rfl (by decide +kernel) (by omega) (by decide) (by decide) dX6_addLane_18 (fun M5 H locs eM5 hw hI hE hS => ?_)
  have qx1 : x1.toInt = (M.1 16 0 1).toInt := by rw [ex1]
  exact W.iret (v := x1) hx hb hr (fun t ht hW => ⟨⟨x1, M5, rfl, ⟨hI, hE, ⟨by omega, (by first | omega | (rw [eM5, fm_wI_at]; omega))⟩⟩, by show fm_at D ad C nb _ t.heap; rw [ht]; exact hw⟩, hS.F ht⟩) hS.2.2 dX6_addLane_21
set_option maxHeartbeats 400000 in
set_option maxRecDepth 20000 in
theorem fc_X6_weightIn (l : Launch) (D : va_G) (ad : Nat → Nat → Nat) (C : Nat → Nat → ClassId) (nb : Nat) (M : fm_M) (hI : fm_I nb ad M) (kb : Nat) (hkb : kb < nb) (p0 : Int32) : Met l yX6_weightIn wsX6_weightIn ({ frames := 1, cells := 0, slots := 0, locals := 22 }) (va_Pc [.ref (ad 16 0), .ref (ad 50 kb), .int p0, .ref (ad 1 0)] (fm_P D ad C nb M)) (vp_Sl (fun r : Int64 => True)) 0 0 (fun _ => False) := by
  refine Met.ofW (cc := cX6_weightIn) (maxL := 8) (ret := (some .long)) (by decide) rfl ?_
  intro p e s m args below meth c s₁ B hml hv
  obtain ⟨rfl, hw, hc⟩ := hv
  have hx := B.exec
  have hb := B.bytes
  have hr := B.returns
  have hts := atoms_spec (ws := wsX6_weightIn) B.pre
  have hown : s.vm.findClass RX6 = some m.cls := findClass_of_methodNamed B.named
  have hinX0 : ∀ w ∈ u_ws RX0 TX0 15, w ∈ wsX6_weightIn := fun w h => List.mem_cons_of_mem _ (iT_X0 w h)
  have hinX6 : ∀ w ∈ u_ws RX6 TX6 7, w ∈ wsX6_weightIn := fun w h => List.mem_cons_of_mem _ (iT_X6 w h)
  have hS : va_S (fm_A nb ad) s.heap s.heap [] := va_S.rf
  have hl := lv_entry ([.ref (ad 16 0), .ref (ad 50 kb), .int p0, .ref (ad 1 0)]) (n := 8) (Nat.le_of_ble_eq_true rfl)
  rw [lg_entry_eq]
  generalize (lg_sl ([.ref (ad 16 0), .ref (ad 50 kb), .int p0, .ref (ad 1 0)]) ++ List.replicate (8 - (lg_sl ([.ref (ad 16 0), .ref (ad 50 kb), .int p0, .ref (ad 1 0)])).length) Slot.unset).toArray = ls at hl ⊢
  have hl : lv_has ls 8 [(0, .ref (ad 16 0)), (1, .ref (ad 50 kb)), (2, .int p0), (3, .ref (ad 1 0))] := hl
  refine lv_lconst (v := 1) hx hb dX6_weightIn_0 (by decide) ?_
  refine lv_lstore (lv' := [(4, .long 1), (0, .ref (ad 16 0)), (1, .ref (ad 50 kb)), (2, .int p0), (3, .ref (ad 1 0))]) hx hb dX6_weightIn_1 hl (by decide) rfl (fun ls hl => ?_)
  refine lv_iconst (v := 0) hx hb dX6_weightIn_3 (by decide) ?_
  refine lv_istore (lv' := [(6, .int 0), (4, .long 1), (0, .ref (ad 16 0)), (1, .ref (ad 50 kb)), (2, .int p0), (3, .ref (ad 1 0))]) hx hb dX6_weightIn_4 hl (by decide) rfl (fun ls hl => ?_)
  have lp : ∀ (n_lp : Nat) (lp_6 : Int32) (lp_4 : Int64), (6 - lp_6.toInt).toNat < n_lp → (0 ≤ lp_6.toInt ∧ lp_6.toInt ≤ 6) → ∀ (ls : Array Slot), lv_has ls 8 [(6, .int lp_6), (4, .long lp_4), (0, .ref (ad 16 0)), (1, .ref (ad 50 kb)), (2, .int p0), (3, .ref (ad 1 0))] → W p l e (headSpec wsX6_weightIn ({ frames := 1, cells := 0, slots := 0, locals := 22 })).room s m ([.ref (ad 16 0), .ref (ad 50 kb), .int p0, .ref (ad 1 0)] : List Value).toArray below meth c s.heap [] 0 0 (MQ below (vp_Sl (fun r : Int64 => True)) ([.ref (ad 16 0), .ref (ad 50 kb), .int p0, .ref (ad 1 0)] : List Value).toArray s 0 0 (fun _ => False)) (F0 m 6 ls []) := by
    intro n_lp
    induction n_lp with
    | zero => intro lp_6 lp_4 hm_lp b_lp_6 ls hl; exact absurd hm_lp (Nat.not_lt_zero _)
    | succ n_lp ih_lp =>
      intro lp_6 lp_4 hm_lp b_lp_6 ls hl
      refine lv_iload hx hb dX6_weightIn_6 (lv_at hl 0 rfl) ?_
      refine lv_aload_n hx hb dX6_weightIn_8 rfl (lv_at hl 3 rfl) ?_
      refine fm_getI (a := 50) (j := 12) (T := TX0) (N := 15) hx hb hts hinX0 hown hc hw hI (kl_50 hkb) sh_50 rfl (by decide) rfl bd_50_12 (hts (.fieldLink RX6 41 "RedTent$Body" "flownCount" "I") (List.mem_cons_of_mem _ tw_2_223)) (fun _ h9 => h9) dX6_weightIn_9 (fun x1 ex1 bx1 => ?_)
      refine fx_icmp_ge (tgt := 67) hx hb dX6_weightIn_12 (by decide) rfl rfl (fun c2 => ?_) (fun c2 => ?_)
      · refine lv_lload hx hb dX6_weightIn_67 (lv_at hl 1 rfl) ?_
        exact W.lret (v := lp_4) hx hb hr (fun t ht hW => ⟨lp_4, rfl, trivial, ht⟩) (fun _ h => absurd h List.not_mem_nil) dX6_weightIn_69
      · refine lv_aload_n hx hb dX6_weightIn_15 rfl (lv_at hl 2 rfl) ?_
        refine fm_getG (a := 16) (j := 0) (T := TX6) (N := 7) hx hb hts hinX6 hown hc hw kl_16 sh_16 rfl (by decide) rfl (hI.to kl_16 tg_16_0) (hts (.fieldLink RX6 9 "RedTent$Search" "lanes" "[J") (List.mem_cons_of_mem _ tw_1_111)) (fun _ h9 => h9) dX6_weightIn_16 ?_
        refine lv_aload_n hx hb dX6_weightIn_19 rfl (lv_at hl 3 rfl) ?_
        refine fm_getG (a := 50) (j := 10) (T := TX0) (N := 15) hx hb hts hinX0 hown hc hw (kl_50 hkb) sh_50 rfl (by decide) rfl (hI.to (kl_50 hkb) tg_50_10) (hts (.fieldLink RX6 46 "RedTent$Body" "flownLane" "[I") (List.mem_cons_of_mem _ tw_2_220)) (fun _ h9 => h9) dX6_weightIn_20 ?_
        refine lv_iload hx hb dX6_weightIn_23 (lv_at hl 0 rfl) ?_
        refine fm_iald (a := 54) hx hb hc hw hI (kl_54 hkb) sh_54 ty_54 bd_54 (by omega) dX6_weightIn_25 (fun x3 ex3 bx3 => ?_)
        refine fm_lald (a := 17) hx hb hc hw kl_17 sh_17 ty_17 (by omega) dX6_weightIn_26 (fun x4 ex4 => ?_)
        refine lv_iload_n hx hb dX6_weightIn_27 rfl (lv_at hl 4 rfl) ?_
        refine vp_callSi (va_Run.run (va_runSN (As := [.long x4, .int p0]) (rest := []) ⟨hx, hb, hml, hown, hts⟩ (fc_X11_has l x4 p0) ⟨va_cnB 2 hts gX6_weightIn_X11_has_n33 rfl rfl rfl hc.2.2.1.2.2.2.2.2.2.2.2.2.2.2.2.2.1 (hts (.initialized RX11) (List.mem_cons_of_mem _ tw_1_1)) (by decide +kernel) ⟨Nat.le_of_ble_eq_true rfl, Nat.le_of_ble_eq_true rfl⟩, (hts (.static yX11_has) (List.mem_cons_of_mem _ tw_3_126)), trivial⟩ ⟨fun a U g mk q => q, fun U hU hW => ⟨rfl, trivial⟩⟩ rfl rfl hl.1 rfl (lv_room (Nat.le_of_ble_eq_true rfl)) dX6_weightIn_28 ⟨by decide +kernel, by decide +kernel⟩)) (fun r5 hr5 => ?_)
        rcases hr5 with ⟨rfl, c6⟩ | ⟨rfl, c6⟩
        · refine lv_istore (lv' := [(7, .int 1), (6, .int lp_6), (4, .long lp_4), (0, .ref (ad 16 0)), (1, .ref (ad 50 kb)), (2, .int p0), (3, .ref (ad 1 0))]) hx hb dX6_weightIn_31 hl (by decide) rfl (fun ls hl => ?_)
          refine lv_lload hx hb dX6_weightIn_33 (lv_at hl 2 rfl) ?_
          refine lv_iload hx hb dX6_weightIn_35 (lv_at hl 0 rfl) ?_
          refine fx_if_eq (tgt := 55) hx hb dX6_weightIn_37 (by decide) zk_1 (fun c7 => by exfalso; omega) (fun c7 => ?_)
          refine lv_aload_n hx hb dX6_weightIn_40 rfl (lv_at hl 6 rfl) ?_
          refine lv_aload_n hx hb dX6_weightIn_41 rfl (lv_at hl 4 rfl) ?_
          refine fm_getG (a := 50) (j := 11) (T := TX0) (N := 15) hx hb hts hinX0 hown hc hw (kl_50 hkb) sh_50 rfl (by decide) rfl (hI.to (kl_50 hkb) tg_50_11) (hts (.fieldLink RX6 49 "RedTent$Body" "flownHour" "[I") (List.mem_cons_of_mem _ tw_2_222)) (fun _ h9 => h9) dX6_weightIn_42 ?_
          refine lv_iload hx hb dX6_weightIn_45 (lv_at hl 1 rfl) ?_
          refine fm_iald (a := 55) hx hb hc hw hI (kl_55 hkb) sh_55 ty_55 bd_55 (by omega) dX6_weightIn_47 (fun x8 ex8 bx8 => ?_)
          refine vp_callSi (va_Run.run (va_runV (As := [.int x8]) (rest := [.long lp_4]) ⟨hx, hb, hml, hown, hts⟩ (fc_X10_fogAt l D ad C nb M hI x8) (cwV 1 hts gX6_weightIn_X10_fogAt rfl rfl rfl (by decide +kernel) ⟨Nat.le_of_ble_eq_true rfl, Nat.le_of_ble_eq_true rfl⟩) (fm_preV hc hw hS kl_1 sh_1 rfl) rfl rfl hl.1 rfl (lv_room (Nat.le_of_ble_eq_true rfl)) dX6_weightIn_48 ⟨by decide +kernel, by decide +kernel⟩)) (fun r9 hr9 => ?_)
          refine fx_i2l hx hb dX6_weightIn_51 rfl (fun y10 ey10 ty10 => ?_)
          refine lv_goto (tgt := 58) hx hb dX6_weightIn_52 (by decide) ?_
          refine lv_lmul hx hb dX6_weightIn_58 ?_
          refine lv_topl (fun y11 ey11 => ?_)
          refine lv_lstore (lv' := [(4, .long y11), (7, .int 1), (6, .int lp_6), (0, .ref (ad 16 0)), (1, .ref (ad 50 kb)), (2, .int p0), (3, .ref (ad 1 0))]) hx hb dX6_weightIn_59 hl (by decide) rfl (fun ls hl => ?_)
          obtain ⟨y12, ey12⟩ : ∃ y : Int32, y = lp_6 + 1 := ⟨_, rfl⟩
          have ty12 : y12.toInt = lp_6.toInt + 1 := by rw [ey12, zi_add _ _ (by rw [zk_1]; omega) (by rw [zk_1]; omega), zk_1]
          refine lv_iinc (v := y12) (lv' := [(6, .int y12), (4, .long y11), (7, .int 1), (0, .ref (ad 16 0)), (1, .ref (ad 50 kb)), (2, .int p0), (3, .ref (ad 1 0))]) hx hb dX6_weightIn_61 hl (k := 2) rfl (by rw [ey12]; rfl) (by decide) rfl (fun ls hl => ?_)
          refine lv_goto (tgt := 6) hx hb dX6_weightIn_64 (by decide) ?_
          exact ih_lp y12 y11 (by omega) (by omega) ls (lv_sub hl [0, 1, 3, 4, 5, 6] rfl)
        · refine lv_istore (lv' := [(7, .int 0), (6, .int lp_6), (4, .long lp_4), (0, .ref (ad 16 0)), (1, .ref (ad 50 kb)), (2, .int p0), (3, .ref (ad 1 0))]) hx hb dX6_weightIn_31 hl (by decide) rfl (fun ls hl => ?_)
          refine lv_lload hx hb dX6_weightIn_33 (lv_at hl 2 rfl) ?_
          refine lv_iload hx hb dX6_weightIn_35 (lv_at hl 0 rfl) ?_
          refine fx_if_eq (tgt := 55) hx hb dX6_weightIn_37 (by decide) zk_0 (fun c13 => ?_) (fun c13 => by exfalso; omega)
          refine lv_ldc2 (v := 16) hx hb hown (hts (.constantLong RX6 58 (16)) (List.mem_cons_of_mem _ tw_3_201)) dX6_weightIn_55 ?_
          refine lv_lmul hx hb dX6_weightIn_58 ?_
          refine lv_topl (fun y14 ey14 => ?_)
          refine lv_lstore (lv' := [(4, .long y14), (7, .int 0), (6, .int lp_6), (0, .ref (ad 16 0)), (1, .ref (ad 50 kb)), (2, .int p0), (3, .ref (ad 1 0))]) hx hb dX6_weightIn_59 hl (by decide) rfl (fun ls hl => ?_)
          obtain ⟨y15, ey15⟩ : ∃ y : Int32, y = lp_6 + 1 := ⟨_, rfl⟩
          have ty15 : y15.toInt = lp_6.toInt + 1 := by rw [ey15, zi_add _ _ (by rw [zk_1]; omega) (by rw [zk_1]; omega), zk_1]
          refine lv_iinc (v := y15) (lv' := [(6, .int y15), (4, .long y14), (7, .int 0), (0, .ref (ad 16 0)), (1, .ref (ad 50 kb)), (2, .int p0), (3, .ref (ad 1 0))]) hx hb dX6_weightIn_61 hl (k := 2) rfl (by rw [ey15]; rfl) (by decide) rfl (fun ls hl => ?_)
          refine lv_goto (tgt := 6) hx hb dX6_weightIn_64 (by decide) ?_
          exact ih_lp y15 y14 (by omega) (by omega) ls (lv_sub hl [0, 1, 3, 4, 5, 6] rfl)
  exact lp _ 0 1 (Nat.lt_succ_self _) (by decide) ls (lv_sub hl [0, 1, 2, 3, 4, 5] rfl)
set_option maxHeartbeats 400000 in
set_option maxRecDepth 20000 in
theorem fc_X6_weigh (l : Launch) (D : va_G) (ad : Nat → Nat → Nat) (C : Nat → Nat → ClassId) (nb : Nat) (M : fm_M) (hI : fm_I nb ad M) (kb : Nat) (hkb : kb < nb) (p0 : Int64) : Met l yX6_weigh wsX6_weigh ({ frames := 2, cells := 0, slots := 0, locals := 49 }) (va_Pc [.ref (ad 16 0), .ref (ad 50 kb), .long p0, .ref (ad 1 0)] (fm_P D ad C nb M)) (va_Qv (fun (u : fm_M) => fm_I nb ad u ∧ fm_same [16003, 18000] M u ∧ True) (fun u t => fm_at D ad C nb u t.heap) (fm_A nb ad)) 0 0 (fm_A nb ad) := by
  refine Met.ofW (cc := cX6_weigh) (maxL := 6) (ret := none) (by decide) rfl ?_
  intro p e s m args below meth c s₁ B hml hv
  obtain ⟨rfl, hw, hc⟩ := hv
  have hx := B.exec
  have hb := B.bytes
  have hr := B.returns
  have hts := atoms_spec (ws := wsX6_weigh) B.pre
  have hown : s.vm.findClass RX6 = some m.cls := findClass_of_methodNamed B.named
  have hinX6 : ∀ w ∈ u_ws RX6 TX6 7, w ∈ wsX6_weigh := fun w h => List.mem_cons_of_mem _ (iT_X6 w h)
  have hS : va_S (fm_A nb ad) s.heap s.heap [] := va_S.rf
  have hE : fm_same [16003, 18000] M M := fm_same.rf
  have hl := lv_entry ([.ref (ad 16 0), .ref (ad 50 kb), .long p0, .ref (ad 1 0)]) (n := 6) (Nat.le_of_ble_eq_true rfl)
  rw [lg_entry_eq]
  generalize (lg_sl ([.ref (ad 16 0), .ref (ad 50 kb), .long p0, .ref (ad 1 0)]) ++ List.replicate (6 - (lg_sl ([.ref (ad 16 0), .ref (ad 50 kb), .long p0, .ref (ad 1 0)])).length) Slot.unset).toArray = ls at hl ⊢
  have hl : lv_has ls 6 [(0, .ref (ad 16 0)), (1, .ref (ad 50 kb)), (2, .long p0), (4, .ref (ad 1 0))] := hl
  refine lv_aload_n hx hb dX6_weigh_0 rfl (lv_at hl 0 rfl) ?_
  refine lv_lconst (v := 0) hx hb dX6_weigh_1 (by decide) ?_
  refine fm_putL (a := 16) (j := 3) (T := TX6) (N := 7) hx hb hts hinX6 tyX6 tyX6_ok nmX6 hown hc hw hI hE hS kl_16 sh_16 od_16 rfl (by decide) rfl (hts (.fieldLink RX6 29 "RedTent$Search" "allWeight" "J") (List.mem_cons_of_mem _ tw_1_115)) (fun _ h9 => h9) rfl (by decide +kernel) (by decide) dX6_weigh_2 (fun M1 H locs eM1 hw hI hE hS => ?_)
  refine lv_iconst (v := 0) hx hb dX6_weigh_5 (by decide) ?_
  refine lv_istore (lv' := [(5, .int 0), (0, .ref (ad 16 0)), (1, .ref (ad 50 kb)), (2, .long p0), (4, .ref (ad 1 0))]) hx hb dX6_weigh_6 hl (by decide) rfl (fun ls hl => ?_)
  have lp : ∀ (n_lp : Nat) (lp_5 : Int32) (M_lp : fm_M), (64 - lp_5.toInt).toNat < n_lp → (0 ≤ lp_5.toInt ∧ lp_5.toInt ≤ 64) → fm_I nb ad M_lp → fm_same [16003, 18000] M M_lp → ∀ (H : Heap) (locs : List Loc), fm_at D ad C nb M_lp H → va_S (fm_A nb ad) s.heap H locs → ∀ (ls : Array Slot), lv_has ls 6 [(5, .int lp_5), (0, .ref (ad 16 0)), (1, .ref (ad 50 kb)), (2, .long p0), (4, .ref (ad 1 0))] → W p l e (headSpec wsX6_weigh ({ frames := 2, cells := 0, slots := 0, locals := 49 })).room s m ([.ref (ad 16 0), .ref (ad 50 kb), .long p0, .ref (ad 1 0)] : List Value).toArray below meth c H locs 0 0 (MQ below (va_Qv (fun (u : fm_M) => fm_I nb ad u ∧ fm_same [16003, 18000] M u ∧ True) (fun u t => fm_at D ad C nb u t.heap) (fm_A nb ad)) ([.ref (ad 16 0), .ref (ad 50 kb), .long p0, .ref (ad 1 0)] : List Value).toArray s 0 0 (fm_A nb ad)) (F0 m 8 ls []) := by
    intro n_lp
    induction n_lp with
    | zero => intro lp_5 M_lp hm_lp b_lp_5 hI hE H locs hw hS ls hl; exact absurd hm_lp (Nat.not_lt_zero _)
    | succ n_lp ih_lp =>
      intro lp_5 M_lp hm_lp b_lp_5 hI hE H locs hw hS ls hl
      refine lv_iload hx hb dX6_weigh_8 (lv_at hl 0 rfl) ?_
      refine lv_bipush (v := 64) hx hb dX6_weigh_10 (by decide) ?_
      refine fx_icmp_ge (tgt := 66) hx hb dX6_weigh_12 (by decide) rfl zk_64 (fun c2 => ?_) (fun c2 => ?_)
      · exact W.vret hx hb hr (fun t ht hW => ⟨⟨M_lp, rfl, ⟨hI, hE, trivial⟩, by show fm_at D ad C nb _ t.heap; rw [ht]; exact hw⟩, hS.F ht⟩) hS.2.2 dX6_weigh_66
      · refine lv_aload_n hx hb dX6_weigh_15 rfl (lv_at hl 1 rfl) ?_
        refine fm_getG (a := 16) (j := 2) (T := TX6) (N := 7) hx hb hts hinX6 hown hc hw kl_16 sh_16 rfl (by decide) rfl (hI.to kl_16 tg_16_2) (hts (.fieldLink RX6 15 "RedTent$Search" "weights" "[J") (List.mem_cons_of_mem _ tw_1_114)) (fun _ h9 => h9) dX6_weigh_16 ?_
        refine lv_iload hx hb dX6_weigh_19 (lv_at hl 0 rfl) ?_
        refine lv_lload_n hx hb dX6_weigh_21 rfl (lv_at hl 3 rfl) ?_
        refine lv_iload hx hb dX6_weigh_22 (lv_at hl 0 rfl) ?_
        refine vp_callSi (va_Run.run (va_runSN (As := [.long p0, .int lp_5]) (rest := [.int lp_5, .ref (ad 18 0)]) ⟨hx, hb, hml, hown, hts⟩ (fc_X11_has l p0 lp_5) ⟨va_cnB 2 hts gX6_weigh_X11_has_n33 rfl rfl rfl hc.2.2.1.2.2.2.2.2.2.2.2.2.2.2.2.2.1 (hts (.initialized RX11) (List.mem_cons_of_mem _ tw_1_1)) (by decide +kernel) ⟨Nat.le_of_ble_eq_true rfl, Nat.le_of_ble_eq_true rfl⟩, (hts (.static yX11_has) (List.mem_cons_of_mem _ tw_3_126)), trivial⟩ ⟨fun a U g mk q => q, fun U hU hW => ⟨rfl, trivial⟩⟩ rfl rfl hl.1 rfl (lv_room (Nat.le_of_ble_eq_true rfl)) dX6_weigh_24 ⟨by decide +kernel, by decide +kernel⟩)) (fun r3 hr3 => ?_)
        rcases hr3 with ⟨rfl, c4⟩ | ⟨rfl, c4⟩
        · refine fx_if_eq (tgt := 42) hx hb dX6_weigh_27 (by decide) zk_1 (fun c5 => by exfalso; omega) (fun c5 => ?_)
          refine lv_aload_n hx hb dX6_weigh_30 rfl (lv_at hl 1 rfl) ?_
          refine lv_aload_n hx hb dX6_weigh_31 rfl (lv_at hl 2 rfl) ?_
          refine lv_iload hx hb dX6_weigh_32 (lv_at hl 0 rfl) ?_
          refine lv_aload hx hb dX6_weigh_34 (lv_at hl 4 rfl) ?_
          refine vp_callSl (va_Run.run (va_runV (As := [.ref (ad 50 kb), .int lp_5, .ref (ad 1 0)]) (rest := [.int lp_5, .ref (ad 18 0)]) ⟨hx, hb, hml, hown, hts⟩ (fc_X6_weightIn l D ad C nb M_lp hI kb hkb lp_5) (cwV 3 hts gX6_weigh_X6_weightIn rfl rfl rfl (by decide +kernel) ⟨Nat.le_of_ble_eq_true rfl, Nat.le_of_ble_eq_true rfl⟩) (fm_preV hc hw hS kl_16 sh_16 rfl) rfl rfl hl.1 rfl (lv_room (Nat.le_of_ble_eq_true rfl)) dX6_weigh_36 ⟨by decide +kernel, by decide +kernel⟩)) (fun r6 hr6 => ?_)
          refine lv_goto (tgt := 43) hx hb dX6_weigh_39 (by decide) ?_
          refine fm_last (a := 18) hx hb hc hw hI hE hS kl_18 sh_18 ty_18 (by omega) cd_18 (by decide) dX6_weigh_43 (fun M7 H locs eM7 hw hI hE hS => ?_)
          refine lv_aload_n hx hb dX6_weigh_44 rfl (lv_at hl 1 rfl) ?_
          refine lv_dup hx hb dX6_weigh_45 rfl ?_
          refine fm_getL (a := 16) (j := 3) (T := TX6) (N := 7) hx hb hts hinX6 hown hc hw kl_16 sh_16 rfl (by decide) rfl (hts (.fieldLink RX6 29 "RedTent$Search" "allWeight" "J") (List.mem_cons_of_mem _ tw_1_115)) (fun _ h9 => h9) dX6_weigh_46 (fun x8 ex8 => ?_)
          refine lv_aload_n hx hb dX6_weigh_49 rfl (lv_at hl 1 rfl) ?_
          refine fm_getG (a := 16) (j := 2) (T := TX6) (N := 7) hx hb hts hinX6 hown hc hw kl_16 sh_16 rfl (by decide) rfl (hI.to kl_16 tg_16_2) (hts (.fieldLink RX6 15 "RedTent$Search" "weights" "[J") (List.mem_cons_of_mem _ tw_1_114)) (fun _ h9 => h9) dX6_weigh_50 ?_
          refine lv_iload hx hb dX6_weigh_53 (lv_at hl 0 rfl) ?_
          refine fm_lald (a := 18) hx hb hc hw kl_18 sh_18 ty_18 (by omega) dX6_weigh_55 (fun x9 ex9 => ?_)
          refine lv_ladd hx hb dX6_weigh_56 ?_
          refine lv_topl (fun y10 ey10 => ?_)
          refine fm_putL (a := 16) (j := 3) (T := TX6) (N := 7) hx hb hts hinX6 tyX6 tyX6_ok nmX6 hown hc hw hI hE hS kl_16 sh_16 od_16 rfl (by decide) rfl (hts (.fieldLink RX6 29 "RedTent$Search" "allWeight" "J") (List.mem_cons_of_mem _ tw_1_115)) (fun _ h9 => h9) rfl (by decide +kernel) (by decide) dX6_weigh_57 (fun M11 H locs eM11 hw hI hE hS => ?_)
          obtain ⟨y12, ey12⟩ : ∃ y : Int32, y = lp_5 + 1 := ⟨_, rfl⟩
          have ty12 : y12.toInt = lp_5.toInt + 1 := by rw [ey12, zi_add _ _ (by rw [zk_1]; omega) (by rw [zk_1]; omega), zk_1]
          refine lv_iinc (v := y12) (lv' := [(5, .int y12), (0, .ref (ad 16 0)), (1, .ref (ad 50 kb)), (2, .long p0), (4, .ref (ad 1 0))]) hx hb dX6_weigh_60 hl (k := 0) rfl (by rw [ey12]; rfl) (by decide) rfl (fun ls hl => ?_)
          refine lv_goto (tgt := 8) hx hb dX6_weigh_63 (by decide) ?_
          exact ih_lp y12 M11 (by omega) (by omega) hI hE _ _ hw hS ls (lv_sub hl [0, 1, 2, 3, 4] rfl)
        · refine fx_if_eq (tgt := 42) hx hb dX6_weigh_27 (by decide) zk_0 (fun c13 => ?_) (fun c13 => by exfalso; omega)
          refine lv_lconst (v := 0) hx hb dX6_weigh_42 (by decide) ?_
          refine fm_last (a := 18) hx hb hc hw hI hE hS kl_18 sh_18 ty_18 (by omega) cd_18 (by decide) dX6_weigh_43 (fun M14 H locs eM14 hw hI hE hS => ?_)
          refine lv_aload_n hx hb dX6_weigh_44 rfl (lv_at hl 1 rfl) ?_
          refine lv_dup hx hb dX6_weigh_45 rfl ?_
          refine fm_getL (a := 16) (j := 3) (T := TX6) (N := 7) hx hb hts hinX6 hown hc hw kl_16 sh_16 rfl (by decide) rfl (hts (.fieldLink RX6 29 "RedTent$Search" "allWeight" "J") (List.mem_cons_of_mem _ tw_1_115)) (fun _ h9 => h9) dX6_weigh_46 (fun x15 ex15 => ?_)
          refine lv_aload_n hx hb dX6_weigh_49 rfl (lv_at hl 1 rfl) ?_
          refine fm_getG (a := 16) (j := 2) (T := TX6) (N := 7) hx hb hts hinX6 hown hc hw kl_16 sh_16 rfl (by decide) rfl (hI.to kl_16 tg_16_2) (hts (.fieldLink RX6 15 "RedTent$Search" "weights" "[J") (List.mem_cons_of_mem _ tw_1_114)) (fun _ h9 => h9) dX6_weigh_50 ?_
          refine lv_iload hx hb dX6_weigh_53 (lv_at hl 0 rfl) ?_
          refine fm_lald (a := 18) hx hb hc hw kl_18 sh_18 ty_18 (by omega) dX6_weigh_55 (fun x16 ex16 => ?_)
          refine lv_ladd hx hb dX6_weigh_56 ?_
          refine lv_topl (fun y17 ey17 => ?_)
          refine fm_putL (a := 16) (j := 3) (T := TX6) (N := 7) hx hb hts hinX6 tyX6 tyX6_ok nmX6 hown hc hw hI hE hS kl_16 sh_16 od_16 rfl (by decide) rfl (hts (.fieldLink RX6 29 "RedTent$Search" "allWeight" "J") (List.mem_cons_of_mem _ tw_1_115)) (fun _ h9 => h9) rfl (by decide +kernel) (by decide) dX6_weigh_57 (fun M18 H locs eM18 hw hI hE hS => ?_)
          obtain ⟨y19, ey19⟩ : ∃ y : Int32, y = lp_5 + 1 := ⟨_, rfl⟩
          have ty19 : y19.toInt = lp_5.toInt + 1 := by rw [ey19, zi_add _ _ (by rw [zk_1]; omega) (by rw [zk_1]; omega), zk_1]
          refine lv_iinc (v := y19) (lv' := [(5, .int y19), (0, .ref (ad 16 0)), (1, .ref (ad 50 kb)), (2, .long p0), (4, .ref (ad 1 0))]) hx hb dX6_weigh_60 hl (k := 0) rfl (by rw [ey19]; rfl) (by decide) rfl (fun ls hl => ?_)
          refine lv_goto (tgt := 8) hx hb dX6_weigh_63 (by decide) ?_
          exact ih_lp y19 M18 (by omega) (by omega) hI hE _ _ hw hS ls (lv_sub hl [0, 1, 2, 3, 4] rfl)
  exact lp _ 0 M1 (Nat.lt_succ_self _) (by decide) hI hE _ _ hw hS ls (lv_sub hl [0, 1, 2, 3, 4] rfl)
set_option maxHeartbeats 400000 in
set_option maxRecDepth 20000 in
theorem fc_X6_shareOf (l : Launch) (D : va_G) (ad : Nat → Nat → Nat) (C : Nat → Nat → ClassId) (nb : Nat) (M : fm_M) (hI : fm_I nb ad M) (p0 p1 : Int32) (b_p0 : 0 ≤ p0.toInt ∧ p0.toInt ≤ 63) : Met l yX6_shareOf wsX6_shareOf ({ frames := 1, cells := 0, slots := 0, locals := 30 }) (va_Pc [.ref (ad 16 0), .int p0, .int p1] (fm_P D ad C nb M)) (vp_Sl (fun r : Int64 => True)) 0 0 (fun _ => False) := by
  refine Met.ofW (cc := cX6_shareOf) (maxL := 5) (ret := (some .long)) (by decide) rfl ?_
  intro p e s m args below meth c s₁ B hml hv
  obtain ⟨rfl, hw, hc⟩ := hv
  have hx := B.exec
  have hb := B.bytes
  have hr := B.returns
  have hts := atoms_spec (ws := wsX6_shareOf) B.pre
  have hown : s.vm.findClass RX6 = some m.cls := findClass_of_methodNamed B.named
  have hinX6 : ∀ w ∈ u_ws RX6 TX6 7, w ∈ wsX6_shareOf := fun w h => List.mem_cons_of_mem _ (iT_X6 w h)
  have hS : va_S (fm_A nb ad) s.heap s.heap [] := va_S.rf
  have hl := lv_entry ([.ref (ad 16 0), .int p0, .int p1]) (n := 5) (Nat.le_of_ble_eq_true rfl)
  rw [lg_entry_eq]
  generalize (lg_sl ([.ref (ad 16 0), .int p0, .int p1]) ++ List.replicate (5 - (lg_sl ([.ref (ad 16 0), .int p0, .int p1])).length) Slot.unset).toArray = ls at hl ⊢
  have hl : lv_has ls 5 [(0, .ref (ad 16 0)), (1, .int p0), (2, .int p1)] := hl
  refine lv_aload_n hx hb dX6_shareOf_0 rfl (lv_at hl 0 rfl) ?_
  refine fm_getG (a := 16) (j := 2) (T := TX6) (N := 7) hx hb hts hinX6 hown hc hw kl_16 sh_16 rfl (by decide) rfl (hI.to kl_16 tg_16_2) (hts (.fieldLink RX6 15 "RedTent$Search" "weights" "[J") (List.mem_cons_of_mem _ tw_1_114)) (fun _ h9 => h9) dX6_shareOf_1 ?_
  refine lv_iload_n hx hb dX6_shareOf_4 rfl (lv_at hl 1 rfl) ?_
  refine fm_lald (a := 18) hx hb hc hw kl_18 sh_18 ty_18 (by omega) dX6_shareOf_5 (fun x1 ex1 => ?_)
  refine lv_lconst (v := 0) hx hb dX6_shareOf_6 (by decide) ?_
  refine W.lcmp hx hb dX6_shareOf_7 ?_
  refine fx_lif_eq (tgt := 20) hx hb dX6_shareOf_8 (by decide) (fun c2 => ?_) (fun c2 => ?_)
  · refine lv_iload_n hx hb dX6_shareOf_20 rfl (lv_at hl 2 rfl) ?_
    refine fx_i2l hx hb dX6_shareOf_21 rfl (fun y3 ey3 ty3 => ?_)
    exact W.lret (v := y3) hx hb hr (fun t ht hW => ⟨y3, rfl, trivial, ht⟩) (fun _ h => absurd h List.not_mem_nil) dX6_shareOf_22
  · refine lv_aload_n hx hb dX6_shareOf_11 rfl (lv_at hl 0 rfl) ?_
    refine fm_getL (a := 16) (j := 3) (T := TX6) (N := 7) hx hb hts hinX6 hown hc hw kl_16 sh_16 rfl (by decide) rfl (hts (.fieldLink RX6 29 "RedTent$Search" "allWeight" "J") (List.mem_cons_of_mem _ tw_1_115)) (fun _ h9 => h9) dX6_shareOf_12 (fun x4 ex4 => ?_)
    refine lv_lconst (v := 0) hx hb dX6_shareOf_15 (by decide) ?_
    refine W.lcmp hx hb dX6_shareOf_16 ?_
    refine fx_lif_ne (tgt := 23) hx hb dX6_shareOf_17 (by decide) (fun c5 => ?_) (fun c5 => ?_)
    · refine lv_aload_n hx hb dX6_shareOf_23 rfl (lv_at hl 0 rfl) ?_
      refine fm_getL (a := 16) (j := 3) (T := TX6) (N := 7) hx hb hts hinX6 hown hc hw kl_16 sh_16 rfl (by decide) rfl (hts (.fieldLink RX6 29 "RedTent$Search" "allWeight" "J") (List.mem_cons_of_mem _ tw_1_115)) (fun _ h9 => h9) dX6_shareOf_24 (fun x6 ex6 => ?_)
      obtain rfl : x4 = x6 := by rw [ex6]; exact ex4
      refine lv_aload_n hx hb dX6_shareOf_27 rfl (lv_at hl 0 rfl) ?_
      refine fm_getG (a := 16) (j := 2) (T := TX6) (N := 7) hx hb hts hinX6 hown hc hw kl_16 sh_16 rfl (by decide) rfl (hI.to kl_16 tg_16_2) (hts (.fieldLink RX6 15 "RedTent$Search" "weights" "[J") (List.mem_cons_of_mem _ tw_1_114)) (fun _ h9 => h9) dX6_shareOf_28 ?_
      refine lv_iload_n hx hb dX6_shareOf_31 rfl (lv_at hl 1 rfl) ?_
      refine fm_lald (a := 18) hx hb hc hw kl_18 sh_18 ty_18 (by omega) dX6_shareOf_32 (fun x7 ex7 => ?_)
      obtain rfl : x1 = x7 := by rw [ex7]; exact ex1
      refine vp_callSl (va_Run.run (va_runS (As := [.long x4, .long x1]) (rest := []) ⟨hx, hb, hml, hown, hts⟩ (fc_X6_commonDivisor l x4 x1) (va_cwS 2 hts gX6_shareOf_X6_commonDivisor rfl rfl rfl (by decide +kernel) ⟨Nat.le_of_ble_eq_true rfl, Nat.le_of_ble_eq_true rfl⟩) ⟨fun a U g mk q => q, fun U hU hW => ⟨rfl, trivial⟩⟩ rfl rfl hl.1 rfl (lv_room (Nat.le_of_ble_eq_true rfl)) dX6_shareOf_33 ⟨by decide +kernel, by decide +kernel⟩)) (fun r8 hr8 => ?_)
      refine lv_lstore_n (lv' := [(3, .long r8), (0, .ref (ad 16 0)), (1, .int p0), (2, .int p1)]) hx hb dX6_shareOf_36 rfl hl (by decide) rfl (fun ls hl => ?_)
      refine lv_iload_n hx hb dX6_shareOf_37 rfl (lv_at hl 3 rfl) ?_
      refine fx_if_ne (tgt := 50) hx hb dX6_shareOf_38 (by decide) rfl (fun c9 => ?_) (fun c9 => ?_)
      · refine lv_aload_n hx hb dX6_shareOf_50 rfl (lv_at hl 1 rfl) ?_
        refine fm_getL (a := 16) (j := 3) (T := TX6) (N := 7) hx hb hts hinX6 hown hc hw kl_16 sh_16 rfl (by decide) rfl (hts (.fieldLink RX6 29 "RedTent$Search" "allWeight" "J") (List.mem_cons_of_mem _ tw_1_115)) (fun _ h9 => h9) dX6_shareOf_51 (fun x10 ex10 => ?_)
        obtain rfl : x4 = x10 := by rw [ex10]; exact ex4
        refine lv_lload_n hx hb dX6_shareOf_54 rfl (lv_at hl 0 rfl) ?_
        refine lv_ldiv hx hb dX6_shareOf_55 (by assumption) ?_
        refine lv_topl (fun y11 ey11 => ?_)
        exact W.lret (v := y11) hx hb hr (fun t ht hW => ⟨y11, rfl, trivial, ht⟩) (fun _ h => absurd h List.not_mem_nil) dX6_shareOf_56
      · refine lv_aload_n hx hb dX6_shareOf_41 rfl (lv_at hl 1 rfl) ?_
        refine fm_getG (a := 16) (j := 2) (T := TX6) (N := 7) hx hb hts hinX6 hown hc hw kl_16 sh_16 rfl (by decide) rfl (hI.to kl_16 tg_16_2) (hts (.fieldLink RX6 15 "RedTent$Search" "weights" "[J") (List.mem_cons_of_mem _ tw_1_114)) (fun _ h9 => h9) dX6_shareOf_42 ?_
        refine lv_iload_n hx hb dX6_shareOf_45 rfl (lv_at hl 2 rfl) ?_
        refine fm_lald (a := 18) hx hb hc hw kl_18 sh_18 ty_18 (by omega) dX6_shareOf_46 (fun x12 ex12 => ?_)
        obtain rfl : x1 = x12 := by rw [ex12]; exact ex1
        refine lv_goto (tgt := 54) hx hb dX6_shareOf_47 (by decide) ?_
        refine lv_lload_n hx hb dX6_shareOf_54 rfl (lv_at hl 0 rfl) ?_
        refine lv_ldiv hx hb dX6_shareOf_55 (by assumption) ?_
        refine lv_topl (fun y13 ey13 => ?_)
        exact W.lret (v := y13) hx hb hr (fun t ht hW => ⟨y13, rfl, trivial, ht⟩) (fun _ h => absurd h List.not_mem_nil) dX6_shareOf_56
    · refine lv_iload_n hx hb dX6_shareOf_20 rfl (lv_at hl 2 rfl) ?_
      refine fx_i2l hx hb dX6_shareOf_21 rfl (fun y14 ey14 ty14 => ?_)
      exact W.lret (v := y14) hx hb hr (fun t ht hW => ⟨y14, rfl, trivial, ht⟩) (fun _ h => absurd h List.not_mem_nil) dX6_shareOf_22
set_option maxHeartbeats 400000 in
set_option maxRecDepth 20000 in
theorem fc_X6_thousandths (l : Launch) (D : va_G) (ad : Nat → Nat → Nat) (C : Nat → Nat → ClassId) (nb : Nat) (M : fm_M) (hI : fm_I nb ad M) : Met l yX6_thousandths wsX6_thousandths ({ frames := 0, cells := 0, slots := 0, locals := 0 }) (va_Pc [.ref (ad 16 0)] (fm_P D ad C nb M)) (vp_Si (fun r : Int32 => True)) 0 0 (fun _ => False) := by
  refine Met.ofW (cc := cX6_thousandths) (maxL := 1) (ret := (some .int)) (by decide) rfl ?_
  intro p e s m args below meth c s₁ B hml hv
  obtain ⟨rfl, hw, hc⟩ := hv
  have hx := B.exec
  have hb := B.bytes
  have hr := B.returns
  have hts := atoms_spec (ws := wsX6_thousandths) B.pre
  have hown : s.vm.findClass RX6 = some m.cls := findClass_of_methodNamed B.named
  have hinX6 : ∀ w ∈ u_ws RX6 TX6 7, w ∈ wsX6_thousandths := fun w h => List.mem_cons_of_mem _ (iT_X6 w h)
  have hS : va_S (fm_A nb ad) s.heap s.heap [] := va_S.rf
  have hl := lv_entry ([.ref (ad 16 0)]) (n := 1) (Nat.le_of_ble_eq_true rfl)
  rw [lg_entry_eq]
  generalize (lg_sl ([.ref (ad 16 0)]) ++ List.replicate (1 - (lg_sl ([.ref (ad 16 0)])).length) Slot.unset).toArray = ls at hl ⊢
  have hl : lv_has ls 1 [(0, .ref (ad 16 0))] := hl
  refine lv_aload_n hx hb dX6_thousandths_0 rfl (lv_at hl 0 rfl) ?_
  refine fm_getL (a := 16) (j := 3) (T := TX6) (N := 7) hx hb hts hinX6 hown hc hw kl_16 sh_16 rfl (by decide) rfl (hts (.fieldLink RX6 29 "RedTent$Search" "allWeight" "J") (List.mem_cons_of_mem _ tw_1_115)) (fun _ h9 => h9) dX6_thousandths_1 (fun x1 ex1 => ?_)
  refine lv_lconst (v := 0) hx hb dX6_thousandths_4 (by decide) ?_
  refine W.lcmp hx hb dX6_thousandths_5 ?_
  refine fx_lif_ne (tgt := 13) hx hb dX6_thousandths_6 (by decide) (fun c2 => ?_) (fun c2 => ?_)
  · refine lv_ldc2 (v := 1000) hx hb hown (hts (.constantLong RX6 64 (1000)) (List.mem_cons_of_mem _ tw_4_3)) dX6_thousandths_13 ?_
    refine lv_aload_n hx hb dX6_thousandths_16 rfl (lv_at hl 0 rfl) ?_
    refine fm_getL (a := 16) (j := 6) (T := TX6) (N := 7) hx hb hts hinX6 hown hc hw kl_16 sh_16 rfl (by decide) rfl (hts (.fieldLink RX6 66 "RedTent$Search" "chosenWeight" "J") (List.mem_cons_of_mem _ tw_1_119)) (fun _ h9 => h9) dX6_thousandths_17 (fun x3 ex3 => ?_)
    refine lv_lmul hx hb dX6_thousandths_20 ?_
    refine lv_topl (fun y4 ey4 => ?_)
    refine lv_aload_n hx hb dX6_thousandths_21 rfl (lv_at hl 0 rfl) ?_
    refine fm_getL (a := 16) (j := 3) (T := TX6) (N := 7) hx hb hts hinX6 hown hc hw kl_16 sh_16 rfl (by decide) rfl (hts (.fieldLink RX6 29 "RedTent$Search" "allWeight" "J") (List.mem_cons_of_mem _ tw_1_115)) (fun _ h9 => h9) dX6_thousandths_22 (fun x5 ex5 => ?_)
    obtain rfl : x1 = x5 := by rw [ex5]; exact ex1
    refine lv_ldiv hx hb dX6_thousandths_25 (by assumption) ?_
    refine lv_topl (fun y6 ey6 => ?_)
    refine lv_l2i (v := y6.toInt32) hx hb dX6_thousandths_26 rfl ?_
    refine lv_topi (fun y7 ey7 => ?_)
    exact W.iret (v := y7) hx hb hr (fun t ht hW => ⟨y7, rfl, trivial, ht⟩) (fun _ h => absurd h List.not_mem_nil) dX6_thousandths_27
  · refine lv_iconst (v := 0) hx hb dX6_thousandths_9 (by decide) ?_
    refine lv_goto (tgt := 27) hx hb dX6_thousandths_10 (by decide) ?_
    exact W.iret (v := 0) hx hb hr (fun t ht hW => ⟨0, rfl, trivial, ht⟩) (fun _ h => absurd h List.not_mem_nil) dX6_thousandths_27
set_option maxHeartbeats 400000 in
set_option maxRecDepth 20000 in
theorem fc_X6_keepIfBetter (l : Launch) (D : va_G) (ad : Nat → Nat → Nat) (C : Nat → Nat → ClassId) (nb : Nat) (M : fm_M) (hI : fm_I nb ad M) (p0 : Int64) : Met l yX6_keepIfBetter wsX6_keepIfBetter ({ frames := 1, cells := 0, slots := 0, locals := 40 }) (va_Pc [.ref (ad 16 0), .long p0] (fm_P D ad C nb M)) (va_Qv (fun (u : fm_M) => fm_I nb ad u ∧ fm_same [16006, 20000] M u ∧ True) (fun u t => fm_at D ad C nb u t.heap) (fm_A nb ad)) 0 0 (fm_A nb ad) := by
  refine Met.ofW (cc := cX6_keepIfBetter) (maxL := 6) (ret := none) (by decide) rfl ?_
  intro p e s m args below meth c s₁ B hml hv
  obtain ⟨rfl, hw, hc⟩ := hv
  have hx := B.exec
  have hb := B.bytes
  have hr := B.returns
  have hts := atoms_spec (ws := wsX6_keepIfBetter) B.pre
  have hown : s.vm.findClass RX6 = some m.cls := findClass_of_methodNamed B.named
  have hinX6 : ∀ w ∈ u_ws RX6 TX6 7, w ∈ wsX6_keepIfBetter := fun w h => List.mem_cons_of_mem _ (iT_X6 w h)
  have hS : va_S (fm_A nb ad) s.heap s.heap [] := va_S.rf
  have hE : fm_same [16006, 20000] M M := fm_same.rf
  have hl := lv_entry ([.ref (ad 16 0), .long p0]) (n := 6) (Nat.le_of_ble_eq_true rfl)
  rw [lg_entry_eq]
  generalize (lg_sl ([.ref (ad 16 0), .long p0]) ++ List.replicate (6 - (lg_sl ([.ref (ad 16 0), .long p0])).length) Slot.unset).toArray = ls at hl ⊢
  have hl : lv_has ls 6 [(0, .ref (ad 16 0)), (1, .long p0)] := hl
  refine lv_lconst (v := 0) hx hb dX6_keepIfBetter_0 (by decide) ?_
  refine lv_lstore_n (lv' := [(3, .long 0), (0, .ref (ad 16 0)), (1, .long p0)]) hx hb dX6_keepIfBetter_1 rfl hl (by decide) rfl (fun ls hl => ?_)
  refine lv_iconst (v := 0) hx hb dX6_keepIfBetter_2 (by decide) ?_
  refine lv_istore (lv' := [(5, .int 0), (3, .long 0), (0, .ref (ad 16 0)), (1, .long p0)]) hx hb dX6_keepIfBetter_3 hl (by decide) rfl (fun ls hl => ?_)
  have lp : ∀ (n_lp : Nat) (lp_5 : Int32) (lp_3 : Int64) (M_lp : fm_M), (64 - lp_5.toInt).toNat < n_lp → (0 ≤ lp_5.toInt ∧ lp_5.toInt ≤ 64) → fm_I nb ad M_lp → fm_same [16006, 20000] M M_lp → ∀ (H : Heap) (locs : List Loc), fm_at D ad C nb M_lp H → va_S (fm_A nb ad) s.heap H locs → ∀ (ls : Array Slot), lv_has ls 6 [(5, .int lp_5), (3, .long lp_3), (0, .ref (ad 16 0)), (1, .long p0)] → W p l e (headSpec wsX6_keepIfBetter ({ frames := 1, cells := 0, slots := 0, locals := 40 })).room s m ([.ref (ad 16 0), .long p0] : List Value).toArray below meth c H locs 0 0 (MQ below (va_Qv (fun (u : fm_M) => fm_I nb ad u ∧ fm_same [16006, 20000] M u ∧ True) (fun u t => fm_at D ad C nb u t.heap) (fm_A nb ad)) ([.ref (ad 16 0), .long p0] : List Value).toArray s 0 0 (fm_A nb ad)) (F0 m 5 ls []) := by
    intro n_lp
    induction n_lp with
    | zero => intro lp_5 lp_3 M_lp hm_lp b_lp_5 hI hE H locs hw hS ls hl; exact absurd hm_lp (Nat.not_lt_zero _)
    | succ n_lp ih_lp =>
      intro lp_5 lp_3 M_lp hm_lp b_lp_5 hI hE H locs hw hS ls hl
      refine lv_iload hx hb dX6_keepIfBetter_5 (lv_at hl 0 rfl) ?_
      refine lv_bipush (v := 64) hx hb dX6_keepIfBetter_7 (by decide) ?_
      refine fx_icmp_ge (tgt := 37) hx hb dX6_keepIfBetter_9 (by decide) rfl zk_64 (fun c1 => ?_) (fun c1 => ?_)
      · refine lv_lload_n hx hb dX6_keepIfBetter_37 rfl (lv_at hl 1 rfl) ?_
        refine lv_aload_n hx hb dX6_keepIfBetter_38 rfl (lv_at hl 2 rfl) ?_
        refine fm_getL (a := 16) (j := 6) (T := TX6) (N := 7) hx hb hts hinX6 hown hc hw kl_16 sh_16 rfl (by decide) rfl (hts (.fieldLink RX6 66 "RedTent$Search" "chosenWeight" "J") (List.mem_cons_of_mem _ tw_1_119)) (fun _ h9 => h9) dX6_keepIfBetter_39 (fun x2 ex2 => ?_)
        refine W.lcmp hx hb dX6_keepIfBetter_42 ?_
        refine fx_lif_le (tgt := 65) hx hb dX6_keepIfBetter_43 (by decide) (fun c3 => ?_) (fun c3 => ?_)
        · exact W.vret hx hb hr (fun t ht hW => ⟨⟨M_lp, rfl, ⟨hI, hE, trivial⟩, by show fm_at D ad C nb _ t.heap; rw [ht]; exact hw⟩, hS.F ht⟩) hS.2.2 dX6_keepIfBetter_65
        · refine lv_aload_n hx hb dX6_keepIfBetter_46 rfl (lv_at hl 2 rfl) ?_
          refine lv_lload_n hx hb dX6_keepIfBetter_47 rfl (lv_at hl 1 rfl) ?_
          refine fm_putL (a := 16) (j := 6) (T := TX6) (N := 7) hx hb hts hinX6 tyX6 tyX6_ok nmX6 hown hc hw hI hE hS kl_16 sh_16 od_16 rfl (by decide) rfl (hts (.fieldLink RX6 66 "RedTent$Search" "chosenWeight" "J") (List.mem_cons_of_mem _ tw_1_119)) (fun _ h9 => h9) rfl (by decide +kernel) (by decide) dX6_keepIfBetter_48 (fun M4 H locs eM4 hw hI hE hS => ?_)
          refine lv_aload_n hx hb dX6_keepIfBetter_51 rfl (lv_at hl 2 rfl) ?_
          refine fm_getG (a := 16) (j := 4) (T := TX6) (N := 7) hx hb hts hinX6 hown hc hw kl_16 sh_16 rfl (by decide) rfl (hI.to kl_16 tg_16_4) (hts (.fieldLink RX6 18 "RedTent$Search" "tried" "[I") (List.mem_cons_of_mem _ tw_1_116)) (fun _ h9 => h9) dX6_keepIfBetter_52 ?_
          refine lv_iconst (v := 0) hx hb dX6_keepIfBetter_55 (by decide) ?_
          refine lv_aload_n hx hb dX6_keepIfBetter_56 rfl (lv_at hl 2 rfl) ?_
          refine fm_getG (a := 16) (j := 5) (T := TX6) (N := 7) hx hb hts hinX6 hown hc hw kl_16 sh_16 rfl (by decide) rfl (hI.to kl_16 tg_16_5) (hts (.fieldLink RX6 22 "RedTent$Search" "chosen" "[I") (List.mem_cons_of_mem _ tw_1_117)) (fun _ h9 => h9) dX6_keepIfBetter_57 ?_
          refine lv_iconst (v := 0) hx hb dX6_keepIfBetter_60 (by decide) ?_
          refine lv_iconst (v := 3) hx hb dX6_keepIfBetter_61 (by decide) ?_
          refine fm_copy (a := 19) (b := 20) hx hb (by rw [hml]; exact hl.1.symm) hown (hts (.methodLink RX6 79 arraycopyName) (List.mem_cons_of_mem _ tw_3_236)) (hts (.native arraycopyName) (List.mem_cons_of_mem _ tw_3_238)) (hts (.static arraycopyName) (List.mem_cons_of_mem _ tw_3_237)) (hts (.initialized "java/lang/System") (List.mem_cons_of_mem _ tw_1_20)) hc hw hI hE hS kl_19 sh_19 ty_19 bd_19 kl_20 sh_20 ty_20 bd_20 zk_0 zk_0 zk_3 (by omega) (Nat.le_of_ble_eq_true rfl) (by decide) cd_20 (by decide) dX6_keepIfBetter_62 (fun M5 H locs eM5 hw hI hE hS => ?_)
          exact W.vret hx hb hr (fun t ht hW => ⟨⟨M5, rfl, ⟨hI, hE, trivial⟩, by show fm_at D ad C nb _ t.heap; rw [ht]; exact hw⟩, hS.F ht⟩) hS.2.2 dX6_keepIfBetter_65
      · refine lv_lload_n hx hb dX6_keepIfBetter_12 rfl (lv_at hl 3 rfl) ?_
        refine lv_iload hx hb dX6_keepIfBetter_13 (lv_at hl 0 rfl) ?_
        refine vp_callSi (va_Run.run (va_runSN (As := [.long p0, .int lp_5]) (rest := []) ⟨hx, hb, hml, hown, hts⟩ (fc_X11_has l p0 lp_5) ⟨va_cnB 2 hts gX6_keepIfBetter_X11_has_n33 rfl rfl rfl hc.2.2.1.2.2.2.2.2.2.2.2.2.2.2.2.2.1 (hts (.initialized RX11) (List.mem_cons_of_mem _ tw_1_1)) (by decide +kernel) ⟨Nat.le_of_ble_eq_true rfl, Nat.le_of_ble_eq_true rfl⟩, (hts (.static yX11_has) (List.mem_cons_of_mem _ tw_3_126)), trivial⟩ ⟨fun a U g mk q => q, fun U hU hW => ⟨rfl, trivial⟩⟩ rfl rfl hl.1 rfl (lv_room (Nat.le_of_ble_eq_true rfl)) dX6_keepIfBetter_15 ⟨by decide +kernel, by decide +kernel⟩)) (fun r6 hr6 => ?_)
        rcases hr6 with ⟨rfl, c7⟩ | ⟨rfl, c7⟩
        · refine fx_if_eq (tgt := 31) hx hb dX6_keepIfBetter_18 (by decide) zk_1 (fun c8 => by exfalso; omega) (fun c8 => ?_)
          refine lv_lload_n hx hb dX6_keepIfBetter_21 rfl (lv_at hl 1 rfl) ?_
          refine lv_aload_n hx hb dX6_keepIfBetter_22 rfl (lv_at hl 2 rfl) ?_
          refine fm_getG (a := 16) (j := 2) (T := TX6) (N := 7) hx hb hts hinX6 hown hc hw kl_16 sh_16 rfl (by decide) rfl (hI.to kl_16 tg_16_2) (hts (.fieldLink RX6 15 "RedTent$Search" "weights" "[J") (List.mem_cons_of_mem _ tw_1_114)) (fun _ h9 => h9) dX6_keepIfBetter_23 ?_
          refine lv_iload hx hb dX6_keepIfBetter_26 (lv_at hl 0 rfl) ?_
          refine fm_lald (a := 18) hx hb hc hw kl_18 sh_18 ty_18 (by omega) dX6_keepIfBetter_28 (fun x9 ex9 => ?_)
          refine lv_ladd hx hb dX6_keepIfBetter_29 ?_
          refine lv_topl (fun y10 ey10 => ?_)
          refine lv_lstore_n (lv' := [(3, .long y10), (5, .int lp_5), (0, .ref (ad 16 0)), (1, .long p0)]) hx hb dX6_keepIfBetter_30 rfl hl (by decide) rfl (fun ls hl => ?_)
          obtain ⟨y11, ey11⟩ : ∃ y : Int32, y = lp_5 + 1 := ⟨_, rfl⟩
          have ty11 : y11.toInt = lp_5.toInt + 1 := by rw [ey11, zi_add _ _ (by rw [zk_1]; omega) (by rw [zk_1]; omega), zk_1]
          refine lv_iinc (v := y11) (lv' := [(5, .int y11), (3, .long y10), (0, .ref (ad 16 0)), (1, .long p0)]) hx hb dX6_keepIfBetter_31 hl (k := 1) rfl (by rw [ey11]; rfl) (by decide) rfl (fun ls hl => ?_)
          refine lv_goto (tgt := 5) hx hb dX6_keepIfBetter_34 (by decide) ?_
          exact ih_lp y11 y10 M_lp (by omega) (by omega) hI hE _ _ hw hS ls (lv_sub hl [0, 1, 2, 3] rfl)
        · refine fx_if_eq (tgt := 31) hx hb dX6_keepIfBetter_18 (by decide) zk_0 (fun c12 => ?_) (fun c12 => by exfalso; omega)
          obtain ⟨y13, ey13⟩ : ∃ y : Int32, y = lp_5 + 1 := ⟨_, rfl⟩
          have ty13 : y13.toInt = lp_5.toInt + 1 := by rw [ey13, zi_add _ _ (by rw [zk_1]; omega) (by rw [zk_1]; omega), zk_1]
          refine lv_iinc (v := y13) (lv' := [(5, .int y13), (3, .long lp_3), (0, .ref (ad 16 0)), (1, .long p0)]) hx hb dX6_keepIfBetter_31 hl (k := 0) rfl (by rw [ey13]; rfl) (by decide) rfl (fun ls hl => ?_)
          refine lv_goto (tgt := 5) hx hb dX6_keepIfBetter_34 (by decide) ?_
          exact ih_lp y13 lp_3 M_lp (by omega) (by omega) hI hE _ _ hw hS ls (lv_sub hl [0, 1, 2, 3] rfl)
  exact lp _ 0 0 M (Nat.lt_succ_self _) (by decide) hI hE _ _ hw hS ls (lv_sub hl [0, 1, 2, 3] rfl)
set_option maxHeartbeats 400000 in
set_option maxRecDepth 20000 in
theorem fc_X6_tryLanes3 (l : Launch) (D : va_G) (ad : Nat → Nat → Nat) (C : Nat → Nat → ClassId) (nb : Nat) (M : fm_M) (hI : fm_I nb ad M) (p0 p1 p2 : Int32) (p3 : Int64) (b_p2 : 0 ≤ p2.toInt ∧ p2.toInt ≤ 16) : Met l yX6_tryLanes wsX6_tryLanes ({ frames := 2, cells := 0, slots := 0, locals := 65 }) (va_Pc [.ref (ad 16 0), .int p0, .int p1, .int 3, .int p2, .long p3] (fm_P D ad C nb M)) (va_Qv (fun (u : fm_M) => fm_I nb ad u ∧ fm_same [16006, 20000] M u ∧ True) (fun u t => fm_at D ad C nb u t.heap) (fm_A nb ad)) 0 0 (fm_A nb ad) := by
  refine Met.ofW (cc := cX6_tryLanes) (maxL := 8) (ret := none) (by decide) rfl ?_
  intro p e s m args below meth c s₁ B hml hv
  obtain ⟨rfl, hw, hc⟩ := hv
  have hx := B.exec
  have hb := B.bytes
  have hr := B.returns
  have hts := atoms_spec (ws := wsX6_tryLanes) B.pre
  have hown : s.vm.findClass RX6 = some m.cls := findClass_of_methodNamed B.named
  have hS : va_S (fm_A nb ad) s.heap s.heap [] := va_S.rf
  have hE : fm_same [16006, 20000] M M := fm_same.rf
  have hl := lv_entry ([.ref (ad 16 0), .int p0, .int p1, .int 3, .int p2, .long p3]) (n := 8) (Nat.le_of_ble_eq_true rfl)
  rw [lg_entry_eq]
  generalize (lg_sl ([.ref (ad 16 0), .int p0, .int p1, .int 3, .int p2, .long p3]) ++ List.replicate (8 - (lg_sl ([.ref (ad 16 0), .int p0, .int p1, .int 3, .int p2, .long p3])).length) Slot.unset).toArray = ls at hl ⊢
  have hl : lv_has ls 8 [(0, .ref (ad 16 0)), (1, .int p0), (2, .int p1), (3, .int 3), (4, .int p2), (5, .long p3)] := hl
  refine lv_iload_n hx hb dX6_tryLanes_0 rfl (lv_at hl 3 rfl) ?_
  refine lv_iload_n hx hb dX6_tryLanes_1 rfl (lv_at hl 2 rfl) ?_
  refine fx_icmp_ge (tgt := 10) hx hb dX6_tryLanes_2 (by decide) zk_3 rfl (fun c1 => ?_) (fun c1 => ?_)
  · refine lv_aload_n hx hb dX6_tryLanes_10 rfl (lv_at hl 0 rfl) ?_
    refine lv_lload hx hb dX6_tryLanes_11 (lv_at hl 5 rfl) ?_
    refine fm_cv (va_runV (As := [.long p3]) (rest := []) ⟨hx, hb, hml, hown, hts⟩ (fc_X6_keepIfBetter l D ad C nb M hI p3) (cwV 1 hts gX6_tryLanes_X6_keepIfBetter rfl rfl rfl (by decide +kernel) ⟨Nat.le_of_ble_eq_true rfl, Nat.le_of_ble_eq_true rfl⟩) (fm_preV hc hw hS kl_16 sh_16 rfl) rfl rfl hl.1 rfl (lv_room (Nat.le_of_ble_eq_true rfl)) dX6_tryLanes_13 ⟨by decide +kernel, by decide +kernel⟩) hS hc (fun M3 H locs hr2 hw hS => ?_)
    obtain ⟨hI, hEM3, hr2⟩ := hr2
    have hE := hE.tr hEM3 (by decide)
    exact W.vret hx hb hr (fun t ht hW => ⟨⟨M3, rfl, ⟨hI, hE, trivial⟩, by show fm_at D ad C nb _ t.heap; rw [ht]; exact hw⟩, hS.F ht⟩) hS.2.2 dX6_tryLanes_16
  · refine lv_iload_n hx hb dX6_tryLanes_5 rfl (lv_at hl 3 rfl) ?_
    refine lv_iconst (v := 3) hx hb dX6_tryLanes_6 (by decide) ?_
    refine fx_icmp_lt (tgt := 17) hx hb dX6_tryLanes_7 (by decide) zk_3 zk_3 (fun c4 => by exfalso; omega) (fun c4 => ?_)
    refine lv_aload_n hx hb dX6_tryLanes_10 rfl (lv_at hl 0 rfl) ?_
    refine lv_lload hx hb dX6_tryLanes_11 (lv_at hl 5 rfl) ?_
    refine fm_cv (va_runV (As := [.long p3]) (rest := []) ⟨hx, hb, hml, hown, hts⟩ (fc_X6_keepIfBetter l D ad C nb M hI p3) (cwV 1 hts gX6_tryLanes_X6_keepIfBetter rfl rfl rfl (by decide +kernel) ⟨Nat.le_of_ble_eq_true rfl, Nat.le_of_ble_eq_true rfl⟩) (fm_preV hc hw hS kl_16 sh_16 rfl) rfl rfl hl.1 rfl (lv_room (Nat.le_of_ble_eq_true rfl)) dX6_tryLanes_13 ⟨by decide +kernel, by decide +kernel⟩) hS hc (fun M6 H locs hr5 hw hS => ?_)
    obtain ⟨hI, hEM6, hr5⟩ := hr5
    have hE := hE.tr hEM6 (by decide)
    exact W.vret hx hb hr (fun t ht hW => ⟨⟨M6, rfl, ⟨hI, hE, trivial⟩, by show fm_at D ad C nb _ t.heap; rw [ht]; exact hw⟩, hS.F ht⟩) hS.2.2 dX6_tryLanes_16
set_option maxHeartbeats 400000 in
set_option maxRecDepth 20000 in
theorem fc_X6_tryLanes2 (l : Launch) (D : va_G) (ad : Nat → Nat → Nat) (C : Nat → Nat → ClassId) (nb : Nat) (M : fm_M) (hI : fm_I nb ad M) (p0 p1 p2 : Int32) (p3 : Int64) (b_p2 : 0 ≤ p2.toInt ∧ p2.toInt ≤ 16) : Met l yX6_tryLanes wsX6_tryLanes ({ frames := 3, cells := 0, slots := 0, locals := 92 }) (va_Pc [.ref (ad 16 0), .int p0, .int p1, .int 2, .int p2, .long p3] (fm_P D ad C nb M)) (va_Qv (fun (u : fm_M) => fm_I nb ad u ∧ fm_same [16006, 19000, 20000] M u ∧ True) (fun u t => fm_at D ad C nb u t.heap) (fm_A nb ad)) 0 0 (fm_A nb ad) := by
  refine Met.ofW (cc := cX6_tryLanes) (maxL := 8) (ret := none) (by decide) rfl ?_
  intro p e s m args below meth c s₁ B hml hv
  obtain ⟨rfl, hw, hc⟩ := hv
  have hx := B.exec
  have hb := B.bytes
  have hr := B.returns
  have hts := atoms_spec (ws := wsX6_tryLanes) B.pre
  have hown : s.vm.findClass RX6 = some m.cls := findClass_of_methodNamed B.named
  have hinX6 : ∀ w ∈ u_ws RX6 TX6 7, w ∈ wsX6_tryLanes := fun w h => List.mem_cons_of_mem _ (iT_X6 w h)
  have hS : va_S (fm_A nb ad) s.heap s.heap [] := va_S.rf
  have hE : fm_same [16006, 19000, 20000] M M := fm_same.rf
  have hl := lv_entry ([.ref (ad 16 0), .int p0, .int p1, .int 2, .int p2, .long p3]) (n := 8) (Nat.le_of_ble_eq_true rfl)
  rw [lg_entry_eq]
  generalize (lg_sl ([.ref (ad 16 0), .int p0, .int p1, .int 2, .int p2, .long p3]) ++ List.replicate (8 - (lg_sl ([.ref (ad 16 0), .int p0, .int p1, .int 2, .int p2, .long p3])).length) Slot.unset).toArray = ls at hl ⊢
  have hl : lv_has ls 8 [(0, .ref (ad 16 0)), (1, .int p0), (2, .int p1), (3, .int 2), (4, .int p2), (5, .long p3)] := hl
  refine lv_iload_n hx hb dX6_tryLanes_0 rfl (lv_at hl 3 rfl) ?_
  refine lv_iload_n hx hb dX6_tryLanes_1 rfl (lv_at hl 2 rfl) ?_
  refine fx_icmp_ge (tgt := 10) hx hb dX6_tryLanes_2 (by decide) zk_2 rfl (fun c1 => ?_) (fun c1 => ?_)
  · refine lv_aload_n hx hb dX6_tryLanes_10 rfl (lv_at hl 0 rfl) ?_
    refine lv_lload hx hb dX6_tryLanes_11 (lv_at hl 5 rfl) ?_
    refine fm_cv (va_runV (As := [.long p3]) (rest := []) ⟨hx, hb, hml, hown, hts⟩ (fc_X6_keepIfBetter l D ad C nb M hI p3) (cwV 1 hts gX6_tryLanes_X6_keepIfBetter rfl rfl rfl (by decide +kernel) ⟨Nat.le_of_ble_eq_true rfl, Nat.le_of_ble_eq_true rfl⟩) (fm_preV hc hw hS kl_16 sh_16 rfl) rfl rfl hl.1 rfl (lv_room (Nat.le_of_ble_eq_true rfl)) dX6_tryLanes_13 ⟨by decide +kernel, by decide +kernel⟩) hS hc (fun M3 H locs hr2 hw hS => ?_)
    obtain ⟨hI, hEM3, hr2⟩ := hr2
    have hE := hE.tr hEM3 (by decide)
    exact W.vret hx hb hr (fun t ht hW => ⟨⟨M3, rfl, ⟨hI, hE, trivial⟩, by show fm_at D ad C nb _ t.heap; rw [ht]; exact hw⟩, hS.F ht⟩) hS.2.2 dX6_tryLanes_16
  · refine lv_iload_n hx hb dX6_tryLanes_5 rfl (lv_at hl 3 rfl) ?_
    refine lv_iconst (v := 3) hx hb dX6_tryLanes_6 (by decide) ?_
    refine fx_icmp_lt (tgt := 17) hx hb dX6_tryLanes_7 (by decide) zk_2 zk_3 (fun c4 => ?_) (fun c4 => by exfalso; omega)
    refine lv_iload hx hb dX6_tryLanes_17 (lv_at hl 4 rfl) ?_
    refine lv_istore (lv' := [(7, .int p2), (0, .ref (ad 16 0)), (1, .int p0), (2, .int p1), (3, .int 2), (4, .int p2), (5, .long p3)]) hx hb dX6_tryLanes_19 hl (by decide) rfl (fun ls hl => ?_)
    have lp : ∀ (n_lp : Nat) (lp_7 : Int32) (M_lp : fm_M), (16 - lp_7.toInt).toNat < n_lp → (0 ≤ lp_7.toInt ∧ lp_7.toInt ≤ 16) → fm_I nb ad M_lp → fm_same [16006, 19000, 20000] M M_lp → ∀ (H : Heap) (locs : List Loc), fm_at D ad C nb M_lp H → va_S (fm_A nb ad) s.heap H locs → ∀ (ls : Array Slot), lv_has ls 8 [(7, .int lp_7), (0, .ref (ad 16 0)), (1, .int p0), (2, .int p1), (3, .int 2), (4, .int p2), (5, .long p3)] → W p l e (headSpec wsX6_tryLanes ({ frames := 3, cells := 0, slots := 0, locals := 92 })).room s m ([.ref (ad 16 0), .int p0, .int p1, .int 2, .int p2, .long p3] : List Value).toArray below meth c H locs 0 0 (MQ below (va_Qv (fun (u : fm_M) => fm_I nb ad u ∧ fm_same [16006, 19000, 20000] M u ∧ True) (fun u t => fm_at D ad C nb u t.heap) (fm_A nb ad)) ([.ref (ad 16 0), .int p0, .int p1, .int 2, .int p2, .long p3] : List Value).toArray s 0 0 (fm_A nb ad)) (F0 m 21 ls []) := by
      intro n_lp
      induction n_lp with
      | zero => intro lp_7 M_lp hm_lp b_lp_7 hI hE H locs hw hS ls hl; exact absurd hm_lp (Nat.not_lt_zero _)
      | succ n_lp ih_lp =>
        intro lp_7 M_lp hm_lp b_lp_7 hI hE H locs hw hS ls hl
        refine lv_iload hx hb dX6_tryLanes_21 (lv_at hl 0 rfl) ?_
        refine lv_aload_n hx hb dX6_tryLanes_23 rfl (lv_at hl 1 rfl) ?_
        refine fm_getI (a := 16) (j := 1) (T := TX6) (N := 7) hx hb hts hinX6 hown hc hw hI kl_16 sh_16 rfl (by decide) rfl bd_16_1 (hts (.fieldLink RX6 25 "RedTent$Search" "laneCount" "I") (List.mem_cons_of_mem _ tw_1_112)) (fun _ h9 => h9) dX6_tryLanes_24 (fun x5 ex5 bx5 => ?_)
        refine fx_icmp_ge (tgt := 76) hx hb dX6_tryLanes_27 (by decide) rfl rfl (fun c6 => ?_) (fun c6 => ?_)
        · exact W.vret hx hb hr (fun t ht hW => ⟨⟨M_lp, rfl, ⟨hI, hE, trivial⟩, by show fm_at D ad C nb _ t.heap; rw [ht]; exact hw⟩, hS.F ht⟩) hS.2.2 dX6_tryLanes_76
        · refine lv_iload_n hx hb dX6_tryLanes_30 rfl (lv_at hl 2 rfl) ?_
          refine lv_iload hx hb dX6_tryLanes_31 (lv_at hl 0 rfl) ?_
          refine lv_ishr hx hb dX6_tryLanes_33 ?_
          refine lv_topi (fun y7 ey7 => ?_)
          refine lv_iconst (v := 1) hx hb dX6_tryLanes_34 (by decide) ?_
          refine fx_iand1 hx hb dX6_tryLanes_35 (fun y8 ey8 by8 => ?_)
          refine fx_if_eq (tgt := 70) hx hb dX6_tryLanes_36 (by decide) rfl (fun c9 => ?_) (fun c9 => ?_)
          · obtain ⟨y10, ey10⟩ : ∃ y : Int32, y = lp_7 + 1 := ⟨_, rfl⟩
            have ty10 : y10.toInt = lp_7.toInt + 1 := by rw [ey10, zi_add _ _ (by rw [zk_1]; omega) (by rw [zk_1]; omega), zk_1]
            refine lv_iinc (v := y10) (lv' := [(7, .int y10), (0, .ref (ad 16 0)), (1, .int p0), (2, .int p1), (3, .int 2), (4, .int p2), (5, .long p3)]) hx hb dX6_tryLanes_70 hl (k := 0) rfl (by rw [ey10]; rfl) (by decide) rfl (fun ls hl => ?_)
            refine lv_goto (tgt := 21) hx hb dX6_tryLanes_73 (by decide) ?_
            exact ih_lp y10 M_lp (by omega) (by omega) hI hE _ _ hw hS ls (lv_sub hl [0, 1, 2, 3, 4, 5, 6] rfl)
          · refine lv_aload_n hx hb dX6_tryLanes_39 rfl (lv_at hl 1 rfl) ?_
            refine fm_getG (a := 16) (j := 4) (T := TX6) (N := 7) hx hb hts hinX6 hown hc hw kl_16 sh_16 rfl (by decide) rfl (hI.to kl_16 tg_16_4) (hts (.fieldLink RX6 18 "RedTent$Search" "tried" "[I") (List.mem_cons_of_mem _ tw_1_116)) (fun _ h9 => h9) dX6_tryLanes_40 ?_
            refine lv_iload_n hx hb dX6_tryLanes_43 rfl (lv_at hl 4 rfl) ?_
            refine lv_iload hx hb dX6_tryLanes_44 (lv_at hl 0 rfl) ?_
            refine fm_iast (a := 19) hx hb hc hw hI hE hS kl_19 sh_19 ty_19 bd_19 (by decide) (by omega) cd_19 (by decide) dX6_tryLanes_46 (fun M11 H locs eM11 hw hI hE hS => ?_)
            refine lv_aload_n hx hb dX6_tryLanes_47 rfl (lv_at hl 1 rfl) ?_
            refine lv_iload_n hx hb dX6_tryLanes_48 rfl (lv_at hl 2 rfl) ?_
            refine lv_iload_n hx hb dX6_tryLanes_49 rfl (lv_at hl 3 rfl) ?_
            refine lv_iload_n hx hb dX6_tryLanes_50 rfl (lv_at hl 4 rfl) ?_
            refine lv_iconst (v := 1) hx hb dX6_tryLanes_51 (by decide) ?_
            refine lv_iadd hx hb dX6_tryLanes_52 ?_
            refine lv_topi (fun y13 ey13 => ?_)
            obtain rfl : y13 = 3 := ey13.trans (by decide)
            refine lv_iload hx hb dX6_tryLanes_53 (lv_at hl 0 rfl) ?_
            refine lv_iconst (v := 1) hx hb dX6_tryLanes_55 (by decide) ?_
            refine fx_iadd hx hb dX6_tryLanes_56 rfl zk_1 (by omega) (fun y14 ey14 ty14 => ?_)
            refine lv_lload hx hb dX6_tryLanes_57 (lv_at hl 6 rfl) ?_
            refine lv_aload_n hx hb dX6_tryLanes_59 rfl (lv_at hl 1 rfl) ?_
            refine fm_getG (a := 16) (j := 0) (T := TX6) (N := 7) hx hb hts hinX6 hown hc hw kl_16 sh_16 rfl (by decide) rfl (hI.to kl_16 tg_16_0) (hts (.fieldLink RX6 9 "RedTent$Search" "lanes" "[J") (List.mem_cons_of_mem _ tw_1_111)) (fun _ h9 => h9) dX6_tryLanes_60 ?_
            refine lv_iload hx hb dX6_tryLanes_63 (lv_at hl 0 rfl) ?_
            refine fm_lald (a := 17) hx hb hc hw kl_17 sh_17 ty_17 (by omega) dX6_tryLanes_65 (fun x15 ex15 => ?_)
            refine lv_lor hx hb dX6_tryLanes_66 ?_
            refine lv_topl (fun y16 ey16 => ?_)
            refine fm_cv (va_runV (As := [.int p0, .int p1, .int 3, .int y14, .long y16]) (rest := []) ⟨hx, hb, hml, hown, hts⟩ (fc_X6_tryLanes3 l D ad C nb M11 hI p0 p1 y14 y16 (by omega)) (cwV 5 hts gX6_tryLanes_X6_tryLanes rfl rfl rfl (by decide +kernel) ⟨Nat.le_of_ble_eq_true rfl, Nat.le_of_ble_eq_true rfl⟩) (fm_preV hc hw hS kl_16 sh_16 rfl) rfl rfl hl.1 rfl (lv_room (Nat.le_of_ble_eq_true rfl)) dX6_tryLanes_67 ⟨by decide +kernel, by decide +kernel⟩) hS hc (fun M18 H locs hr17 hw hS => ?_)
            obtain ⟨hI, hEM18, hr17⟩ := hr17
            have hE := hE.tr hEM18 (by decide)
            obtain ⟨y19, ey19⟩ : ∃ y : Int32, y = lp_7 + 1 := ⟨_, rfl⟩
            have ty19 : y19.toInt = lp_7.toInt + 1 := by rw [ey19, zi_add _ _ (by rw [zk_1]; omega) (by rw [zk_1]; omega), zk_1]
            refine lv_iinc (v := y19) (lv' := [(7, .int y19), (0, .ref (ad 16 0)), (1, .int p0), (2, .int p1), (3, .int 2), (4, .int p2), (5, .long p3)]) hx hb dX6_tryLanes_70 hl (k := 0) rfl (by rw [ey19]; rfl) (by decide) rfl (fun ls hl => ?_)
            refine lv_goto (tgt := 21) hx hb dX6_tryLanes_73 (by decide) ?_
            exact ih_lp y19 M18 (by omega) (by omega) hI hE _ _ hw hS ls (lv_sub hl [0, 1, 2, 3, 4, 5, 6] rfl)
    exact lp _ p2 M (Nat.lt_succ_self _) (by omega) hI hE _ _ hw hS ls (lv_sub hl [0, 1, 2, 3, 4, 5, 6] rfl)
set_option maxHeartbeats 400000 in
set_option maxRecDepth 20000 in
theorem fc_X6_tryLanes1 (l : Launch) (D : va_G) (ad : Nat → Nat → Nat) (C : Nat → Nat → ClassId) (nb : Nat) (M : fm_M) (hI : fm_I nb ad M) (p0 p1 p2 : Int32) (p3 : Int64) (b_p2 : 0 ≤ p2.toInt ∧ p2.toInt ≤ 16) : Met l yX6_tryLanes wsX6_tryLanes ({ frames := 4, cells := 0, slots := 0, locals := 119 }) (va_Pc [.ref (ad 16 0), .int p0, .int p1, .int 1, .int p2, .long p3] (fm_P D ad C nb M)) (va_Qv (fun (u : fm_M) => fm_I nb ad u ∧ fm_same [16006, 19000, 20000] M u ∧ True) (fun u t => fm_at D ad C nb u t.heap) (fm_A nb ad)) 0 0 (fm_A nb ad) := by
  refine Met.ofW (cc := cX6_tryLanes) (maxL := 8) (ret := none) (by decide) rfl ?_
  intro p e s m args below meth c s₁ B hml hv
  obtain ⟨rfl, hw, hc⟩ := hv
  have hx := B.exec
  have hb := B.bytes
  have hr := B.returns
  have hts := atoms_spec (ws := wsX6_tryLanes) B.pre
  have hown : s.vm.findClass RX6 = some m.cls := findClass_of_methodNamed B.named
  have hinX6 : ∀ w ∈ u_ws RX6 TX6 7, w ∈ wsX6_tryLanes := fun w h => List.mem_cons_of_mem _ (iT_X6 w h)
  have hS : va_S (fm_A nb ad) s.heap s.heap [] := va_S.rf
  have hE : fm_same [16006, 19000, 20000] M M := fm_same.rf
  have hl := lv_entry ([.ref (ad 16 0), .int p0, .int p1, .int 1, .int p2, .long p3]) (n := 8) (Nat.le_of_ble_eq_true rfl)
  rw [lg_entry_eq]
  generalize (lg_sl ([.ref (ad 16 0), .int p0, .int p1, .int 1, .int p2, .long p3]) ++ List.replicate (8 - (lg_sl ([.ref (ad 16 0), .int p0, .int p1, .int 1, .int p2, .long p3])).length) Slot.unset).toArray = ls at hl ⊢
  have hl : lv_has ls 8 [(0, .ref (ad 16 0)), (1, .int p0), (2, .int p1), (3, .int 1), (4, .int p2), (5, .long p3)] := hl
  refine lv_iload_n hx hb dX6_tryLanes_0 rfl (lv_at hl 3 rfl) ?_
  refine lv_iload_n hx hb dX6_tryLanes_1 rfl (lv_at hl 2 rfl) ?_
  refine fx_icmp_ge (tgt := 10) hx hb dX6_tryLanes_2 (by decide) zk_1 rfl (fun c1 => ?_) (fun c1 => ?_)
  · refine lv_aload_n hx hb dX6_tryLanes_10 rfl (lv_at hl 0 rfl) ?_
    refine lv_lload hx hb dX6_tryLanes_11 (lv_at hl 5 rfl) ?_
    refine fm_cv (va_runV (As := [.long p3]) (rest := []) ⟨hx, hb, hml, hown, hts⟩ (fc_X6_keepIfBetter l D ad C nb M hI p3) (cwV 1 hts gX6_tryLanes_X6_keepIfBetter rfl rfl rfl (by decide +kernel) ⟨Nat.le_of_ble_eq_true rfl, Nat.le_of_ble_eq_true rfl⟩) (fm_preV hc hw hS kl_16 sh_16 rfl) rfl rfl hl.1 rfl (lv_room (Nat.le_of_ble_eq_true rfl)) dX6_tryLanes_13 ⟨by decide +kernel, by decide +kernel⟩) hS hc (fun M3 H locs hr2 hw hS => ?_)
    obtain ⟨hI, hEM3, hr2⟩ := hr2
    have hE := hE.tr hEM3 (by decide)
    exact W.vret hx hb hr (fun t ht hW => ⟨⟨M3, rfl, ⟨hI, hE, trivial⟩, by show fm_at D ad C nb _ t.heap; rw [ht]; exact hw⟩, hS.F ht⟩) hS.2.2 dX6_tryLanes_16
  · refine lv_iload_n hx hb dX6_tryLanes_5 rfl (lv_at hl 3 rfl) ?_
    refine lv_iconst (v := 3) hx hb dX6_tryLanes_6 (by decide) ?_
    refine fx_icmp_lt (tgt := 17) hx hb dX6_tryLanes_7 (by decide) zk_1 zk_3 (fun c4 => ?_) (fun c4 => by exfalso; omega)
    refine lv_iload hx hb dX6_tryLanes_17 (lv_at hl 4 rfl) ?_
    refine lv_istore (lv' := [(7, .int p2), (0, .ref (ad 16 0)), (1, .int p0), (2, .int p1), (3, .int 1), (4, .int p2), (5, .long p3)]) hx hb dX6_tryLanes_19 hl (by decide) rfl (fun ls hl => ?_)
    have lp : ∀ (n_lp : Nat) (lp_7 : Int32) (M_lp : fm_M), (16 - lp_7.toInt).toNat < n_lp → (0 ≤ lp_7.toInt ∧ lp_7.toInt ≤ 16) → fm_I nb ad M_lp → fm_same [16006, 19000, 20000] M M_lp → ∀ (H : Heap) (locs : List Loc), fm_at D ad C nb M_lp H → va_S (fm_A nb ad) s.heap H locs → ∀ (ls : Array Slot), lv_has ls 8 [(7, .int lp_7), (0, .ref (ad 16 0)), (1, .int p0), (2, .int p1), (3, .int 1), (4, .int p2), (5, .long p3)] → W p l e (headSpec wsX6_tryLanes ({ frames := 4, cells := 0, slots := 0, locals := 119 })).room s m ([.ref (ad 16 0), .int p0, .int p1, .int 1, .int p2, .long p3] : List Value).toArray below meth c H locs 0 0 (MQ below (va_Qv (fun (u : fm_M) => fm_I nb ad u ∧ fm_same [16006, 19000, 20000] M u ∧ True) (fun u t => fm_at D ad C nb u t.heap) (fm_A nb ad)) ([.ref (ad 16 0), .int p0, .int p1, .int 1, .int p2, .long p3] : List Value).toArray s 0 0 (fm_A nb ad)) (F0 m 21 ls []) := by
      intro n_lp
      induction n_lp with
      | zero => intro lp_7 M_lp hm_lp b_lp_7 hI hE H locs hw hS ls hl; exact absurd hm_lp (Nat.not_lt_zero _)
      | succ n_lp ih_lp =>
        intro lp_7 M_lp hm_lp b_lp_7 hI hE H locs hw hS ls hl
        refine lv_iload hx hb dX6_tryLanes_21 (lv_at hl 0 rfl) ?_
        refine lv_aload_n hx hb dX6_tryLanes_23 rfl (lv_at hl 1 rfl) ?_
        refine fm_getI (a := 16) (j := 1) (T := TX6) (N := 7) hx hb hts hinX6 hown hc hw hI kl_16 sh_16 rfl (by decide) rfl bd_16_1 (hts (.fieldLink RX6 25 "RedTent$Search" "laneCount" "I") (List.mem_cons_of_mem _ tw_1_112)) (fun _ h9 => h9) dX6_tryLanes_24 (fun x5 ex5 bx5 => ?_)
        refine fx_icmp_ge (tgt := 76) hx hb dX6_tryLanes_27 (by decide) rfl rfl (fun c6 => ?_) (fun c6 => ?_)
        · exact W.vret hx hb hr (fun t ht hW => ⟨⟨M_lp, rfl, ⟨hI, hE, trivial⟩, by show fm_at D ad C nb _ t.heap; rw [ht]; exact hw⟩, hS.F ht⟩) hS.2.2 dX6_tryLanes_76
        · refine lv_iload_n hx hb dX6_tryLanes_30 rfl (lv_at hl 2 rfl) ?_
          refine lv_iload hx hb dX6_tryLanes_31 (lv_at hl 0 rfl) ?_
          refine lv_ishr hx hb dX6_tryLanes_33 ?_
          refine lv_topi (fun y7 ey7 => ?_)
          refine lv_iconst (v := 1) hx hb dX6_tryLanes_34 (by decide) ?_
          refine fx_iand1 hx hb dX6_tryLanes_35 (fun y8 ey8 by8 => ?_)
          refine fx_if_eq (tgt := 70) hx hb dX6_tryLanes_36 (by decide) rfl (fun c9 => ?_) (fun c9 => ?_)
          · obtain ⟨y10, ey10⟩ : ∃ y : Int32, y = lp_7 + 1 := ⟨_, rfl⟩
            have ty10 : y10.toInt = lp_7.toInt + 1 := by rw [ey10, zi_add _ _ (by rw [zk_1]; omega) (by rw [zk_1]; omega), zk_1]
            refine lv_iinc (v := y10) (lv' := [(7, .int y10), (0, .ref (ad 16 0)), (1, .int p0), (2, .int p1), (3, .int 1), (4, .int p2), (5, .long p3)]) hx hb dX6_tryLanes_70 hl (k := 0) rfl (by rw [ey10]; rfl) (by decide) rfl (fun ls hl => ?_)
            refine lv_goto (tgt := 21) hx hb dX6_tryLanes_73 (by decide) ?_
            exact ih_lp y10 M_lp (by omega) (by omega) hI hE _ _ hw hS ls (lv_sub hl [0, 1, 2, 3, 4, 5, 6] rfl)
          · refine lv_aload_n hx hb dX6_tryLanes_39 rfl (lv_at hl 1 rfl) ?_
            refine fm_getG (a := 16) (j := 4) (T := TX6) (N := 7) hx hb hts hinX6 hown hc hw kl_16 sh_16 rfl (by decide) rfl (hI.to kl_16 tg_16_4) (hts (.fieldLink RX6 18 "RedTent$Search" "tried" "[I") (List.mem_cons_of_mem _ tw_1_116)) (fun _ h9 => h9) dX6_tryLanes_40 ?_
            refine lv_iload_n hx hb dX6_tryLanes_43 rfl (lv_at hl 4 rfl) ?_
            refine lv_iload hx hb dX6_tryLanes_44 (lv_at hl 0 rfl) ?_
            refine fm_iast (a := 19) hx hb hc hw hI hE hS kl_19 sh_19 ty_19 bd_19 (by decide) (by omega) cd_19 (by decide) dX6_tryLanes_46 (fun M11 H locs eM11 hw hI hE hS => ?_)
            refine lv_aload_n hx hb dX6_tryLanes_47 rfl (lv_at hl 1 rfl) ?_
            refine lv_iload_n hx hb dX6_tryLanes_48 rfl (lv_at hl 2 rfl) ?_
            refine lv_iload_n hx hb dX6_tryLanes_49 rfl (lv_at hl 3 rfl) ?_
            refine lv_iload_n hx hb dX6_tryLanes_50 rfl (lv_at hl 4 rfl) ?_
            refine lv_iconst (v := 1) hx hb dX6_tryLanes_51 (by decide) ?_
            refine lv_iadd hx hb dX6_tryLanes_52 ?_
            refine lv_topi (fun y13 ey13 => ?_)
            obtain rfl : y13 = 2 := ey13.trans (by decide)
            refine lv_iload hx hb dX6_tryLanes_53 (lv_at hl 0 rfl) ?_
            refine lv_iconst (v := 1) hx hb dX6_tryLanes_55 (by decide) ?_
            refine fx_iadd hx hb dX6_tryLanes_56 rfl zk_1 (by omega) (fun y14 ey14 ty14 => ?_)
            refine lv_lload hx hb dX6_tryLanes_57 (lv_at hl 6 rfl) ?_
            refine lv_aload_n hx hb dX6_tryLanes_59 rfl (lv_at hl 1 rfl) ?_
            refine fm_getG (a := 16) (j := 0) (T := TX6) (N := 7) hx hb hts hinX6 hown hc hw kl_16 sh_16 rfl (by decide) rfl (hI.to kl_16 tg_16_0) (hts (.fieldLink RX6 9 "RedTent$Search" "lanes" "[J") (List.mem_cons_of_mem _ tw_1_111)) (fun _ h9 => h9) dX6_tryLanes_60 ?_
            refine lv_iload hx hb dX6_tryLanes_63 (lv_at hl 0 rfl) ?_
            refine fm_lald (a := 17) hx hb hc hw kl_17 sh_17 ty_17 (by omega) dX6_tryLanes_65 (fun x15 ex15 => ?_)
            refine lv_lor hx hb dX6_tryLanes_66 ?_
            refine lv_topl (fun y16 ey16 => ?_)
            refine fm_cv (va_runV (As := [.int p0, .int p1, .int 2, .int y14, .long y16]) (rest := []) ⟨hx, hb, hml, hown, hts⟩ (fc_X6_tryLanes2 l D ad C nb M11 hI p0 p1 y14 y16 (by omega)) (cwV 5 hts gX6_tryLanes_X6_tryLanes rfl rfl rfl (by decide +kernel) ⟨Nat.le_of_ble_eq_true rfl, Nat.le_of_ble_eq_true rfl⟩) (fm_preV hc hw hS kl_16 sh_16 rfl) rfl rfl hl.1 rfl (lv_room (Nat.le_of_ble_eq_true rfl)) dX6_tryLanes_67 ⟨by decide +kernel, by decide +kernel⟩) hS hc (fun M18 H locs hr17 hw hS => ?_)
            obtain ⟨hI, hEM18, hr17⟩ := hr17
            have hE := hE.tr hEM18 (by decide)
            obtain ⟨y19, ey19⟩ : ∃ y : Int32, y = lp_7 + 1 := ⟨_, rfl⟩
            have ty19 : y19.toInt = lp_7.toInt + 1 := by rw [ey19, zi_add _ _ (by rw [zk_1]; omega) (by rw [zk_1]; omega), zk_1]
            refine lv_iinc (v := y19) (lv' := [(7, .int y19), (0, .ref (ad 16 0)), (1, .int p0), (2, .int p1), (3, .int 1), (4, .int p2), (5, .long p3)]) hx hb dX6_tryLanes_70 hl (k := 0) rfl (by rw [ey19]; rfl) (by decide) rfl (fun ls hl => ?_)
            refine lv_goto (tgt := 21) hx hb dX6_tryLanes_73 (by decide) ?_
            exact ih_lp y19 M18 (by omega) (by omega) hI hE _ _ hw hS ls (lv_sub hl [0, 1, 2, 3, 4, 5, 6] rfl)
    exact lp _ p2 M (Nat.lt_succ_self _) (by omega) hI hE _ _ hw hS ls (lv_sub hl [0, 1, 2, 3, 4, 5, 6] rfl)
set_option maxHeartbeats 400000 in
set_option maxRecDepth 20000 in
theorem fc_X6_tryLanes0 (l : Launch) (D : va_G) (ad : Nat → Nat → Nat) (C : Nat → Nat → ClassId) (nb : Nat) (M : fm_M) (hI : fm_I nb ad M) (p0 p1 p2 : Int32) (p3 : Int64) (b_p2 : 0 ≤ p2.toInt ∧ p2.toInt ≤ 16) : Met l yX6_tryLanes wsX6_tryLanes ({ frames := 5, cells := 0, slots := 0, locals := 146 }) (va_Pc [.ref (ad 16 0), .int p0, .int p1, .int 0, .int p2, .long p3] (fm_P D ad C nb M)) (va_Qv (fun (u : fm_M) => fm_I nb ad u ∧ fm_same [16006, 19000, 20000] M u ∧ True) (fun u t => fm_at D ad C nb u t.heap) (fm_A nb ad)) 0 0 (fm_A nb ad) := by
  refine Met.ofW (cc := cX6_tryLanes) (maxL := 8) (ret := none) (by decide) rfl ?_
  intro p e s m args below meth c s₁ B hml hv
  obtain ⟨rfl, hw, hc⟩ := hv
  have hx := B.exec
  have hb := B.bytes
  have hr := B.returns
  have hts := atoms_spec (ws := wsX6_tryLanes) B.pre
  have hown : s.vm.findClass RX6 = some m.cls := findClass_of_methodNamed B.named
  have hinX6 : ∀ w ∈ u_ws RX6 TX6 7, w ∈ wsX6_tryLanes := fun w h => List.mem_cons_of_mem _ (iT_X6 w h)
  have hS : va_S (fm_A nb ad) s.heap s.heap [] := va_S.rf
  have hE : fm_same [16006, 19000, 20000] M M := fm_same.rf
  have hl := lv_entry ([.ref (ad 16 0), .int p0, .int p1, .int 0, .int p2, .long p3]) (n := 8) (Nat.le_of_ble_eq_true rfl)
  rw [lg_entry_eq]
  generalize (lg_sl ([.ref (ad 16 0), .int p0, .int p1, .int 0, .int p2, .long p3]) ++ List.replicate (8 - (lg_sl ([.ref (ad 16 0), .int p0, .int p1, .int 0, .int p2, .long p3])).length) Slot.unset).toArray = ls at hl ⊢
  have hl : lv_has ls 8 [(0, .ref (ad 16 0)), (1, .int p0), (2, .int p1), (3, .int 0), (4, .int p2), (5, .long p3)] := hl
  refine lv_iload_n hx hb dX6_tryLanes_0 rfl (lv_at hl 3 rfl) ?_
  refine lv_iload_n hx hb dX6_tryLanes_1 rfl (lv_at hl 2 rfl) ?_
  refine fx_icmp_ge (tgt := 10) hx hb dX6_tryLanes_2 (by decide) zk_0 rfl (fun c1 => ?_) (fun c1 => ?_)
  · refine lv_aload_n hx hb dX6_tryLanes_10 rfl (lv_at hl 0 rfl) ?_
    refine lv_lload hx hb dX6_tryLanes_11 (lv_at hl 5 rfl) ?_
    refine fm_cv (va_runV (As := [.long p3]) (rest := []) ⟨hx, hb, hml, hown, hts⟩ (fc_X6_keepIfBetter l D ad C nb M hI p3) (cwV 1 hts gX6_tryLanes_X6_keepIfBetter rfl rfl rfl (by decide +kernel) ⟨Nat.le_of_ble_eq_true rfl, Nat.le_of_ble_eq_true rfl⟩) (fm_preV hc hw hS kl_16 sh_16 rfl) rfl rfl hl.1 rfl (lv_room (Nat.le_of_ble_eq_true rfl)) dX6_tryLanes_13 ⟨by decide +kernel, by decide +kernel⟩) hS hc (fun M3 H locs hr2 hw hS => ?_)
    obtain ⟨hI, hEM3, hr2⟩ := hr2
    have hE := hE.tr hEM3 (by decide)
    exact W.vret hx hb hr (fun t ht hW => ⟨⟨M3, rfl, ⟨hI, hE, trivial⟩, by show fm_at D ad C nb _ t.heap; rw [ht]; exact hw⟩, hS.F ht⟩) hS.2.2 dX6_tryLanes_16
  · refine lv_iload_n hx hb dX6_tryLanes_5 rfl (lv_at hl 3 rfl) ?_
    refine lv_iconst (v := 3) hx hb dX6_tryLanes_6 (by decide) ?_
    refine fx_icmp_lt (tgt := 17) hx hb dX6_tryLanes_7 (by decide) zk_0 zk_3 (fun c4 => ?_) (fun c4 => by exfalso; omega)
    refine lv_iload hx hb dX6_tryLanes_17 (lv_at hl 4 rfl) ?_
    refine lv_istore (lv' := [(7, .int p2), (0, .ref (ad 16 0)), (1, .int p0), (2, .int p1), (3, .int 0), (4, .int p2), (5, .long p3)]) hx hb dX6_tryLanes_19 hl (by decide) rfl (fun ls hl => ?_)
    have lp : ∀ (n_lp : Nat) (lp_7 : Int32) (M_lp : fm_M), (16 - lp_7.toInt).toNat < n_lp → (0 ≤ lp_7.toInt ∧ lp_7.toInt ≤ 16) → fm_I nb ad M_lp → fm_same [16006, 19000, 20000] M M_lp → ∀ (H : Heap) (locs : List Loc), fm_at D ad C nb M_lp H → va_S (fm_A nb ad) s.heap H locs → ∀ (ls : Array Slot), lv_has ls 8 [(7, .int lp_7), (0, .ref (ad 16 0)), (1, .int p0), (2, .int p1), (3, .int 0), (4, .int p2), (5, .long p3)] → W p l e (headSpec wsX6_tryLanes ({ frames := 5, cells := 0, slots := 0, locals := 146 })).room s m ([.ref (ad 16 0), .int p0, .int p1, .int 0, .int p2, .long p3] : List Value).toArray below meth c H locs 0 0 (MQ below (va_Qv (fun (u : fm_M) => fm_I nb ad u ∧ fm_same [16006, 19000, 20000] M u ∧ True) (fun u t => fm_at D ad C nb u t.heap) (fm_A nb ad)) ([.ref (ad 16 0), .int p0, .int p1, .int 0, .int p2, .long p3] : List Value).toArray s 0 0 (fm_A nb ad)) (F0 m 21 ls []) := by
      intro n_lp
      induction n_lp with
      | zero => intro lp_7 M_lp hm_lp b_lp_7 hI hE H locs hw hS ls hl; exact absurd hm_lp (Nat.not_lt_zero _)
      | succ n_lp ih_lp =>
        intro lp_7 M_lp hm_lp b_lp_7 hI hE H locs hw hS ls hl
        refine lv_iload hx hb dX6_tryLanes_21 (lv_at hl 0 rfl) ?_
        refine lv_aload_n hx hb dX6_tryLanes_23 rfl (lv_at hl 1 rfl) ?_
        refine fm_getI (a := 16) (j := 1) (T := TX6) (N := 7) hx hb hts hinX6 hown hc hw hI kl_16 sh_16 rfl (by decide) rfl bd_16_1 (hts (.fieldLink RX6 25 "RedTent$Search" "laneCount" "I") (List.mem_cons_of_mem _ tw_1_112)) (fun _ h9 => h9) dX6_tryLanes_24 (fun x5 ex5 bx5 => ?_)
        refine fx_icmp_ge (tgt := 76) hx hb dX6_tryLanes_27 (by decide) rfl rfl (fun c6 => ?_) (fun c6 => ?_)
        · exact W.vret hx hb hr (fun t ht hW => ⟨⟨M_lp, rfl, ⟨hI, hE, trivial⟩, by show fm_at D ad C nb _ t.heap; rw [ht]; exact hw⟩, hS.F ht⟩) hS.2.2 dX6_tryLanes_76
        · refine lv_iload_n hx hb dX6_tryLanes_30 rfl (lv_at hl 2 rfl) ?_
          refine lv_iload hx hb dX6_tryLanes_31 (lv_at hl 0 rfl) ?_
          refine lv_ishr hx hb dX6_tryLanes_33 ?_
          refine lv_topi (fun y7 ey7 => ?_)
          refine lv_iconst (v := 1) hx hb dX6_tryLanes_34 (by decide) ?_
          refine fx_iand1 hx hb dX6_tryLanes_35 (fun y8 ey8 by8 => ?_)
          refine fx_if_eq (tgt := 70) hx hb dX6_tryLanes_36 (by decide) rfl (fun c9 => ?_) (fun c9 => ?_)
          · obtain ⟨y10, ey10⟩ : ∃ y : Int32, y = lp_7 + 1 := ⟨_, rfl⟩
            have ty10 : y10.toInt = lp_7.toInt + 1 := by rw [ey10, zi_add _ _ (by rw [zk_1]; omega) (by rw [zk_1]; omega), zk_1]
            refine lv_iinc (v := y10) (lv' := [(7, .int y10), (0, .ref (ad 16 0)), (1, .int p0), (2, .int p1), (3, .int 0), (4, .int p2), (5, .long p3)]) hx hb dX6_tryLanes_70 hl (k := 0) rfl (by rw [ey10]; rfl) (by decide) rfl (fun ls hl => ?_)
            refine lv_goto (tgt := 21) hx hb dX6_tryLanes_73 (by decide) ?_
            exact ih_lp y10 M_lp (by omega) (by omega) hI hE _ _ hw hS ls (lv_sub hl [0, 1, 2, 3, 4, 5, 6] rfl)
          · refine lv_aload_n hx hb dX6_tryLanes_39 rfl (lv_at hl 1 rfl) ?_
            refine fm_getG (a := 16) (j := 4) (T := TX6) (N := 7) hx hb hts hinX6 hown hc hw kl_16 sh_16 rfl (by decide) rfl (hI.to kl_16 tg_16_4) (hts (.fieldLink RX6 18 "RedTent$Search" "tried" "[I") (List.mem_cons_of_mem _ tw_1_116)) (fun _ h9 => h9) dX6_tryLanes_40 ?_
            refine lv_iload_n hx hb dX6_tryLanes_43 rfl (lv_at hl 4 rfl) ?_
            refine lv_iload hx hb dX6_tryLanes_44 (lv_at hl 0 rfl) ?_
            refine fm_iast (a := 19) hx hb hc hw hI hE hS kl_19 sh_19 ty_19 bd_19 (by decide) (by omega) cd_19 (by decide) dX6_tryLanes_46 (fun M11 H locs eM11 hw hI hE hS => ?_)
            refine lv_aload_n hx hb dX6_tryLanes_47 rfl (lv_at hl 1 rfl) ?_
            refine lv_iload_n hx hb dX6_tryLanes_48 rfl (lv_at hl 2 rfl) ?_
            refine lv_iload_n hx hb dX6_tryLanes_49 rfl (lv_at hl 3 rfl) ?_
            refine lv_iload_n hx hb dX6_tryLanes_50 rfl (lv_at hl 4 rfl) ?_
            refine lv_iconst (v := 1) hx hb dX6_tryLanes_51 (by decide) ?_
            refine lv_iadd hx hb dX6_tryLanes_52 ?_
            refine lv_topi (fun y13 ey13 => ?_)
            obtain rfl : y13 = 1 := ey13.trans (by decide)
            refine lv_iload hx hb dX6_tryLanes_53 (lv_at hl 0 rfl) ?_
            refine lv_iconst (v := 1) hx hb dX6_tryLanes_55 (by decide) ?_
            refine fx_iadd hx hb dX6_tryLanes_56 rfl zk_1 (by omega) (fun y14 ey14 ty14 => ?_)
            refine lv_lload hx hb dX6_tryLanes_57 (lv_at hl 6 rfl) ?_
            refine lv_aload_n hx hb dX6_tryLanes_59 rfl (lv_at hl 1 rfl) ?_
            refine fm_getG (a := 16) (j := 0) (T := TX6) (N := 7) hx hb hts hinX6 hown hc hw kl_16 sh_16 rfl (by decide) rfl (hI.to kl_16 tg_16_0) (hts (.fieldLink RX6 9 "RedTent$Search" "lanes" "[J") (List.mem_cons_of_mem _ tw_1_111)) (fun _ h9 => h9) dX6_tryLanes_60 ?_
            refine lv_iload hx hb dX6_tryLanes_63 (lv_at hl 0 rfl) ?_
            refine fm_lald (a := 17) hx hb hc hw kl_17 sh_17 ty_17 (by omega) dX6_tryLanes_65 (fun x15 ex15 => ?_)
            refine lv_lor hx hb dX6_tryLanes_66 ?_
            refine lv_topl (fun y16 ey16 => ?_)
            refine fm_cv (va_runV (As := [.int p0, .int p1, .int 1, .int y14, .long y16]) (rest := []) ⟨hx, hb, hml, hown, hts⟩ (fc_X6_tryLanes1 l D ad C nb M11 hI p0 p1 y14 y16 (by omega)) (cwV 5 hts gX6_tryLanes_X6_tryLanes rfl rfl rfl (by decide +kernel) ⟨Nat.le_of_ble_eq_true rfl, Nat.le_of_ble_eq_true rfl⟩) (fm_preV hc hw hS kl_16 sh_16 rfl) rfl rfl hl.1 rfl (lv_room (Nat.le_of_ble_eq_true rfl)) dX6_tryLanes_67 ⟨by decide +kernel, by decide +kernel⟩) hS hc (fun M18 H locs hr17 hw hS => ?_)
            obtain ⟨hI, hEM18, hr17⟩ := hr17
            have hE := hE.tr hEM18 (by decide)
            obtain ⟨y19, ey19⟩ : ∃ y : Int32, y = lp_7 + 1 := ⟨_, rfl⟩
            have ty19 : y19.toInt = lp_7.toInt + 1 := by rw [ey19, zi_add _ _ (by rw [zk_1]; omega) (by rw [zk_1]; omega), zk_1]
            refine lv_iinc (v := y19) (lv' := [(7, .int y19), (0, .ref (ad 16 0)), (1, .int p0), (2, .int p1), (3, .int 0), (4, .int p2), (5, .long p3)]) hx hb dX6_tryLanes_70 hl (k := 0) rfl (by rw [ey19]; rfl) (by decide) rfl (fun ls hl => ?_)
            refine lv_goto (tgt := 21) hx hb dX6_tryLanes_73 (by decide) ?_
            exact ih_lp y19 M18 (by omega) (by omega) hI hE _ _ hw hS ls (lv_sub hl [0, 1, 2, 3, 4, 5, 6] rfl)
    exact lp _ p2 M (Nat.lt_succ_self _) (by omega) hI hE _ _ hw hS ls (lv_sub hl [0, 1, 2, 3, 4, 5, 6] rfl)
set_option maxHeartbeats 400000 in
set_option maxRecDepth 20000 in
theorem fc_X6_choose (l : Launch) (D : va_G) (ad : Nat → Nat → Nat) (C : Nat → Nat → ClassId) (nb : Nat) (M : fm_M) (hI : fm_I nb ad M) (p0 p1 : Int32) : Met l yX6_choose wsX6_choose ({ frames := 6, cells := 0, slots := 0, locals := 173 }) (va_Pc [.ref (ad 16 0), .int p0, .int p1] (fm_P D ad C nb M)) (va_Qv (fun (u : fm_M) => fm_I nb ad u ∧ fm_same [16006, 19000, 20000] M u ∧ True) (fun u t => fm_at D ad C nb u t.heap) (fm_A nb ad)) 0 0 (fm_A nb ad) := by
  refine Met.ofW (cc := cX6_choose) (maxL := 3) (ret := none) (by decide) rfl ?_
  intro p e s m args below meth c s₁ B hml hv
  obtain ⟨rfl, hw, hc⟩ := hv
  have hx := B.exec
  have hb := B.bytes
  have hr := B.returns
  have hts := atoms_spec (ws := wsX6_choose) B.pre
  have hown : s.vm.findClass RX6 = some m.cls := findClass_of_methodNamed B.named
  have hinX6 : ∀ w ∈ u_ws RX6 TX6 7, w ∈ wsX6_choose := fun w h => List.mem_cons_of_mem _ (iT_X6 w h)
  have hS : va_S (fm_A nb ad) s.heap s.heap [] := va_S.rf
  have hE : fm_same [16006, 19000, 20000] M M := fm_same.rf
  have hl := lv_entry ([.ref (ad 16 0), .int p0, .int p1]) (n := 3) (Nat.le_of_ble_eq_true rfl)
  rw [lg_entry_eq]
  generalize (lg_sl ([.ref (ad 16 0), .int p0, .int p1]) ++ List.replicate (3 - (lg_sl ([.ref (ad 16 0), .int p0, .int p1])).length) Slot.unset).toArray = ls at hl ⊢
  have hl : lv_has ls 3 [(0, .ref (ad 16 0)), (1, .int p0), (2, .int p1)] := hl
  refine lv_aload_n hx hb dX6_choose_0 rfl (lv_at hl 0 rfl) ?_
  refine lv_ldc2 (v := (-1)) hx hb hown (hts (.constantLong RX6 69 (-1)) (List.mem_cons_of_mem _ tw_3_227)) dX6_choose_1 ?_
  refine fm_putL (a := 16) (j := 6) (T := TX6) (N := 7) hx hb hts hinX6 tyX6 tyX6_ok nmX6 hown hc hw hI hE hS kl_16 sh_16 od_16 rfl (by decide) rfl (hts (.fieldLink RX6 66 "RedTent$Search" "chosenWeight" "J") (List.mem_cons_of_mem _ tw_1_119)) (fun _ h9 => h9) rfl (by decide +kernel) (by decide) dX6_choose_4 (fun M1 H locs eM1 hw hI hE hS => ?_)
  refine lv_aload_n hx hb dX6_choose_7 rfl (lv_at hl 0 rfl) ?_
  refine lv_iload_n hx hb dX6_choose_8 rfl (lv_at hl 1 rfl) ?_
  refine lv_iload_n hx hb dX6_choose_9 rfl (lv_at hl 2 rfl) ?_
  refine lv_iconst (v := 0) hx hb dX6_choose_10 (by decide) ?_
  refine lv_iconst (v := 0) hx hb dX6_choose_11 (by decide) ?_
  refine lv_lconst (v := 0) hx hb dX6_choose_12 (by decide) ?_
  refine fm_cv (va_runV (As := [.int p0, .int p1, .int 0, .int 0, .long 0]) (rest := []) ⟨hx, hb, hml, hown, hts⟩ (fc_X6_tryLanes0 l D ad C nb M1 hI p0 p1 0 0 (by decide)) (cwV 5 hts gX6_choose_X6_tryLanes rfl rfl rfl (by decide +kernel) ⟨Nat.le_of_ble_eq_true rfl, Nat.le_of_ble_eq_true rfl⟩) (fm_preV hc hw hS kl_16 sh_16 rfl) rfl rfl hl.1 rfl (lv_room (Nat.le_of_ble_eq_true rfl)) dX6_choose_13 ⟨by decide +kernel, by decide +kernel⟩) hS hc (fun M3 H locs hr2 hw hS => ?_)
  obtain ⟨hI, hEM3, hr2⟩ := hr2
  have hE := hE.tr hEM3 (by decide)
  exact W.vret hx hb hr (fun t ht hW => ⟨⟨M3, rfl, ⟨hI, hE, trivial⟩, by show fm_at D ad C nb _ t.heap; rw [ht]; exact hw⟩, hS.F ht⟩) hS.2.2 dX6_choose_16
set_option maxHeartbeats 400000 in
set_option maxRecDepth 20000 in
theorem fc_X2_addMan (l : Launch) (D : va_G) (ad : Nat → Nat → Nat) (C : Nat → Nat → ClassId) (nb : Nat) (M : fm_M) (hI : fm_I nb ad M) (p0 p1 p2 p3 : Int32) (b_p0 : 0 ≤ p0.toInt ∧ p0.toInt ≤ 11) (b_p1 : 0 ≤ p1.toInt ∧ p1.toInt ≤ 99) (b_p2 : 0 ≤ p2.toInt ∧ p2.toInt ≤ 99) (b_p3 : 0 ≤ p3.toInt ∧ p3.toInt ≤ 99) (hf : 0 ≤ (M.1 21 0 5).toInt ∧ (M.1 21 0 5).toInt ≤ 15) : Met l yX2_addMan wsX2_addMan ({ frames := 0, cells := 0, slots := 0, locals := 0 }) (va_Pc [.ref (ad 21 0), .int p0, .int p1, .int p2, .int p3] (fm_P D ad C nb M)) (va_Qi (fun (r : Int32) (u : fm_M) => fm_I nb ad u ∧ fm_same [21005, 22000, 23000, 24000, 25000] M u ∧ (r.toInt = (M.1 21 0 5).toInt ∧ (u.1 21 0 5).toInt = (M.1 21 0 5).toInt + 1)) (fun u t => fm_at D ad C nb u t.heap) (fm_A nb ad)) 0 0 (fm_A nb ad) := by
  refine Met.ofW (cc := cX2_addMan) (maxL := 5) (ret := (some .int)) (by decide) rfl ?_
  intro p e s m args below meth c s₁ B hml hv
  obtain ⟨rfl, hw, hc⟩ := hv
  have hx := B.exec
  have hb := B.bytes
  have hr := B.returns
  have hts := atoms_spec (ws := wsX2_addMan) B.pre
  have hown : s.vm.findClass RX2 = some m.cls := findClass_of_methodNamed B.named
  have hinX2 : ∀ w ∈ u_ws RX2 TX2 6, w ∈ wsX2_addMan := fun w h => List.mem_cons_of_mem _ (iT_X2 w h)
  have hS : va_S (fm_A nb ad) s.heap s.heap [] := va_S.rf
  have hE : fm_same [21005, 22000, 23000, 24000, 25000] M M := fm_same.rf
  have hl := lv_entry ([.ref (ad 21 0), .int p0, .int p1, .int p2, .int p3]) (n := 5) (Nat.le_of_ble_eq_true rfl)
  rw [lg_entry_eq]
  generalize (lg_sl ([.ref (ad 21 0), .int p0, .int p1, .int p2, .int p3]) ++ List.replicate (5 - (lg_sl ([.ref (ad 21 0), .int p0, .int p1, .int p2, .int p3])).length) Slot.unset).toArray = ls at hl ⊢
  have hl : lv_has ls 5 [(0, .ref (ad 21 0)), (1, .int p0), (2, .int p1), (3, .int p2), (4, .int p3)] := hl
  refine lv_aload_n hx hb dX2_addMan_0 rfl (lv_at hl 0 rfl) ?_
  refine fm_getG (a := 21) (j := 0) (T := TX2) (N := 6) hx hb hts hinX2 hown hc hw kl_21 sh_21 rfl (by decide) rfl (hI.to kl_21 tg_21_0) (hts (.fieldLink RX2 9 "RedTent$Crew" "body" "[I") (List.mem_cons_of_mem _ tw_1_141)) (fun _ h9 => h9) dX2_addMan_1 ?_
  refine lv_aload_n hx hb dX2_addMan_4 rfl (lv_at hl 0 rfl) ?_
  refine fm_getI (a := 21) (j := 5) (T := TX2) (N := 6) hx hb hts hinX2 hown hc hw hI kl_21 sh_21 rfl (by decide) rfl bd_21_5 (hts (.fieldLink RX2 27 "RedTent$Crew" "men" "I") (List.mem_cons_of_mem _ tw_1_151)) (fun _ h9 => h9) dX2_addMan_5 (fun x1 ex1 bx1 => ?_)
  have fx1 : 0 ≤ x1.toInt ∧ x1.toInt ≤ 15 := by rw [ex1]; exact hf
  refine lv_iload_n hx hb dX2_addMan_8 rfl (lv_at hl 1 rfl) ?_
  refine fm_iast (a := 22) hx hb hc hw hI hE hS kl_22 sh_22 ty_22 bd_22 (by omega) (by omega) cd_22 (by decide) dX2_addMan_9 (fun M2 H locs eM2 hw hI hE hS => ?_)
  refine lv_aload_n hx hb dX2_addMan_10 rfl (lv_at hl 0 rfl) ?_
  refine fm_getG (a := 21) (j := 1) (T := TX2) (N := 6) hx hb hts hinX2 hown hc hw kl_21 sh_21 rfl (by decide) rfl (hI.to kl_21 tg_21_1) (hts (.fieldLink RX2 15 "RedTent$Crew" "strength" "[I") (List.mem_cons_of_mem _ tw_1_143)) (fun _ h9 => h9) dX2_addMan_11 ?_
  refine lv_aload_n hx hb dX2_addMan_14 rfl (lv_at hl 0 rfl) ?_
  refine fm_getI (a := 21) (j := 5) (T := TX2) (N := 6) hx hb hts hinX2 hown hc hw hI kl_21 sh_21 rfl (by decide) rfl bd_21_5 (hts (.fieldLink RX2 27 "RedTent$Crew" "men" "I") (List.mem_cons_of_mem _ tw_1_151)) (fun _ h9 => h9) dX2_addMan_15 (fun x3 ex3 bx3 => ?_)
  obtain rfl : x1 = x3 := by rw [ex3, eM2, fm_wI_nj (fun z => absurd z.1 (by decide))]; exact ex1
  refine lv_iload_n hx hb dX2_addMan_18 rfl (lv_at hl 2 rfl) ?_
  refine fm_iast (a := 23) hx hb hc hw hI hE hS kl_23 sh_23 ty_23 bd_23 (by omega) (by omega) cd_23 (by decide) dX2_addMan_19 (fun M4 H locs eM4 hw hI hE hS => ?_)
  refine lv_aload_n hx hb dX2_addMan_20 rfl (lv_at hl 0 rfl) ?_
  refine fm_getG (a := 21) (j := 2) (T := TX2) (N := 6) hx hb hts hinX2 hown hc hw kl_21 sh_21 rfl (by decide) rfl (hI.to kl_21 tg_21_2) (hts (.fieldLink RX2 18 "RedTent$Crew" "hurt" "[I") (List.mem_cons_of_mem _ tw_1_145)) (fun _ h9 => h9) dX2_addMan_21 ?_
  refine lv_aload_n hx hb dX2_addMan_24 rfl (lv_at hl 0 rfl) ?_
  refine fm_getI (a := 21) (j := 5) (T := TX2) (N := 6) hx hb hts hinX2 hown hc hw hI kl_21 sh_21 rfl (by decide) rfl bd_21_5 (hts (.fieldLink RX2 27 "RedTent$Crew" "men" "I") (List.mem_cons_of_mem _ tw_1_151)) (fun _ h9 => h9) dX2_addMan_25 (fun x5 ex5 bx5 => ?_)
  obtain rfl : x1 = x5 := by rw [ex5, eM4, fm_wI_nj (fun z => absurd z.1 (by decide)), eM2, fm_wI_nj (fun z => absurd z.1 (by decide))]; exact ex1
  refine lv_iload_n hx hb dX2_addMan_28 rfl (lv_at hl 3 rfl) ?_
  refine fm_iast (a := 24) hx hb hc hw hI hE hS kl_24 sh_24 ty_24 bd_24 (by omega) (by omega) cd_24 (by decide) dX2_addMan_29 (fun M6 H locs eM6 hw hI hE hS => ?_)
  refine lv_aload_n hx hb dX2_addMan_30 rfl (lv_at hl 0 rfl) ?_
  refine fm_getG (a := 21) (j := 3) (T := TX2) (N := 6) hx hb hts hinX2 hown hc hw kl_21 sh_21 rfl (by decide) rfl (hI.to kl_21 tg_21_3) (hts (.fieldLink RX2 21 "RedTent$Crew" "skill" "[I") (List.mem_cons_of_mem _ tw_1_147)) (fun _ h9 => h9) dX2_addMan_31 ?_
  refine lv_aload_n hx hb dX2_addMan_34 rfl (lv_at hl 0 rfl) ?_
  refine fm_getI (a := 21) (j := 5) (T := TX2) (N := 6) hx hb hts hinX2 hown hc hw hI kl_21 sh_21 rfl (by decide) rfl bd_21_5 (hts (.fieldLink RX2 27 "RedTent$Crew" "men" "I") (List.mem_cons_of_mem _ tw_1_151)) (fun _ h9 => h9) dX2_addMan_35 (fun x7 ex7 bx7 => ?_)
  obtain rfl : x1 = x7 := by rw [ex7, eM6, fm_wI_nj (fun z => absurd z.1 (by decide)), eM4, fm_wI_nj (fun z => absurd z.1 (by decide)), eM2, fm_wI_nj (fun z => absurd z.1 (by decide))]; exact ex1
  refine lv_iload hx hb dX2_addMan_38 (lv_at hl 4 rfl) ?_
  refine fm_iast (a := 25) hx hb hc hw hI hE hS kl_25 sh_25 ty_25 bd_25 (by omega) (by omega) cd_25 (by decide) dX2_addMan_40 (fun M8 H locs eM8 hw hI hE hS => ?_)
  refine lv_aload_n hx hb dX2_addMan_41 rfl (lv_at hl 0 rfl) ?_
  refine lv_dup hx hb dX2_addMan_42 rfl ?_
  refine fm_getI (a := 21) (j := 5) (T := TX2) (N := 6) hx hb hts hinX2 hown hc hw hI kl_21 sh_21 rfl (by decide) rfl bd_21_5 (hts (.fieldLink RX2 27 "RedTent$Crew" "men" "I") (List.mem_cons_of_mem _ tw_1_151)) (fun _ h9 => h9) dX2_addMan_43 (fun x9 ex9 bx9 => ?_)
  obtain rfl : x1 = x9 := by rw [ex9, eM8, fm_wI_nj (fun z => absurd z.1 (by decide)), eM6, fm_wI_nj (fun z => absurd z.1 (by decide)), eM4, fm_wI_nj (fun z => absurd z.1 (by decide)), eM2, fm_wI_nj (fun z => absurd z.1 (by decide))]; exact ex1
  refine lv_dup_x1 hx hb dX2_addMan_46 rfl rfl ?_
  refine lv_iconst (v := 1) hx hb dX2_addMan_47 (by decide) ?_
  refine fx_iadd hx hb dX2_addMan_48 rfl zk_1 (by omega) (fun y10 ey10 ty10 => ?_)
  refine fm_putI (a := 21) (j := 5) (T := TX2) (N := 6) hx hb hts hinX2 tyX2 tyX2_ok nmX2 hown hc hw hI hE hS kl_21 sh_21 od_21 rfl (by decide) rfl bd_21_5 (hts (.fieldLink RX2 27 "RedTent$Crew" "men" "I") (List.mem_cons_of_mem _ tw_1_151)) (fun _ h9 => h9) rfl (by decide +kernel) (by omega) (by decide) (by decide) dX2_addMan_49 (fun M11 H locs eM11 hw hI hE hS => ?_)
  have qx1 : x1.toInt = (M.1 21 0 5).toInt := by rw [ex1]
  exact W.iret (v := x1) hx hb hr (fun t ht hW => ⟨⟨x1, M11, rfl, ⟨hI, hE, ⟨by omega, (by first | omega | (rw [eM11, fm_wI_at]; omega))⟩⟩, by show fm_at D ad C nb _ t.heap; rw [ht]; exact hw⟩, hS.F ht⟩) hS.2.2 dX2_addMan_52
set_option maxHeartbeats 400000 in
set_option maxRecDepth 20000 in
theorem fc_X2_aheadOf (l : Launch) (D : va_G) (ad : Nat → Nat → Nat) (C : Nat → Nat → ClassId) (nb : Nat) (M : fm_M) (hI : fm_I nb ad M) (p0 : Int32) (b_p0 : 0 ≤ p0.toInt ∧ p0.toInt ≤ 15) : Met l yX2_aheadOf wsX2_aheadOf ({ frames := 0, cells := 0, slots := 0, locals := 0 }) (va_Pc [.ref (ad 21 0), .int p0] (fm_P D ad C nb M)) (vp_Si (fun r : Int32 => True)) 0 0 (fun _ => False) := by
  refine Met.ofW (cc := cX2_aheadOf) (maxL := 5) (ret := (some .int)) (by decide) rfl ?_
  intro p e s m args below meth c s₁ B hml hv
  obtain ⟨rfl, hw, hc⟩ := hv
  have hx := B.exec
  have hb := B.bytes
  have hr := B.returns
  have hts := atoms_spec (ws := wsX2_aheadOf) B.pre
  have hown : s.vm.findClass RX2 = some m.cls := findClass_of_methodNamed B.named
  have hinX2 : ∀ w ∈ u_ws RX2 TX2 6, w ∈ wsX2_aheadOf := fun w h => List.mem_cons_of_mem _ (iT_X2 w h)
  have hS : va_S (fm_A nb ad) s.heap s.heap [] := va_S.rf
  have hl := lv_entry ([.ref (ad 21 0), .int p0]) (n := 5) (Nat.le_of_ble_eq_true rfl)
  rw [lg_entry_eq]
  generalize (lg_sl ([.ref (ad 21 0), .int p0]) ++ List.replicate (5 - (lg_sl ([.ref (ad 21 0), .int p0])).length) Slot.unset).toArray = ls at hl ⊢
  have hl : lv_has ls 5 [(0, .ref (ad 21 0)), (1, .int p0)] := hl
  refine lv_iconst (v := 0) hx hb dX2_aheadOf_0 (by decide) ?_
  refine lv_istore_n (lv' := [(2, .int 0), (0, .ref (ad 21 0)), (1, .int p0)]) hx hb dX2_aheadOf_1 rfl hl (by decide) rfl (fun ls hl => ?_)
  refine lv_iconst (v := 0) hx hb dX2_aheadOf_2 (by decide) ?_
  refine lv_istore_n (lv' := [(3, .int 0), (2, .int 0), (0, .ref (ad 21 0)), (1, .int p0)]) hx hb dX2_aheadOf_3 rfl hl (by decide) rfl (fun ls hl => ?_)
  have lp : ∀ (n_lp : Nat) (lp_3 : Int32) (lp_2 : Int32), (16 - lp_3.toInt).toNat < n_lp → (0 ≤ lp_3.toInt ∧ lp_3.toInt ≤ 16) → (0 ≤ lp_2.toInt ∧ lp_2.toInt ≤ 16) → (lp_2.toInt ≤ lp_3.toInt) → ∀ (ls : Array Slot), lv_has ls 5 [(3, .int lp_3), (2, .int lp_2), (0, .ref (ad 21 0)), (1, .int p0)] → W p l e (headSpec wsX2_aheadOf ({ frames := 0, cells := 0, slots := 0, locals := 0 })).room s m ([.ref (ad 21 0), .int p0] : List Value).toArray below meth c s.heap [] 0 0 (MQ below (vp_Si (fun r : Int32 => True)) ([.ref (ad 21 0), .int p0] : List Value).toArray s 0 0 (fun _ => False)) (F0 m 4 ls []) := by
    intro n_lp
    induction n_lp with
    | zero => intro lp_3 lp_2 hm_lp b_lp_3 b_lp_2 h2 ls hl; exact absurd hm_lp (Nat.not_lt_zero _)
    | succ n_lp ih_lp =>
      intro lp_3 lp_2 hm_lp b_lp_3 b_lp_2 h2 ls hl
      refine lv_iload_n hx hb dX2_aheadOf_4 rfl (lv_at hl 0 rfl) ?_
      refine lv_aload_n hx hb dX2_aheadOf_5 rfl (lv_at hl 2 rfl) ?_
      refine fm_getI (a := 21) (j := 5) (T := TX2) (N := 6) hx hb hts hinX2 hown hc hw hI kl_21 sh_21 rfl (by decide) rfl bd_21_5 (hts (.fieldLink RX2 27 "RedTent$Crew" "men" "I") (List.mem_cons_of_mem _ tw_1_151)) (fun _ h9 => h9) dX2_aheadOf_6 (fun x1 ex1 bx1 => ?_)
      refine fx_icmp_ge (tgt := 83) hx hb dX2_aheadOf_9 (by decide) rfl rfl (fun c2 => ?_) (fun c2 => ?_)
      · refine lv_iload_n hx hb dX2_aheadOf_83 rfl (lv_at hl 1 rfl) ?_
        exact W.iret (v := lp_2) hx hb hr (fun t ht hW => ⟨lp_2, rfl, trivial, ht⟩) (fun _ h => absurd h List.not_mem_nil) dX2_aheadOf_84
      · refine lv_aload_n hx hb dX2_aheadOf_12 rfl (lv_at hl 2 rfl) ?_
        refine fm_getG (a := 21) (j := 4) (T := TX2) (N := 6) hx hb hts hinX2 hown hc hw kl_21 sh_21 rfl (by decide) rfl (hI.to kl_21 tg_21_4) (hts (.fieldLink RX2 24 "RedTent$Crew" "takes" "[I") (List.mem_cons_of_mem _ tw_1_149)) (fun _ h9 => h9) dX2_aheadOf_13 ?_
        refine lv_iload_n hx hb dX2_aheadOf_16 rfl (lv_at hl 0 rfl) ?_
        refine fm_iald (a := 26) hx hb hc hw hI kl_26 sh_26 ty_26 bd_26 (by omega) dX2_aheadOf_17 (fun x3 ex3 bx3 => ?_)
        refine lv_aload_n hx hb dX2_aheadOf_18 rfl (lv_at hl 2 rfl) ?_
        refine fm_getG (a := 21) (j := 4) (T := TX2) (N := 6) hx hb hts hinX2 hown hc hw kl_21 sh_21 rfl (by decide) rfl (hI.to kl_21 tg_21_4) (hts (.fieldLink RX2 24 "RedTent$Crew" "takes" "[I") (List.mem_cons_of_mem _ tw_1_149)) (fun _ h9 => h9) dX2_aheadOf_19 ?_
        refine lv_iload_n hx hb dX2_aheadOf_22 rfl (lv_at hl 3 rfl) ?_
        refine fm_iald (a := 26) hx hb hc hw hI kl_26 sh_26 ty_26 bd_26 (by omega) dX2_aheadOf_23 (fun x4 ex4 bx4 => ?_)
        refine fx_icmp_gt (tgt := 47) hx hb dX2_aheadOf_24 (by decide) rfl rfl (fun c5 => ?_) (fun c5 => ?_)
        · refine lv_iconst (v := 1) hx hb dX2_aheadOf_47 (by decide) ?_
          refine lv_goto (tgt := 52) hx hb dX2_aheadOf_48 (by decide) ?_
          refine lv_istore (lv' := [(4, .int 1), (3, .int lp_3), (2, .int lp_2), (0, .ref (ad 21 0)), (1, .int p0)]) hx hb dX2_aheadOf_52 hl (by decide) rfl (fun ls hl => ?_)
          refine lv_aload_n hx hb dX2_aheadOf_54 rfl (lv_at hl 3 rfl) ?_
          refine fm_getG (a := 21) (j := 0) (T := TX2) (N := 6) hx hb hts hinX2 hown hc hw kl_21 sh_21 rfl (by decide) rfl (hI.to kl_21 tg_21_0) (hts (.fieldLink RX2 9 "RedTent$Crew" "body" "[I") (List.mem_cons_of_mem _ tw_1_141)) (fun _ h9 => h9) dX2_aheadOf_55 ?_
          refine lv_iload_n hx hb dX2_aheadOf_58 rfl (lv_at hl 1 rfl) ?_
          refine fm_iald (a := 22) hx hb hc hw hI kl_22 sh_22 ty_22 bd_22 (by omega) dX2_aheadOf_59 (fun x6 ex6 bx6 => ?_)
          refine lv_aload_n hx hb dX2_aheadOf_60 rfl (lv_at hl 3 rfl) ?_
          refine fm_getG (a := 21) (j := 0) (T := TX2) (N := 6) hx hb hts hinX2 hown hc hw kl_21 sh_21 rfl (by decide) rfl (hI.to kl_21 tg_21_0) (hts (.fieldLink RX2 9 "RedTent$Crew" "body" "[I") (List.mem_cons_of_mem _ tw_1_141)) (fun _ h9 => h9) dX2_aheadOf_61 ?_
          refine lv_iload_n hx hb dX2_aheadOf_64 rfl (lv_at hl 4 rfl) ?_
          refine fm_iald (a := 22) hx hb hc hw hI kl_22 sh_22 ty_22 bd_22 (by omega) dX2_aheadOf_65 (fun x7 ex7 bx7 => ?_)
          refine fx_icmp_ne (tgt := 77) hx hb dX2_aheadOf_66 (by decide) rfl rfl (fun c8 => ?_) (fun c8 => ?_)
          · obtain ⟨y9, ey9⟩ : ∃ y : Int32, y = lp_3 + 1 := ⟨_, rfl⟩
            have ty9 : y9.toInt = lp_3.toInt + 1 := by rw [ey9, zi_add _ _ (by rw [zk_1]; omega) (by rw [zk_1]; omega), zk_1]
            refine lv_iinc (v := y9) (lv' := [(3, .int y9), (4, .int 1), (2, .int lp_2), (0, .ref (ad 21 0)), (1, .int p0)]) hx hb dX2_aheadOf_77 hl (k := 1) rfl (by rw [ey9]; rfl) (by decide) rfl (fun ls hl => ?_)
            refine lv_goto (tgt := 4) hx hb dX2_aheadOf_80 (by decide) ?_
            exact ih_lp y9 lp_2 (by omega) (by omega) (by omega) (by omega) ls (lv_sub hl [0, 2, 3, 4] rfl)
          · refine lv_iload hx hb dX2_aheadOf_69 (lv_at hl 0 rfl) ?_
            refine fx_if_eq (tgt := 77) hx hb dX2_aheadOf_71 (by decide) zk_1 (fun c10 => by exfalso; omega) (fun c10 => ?_)
            obtain ⟨y11, ey11⟩ : ∃ y : Int32, y = lp_2 + 1 := ⟨_, rfl⟩
            have ty11 : y11.toInt = lp_2.toInt + 1 := by rw [ey11, zi_add _ _ (by rw [zk_1]; omega) (by rw [zk_1]; omega), zk_1]
            refine lv_iinc (v := y11) (lv' := [(2, .int y11), (4, .int 1), (3, .int lp_3), (0, .ref (ad 21 0)), (1, .int p0)]) hx hb dX2_aheadOf_74 hl (k := 2) rfl (by rw [ey11]; rfl) (by decide) rfl (fun ls hl => ?_)
            obtain ⟨y12, ey12⟩ : ∃ y : Int32, y = lp_3 + 1 := ⟨_, rfl⟩
            have ty12 : y12.toInt = lp_3.toInt + 1 := by rw [ey12, zi_add _ _ (by rw [zk_1]; omega) (by rw [zk_1]; omega), zk_1]
            refine lv_iinc (v := y12) (lv' := [(3, .int y12), (2, .int y11), (4, .int 1), (0, .ref (ad 21 0)), (1, .int p0)]) hx hb dX2_aheadOf_77 hl (k := 2) rfl (by rw [ey12]; rfl) (by decide) rfl (fun ls hl => ?_)
            refine lv_goto (tgt := 4) hx hb dX2_aheadOf_80 (by decide) ?_
            exact ih_lp y12 y11 (by omega) (by omega) (by omega) (by omega) ls (lv_sub hl [0, 1, 3, 4] rfl)
        · refine lv_aload_n hx hb dX2_aheadOf_27 rfl (lv_at hl 2 rfl) ?_
          refine fm_getG (a := 21) (j := 4) (T := TX2) (N := 6) hx hb hts hinX2 hown hc hw kl_21 sh_21 rfl (by decide) rfl (hI.to kl_21 tg_21_4) (hts (.fieldLink RX2 24 "RedTent$Crew" "takes" "[I") (List.mem_cons_of_mem _ tw_1_149)) (fun _ h9 => h9) dX2_aheadOf_28 ?_
          refine lv_iload_n hx hb dX2_aheadOf_31 rfl (lv_at hl 0 rfl) ?_
          refine fm_iald (a := 26) hx hb hc hw hI kl_26 sh_26 ty_26 bd_26 (by omega) dX2_aheadOf_32 (fun x13 ex13 bx13 => ?_)
          obtain rfl : x3 = x13 := by rw [ex13]; exact ex3
          refine lv_aload_n hx hb dX2_aheadOf_33 rfl (lv_at hl 2 rfl) ?_
          refine fm_getG (a := 21) (j := 4) (T := TX2) (N := 6) hx hb hts hinX2 hown hc hw kl_21 sh_21 rfl (by decide) rfl (hI.to kl_21 tg_21_4) (hts (.fieldLink RX2 24 "RedTent$Crew" "takes" "[I") (List.mem_cons_of_mem _ tw_1_149)) (fun _ h9 => h9) dX2_aheadOf_34 ?_
          refine lv_iload_n hx hb dX2_aheadOf_37 rfl (lv_at hl 3 rfl) ?_
          refine fm_iald (a := 26) hx hb hc hw hI kl_26 sh_26 ty_26 bd_26 (by omega) dX2_aheadOf_38 (fun x14 ex14 bx14 => ?_)
          obtain rfl : x4 = x14 := by rw [ex14]; exact ex4
          refine fx_icmp_ne (tgt := 51) hx hb dX2_aheadOf_39 (by decide) rfl rfl (fun c15 => ?_) (fun c15 => ?_)
          · refine lv_iconst (v := 0) hx hb dX2_aheadOf_51 (by decide) ?_
            refine lv_istore (lv' := [(4, .int 0), (3, .int lp_3), (2, .int lp_2), (0, .ref (ad 21 0)), (1, .int p0)]) hx hb dX2_aheadOf_52 hl (by decide) rfl (fun ls hl => ?_)
            refine lv_aload_n hx hb dX2_aheadOf_54 rfl (lv_at hl 3 rfl) ?_
            refine fm_getG (a := 21) (j := 0) (T := TX2) (N := 6) hx hb hts hinX2 hown hc hw kl_21 sh_21 rfl (by decide) rfl (hI.to kl_21 tg_21_0) (hts (.fieldLink RX2 9 "RedTent$Crew" "body" "[I") (List.mem_cons_of_mem _ tw_1_141)) (fun _ h9 => h9) dX2_aheadOf_55 ?_
            refine lv_iload_n hx hb dX2_aheadOf_58 rfl (lv_at hl 1 rfl) ?_
            refine fm_iald (a := 22) hx hb hc hw hI kl_22 sh_22 ty_22 bd_22 (by omega) dX2_aheadOf_59 (fun x16 ex16 bx16 => ?_)
            refine lv_aload_n hx hb dX2_aheadOf_60 rfl (lv_at hl 3 rfl) ?_
            refine fm_getG (a := 21) (j := 0) (T := TX2) (N := 6) hx hb hts hinX2 hown hc hw kl_21 sh_21 rfl (by decide) rfl (hI.to kl_21 tg_21_0) (hts (.fieldLink RX2 9 "RedTent$Crew" "body" "[I") (List.mem_cons_of_mem _ tw_1_141)) (fun _ h9 => h9) dX2_aheadOf_61 ?_
            refine lv_iload_n hx hb dX2_aheadOf_64 rfl (lv_at hl 4 rfl) ?_
            refine fm_iald (a := 22) hx hb hc hw hI kl_22 sh_22 ty_22 bd_22 (by omega) dX2_aheadOf_65 (fun x17 ex17 bx17 => ?_)
            refine fx_icmp_ne (tgt := 77) hx hb dX2_aheadOf_66 (by decide) rfl rfl (fun c18 => ?_) (fun c18 => ?_)
            · obtain ⟨y19, ey19⟩ : ∃ y : Int32, y = lp_3 + 1 := ⟨_, rfl⟩
              have ty19 : y19.toInt = lp_3.toInt + 1 := by rw [ey19, zi_add _ _ (by rw [zk_1]; omega) (by rw [zk_1]; omega), zk_1]
              refine lv_iinc (v := y19) (lv' := [(3, .int y19), (4, .int 0), (2, .int lp_2), (0, .ref (ad 21 0)), (1, .int p0)]) hx hb dX2_aheadOf_77 hl (k := 1) rfl (by rw [ey19]; rfl) (by decide) rfl (fun ls hl => ?_)
              refine lv_goto (tgt := 4) hx hb dX2_aheadOf_80 (by decide) ?_
              exact ih_lp y19 lp_2 (by omega) (by omega) (by omega) (by omega) ls (lv_sub hl [0, 2, 3, 4] rfl)
            · refine lv_iload hx hb dX2_aheadOf_69 (lv_at hl 0 rfl) ?_
              refine fx_if_eq (tgt := 77) hx hb dX2_aheadOf_71 (by decide) zk_0 (fun c20 => ?_) (fun c20 => by exfalso; omega)
              obtain ⟨y21, ey21⟩ : ∃ y : Int32, y = lp_3 + 1 := ⟨_, rfl⟩
              have ty21 : y21.toInt = lp_3.toInt + 1 := by rw [ey21, zi_add _ _ (by rw [zk_1]; omega) (by rw [zk_1]; omega), zk_1]
              refine lv_iinc (v := y21) (lv' := [(3, .int y21), (4, .int 0), (2, .int lp_2), (0, .ref (ad 21 0)), (1, .int p0)]) hx hb dX2_aheadOf_77 hl (k := 1) rfl (by rw [ey21]; rfl) (by decide) rfl (fun ls hl => ?_)
              refine lv_goto (tgt := 4) hx hb dX2_aheadOf_80 (by decide) ?_
              exact ih_lp y21 lp_2 (by omega) (by omega) (by omega) (by omega) ls (lv_sub hl [0, 2, 3, 4] rfl)
          · refine lv_iload_n hx hb dX2_aheadOf_42 rfl (lv_at hl 0 rfl) ?_
            refine lv_iload_n hx hb dX2_aheadOf_43 rfl (lv_at hl 3 rfl) ?_
            refine fx_icmp_ge (tgt := 51) hx hb dX2_aheadOf_44 (by decide) rfl rfl (fun c22 => ?_) (fun c22 => ?_)
            · refine lv_iconst (v := 0) hx hb dX2_aheadOf_51 (by decide) ?_
              refine lv_istore (lv' := [(4, .int 0), (3, .int lp_3), (2, .int lp_2), (0, .ref (ad 21 0)), (1, .int p0)]) hx hb dX2_aheadOf_52 hl (by decide) rfl (fun ls hl => ?_)
              refine lv_aload_n hx hb dX2_aheadOf_54 rfl (lv_at hl 3 rfl) ?_
              refine fm_getG (a := 21) (j := 0) (T := TX2) (N := 6) hx hb hts hinX2 hown hc hw kl_21 sh_21 rfl (by decide) rfl (hI.to kl_21 tg_21_0) (hts (.fieldLink RX2 9 "RedTent$Crew" "body" "[I") (List.mem_cons_of_mem _ tw_1_141)) (fun _ h9 => h9) dX2_aheadOf_55 ?_
              refine lv_iload_n hx hb dX2_aheadOf_58 rfl (lv_at hl 1 rfl) ?_
              refine fm_iald (a := 22) hx hb hc hw hI kl_22 sh_22 ty_22 bd_22 (by omega) dX2_aheadOf_59 (fun x23 ex23 bx23 => ?_)
              refine lv_aload_n hx hb dX2_aheadOf_60 rfl (lv_at hl 3 rfl) ?_
              refine fm_getG (a := 21) (j := 0) (T := TX2) (N := 6) hx hb hts hinX2 hown hc hw kl_21 sh_21 rfl (by decide) rfl (hI.to kl_21 tg_21_0) (hts (.fieldLink RX2 9 "RedTent$Crew" "body" "[I") (List.mem_cons_of_mem _ tw_1_141)) (fun _ h9 => h9) dX2_aheadOf_61 ?_
              refine lv_iload_n hx hb dX2_aheadOf_64 rfl (lv_at hl 4 rfl) ?_
              refine fm_iald (a := 22) hx hb hc hw hI kl_22 sh_22 ty_22 bd_22 (by omega) dX2_aheadOf_65 (fun x24 ex24 bx24 => ?_)
              refine fx_icmp_ne (tgt := 77) hx hb dX2_aheadOf_66 (by decide) rfl rfl (fun c25 => ?_) (fun c25 => ?_)
              · obtain ⟨y26, ey26⟩ : ∃ y : Int32, y = lp_3 + 1 := ⟨_, rfl⟩
                have ty26 : y26.toInt = lp_3.toInt + 1 := by rw [ey26, zi_add _ _ (by rw [zk_1]; omega) (by rw [zk_1]; omega), zk_1]
                refine lv_iinc (v := y26) (lv' := [(3, .int y26), (4, .int 0), (2, .int lp_2), (0, .ref (ad 21 0)), (1, .int p0)]) hx hb dX2_aheadOf_77 hl (k := 1) rfl (by rw [ey26]; rfl) (by decide) rfl (fun ls hl => ?_)
                refine lv_goto (tgt := 4) hx hb dX2_aheadOf_80 (by decide) ?_
                exact ih_lp y26 lp_2 (by omega) (by omega) (by omega) (by omega) ls (lv_sub hl [0, 2, 3, 4] rfl)
              · refine lv_iload hx hb dX2_aheadOf_69 (lv_at hl 0 rfl) ?_
                refine fx_if_eq (tgt := 77) hx hb dX2_aheadOf_71 (by decide) zk_0 (fun c27 => ?_) (fun c27 => by exfalso; omega)
                obtain ⟨y28, ey28⟩ : ∃ y : Int32, y = lp_3 + 1 := ⟨_, rfl⟩
                have ty28 : y28.toInt = lp_3.toInt + 1 := by rw [ey28, zi_add _ _ (by rw [zk_1]; omega) (by rw [zk_1]; omega), zk_1]
                refine lv_iinc (v := y28) (lv' := [(3, .int y28), (4, .int 0), (2, .int lp_2), (0, .ref (ad 21 0)), (1, .int p0)]) hx hb dX2_aheadOf_77 hl (k := 1) rfl (by rw [ey28]; rfl) (by decide) rfl (fun ls hl => ?_)
                refine lv_goto (tgt := 4) hx hb dX2_aheadOf_80 (by decide) ?_
                exact ih_lp y28 lp_2 (by omega) (by omega) (by omega) (by omega) ls (lv_sub hl [0, 2, 3, 4] rfl)
            · refine lv_iconst (v := 1) hx hb dX2_aheadOf_47 (by decide) ?_
              refine lv_goto (tgt := 52) hx hb dX2_aheadOf_48 (by decide) ?_
              refine lv_istore (lv' := [(4, .int 1), (3, .int lp_3), (2, .int lp_2), (0, .ref (ad 21 0)), (1, .int p0)]) hx hb dX2_aheadOf_52 hl (by decide) rfl (fun ls hl => ?_)
              refine lv_aload_n hx hb dX2_aheadOf_54 rfl (lv_at hl 3 rfl) ?_
              refine fm_getG (a := 21) (j := 0) (T := TX2) (N := 6) hx hb hts hinX2 hown hc hw kl_21 sh_21 rfl (by decide) rfl (hI.to kl_21 tg_21_0) (hts (.fieldLink RX2 9 "RedTent$Crew" "body" "[I") (List.mem_cons_of_mem _ tw_1_141)) (fun _ h9 => h9) dX2_aheadOf_55 ?_
              refine lv_iload_n hx hb dX2_aheadOf_58 rfl (lv_at hl 1 rfl) ?_
              refine fm_iald (a := 22) hx hb hc hw hI kl_22 sh_22 ty_22 bd_22 (by omega) dX2_aheadOf_59 (fun x29 ex29 bx29 => ?_)
              refine lv_aload_n hx hb dX2_aheadOf_60 rfl (lv_at hl 3 rfl) ?_
              refine fm_getG (a := 21) (j := 0) (T := TX2) (N := 6) hx hb hts hinX2 hown hc hw kl_21 sh_21 rfl (by decide) rfl (hI.to kl_21 tg_21_0) (hts (.fieldLink RX2 9 "RedTent$Crew" "body" "[I") (List.mem_cons_of_mem _ tw_1_141)) (fun _ h9 => h9) dX2_aheadOf_61 ?_
              refine lv_iload_n hx hb dX2_aheadOf_64 rfl (lv_at hl 4 rfl) ?_
              refine fm_iald (a := 22) hx hb hc hw hI kl_22 sh_22 ty_22 bd_22 (by omega) dX2_aheadOf_65 (fun x30 ex30 bx30 => ?_)
              refine fx_icmp_ne (tgt := 77) hx hb dX2_aheadOf_66 (by decide) rfl rfl (fun c31 => ?_) (fun c31 => ?_)
              · obtain ⟨y32, ey32⟩ : ∃ y : Int32, y = lp_3 + 1 := ⟨_, rfl⟩
                have ty32 : y32.toInt = lp_3.toInt + 1 := by rw [ey32, zi_add _ _ (by rw [zk_1]; omega) (by rw [zk_1]; omega), zk_1]
                refine lv_iinc (v := y32) (lv' := [(3, .int y32), (4, .int 1), (2, .int lp_2), (0, .ref (ad 21 0)), (1, .int p0)]) hx hb dX2_aheadOf_77 hl (k := 1) rfl (by rw [ey32]; rfl) (by decide) rfl (fun ls hl => ?_)
                refine lv_goto (tgt := 4) hx hb dX2_aheadOf_80 (by decide) ?_
                exact ih_lp y32 lp_2 (by omega) (by omega) (by omega) (by omega) ls (lv_sub hl [0, 2, 3, 4] rfl)
              · refine lv_iload hx hb dX2_aheadOf_69 (lv_at hl 0 rfl) ?_
                refine fx_if_eq (tgt := 77) hx hb dX2_aheadOf_71 (by decide) zk_1 (fun c33 => by exfalso; omega) (fun c33 => ?_)
                obtain ⟨y34, ey34⟩ : ∃ y : Int32, y = lp_2 + 1 := ⟨_, rfl⟩
                have ty34 : y34.toInt = lp_2.toInt + 1 := by rw [ey34, zi_add _ _ (by rw [zk_1]; omega) (by rw [zk_1]; omega), zk_1]
                refine lv_iinc (v := y34) (lv' := [(2, .int y34), (4, .int 1), (3, .int lp_3), (0, .ref (ad 21 0)), (1, .int p0)]) hx hb dX2_aheadOf_74 hl (k := 2) rfl (by rw [ey34]; rfl) (by decide) rfl (fun ls hl => ?_)
                obtain ⟨y35, ey35⟩ : ∃ y : Int32, y = lp_3 + 1 := ⟨_, rfl⟩
                have ty35 : y35.toInt = lp_3.toInt + 1 := by rw [ey35, zi_add _ _ (by rw [zk_1]; omega) (by rw [zk_1]; omega), zk_1]
                refine lv_iinc (v := y35) (lv' := [(3, .int y35), (2, .int y34), (4, .int 1), (0, .ref (ad 21 0)), (1, .int p0)]) hx hb dX2_aheadOf_77 hl (k := 2) rfl (by rw [ey35]; rfl) (by decide) rfl (fun ls hl => ?_)
                refine lv_goto (tgt := 4) hx hb dX2_aheadOf_80 (by decide) ?_
                exact ih_lp y35 y34 (by omega) (by omega) (by omega) (by omega) ls (lv_sub hl [0, 1, 3, 4] rfl)
  exact lp _ 0 0 (Nat.lt_succ_self _) (by decide) (by decide) (by have zlp_3 := zk_0; have zlp_2 := zk_0; omega) ls (lv_sub hl [0, 1, 2, 3] rfl)
set_option maxHeartbeats 400000 in
set_option maxRecDepth 20000 in
theorem fc_X2_inTurn (l : Launch) (D : va_G) (ad : Nat → Nat → Nat) (C : Nat → Nat → ClassId) (nb : Nat) (M : fm_M) (hI : fm_I nb ad M) (p0 p1 : Int32) : Met l yX2_inTurn wsX2_inTurn ({ frames := 1, cells := 0, slots := 0, locals := 24 }) (va_Pc [.ref (ad 21 0), .int p0, .int p1] (fm_P D ad C nb M)) (vp_Si (fun r : Int32 => ((-1) ≤ r.toInt ∧ r.toInt ≤ 15))) 0 0 (fun _ => False) := by
  refine Met.ofW (cc := cX2_inTurn) (maxL := 4) (ret := (some .int)) (by decide) rfl ?_
  intro p e s m args below meth c s₁ B hml hv
  obtain ⟨rfl, hw, hc⟩ := hv
  have hx := B.exec
  have hb := B.bytes
  have hr := B.returns
  have hts := atoms_spec (ws := wsX2_inTurn) B.pre
  have hown : s.vm.findClass RX2 = some m.cls := findClass_of_methodNamed B.named
  have hinX2 : ∀ w ∈ u_ws RX2 TX2 6, w ∈ wsX2_inTurn := fun w h => List.mem_cons_of_mem _ (iT_X2 w h)
  have hS : va_S (fm_A nb ad) s.heap s.heap [] := va_S.rf
  have hl := lv_entry ([.ref (ad 21 0), .int p0, .int p1]) (n := 4) (Nat.le_of_ble_eq_true rfl)
  rw [lg_entry_eq]
  generalize (lg_sl ([.ref (ad 21 0), .int p0, .int p1]) ++ List.replicate (4 - (lg_sl ([.ref (ad 21 0), .int p0, .int p1])).length) Slot.unset).toArray = ls at hl ⊢
  have hl : lv_has ls 4 [(0, .ref (ad 21 0)), (1, .int p0), (2, .int p1)] := hl
  refine lv_iconst (v := 0) hx hb dX2_inTurn_0 (by decide) ?_
  refine lv_istore_n (lv' := [(3, .int 0), (0, .ref (ad 21 0)), (1, .int p0), (2, .int p1)]) hx hb dX2_inTurn_1 rfl hl (by decide) rfl (fun ls hl => ?_)
  have lp : ∀ (n_lp : Nat) (lp_3 : Int32), (16 - lp_3.toInt).toNat < n_lp → (0 ≤ lp_3.toInt ∧ lp_3.toInt ≤ 16) → ∀ (ls : Array Slot), lv_has ls 4 [(3, .int lp_3), (0, .ref (ad 21 0)), (1, .int p0), (2, .int p1)] → W p l e (headSpec wsX2_inTurn ({ frames := 1, cells := 0, slots := 0, locals := 24 })).room s m ([.ref (ad 21 0), .int p0, .int p1] : List Value).toArray below meth c s.heap [] 0 0 (MQ below (vp_Si (fun r : Int32 => ((-1) ≤ r.toInt ∧ r.toInt ≤ 15))) ([.ref (ad 21 0), .int p0, .int p1] : List Value).toArray s 0 0 (fun _ => False)) (F0 m 2 ls []) := by
    intro n_lp
    induction n_lp with
    | zero => intro lp_3 hm_lp b_lp_3 ls hl; exact absurd hm_lp (Nat.not_lt_zero _)
    | succ n_lp ih_lp =>
      intro lp_3 hm_lp b_lp_3 ls hl
      refine lv_iload_n hx hb dX2_inTurn_2 rfl (lv_at hl 0 rfl) ?_
      refine lv_aload_n hx hb dX2_inTurn_3 rfl (lv_at hl 1 rfl) ?_
      refine fm_getI (a := 21) (j := 5) (T := TX2) (N := 6) hx hb hts hinX2 hown hc hw hI kl_21 sh_21 rfl (by decide) rfl bd_21_5 (hts (.fieldLink RX2 27 "RedTent$Crew" "men" "I") (List.mem_cons_of_mem _ tw_1_151)) (fun _ h9 => h9) dX2_inTurn_4 (fun x1 ex1 bx1 => ?_)
      refine fx_icmp_ge (tgt := 37) hx hb dX2_inTurn_7 (by decide) rfl rfl (fun c2 => ?_) (fun c2 => ?_)
      · refine lv_iconst (v := (-1)) hx hb dX2_inTurn_37 (by decide) ?_
        exact W.iret (v := (-1)) hx hb hr (fun t ht hW => ⟨(-1), rfl, (by decide), ht⟩) (fun _ h => absurd h List.not_mem_nil) dX2_inTurn_38
      · refine lv_aload_n hx hb dX2_inTurn_10 rfl (lv_at hl 1 rfl) ?_
        refine fm_getG (a := 21) (j := 0) (T := TX2) (N := 6) hx hb hts hinX2 hown hc hw kl_21 sh_21 rfl (by decide) rfl (hI.to kl_21 tg_21_0) (hts (.fieldLink RX2 9 "RedTent$Crew" "body" "[I") (List.mem_cons_of_mem _ tw_1_141)) (fun _ h9 => h9) dX2_inTurn_11 ?_
        refine lv_iload_n hx hb dX2_inTurn_14 rfl (lv_at hl 0 rfl) ?_
        refine fm_iald (a := 22) hx hb hc hw hI kl_22 sh_22 ty_22 bd_22 (by omega) dX2_inTurn_15 (fun x3 ex3 bx3 => ?_)
        refine lv_iload_n hx hb dX2_inTurn_16 rfl (lv_at hl 2 rfl) ?_
        refine fx_icmp_ne (tgt := 31) hx hb dX2_inTurn_17 (by decide) rfl rfl (fun c4 => ?_) (fun c4 => ?_)
        · obtain ⟨y5, ey5⟩ : ∃ y : Int32, y = lp_3 + 1 := ⟨_, rfl⟩
          have ty5 : y5.toInt = lp_3.toInt + 1 := by rw [ey5, zi_add _ _ (by rw [zk_1]; omega) (by rw [zk_1]; omega), zk_1]
          refine lv_iinc (v := y5) (lv' := [(3, .int y5), (0, .ref (ad 21 0)), (1, .int p0), (2, .int p1)]) hx hb dX2_inTurn_31 hl (k := 0) rfl (by rw [ey5]; rfl) (by decide) rfl (fun ls hl => ?_)
          refine lv_goto (tgt := 2) hx hb dX2_inTurn_34 (by decide) ?_
          exact ih_lp y5 (by omega) (by omega) ls (lv_sub hl [0, 1, 2, 3] rfl)
        · refine lv_aload_n hx hb dX2_inTurn_20 rfl (lv_at hl 1 rfl) ?_
          refine lv_iload_n hx hb dX2_inTurn_21 rfl (lv_at hl 0 rfl) ?_
          refine vp_callSi (va_Run.run (va_runV (As := [.int lp_3]) (rest := []) ⟨hx, hb, hml, hown, hts⟩ (fc_X2_aheadOf l D ad C nb M hI lp_3 (by omega)) (cwV 1 hts gX2_inTurn_X2_aheadOf rfl rfl rfl (by decide +kernel) ⟨Nat.le_of_ble_eq_true rfl, Nat.le_of_ble_eq_true rfl⟩) (fm_preV hc hw hS kl_21 sh_21 rfl) rfl rfl hl.1 rfl (lv_room (Nat.le_of_ble_eq_true rfl)) dX2_inTurn_22 ⟨by decide +kernel, by decide +kernel⟩)) (fun r6 hr6 => ?_)
          refine lv_iload_n hx hb dX2_inTurn_25 rfl (lv_at hl 3 rfl) ?_
          refine fx_icmp_ne (tgt := 31) hx hb dX2_inTurn_26 (by decide) rfl rfl (fun c7 => ?_) (fun c7 => ?_)
          · obtain ⟨y8, ey8⟩ : ∃ y : Int32, y = lp_3 + 1 := ⟨_, rfl⟩
            have ty8 : y8.toInt = lp_3.toInt + 1 := by rw [ey8, zi_add _ _ (by rw [zk_1]; omega) (by rw [zk_1]; omega), zk_1]
            refine lv_iinc (v := y8) (lv' := [(3, .int y8), (0, .ref (ad 21 0)), (1, .int p0), (2, .int p1)]) hx hb dX2_inTurn_31 hl (k := 0) rfl (by rw [ey8]; rfl) (by decide) rfl (fun ls hl => ?_)
            refine lv_goto (tgt := 2) hx hb dX2_inTurn_34 (by decide) ?_
            exact ih_lp y8 (by omega) (by omega) ls (lv_sub hl [0, 1, 2, 3] rfl)
          · refine lv_iload_n hx hb dX2_inTurn_29 rfl (lv_at hl 0 rfl) ?_
            exact W.iret (v := lp_3) hx hb hr (fun t ht hW => ⟨lp_3, rfl, (by omega), ht⟩) (fun _ h => absurd h List.not_mem_nil) dX2_inTurn_30
  exact lp _ 0 (Nat.lt_succ_self _) (by decide) ls (lv_sub hl [0, 1, 2, 3] rfl)
set_option maxHeartbeats 400000 in
set_option maxRecDepth 20000 in
theorem fc_X8_hasStory (l : Launch) (D : va_G) (ad : Nat → Nat → Nat) (C : Nat → Nat → ClassId) (nb : Nat) (M : fm_M) (hI : fm_I nb ad M) (p0 : Int32) : Met l yX8_hasStory wsX8_hasStory ({ frames := 0, cells := 0, slots := 0, locals := 0 }) (va_Pc [.ref (ad 38 0), .int p0] (fm_P D ad C nb M)) (vp_Si (fun r : Int32 => ((r = 1 ∧ (0 ≤ p0.toInt ∧ p0.toInt < (M.1 38 0 3).toInt)) ∨ (r = 0 ∧ ¬ (0 ≤ p0.toInt ∧ p0.toInt < (M.1 38 0 3).toInt))))) 0 0 (fun _ => False) := by
  refine Met.ofW (cc := cX8_hasStory) (maxL := 2) (ret := (some .boolean)) (by decide) rfl ?_
  intro p e s m args below meth c s₁ B hml hv
  obtain ⟨rfl, hw, hc⟩ := hv
  have hx := B.exec
  have hb := B.bytes
  have hr := B.returns
  have hts := atoms_spec (ws := wsX8_hasStory) B.pre
  have hown : s.vm.findClass RX8 = some m.cls := findClass_of_methodNamed B.named
  have hinX8 : ∀ w ∈ u_ws RX8 TX8 4, w ∈ wsX8_hasStory := fun w h => List.mem_cons_of_mem _ (iT_X8 w h)
  have hS : va_S (fm_A nb ad) s.heap s.heap [] := va_S.rf
  have hl := lv_entry ([.ref (ad 38 0), .int p0]) (n := 2) (Nat.le_of_ble_eq_true rfl)
  rw [lg_entry_eq]
  generalize (lg_sl ([.ref (ad 38 0), .int p0]) ++ List.replicate (2 - (lg_sl ([.ref (ad 38 0), .int p0])).length) Slot.unset).toArray = ls at hl ⊢
  have hl : lv_has ls 2 [(0, .ref (ad 38 0)), (1, .int p0)] := hl
  refine lv_iload_n hx hb dX8_hasStory_0 rfl (lv_at hl 1 rfl) ?_
  refine fx_if_lt (tgt := 16) hx hb dX8_hasStory_1 (by decide) rfl (fun c1 => ?_) (fun c1 => ?_)
  · refine lv_iconst (v := 0) hx hb dX8_hasStory_16 (by decide) ?_
    exact W.zret (v := 0) hx hb hr rfl (fun t ht hW => ⟨0, rfl, Or.inr ⟨rfl, by omega⟩, ht⟩) (fun _ h => absurd h List.not_mem_nil) dX8_hasStory_17
  · refine lv_iload_n hx hb dX8_hasStory_4 rfl (lv_at hl 1 rfl) ?_
    refine lv_aload_n hx hb dX8_hasStory_5 rfl (lv_at hl 0 rfl) ?_
    refine fm_getI (a := 38) (j := 3) (T := TX8) (N := 4) hx hb hts hinX8 hown hc hw hI kl_38 sh_38 rfl (by decide) rfl bd_38_3 (hts (.fieldLink RX8 21 "RedTent$Stories" "told" "I") (List.mem_cons_of_mem _ tw_2_41)) (fun _ h9 => h9) dX8_hasStory_6 (fun x2 ex2 bx2 => ?_)
    refine fx_icmp_ge (tgt := 16) hx hb dX8_hasStory_9 (by decide) rfl rfl (fun c3 => ?_) (fun c3 => ?_)
    · refine lv_iconst (v := 0) hx hb dX8_hasStory_16 (by decide) ?_
      have qx2 : x2.toInt = (M.1 38 0 3).toInt := by rw [ex2]
      exact W.zret (v := 0) hx hb hr rfl (fun t ht hW => ⟨0, rfl, Or.inr ⟨rfl, by omega⟩, ht⟩) (fun _ h => absurd h List.not_mem_nil) dX8_hasStory_17
    · refine lv_iconst (v := 1) hx hb dX8_hasStory_12 (by decide) ?_
      refine lv_goto (tgt := 17) hx hb dX8_hasStory_13 (by decide) ?_
      have qx2 : x2.toInt = (M.1 38 0 3).toInt := by rw [ex2]
      exact W.zret (v := 1) hx hb hr rfl (fun t ht hW => ⟨1, rfl, Or.inl ⟨rfl, by omega⟩, ht⟩) (fun _ h => absurd h List.not_mem_nil) dX8_hasStory_17
set_option maxHeartbeats 400000 in
set_option maxRecDepth 20000 in
theorem fc_X8_addStory (l : Launch) (D : va_G) (ad : Nat → Nat → Nat) (C : Nat → Nat → ClassId) (nb : Nat) (M : fm_M) (hI : fm_I nb ad M) (p0 p1 p2 : Int32) (b_p0 : 0 ≤ p0.toInt ∧ p0.toInt ≤ 11) (b_p1 : 0 ≤ p1.toInt ∧ p1.toInt ≤ 63) (b_p2 : 0 ≤ p2.toInt ∧ p2.toInt ≤ 239) (hf : 0 ≤ (M.1 38 0 3).toInt ∧ (M.1 38 0 3).toInt ≤ 19) : Met l yX8_addStory wsX8_addStory ({ frames := 0, cells := 0, slots := 0, locals := 0 }) (va_Pc [.ref (ad 38 0), .int p0, .int p1, .int p2] (fm_P D ad C nb M)) (va_Qi (fun (r : Int32) (u : fm_M) => fm_I nb ad u ∧ fm_same [38003, 39000, 40000, 41000] M u ∧ (r.toInt = (M.1 38 0 3).toInt ∧ (u.1 38 0 3).toInt = (M.1 38 0 3).toInt + 1)) (fun u t => fm_at D ad C nb u t.heap) (fm_A nb ad)) 0 0 (fm_A nb ad) := by
  refine Met.ofW (cc := cX8_addStory) (maxL := 4) (ret := (some .int)) (by decide) rfl ?_
  intro p e s m args below meth c s₁ B hml hv
  obtain ⟨rfl, hw, hc⟩ := hv
  have hx := B.exec
  have hb := B.bytes
  have hr := B.returns
  have hts := atoms_spec (ws := wsX8_addStory) B.pre
  have hown : s.vm.findClass RX8 = some m.cls := findClass_of_methodNamed B.named
  have hinX8 : ∀ w ∈ u_ws RX8 TX8 4, w ∈ wsX8_addStory := fun w h => List.mem_cons_of_mem _ (iT_X8 w h)
  have hS : va_S (fm_A nb ad) s.heap s.heap [] := va_S.rf
  have hE : fm_same [38003, 39000, 40000, 41000] M M := fm_same.rf
  have hl := lv_entry ([.ref (ad 38 0), .int p0, .int p1, .int p2]) (n := 4) (Nat.le_of_ble_eq_true rfl)
  rw [lg_entry_eq]
  generalize (lg_sl ([.ref (ad 38 0), .int p0, .int p1, .int p2]) ++ List.replicate (4 - (lg_sl ([.ref (ad 38 0), .int p0, .int p1, .int p2])).length) Slot.unset).toArray = ls at hl ⊢
  have hl : lv_has ls 4 [(0, .ref (ad 38 0)), (1, .int p0), (2, .int p1), (3, .int p2)] := hl
  refine lv_aload_n hx hb dX8_addStory_0 rfl (lv_at hl 0 rfl) ?_
  refine fm_getG (a := 38) (j := 0) (T := TX8) (N := 4) hx hb hts hinX8 hown hc hw kl_38 sh_38 rfl (by decide) rfl (hI.to kl_38 tg_38_0) (hts (.fieldLink RX8 9 "RedTent$Stories" "body" "[I") (List.mem_cons_of_mem _ tw_2_35)) (fun _ h9 => h9) dX8_addStory_1 ?_
  refine lv_aload_n hx hb dX8_addStory_4 rfl (lv_at hl 0 rfl) ?_
  refine fm_getI (a := 38) (j := 3) (T := TX8) (N := 4) hx hb hts hinX8 hown hc hw hI kl_38 sh_38 rfl (by decide) rfl bd_38_3 (hts (.fieldLink RX8 21 "RedTent$Stories" "told" "I") (List.mem_cons_of_mem _ tw_2_41)) (fun _ h9 => h9) dX8_addStory_5 (fun x1 ex1 bx1 => ?_)
  have fx1 : 0 ≤ x1.toInt ∧ x1.toInt ≤ 19 := by rw [ex1]; exact hf
  refine lv_iload_n hx hb dX8_addStory_8 rfl (lv_at hl 1 rfl) ?_
  refine fm_iast (a := 39) hx hb hc hw hI hE hS kl_39 sh_39 ty_39 bd_39 (by omega) (by omega) cd_39 (by decide) dX8_addStory_9 (fun M2 H locs eM2 hw hI hE hS => ?_)
  refine lv_aload_n hx hb dX8_addStory_10 rfl (lv_at hl 0 rfl) ?_
  refine fm_getG (a := 38) (j := 1) (T := TX8) (N := 4) hx hb hts hinX8 hown hc hw kl_38 sh_38 rfl (by decide) rfl (hI.to kl_38 tg_38_1) (hts (.fieldLink RX8 15 "RedTent$Stories" "cell" "[I") (List.mem_cons_of_mem _ tw_2_37)) (fun _ h9 => h9) dX8_addStory_11 ?_
  refine lv_aload_n hx hb dX8_addStory_14 rfl (lv_at hl 0 rfl) ?_
  refine fm_getI (a := 38) (j := 3) (T := TX8) (N := 4) hx hb hts hinX8 hown hc hw hI kl_38 sh_38 rfl (by decide) rfl bd_38_3 (hts (.fieldLink RX8 21 "RedTent$Stories" "told" "I") (List.mem_cons_of_mem _ tw_2_41)) (fun _ h9 => h9) dX8_addStory_15 (fun x3 ex3 bx3 => ?_)
  obtain rfl : x1 = x3 := by rw [ex3, eM2, fm_wI_nj (fun z => absurd z.1 (by decide))]; exact ex1
  refine lv_iload_n hx hb dX8_addStory_18 rfl (lv_at hl 2 rfl) ?_
  refine fm_iast (a := 40) hx hb hc hw hI hE hS kl_40 sh_40 ty_40 bd_40 (by omega) (by omega) cd_40 (by decide) dX8_addStory_19 (fun M4 H locs eM4 hw hI hE hS => ?_)
  refine lv_aload_n hx hb dX8_addStory_20 rfl (lv_at hl 0 rfl) ?_
  refine fm_getG (a := 38) (j := 2) (T := TX8) (N := 4) hx hb hts hinX8 hown hc hw kl_38 sh_38 rfl (by decide) rfl (hI.to kl_38 tg_38_2) (hts (.fieldLink RX8 18 "RedTent$Stories" "hour" "[I") (List.mem_cons_of_mem _ tw_2_39)) (fun _ h9 => h9) dX8_addStory_21 ?_
  refine lv_aload_n hx hb dX8_addStory_24 rfl (lv_at hl 0 rfl) ?_
  refine fm_getI (a := 38) (j := 3) (T := TX8) (N := 4) hx hb hts hinX8 hown hc hw hI kl_38 sh_38 rfl (by decide) rfl bd_38_3 (hts (.fieldLink RX8 21 "RedTent$Stories" "told" "I") (List.mem_cons_of_mem _ tw_2_41)) (fun _ h9 => h9) dX8_addStory_25 (fun x5 ex5 bx5 => ?_)
  obtain rfl : x1 = x5 := by rw [ex5, eM4, fm_wI_nj (fun z => absurd z.1 (by decide)), eM2, fm_wI_nj (fun z => absurd z.1 (by decide))]; exact ex1
  refine lv_iload_n hx hb dX8_addStory_28 rfl (lv_at hl 3 rfl) ?_
  refine fm_iast (a := 41) hx hb hc hw hI hE hS kl_41 sh_41 ty_41 bd_41 (by omega) (by omega) cd_41 (by decide) dX8_addStory_29 (fun M6 H locs eM6 hw hI hE hS => ?_)
  refine lv_aload_n hx hb dX8_addStory_30 rfl (lv_at hl 0 rfl) ?_
  refine lv_dup hx hb dX8_addStory_31 rfl ?_
  refine fm_getI (a := 38) (j := 3) (T := TX8) (N := 4) hx hb hts hinX8 hown hc hw hI kl_38 sh_38 rfl (by decide) rfl bd_38_3 (hts (.fieldLink RX8 21 "RedTent$Stories" "told" "I") (List.mem_cons_of_mem _ tw_2_41)) (fun _ h9 => h9) dX8_addStory_32 (fun x7 ex7 bx7 => ?_)
  obtain rfl : x1 = x7 := by rw [ex7, eM6, fm_wI_nj (fun z => absurd z.1 (by decide)), eM4, fm_wI_nj (fun z => absurd z.1 (by decide)), eM2, fm_wI_nj (fun z => absurd z.1 (by decide))]; exact ex1
  refine lv_dup_x1 hx hb dX8_addStory_35 rfl rfl ?_
  refine lv_iconst (v := 1) hx hb dX8_addStory_36 (by decide) ?_
  refine fx_iadd hx hb dX8_addStory_37 rfl zk_1 (by omega) (fun y8 ey8 ty8 => ?_)
  refine fm_putI (a := 38) (j := 3) (T := TX8) (N := 4) hx hb hts hinX8 tyX8 tyX8_ok nmX8 hown hc hw hI hE hS kl_38 sh_38 od_38 rfl (by decide) rfl bd_38_3 (hts (.fieldLink RX8 21 "RedTent$Stories" "told" "I") (List.mem_cons_of_mem _ tw_2_41)) (fun _ h9 => h9) rfl (by decide +kernel) (by omega) (by decide) (by decide) dX8_addStory_38 (fun M9 H locs eM9 hw hI hE hS => ?_)
  have qx1 : x1.toInt = (M.1 38 0 3).toInt := by rw [ex1]
  exact W.iret (v := x1) hx hb hr (fun t ht hW => ⟨⟨x1, M9, rfl, ⟨hI, hE, ⟨by omega, (by first | omega | (rw [eM9, fm_wI_at]; omega))⟩⟩, by show fm_at D ad C nb _ t.heap; rw [ht]; exact hw⟩, hS.F ht⟩) hS.2.2 dX8_addStory_41

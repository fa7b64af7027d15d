theorem zb_X11_stays_0 : (decode cX11_stays 0 = .ok (.iload_n 1, 1)) ∧ (decode cX11_stays 1 = .ok (.ifCond .lt 9, 3)) ∧ (decode cX11_stays 10 = .ok (.bipush (-2), 2)) ∧ (decode cX11_stays 12 = .ok (.ireturn, 1)) ∧ (decode cX11_stays 4 = .ok (.iload_n 1, 1)) ∧ (decode cX11_stays 5 = .ok (.bipush 9, 2)) ∧ (decode cX11_stays 7 = .ok (.if_icmp .le 6, 3)) ∧ (decode cX11_stays 13 = .ok (.aload_n 0, 1)) := by decide +kernel
theorem dX11_stays_0 : decode cX11_stays 0 = .ok (.iload_n 1, 1) := zb_X11_stays_0.1
theorem dX11_stays_1 : decode cX11_stays 1 = .ok (.ifCond .lt 9, 3) := zb_X11_stays_0.2.1
theorem dX11_stays_10 : decode cX11_stays 10 = .ok (.bipush (-2), 2) := zb_X11_stays_0.2.2.1
theorem dX11_stays_12 : decode cX11_stays 12 = .ok (.ireturn, 1) := zb_X11_stays_0.2.2.2.1
theorem dX11_stays_4 : decode cX11_stays 4 = .ok (.iload_n 1, 1) := zb_X11_stays_0.2.2.2.2.1
theorem dX11_stays_5 : decode cX11_stays 5 = .ok (.bipush 9, 2) := zb_X11_stays_0.2.2.2.2.2.1
theorem dX11_stays_7 : decode cX11_stays 7 = .ok (.if_icmp .le 6, 3) := zb_X11_stays_0.2.2.2.2.2.2.1
theorem dX11_stays_13 : decode cX11_stays 13 = .ok (.aload_n 0, 1) := zb_X11_stays_0.2.2.2.2.2.2.2
theorem zb_X11_stays_14 : (decode cX11_stays 14 = .ok (.getfield 253, 3)) ∧ (decode cX11_stays 17 = .ok (.istore_n 2, 1)) ∧ (decode cX11_stays 18 = .ok (.aload_n 0, 1)) ∧ (decode cX11_stays 19 = .ok (.iload_n 1, 1)) ∧ (decode cX11_stays 20 = .ok (.putfield 253, 3)) ∧ (decode cX11_stays 23 = .ok (.iload_n 2, 1)) ∧ (decode cX11_stays 24 = .ok (.ireturn, 1)) := by decide +kernel
theorem dX11_stays_14 : decode cX11_stays 14 = .ok (.getfield 253, 3) := zb_X11_stays_14.1
theorem dX11_stays_17 : decode cX11_stays 17 = .ok (.istore_n 2, 1) := zb_X11_stays_14.2.1
theorem dX11_stays_18 : decode cX11_stays 18 = .ok (.aload_n 0, 1) := zb_X11_stays_14.2.2.1
theorem dX11_stays_19 : decode cX11_stays 19 = .ok (.iload_n 1, 1) := zb_X11_stays_14.2.2.2.1
theorem dX11_stays_20 : decode cX11_stays 20 = .ok (.putfield 253, 3) := zb_X11_stays_14.2.2.2.2.1
theorem dX11_stays_23 : decode cX11_stays 23 = .ok (.iload_n 2, 1) := zb_X11_stays_14.2.2.2.2.2.1
theorem dX11_stays_24 : decode cX11_stays 24 = .ok (.ireturn, 1) := zb_X11_stays_14.2.2.2.2.2.2
theorem zb_X11_comes_0 : (decode cX11_comes 0 = .ok (.aload_n 0, 1)) ∧ (decode cX11_comes 1 = .ok (.iload_n 1, 1)) ∧ (decode cX11_comes 2 = .ok (.invokevirtual 214, 3)) ∧ (decode cX11_comes 5 = .ok (.astore 5, 2)) ∧ (decode cX11_comes 7 = .ok (.aload 5, 2)) ∧ (decode cX11_comes 9 = .ok (.ifnull 30, 3)) ∧ (decode cX11_comes 39 = .ok (.bipush (-2), 2)) ∧ (decode cX11_comes 41 = .ok (.ireturn, 1)) ∧ (decode cX11_comes 12 = .ok (.iload_n 2, 1)) := by decide +kernel
theorem dX11_comes_0 : decode cX11_comes 0 = .ok (.aload_n 0, 1) := zb_X11_comes_0.1
theorem dX11_comes_1 : decode cX11_comes 1 = .ok (.iload_n 1, 1) := zb_X11_comes_0.2.1
theorem dX11_comes_2 : decode cX11_comes 2 = .ok (.invokevirtual 214, 3) := zb_X11_comes_0.2.2.1
theorem dX11_comes_5 : decode cX11_comes 5 = .ok (.astore 5, 2) := zb_X11_comes_0.2.2.2.1
theorem dX11_comes_7 : decode cX11_comes 7 = .ok (.aload 5, 2) := zb_X11_comes_0.2.2.2.2.1
theorem dX11_comes_9 : decode cX11_comes 9 = .ok (.ifnull 30, 3) := zb_X11_comes_0.2.2.2.2.2.1
theorem dX11_comes_39 : decode cX11_comes 39 = .ok (.bipush (-2), 2) := zb_X11_comes_0.2.2.2.2.2.2.1
theorem dX11_comes_41 : decode cX11_comes 41 = .ok (.ireturn, 1) := zb_X11_comes_0.2.2.2.2.2.2.2.1
theorem dX11_comes_12 : decode cX11_comes 12 = .ok (.iload_n 2, 1) := zb_X11_comes_0.2.2.2.2.2.2.2.2
theorem zb_X11_comes_13 : (decode cX11_comes 13 = .ok (.invokestatic 110, 3)) ∧ (decode cX11_comes 16 = .ok (.ifCond .eq 23, 3)) ∧ (decode cX11_comes 19 = .ok (.iload_n 3, 1)) ∧ (decode cX11_comes 20 = .ok (.invokestatic 110, 3)) ∧ (decode cX11_comes 23 = .ok (.ifCond .eq 16, 3)) ∧ (decode cX11_comes 26 = .ok (.iload 4, 2)) ∧ (decode cX11_comes 28 = .ok (.ifCond .lt 11, 3)) ∧ (decode cX11_comes 31 = .ok (.iload 4, 2)) ∧ (decode cX11_comes 33 = .ok (.sipush 240, 3)) := by decide +kernel
theorem dX11_comes_13 : decode cX11_comes 13 = .ok (.invokestatic 110, 3) := zb_X11_comes_13.1
theorem dX11_comes_16 : decode cX11_comes 16 = .ok (.ifCond .eq 23, 3) := zb_X11_comes_13.2.1
theorem dX11_comes_19 : decode cX11_comes 19 = .ok (.iload_n 3, 1) := zb_X11_comes_13.2.2.1
theorem dX11_comes_20 : decode cX11_comes 20 = .ok (.invokestatic 110, 3) := zb_X11_comes_13.2.2.2.1
theorem dX11_comes_23 : decode cX11_comes 23 = .ok (.ifCond .eq 16, 3) := zb_X11_comes_13.2.2.2.2.1
theorem dX11_comes_26 : decode cX11_comes 26 = .ok (.iload 4, 2) := zb_X11_comes_13.2.2.2.2.2.1
theorem dX11_comes_28 : decode cX11_comes 28 = .ok (.ifCond .lt 11, 3) := zb_X11_comes_13.2.2.2.2.2.2.1
theorem dX11_comes_31 : decode cX11_comes 31 = .ok (.iload 4, 2) := zb_X11_comes_13.2.2.2.2.2.2.2.1
theorem dX11_comes_33 : decode cX11_comes 33 = .ok (.sipush 240, 3) := zb_X11_comes_13.2.2.2.2.2.2.2.2
theorem zb_X11_comes_36 : (decode cX11_comes 36 = .ok (.if_icmp .lt 6, 3)) ∧ (decode cX11_comes 42 = .ok (.aload_n 0, 1)) ∧ (decode cX11_comes 43 = .ok (.aload 5, 2)) ∧ (decode cX11_comes 45 = .ok (.iload_n 2, 1)) ∧ (decode cX11_comes 46 = .ok (.iload_n 3, 1)) ∧ (decode cX11_comes 47 = .ok (.invokestatic 256, 3)) ∧ (decode cX11_comes 50 = .ok (.iload 4, 2)) ∧ (decode cX11_comes 52 = .ok (.invokevirtual 259, 3)) ∧ (decode cX11_comes 55 = .ok (.ireturn, 1)) := by decide +kernel
theorem dX11_comes_36 : decode cX11_comes 36 = .ok (.if_icmp .lt 6, 3) := zb_X11_comes_36.1
theorem dX11_comes_42 : decode cX11_comes 42 = .ok (.aload_n 0, 1) := zb_X11_comes_36.2.1
theorem dX11_comes_43 : decode cX11_comes 43 = .ok (.aload 5, 2) := zb_X11_comes_36.2.2.1
theorem dX11_comes_45 : decode cX11_comes 45 = .ok (.iload_n 2, 1) := zb_X11_comes_36.2.2.2.1
theorem dX11_comes_46 : decode cX11_comes 46 = .ok (.iload_n 3, 1) := zb_X11_comes_36.2.2.2.2.1
theorem dX11_comes_47 : decode cX11_comes 47 = .ok (.invokestatic 256, 3) := zb_X11_comes_36.2.2.2.2.2.1
theorem dX11_comes_50 : decode cX11_comes 50 = .ok (.iload 4, 2) := zb_X11_comes_36.2.2.2.2.2.2.1
theorem dX11_comes_52 : decode cX11_comes 52 = .ok (.invokevirtual 259, 3) := zb_X11_comes_36.2.2.2.2.2.2.2.1
theorem dX11_comes_55 : decode cX11_comes 55 = .ok (.ireturn, 1) := zb_X11_comes_36.2.2.2.2.2.2.2.2
theorem zb_X11_last_0 : (decode cX11_last 0 = .ok (.aload_n 0, 1)) ∧ (decode cX11_last 1 = .ok (.iload_n 1, 1)) ∧ (decode cX11_last 2 = .ok (.invokevirtual 214, 3)) ∧ (decode cX11_last 5 = .ok (.astore 4, 2)) ∧ (decode cX11_last 7 = .ok (.aload 4, 2)) ∧ (decode cX11_last 9 = .ok (.ifnull 17, 3)) ∧ (decode cX11_last 26 = .ok (.bipush (-2), 2)) ∧ (decode cX11_last 28 = .ok (.ireturn, 1)) ∧ (decode cX11_last 12 = .ok (.iload_n 2, 1)) ∧ (decode cX11_last 13 = .ok (.invokestatic 110, 3)) ∧ (decode cX11_last 16 = .ok (.ifCond .eq 10, 3)) ∧ (decode cX11_last 19 = .ok (.iload_n 3, 1)) := by decide +kernel
theorem dX11_last_0 : decode cX11_last 0 = .ok (.aload_n 0, 1) := zb_X11_last_0.1
theorem dX11_last_1 : decode cX11_last 1 = .ok (.iload_n 1, 1) := zb_X11_last_0.2.1
theorem dX11_last_2 : decode cX11_last 2 = .ok (.invokevirtual 214, 3) := zb_X11_last_0.2.2.1
theorem dX11_last_5 : decode cX11_last 5 = .ok (.astore 4, 2) := zb_X11_last_0.2.2.2.1
theorem dX11_last_7 : decode cX11_last 7 = .ok (.aload 4, 2) := zb_X11_last_0.2.2.2.2.1
theorem dX11_last_9 : decode cX11_last 9 = .ok (.ifnull 17, 3) := zb_X11_last_0.2.2.2.2.2.1
theorem dX11_last_26 : decode cX11_last 26 = .ok (.bipush (-2), 2) := zb_X11_last_0.2.2.2.2.2.2.1
theorem dX11_last_28 : decode cX11_last 28 = .ok (.ireturn, 1) := zb_X11_last_0.2.2.2.2.2.2.2.1
theorem dX11_last_12 : decode cX11_last 12 = .ok (.iload_n 2, 1) := zb_X11_last_0.2.2.2.2.2.2.2.2.1
theorem dX11_last_13 : decode cX11_last 13 = .ok (.invokestatic 110, 3) := zb_X11_last_0.2.2.2.2.2.2.2.2.2.1
theorem dX11_last_16 : decode cX11_last 16 = .ok (.ifCond .eq 10, 3) := zb_X11_last_0.2.2.2.2.2.2.2.2.2.2.1
theorem dX11_last_19 : decode cX11_last 19 = .ok (.iload_n 3, 1) := zb_X11_last_0.2.2.2.2.2.2.2.2.2.2.2
theorem zb_X11_last_20 : (decode cX11_last 20 = .ok (.invokestatic 110, 3)) ∧ (decode cX11_last 23 = .ok (.ifCond .ne 6, 3)) ∧ (decode cX11_last 29 = .ok (.iload_n 2, 1)) ∧ (decode cX11_last 30 = .ok (.iload_n 3, 1)) ∧ (decode cX11_last 31 = .ok (.invokestatic 256, 3)) ∧ (decode cX11_last 34 = .ok (.istore 5, 2)) ∧ (decode cX11_last 36 = .ok (.sipush 239, 3)) ∧ (decode cX11_last 39 = .ok (.istore 6, 2)) ∧ (decode cX11_last 41 = .ok (.iload 6, 2)) ∧ (decode cX11_last 43 = .ok (.ifCond .lt 26, 3)) ∧ (decode cX11_last 69 = .ok (.iconst (-1), 1)) ∧ (decode cX11_last 70 = .ok (.ireturn, 1)) := by decide +kernel
theorem dX11_last_20 : decode cX11_last 20 = .ok (.invokestatic 110, 3) := zb_X11_last_20.1
theorem dX11_last_23 : decode cX11_last 23 = .ok (.ifCond .ne 6, 3) := zb_X11_last_20.2.1
theorem dX11_last_29 : decode cX11_last 29 = .ok (.iload_n 2, 1) := zb_X11_last_20.2.2.1
theorem dX11_last_30 : decode cX11_last 30 = .ok (.iload_n 3, 1) := zb_X11_last_20.2.2.2.1
theorem dX11_last_31 : decode cX11_last 31 = .ok (.invokestatic 256, 3) := zb_X11_last_20.2.2.2.2.1
theorem dX11_last_34 : decode cX11_last 34 = .ok (.istore 5, 2) := zb_X11_last_20.2.2.2.2.2.1
theorem dX11_last_36 : decode cX11_last 36 = .ok (.sipush 239, 3) := zb_X11_last_20.2.2.2.2.2.2.1
theorem dX11_last_39 : decode cX11_last 39 = .ok (.istore 6, 2) := zb_X11_last_20.2.2.2.2.2.2.2.1
theorem dX11_last_41 : decode cX11_last 41 = .ok (.iload 6, 2) := zb_X11_last_20.2.2.2.2.2.2.2.2.1
theorem dX11_last_43 : decode cX11_last 43 = .ok (.ifCond .lt 26, 3) := zb_X11_last_20.2.2.2.2.2.2.2.2.2.1
theorem dX11_last_69 : decode cX11_last 69 = .ok (.iconst (-1), 1) := zb_X11_last_20.2.2.2.2.2.2.2.2.2.2.1
theorem dX11_last_70 : decode cX11_last 70 = .ok (.ireturn, 1) := zb_X11_last_20.2.2.2.2.2.2.2.2.2.2.2
theorem zb_X11_last_46 : (decode cX11_last 46 = .ok (.aload_n 0, 1)) ∧ (decode cX11_last 47 = .ok (.aload 4, 2)) ∧ (decode cX11_last 49 = .ok (.iload 5, 2)) ∧ (decode cX11_last 51 = .ok (.iload 6, 2)) ∧ (decode cX11_last 53 = .ok (.invokevirtual 259, 3)) ∧ (decode cX11_last 56 = .ok (.iconst (-1), 1)) ∧ (decode cX11_last 57 = .ok (.if_icmp .eq 6, 3)) ∧ (decode cX11_last 63 = .ok (.iinc 6 (-1), 3)) ∧ (decode cX11_last 66 = .ok (.goto (-25), 3)) ∧ (decode cX11_last 60 = .ok (.iload 6, 2)) ∧ (decode cX11_last 62 = .ok (.ireturn, 1)) := by decide +kernel
theorem dX11_last_46 : decode cX11_last 46 = .ok (.aload_n 0, 1) := zb_X11_last_46.1
theorem dX11_last_47 : decode cX11_last 47 = .ok (.aload 4, 2) := zb_X11_last_46.2.1
theorem dX11_last_49 : decode cX11_last 49 = .ok (.iload 5, 2) := zb_X11_last_46.2.2.1
theorem dX11_last_51 : decode cX11_last 51 = .ok (.iload 6, 2) := zb_X11_last_46.2.2.2.1
theorem dX11_last_53 : decode cX11_last 53 = .ok (.invokevirtual 259, 3) := zb_X11_last_46.2.2.2.2.1
theorem dX11_last_56 : decode cX11_last 56 = .ok (.iconst (-1), 1) := zb_X11_last_46.2.2.2.2.2.1
theorem dX11_last_57 : decode cX11_last 57 = .ok (.if_icmp .eq 6, 3) := zb_X11_last_46.2.2.2.2.2.2.1
theorem dX11_last_63 : decode cX11_last 63 = .ok (.iinc 6 (-1), 3) := zb_X11_last_46.2.2.2.2.2.2.2.1
theorem dX11_last_66 : decode cX11_last 66 = .ok (.goto (-25), 3) := zb_X11_last_46.2.2.2.2.2.2.2.2.1
theorem dX11_last_60 : decode cX11_last 60 = .ok (.iload 6, 2) := zb_X11_last_46.2.2.2.2.2.2.2.2.2.1
theorem dX11_last_62 : decode cX11_last 62 = .ok (.ireturn, 1) := zb_X11_last_46.2.2.2.2.2.2.2.2.2.2
theorem zb_X11_man_0 : (decode cX11_man 0 = .ok (.aload_n 0, 1)) ∧ (decode cX11_man 1 = .ok (.iload_n 1, 1)) ∧ (decode cX11_man 2 = .ok (.invokevirtual 78, 3)) ∧ (decode cX11_man 5 = .ok (.ifnull 25, 3)) ∧ (decode cX11_man 30 = .ok (.bipush (-2), 2)) ∧ (decode cX11_man 32 = .ok (.ireturn, 1)) ∧ (decode cX11_man 8 = .ok (.iload_n 2, 1)) ∧ (decode cX11_man 9 = .ok (.invokestatic 263, 3)) ∧ (decode cX11_man 12 = .ok (.ifCond .eq 18, 3)) ∧ (decode cX11_man 15 = .ok (.iload_n 3, 1)) := by decide +kernel
theorem dX11_man_0 : decode cX11_man 0 = .ok (.aload_n 0, 1) := zb_X11_man_0.1
theorem dX11_man_1 : decode cX11_man 1 = .ok (.iload_n 1, 1) := zb_X11_man_0.2.1
theorem dX11_man_2 : decode cX11_man 2 = .ok (.invokevirtual 78, 3) := zb_X11_man_0.2.2.1
theorem dX11_man_5 : decode cX11_man 5 = .ok (.ifnull 25, 3) := zb_X11_man_0.2.2.2.1
theorem dX11_man_30 : decode cX11_man 30 = .ok (.bipush (-2), 2) := zb_X11_man_0.2.2.2.2.1
theorem dX11_man_32 : decode cX11_man 32 = .ok (.ireturn, 1) := zb_X11_man_0.2.2.2.2.2.1
theorem dX11_man_8 : decode cX11_man 8 = .ok (.iload_n 2, 1) := zb_X11_man_0.2.2.2.2.2.2.1
theorem dX11_man_9 : decode cX11_man 9 = .ok (.invokestatic 263, 3) := zb_X11_man_0.2.2.2.2.2.2.2.1
theorem dX11_man_12 : decode cX11_man 12 = .ok (.ifCond .eq 18, 3) := zb_X11_man_0.2.2.2.2.2.2.2.2.1
theorem dX11_man_15 : decode cX11_man 15 = .ok (.iload_n 3, 1) := zb_X11_man_0.2.2.2.2.2.2.2.2.2
theorem zb_X11_man_16 : (decode cX11_man 16 = .ok (.invokestatic 263, 3)) ∧ (decode cX11_man 19 = .ok (.ifCond .eq 11, 3)) ∧ (decode cX11_man 22 = .ok (.iload 4, 2)) ∧ (decode cX11_man 24 = .ok (.invokestatic 263, 3)) ∧ (decode cX11_man 27 = .ok (.ifCond .ne 6, 3)) ∧ (decode cX11_man 33 = .ok (.aload_n 0, 1)) ∧ (decode cX11_man 34 = .ok (.getfield 39, 3)) ∧ (decode cX11_man 37 = .ok (.getfield 266, 3)) ∧ (decode cX11_man 40 = .ok (.bipush 16, 2)) ∧ (decode cX11_man 42 = .ok (.if_icmp .lt 6, 3)) := by decide +kernel
theorem dX11_man_16 : decode cX11_man 16 = .ok (.invokestatic 263, 3) := zb_X11_man_16.1
theorem dX11_man_19 : decode cX11_man 19 = .ok (.ifCond .eq 11, 3) := zb_X11_man_16.2.1
theorem dX11_man_22 : decode cX11_man 22 = .ok (.iload 4, 2) := zb_X11_man_16.2.2.1
theorem dX11_man_24 : decode cX11_man 24 = .ok (.invokestatic 263, 3) := zb_X11_man_16.2.2.2.1
theorem dX11_man_27 : decode cX11_man 27 = .ok (.ifCond .ne 6, 3) := zb_X11_man_16.2.2.2.2.1
theorem dX11_man_33 : decode cX11_man 33 = .ok (.aload_n 0, 1) := zb_X11_man_16.2.2.2.2.2.1
theorem dX11_man_34 : decode cX11_man 34 = .ok (.getfield 39, 3) := zb_X11_man_16.2.2.2.2.2.2.1
theorem dX11_man_37 : decode cX11_man 37 = .ok (.getfield 266, 3) := zb_X11_man_16.2.2.2.2.2.2.2.1
theorem dX11_man_40 : decode cX11_man 40 = .ok (.bipush 16, 2) := zb_X11_man_16.2.2.2.2.2.2.2.2.1
theorem dX11_man_42 : decode cX11_man 42 = .ok (.if_icmp .lt 6, 3) := zb_X11_man_16.2.2.2.2.2.2.2.2.2
theorem zb_X11_man_48 : (decode cX11_man 48 = .ok (.aload_n 0, 1)) ∧ (decode cX11_man 49 = .ok (.getfield 39, 3)) ∧ (decode cX11_man 52 = .ok (.iload_n 1, 1)) ∧ (decode cX11_man 53 = .ok (.iload_n 2, 1)) ∧ (decode cX11_man 54 = .ok (.iload_n 3, 1)) ∧ (decode cX11_man 55 = .ok (.iload 4, 2)) ∧ (decode cX11_man 57 = .ok (.invokevirtual 267, 3)) ∧ (decode cX11_man 60 = .ok (.ireturn, 1)) ∧ (decode cX11_man 45 = .ok (.bipush (-4), 2)) ∧ (decode cX11_man 47 = .ok (.ireturn, 1)) := by decide +kernel
theorem dX11_man_48 : decode cX11_man 48 = .ok (.aload_n 0, 1) := zb_X11_man_48.1
theorem dX11_man_49 : decode cX11_man 49 = .ok (.getfield 39, 3) := zb_X11_man_48.2.1
theorem dX11_man_52 : decode cX11_man 52 = .ok (.iload_n 1, 1) := zb_X11_man_48.2.2.1
theorem dX11_man_53 : decode cX11_man 53 = .ok (.iload_n 2, 1) := zb_X11_man_48.2.2.2.1
theorem dX11_man_54 : decode cX11_man 54 = .ok (.iload_n 3, 1) := zb_X11_man_48.2.2.2.2.1
theorem dX11_man_55 : decode cX11_man 55 = .ok (.iload 4, 2) := zb_X11_man_48.2.2.2.2.2.1
theorem dX11_man_57 : decode cX11_man 57 = .ok (.invokevirtual 267, 3) := zb_X11_man_48.2.2.2.2.2.2.1
theorem dX11_man_60 : decode cX11_man 60 = .ok (.ireturn, 1) := zb_X11_man_48.2.2.2.2.2.2.2.1
theorem dX11_man_45 : decode cX11_man 45 = .ok (.bipush (-4), 2) := zb_X11_man_48.2.2.2.2.2.2.2.2.1
theorem dX11_man_47 : decode cX11_man 47 = .ok (.ireturn, 1) := zb_X11_man_48.2.2.2.2.2.2.2.2.2
theorem zb_X11_feed_0 : (decode cX11_feed 0 = .ok (.iload_n 1, 1)) ∧ (decode cX11_feed 1 = .ok (.iconst 1, 1)) ∧ (decode cX11_feed 2 = .ok (.if_icmp .lt 9, 3)) ∧ (decode cX11_feed 11 = .ok (.bipush (-2), 2)) ∧ (decode cX11_feed 13 = .ok (.ireturn, 1)) ∧ (decode cX11_feed 5 = .ok (.iload_n 1, 1)) ∧ (decode cX11_feed 6 = .ok (.bipush 8, 2)) ∧ (decode cX11_feed 8 = .ok (.if_icmp .le 6, 3)) ∧ (decode cX11_feed 14 = .ok (.aload_n 0, 1)) ∧ (decode cX11_feed 15 = .ok (.getfield 46, 3)) ∧ (decode cX11_feed 18 = .ok (.getfield 271, 3)) ∧ (decode cX11_feed 21 = .ok (.iload_n 1, 1)) := by decide +kernel
theorem dX11_feed_0 : decode cX11_feed 0 = .ok (.iload_n 1, 1) := zb_X11_feed_0.1
theorem dX11_feed_1 : decode cX11_feed 1 = .ok (.iconst 1, 1) := zb_X11_feed_0.2.1
theorem dX11_feed_2 : decode cX11_feed 2 = .ok (.if_icmp .lt 9, 3) := zb_X11_feed_0.2.2.1
theorem dX11_feed_11 : decode cX11_feed 11 = .ok (.bipush (-2), 2) := zb_X11_feed_0.2.2.2.1
theorem dX11_feed_13 : decode cX11_feed 13 = .ok (.ireturn, 1) := zb_X11_feed_0.2.2.2.2.1
theorem dX11_feed_5 : decode cX11_feed 5 = .ok (.iload_n 1, 1) := zb_X11_feed_0.2.2.2.2.2.1
theorem dX11_feed_6 : decode cX11_feed 6 = .ok (.bipush 8, 2) := zb_X11_feed_0.2.2.2.2.2.2.1
theorem dX11_feed_8 : decode cX11_feed 8 = .ok (.if_icmp .le 6, 3) := zb_X11_feed_0.2.2.2.2.2.2.2.1
theorem dX11_feed_14 : decode cX11_feed 14 = .ok (.aload_n 0, 1) := zb_X11_feed_0.2.2.2.2.2.2.2.2.1
theorem dX11_feed_15 : decode cX11_feed 15 = .ok (.getfield 46, 3) := zb_X11_feed_0.2.2.2.2.2.2.2.2.2.1
theorem dX11_feed_18 : decode cX11_feed 18 = .ok (.getfield 271, 3) := zb_X11_feed_0.2.2.2.2.2.2.2.2.2.2.1
theorem dX11_feed_21 : decode cX11_feed 21 = .ok (.iload_n 1, 1) := zb_X11_feed_0.2.2.2.2.2.2.2.2.2.2.2
theorem zb_X11_feed_22 : (decode cX11_feed 22 = .ok (.iadd, 1)) ∧ (decode cX11_feed 23 = .ok (.sipush 160, 3)) ∧ (decode cX11_feed 26 = .ok (.if_icmp .le 6, 3)) ∧ (decode cX11_feed 32 = .ok (.aload_n 0, 1)) ∧ (decode cX11_feed 33 = .ok (.getfield 46, 3)) ∧ (decode cX11_feed 36 = .ok (.iload_n 1, 1)) ∧ (decode cX11_feed 37 = .ok (.lload_n 2, 1)) ∧ (decode cX11_feed 38 = .ok (.invokevirtual 274, 3)) ∧ (decode cX11_feed 41 = .ok (.ireturn, 1)) ∧ (decode cX11_feed 29 = .ok (.bipush (-4), 2)) ∧ (decode cX11_feed 31 = .ok (.ireturn, 1)) := by decide +kernel
theorem dX11_feed_22 : decode cX11_feed 22 = .ok (.iadd, 1) := zb_X11_feed_22.1
theorem dX11_feed_23 : decode cX11_feed 23 = .ok (.sipush 160, 3) := zb_X11_feed_22.2.1
theorem dX11_feed_26 : decode cX11_feed 26 = .ok (.if_icmp .le 6, 3) := zb_X11_feed_22.2.2.1
theorem dX11_feed_32 : decode cX11_feed 32 = .ok (.aload_n 0, 1) := zb_X11_feed_22.2.2.2.1
theorem dX11_feed_33 : decode cX11_feed 33 = .ok (.getfield 46, 3) := zb_X11_feed_22.2.2.2.2.1
theorem dX11_feed_36 : decode cX11_feed 36 = .ok (.iload_n 1, 1) := zb_X11_feed_22.2.2.2.2.2.1
theorem dX11_feed_37 : decode cX11_feed 37 = .ok (.lload_n 2, 1) := zb_X11_feed_22.2.2.2.2.2.2.1
theorem dX11_feed_38 : decode cX11_feed 38 = .ok (.invokevirtual 274, 3) := zb_X11_feed_22.2.2.2.2.2.2.2.1
theorem dX11_feed_41 : decode cX11_feed 41 = .ok (.ireturn, 1) := zb_X11_feed_22.2.2.2.2.2.2.2.2.1
theorem dX11_feed_29 : decode cX11_feed 29 = .ok (.bipush (-4), 2) := zb_X11_feed_22.2.2.2.2.2.2.2.2.2.1
theorem dX11_feed_31 : decode cX11_feed 31 = .ok (.ireturn, 1) := zb_X11_feed_22.2.2.2.2.2.2.2.2.2.2
theorem zb_X11_force_0 : (decode cX11_force 0 = .ok (.iload_n 1, 1)) ∧ (decode cX11_force 1 = .ok (.ifCond .lt 14, 3)) ∧ (decode cX11_force 15 = .ok (.bipush (-2), 2)) ∧ (decode cX11_force 17 = .ok (.ireturn, 1)) ∧ (decode cX11_force 4 = .ok (.iload_n 1, 1)) ∧ (decode cX11_force 5 = .ok (.aload_n 0, 1)) ∧ (decode cX11_force 6 = .ok (.getfield 46, 3)) ∧ (decode cX11_force 9 = .ok (.getfield 280, 3)) ∧ (decode cX11_force 12 = .ok (.if_icmp .lt 6, 3)) ∧ (decode cX11_force 18 = .ok (.aload_n 0, 1)) := by decide +kernel
theorem dX11_force_0 : decode cX11_force 0 = .ok (.iload_n 1, 1) := zb_X11_force_0.1
theorem dX11_force_1 : decode cX11_force 1 = .ok (.ifCond .lt 14, 3) := zb_X11_force_0.2.1
theorem dX11_force_15 : decode cX11_force 15 = .ok (.bipush (-2), 2) := zb_X11_force_0.2.2.1
theorem dX11_force_17 : decode cX11_force 17 = .ok (.ireturn, 1) := zb_X11_force_0.2.2.2.1
theorem dX11_force_4 : decode cX11_force 4 = .ok (.iload_n 1, 1) := zb_X11_force_0.2.2.2.2.1
theorem dX11_force_5 : decode cX11_force 5 = .ok (.aload_n 0, 1) := zb_X11_force_0.2.2.2.2.2.1
theorem dX11_force_6 : decode cX11_force 6 = .ok (.getfield 46, 3) := zb_X11_force_0.2.2.2.2.2.2.1
theorem dX11_force_9 : decode cX11_force 9 = .ok (.getfield 280, 3) := zb_X11_force_0.2.2.2.2.2.2.2.1
theorem dX11_force_12 : decode cX11_force 12 = .ok (.if_icmp .lt 6, 3) := zb_X11_force_0.2.2.2.2.2.2.2.2.1
theorem dX11_force_18 : decode cX11_force 18 = .ok (.aload_n 0, 1) := zb_X11_force_0.2.2.2.2.2.2.2.2.2
theorem zb_X11_force_19 : (decode cX11_force 19 = .ok (.getfield 46, 3)) ∧ (decode cX11_force 22 = .ok (.getfield 283, 3)) ∧ (decode cX11_force 25 = .ok (.istore_n 2, 1)) ∧ (decode cX11_force 26 = .ok (.aload_n 0, 1)) ∧ (decode cX11_force 27 = .ok (.getfield 46, 3)) ∧ (decode cX11_force 30 = .ok (.iload_n 1, 1)) ∧ (decode cX11_force 31 = .ok (.putfield 283, 3)) ∧ (decode cX11_force 34 = .ok (.iload_n 2, 1)) ∧ (decode cX11_force 35 = .ok (.ireturn, 1)) := by decide +kernel
theorem dX11_force_19 : decode cX11_force 19 = .ok (.getfield 46, 3) := zb_X11_force_19.1
theorem dX11_force_22 : decode cX11_force 22 = .ok (.getfield 283, 3) := zb_X11_force_19.2.1
theorem dX11_force_25 : decode cX11_force 25 = .ok (.istore_n 2, 1) := zb_X11_force_19.2.2.1
theorem dX11_force_26 : decode cX11_force 26 = .ok (.aload_n 0, 1) := zb_X11_force_19.2.2.2.1
theorem dX11_force_27 : decode cX11_force 27 = .ok (.getfield 46, 3) := zb_X11_force_19.2.2.2.2.1
theorem dX11_force_30 : decode cX11_force 30 = .ok (.iload_n 1, 1) := zb_X11_force_19.2.2.2.2.2.1
theorem dX11_force_31 : decode cX11_force 31 = .ok (.putfield 283, 3) := zb_X11_force_19.2.2.2.2.2.2.1
theorem dX11_force_34 : decode cX11_force 34 = .ok (.iload_n 2, 1) := zb_X11_force_19.2.2.2.2.2.2.2.1
theorem dX11_force_35 : decode cX11_force 35 = .ok (.ireturn, 1) := zb_X11_force_19.2.2.2.2.2.2.2.2
theorem zb_X11_says_26 : (decode cX11_says 26 = .ok (.aload_n 0, 1)) ∧ (decode cX11_says 27 = .ok (.iload_n 2, 1)) ∧ (decode cX11_says 28 = .ok (.invokevirtual 214, 3)) ∧ (decode cX11_says 31 = .ok (.astore 4, 2)) ∧ (decode cX11_says 33 = .ok (.aload_n 0, 1)) ∧ (decode cX11_says 34 = .ok (.iload_n 3, 1)) ∧ (decode cX11_says 35 = .ok (.invokevirtual 78, 3)) ∧ (decode cX11_says 38 = .ok (.astore 5, 2)) ∧ (decode cX11_says 40 = .ok (.iload_n 1, 1)) ∧ (decode cX11_says 41 = .ok (.iconst 1, 1)) ∧ (decode cX11_says 42 = .ok (.if_icmp .ne 13, 3)) := by decide +kernel
theorem dX11_says_26 : decode cX11_says 26 = .ok (.aload_n 0, 1) := zb_X11_says_26.1
theorem dX11_says_27 : decode cX11_says 27 = .ok (.iload_n 2, 1) := zb_X11_says_26.2.1
theorem dX11_says_28 : decode cX11_says 28 = .ok (.invokevirtual 214, 3) := zb_X11_says_26.2.2.1
theorem dX11_says_31 : decode cX11_says 31 = .ok (.astore 4, 2) := zb_X11_says_26.2.2.2.1
theorem dX11_says_33 : decode cX11_says 33 = .ok (.aload_n 0, 1) := zb_X11_says_26.2.2.2.2.1
theorem dX11_says_34 : decode cX11_says 34 = .ok (.iload_n 3, 1) := zb_X11_says_26.2.2.2.2.2.1
theorem dX11_says_35 : decode cX11_says 35 = .ok (.invokevirtual 78, 3) := zb_X11_says_26.2.2.2.2.2.2.1
theorem dX11_says_38 : decode cX11_says 38 = .ok (.astore 5, 2) := zb_X11_says_26.2.2.2.2.2.2.2.1
theorem dX11_says_40 : decode cX11_says 40 = .ok (.iload_n 1, 1) := zb_X11_says_26.2.2.2.2.2.2.2.2.1
theorem dX11_says_41 : decode cX11_says 41 = .ok (.iconst 1, 1) := zb_X11_says_26.2.2.2.2.2.2.2.2.2.1
theorem dX11_says_42 : decode cX11_says 42 = .ok (.if_icmp .ne 13, 3) := zb_X11_says_26.2.2.2.2.2.2.2.2.2.2
theorem zb_X11_says_55 : (decode cX11_says 55 = .ok (.ldc2_w 148, 3)) ∧ (decode cX11_says 58 = .ok (.lreturn, 1)) ∧ (decode cX11_says 45 = .ok (.aload 4, 2)) ∧ (decode cX11_says 47 = .ok (.ifnull 8, 3)) ∧ (decode cX11_says 50 = .ok (.aload 5, 2)) ∧ (decode cX11_says 52 = .ok (.ifnonnull 7, 3)) ∧ (decode cX11_says 59 = .ok (.aload 4, 2)) ∧ (decode cX11_says 61 = .ok (.getfield 119, 3)) ∧ (decode cX11_says 64 = .ok (.aload 5, 2)) ∧ (decode cX11_says 66 = .ok (.aload_n 0, 1)) ∧ (decode cX11_says 67 = .ok (.getfield 10, 3)) := by decide +kernel
theorem dX11_says_55 : decode cX11_says 55 = .ok (.ldc2_w 148, 3) := zb_X11_says_55.1
theorem dX11_says_58 : decode cX11_says 58 = .ok (.lreturn, 1) := zb_X11_says_55.2.1
theorem dX11_says_45 : decode cX11_says 45 = .ok (.aload 4, 2) := zb_X11_says_55.2.2.1
theorem dX11_says_47 : decode cX11_says 47 = .ok (.ifnull 8, 3) := zb_X11_says_55.2.2.2.1
theorem dX11_says_50 : decode cX11_says 50 = .ok (.aload 5, 2) := zb_X11_says_55.2.2.2.2.1
theorem dX11_says_52 : decode cX11_says 52 = .ok (.ifnonnull 7, 3) := zb_X11_says_55.2.2.2.2.2.1
theorem dX11_says_59 : decode cX11_says 59 = .ok (.aload 4, 2) := zb_X11_says_55.2.2.2.2.2.2.1
theorem dX11_says_61 : decode cX11_says 61 = .ok (.getfield 119, 3) := zb_X11_says_55.2.2.2.2.2.2.2.1
theorem dX11_says_64 : decode cX11_says 64 = .ok (.aload 5, 2) := zb_X11_says_55.2.2.2.2.2.2.2.2.1
theorem dX11_says_66 : decode cX11_says 66 = .ok (.aload_n 0, 1) := zb_X11_says_55.2.2.2.2.2.2.2.2.2.1
theorem dX11_says_67 : decode cX11_says 67 = .ok (.getfield 10, 3) := zb_X11_says_55.2.2.2.2.2.2.2.2.2.2
theorem zb_X11_says_70 : (decode cX11_says 70 = .ok (.aload_n 0, 1)) ∧ (decode cX11_says 71 = .ok (.getfield 71, 3)) ∧ (decode cX11_says 74 = .ok (.invokevirtual 223, 3)) ∧ (decode cX11_says 77 = .ok (.invokestatic 289, 3)) ∧ (decode cX11_says 80 = .ok (.istore 6, 2)) ∧ (decode cX11_says 82 = .ok (.aload_n 0, 1)) ∧ (decode cX11_says 83 = .ok (.getfield 46, 3)) ∧ (decode cX11_says 86 = .ok (.iconst 1, 1)) ∧ (decode cX11_says 87 = .ok (.iconst 0, 1)) ∧ (decode cX11_says 88 = .ok (.iconst 0, 1)) ∧ (decode cX11_says 89 = .ok (.iconst 0, 1)) := by decide +kernel
theorem dX11_says_70 : decode cX11_says 70 = .ok (.aload_n 0, 1) := zb_X11_says_70.1
theorem dX11_says_71 : decode cX11_says 71 = .ok (.getfield 71, 3) := zb_X11_says_70.2.1
theorem dX11_says_74 : decode cX11_says 74 = .ok (.invokevirtual 223, 3) := zb_X11_says_70.2.2.1
theorem dX11_says_77 : decode cX11_says 77 = .ok (.invokestatic 289, 3) := zb_X11_says_70.2.2.2.1
theorem dX11_says_80 : decode cX11_says 80 = .ok (.istore 6, 2) := zb_X11_says_70.2.2.2.2.1
theorem dX11_says_82 : decode cX11_says 82 = .ok (.aload_n 0, 1) := zb_X11_says_70.2.2.2.2.2.1
theorem dX11_says_83 : decode cX11_says 83 = .ok (.getfield 46, 3) := zb_X11_says_70.2.2.2.2.2.2.1
theorem dX11_says_86 : decode cX11_says 86 = .ok (.iconst 1, 1) := zb_X11_says_70.2.2.2.2.2.2.2.1
theorem dX11_says_87 : decode cX11_says 87 = .ok (.iconst 0, 1) := zb_X11_says_70.2.2.2.2.2.2.2.2.1
theorem dX11_says_88 : decode cX11_says 88 = .ok (.iconst 0, 1) := zb_X11_says_70.2.2.2.2.2.2.2.2.2.1
theorem dX11_says_89 : decode cX11_says 89 = .ok (.iconst 0, 1) := zb_X11_says_70.2.2.2.2.2.2.2.2.2.2
theorem zb_X11_says_90 : (decode cX11_says 90 = .ok (.aload_n 0, 1)) ∧ (decode cX11_says 91 = .ok (.getfield 71, 3)) ∧ (decode cX11_says 94 = .ok (.aload 4, 2)) ∧ (decode cX11_says 96 = .ok (.getfield 131, 3)) ∧ (decode cX11_says 99 = .ok (.iload 6, 2)) ∧ (decode cX11_says 101 = .ok (.invokevirtual 292, 3)) ∧ (decode cX11_says 104 = .ok (.i2l, 1)) ∧ (decode cX11_says 105 = .ok (.lreturn, 1)) ∧ (decode cX11_says 0 = .ok (.iload_n 1, 1)) ∧ (decode cX11_says 1 = .ok (.ifCond .ne 25, 3)) ∧ (decode cX11_says 4 = .ok (.iload_n 2, 1)) := by decide +kernel
theorem dX11_says_90 : decode cX11_says 90 = .ok (.aload_n 0, 1) := zb_X11_says_90.1
theorem dX11_says_91 : decode cX11_says 91 = .ok (.getfield 71, 3) := zb_X11_says_90.2.1
theorem dX11_says_94 : decode cX11_says 94 = .ok (.aload 4, 2) := zb_X11_says_90.2.2.1
theorem dX11_says_96 : decode cX11_says 96 = .ok (.getfield 131, 3) := zb_X11_says_90.2.2.2.1
theorem dX11_says_99 : decode cX11_says 99 = .ok (.iload 6, 2) := zb_X11_says_90.2.2.2.2.1
theorem dX11_says_101 : decode cX11_says 101 = .ok (.invokevirtual 292, 3) := zb_X11_says_90.2.2.2.2.2.1
theorem dX11_says_104 : decode cX11_says 104 = .ok (.i2l, 1) := zb_X11_says_90.2.2.2.2.2.2.1
theorem dX11_says_105 : decode cX11_says 105 = .ok (.lreturn, 1) := zb_X11_says_90.2.2.2.2.2.2.2.1
theorem dX11_says_0 : decode cX11_says 0 = .ok (.iload_n 1, 1) := zb_X11_says_90.2.2.2.2.2.2.2.2.1
theorem dX11_says_1 : decode cX11_says 1 = .ok (.ifCond .ne 25, 3) := zb_X11_says_90.2.2.2.2.2.2.2.2.2.1
theorem dX11_says_4 : decode cX11_says 4 = .ok (.iload_n 2, 1) := zb_X11_says_90.2.2.2.2.2.2.2.2.2.2
theorem zb_X11_says_5 : (decode cX11_says 5 = .ok (.ifCond .lt 21, 3)) ∧ (decode cX11_says 8 = .ok (.iload_n 2, 1)) ∧ (decode cX11_says 9 = .ok (.aload_n 0, 1)) ∧ (decode cX11_says 10 = .ok (.getfield 39, 3)) ∧ (decode cX11_says 13 = .ok (.getfield 266, 3)) ∧ (decode cX11_says 16 = .ok (.if_icmp .ge 10, 3)) ∧ (decode cX11_says 19 = .ok (.aload_n 0, 1)) ∧ (decode cX11_says 20 = .ok (.iload_n 2, 1)) ∧ (decode cX11_says 21 = .ok (.invokevirtual 286, 3)) ∧ (decode cX11_says 24 = .ok (.i2l, 1)) ∧ (decode cX11_says 25 = .ok (.lreturn, 1)) := by decide +kernel
theorem dX11_says_5 : decode cX11_says 5 = .ok (.ifCond .lt 21, 3) := zb_X11_says_5.1
theorem dX11_says_8 : decode cX11_says 8 = .ok (.iload_n 2, 1) := zb_X11_says_5.2.1
theorem dX11_says_9 : decode cX11_says 9 = .ok (.aload_n 0, 1) := zb_X11_says_5.2.2.1
theorem dX11_says_10 : decode cX11_says 10 = .ok (.getfield 39, 3) := zb_X11_says_5.2.2.2.1
theorem dX11_says_13 : decode cX11_says 13 = .ok (.getfield 266, 3) := zb_X11_says_5.2.2.2.2.1
theorem dX11_says_16 : decode cX11_says 16 = .ok (.if_icmp .ge 10, 3) := zb_X11_says_5.2.2.2.2.2.1
theorem dX11_says_19 : decode cX11_says 19 = .ok (.aload_n 0, 1) := zb_X11_says_5.2.2.2.2.2.2.1
theorem dX11_says_20 : decode cX11_says 20 = .ok (.iload_n 2, 1) := zb_X11_says_5.2.2.2.2.2.2.2.1
theorem dX11_says_21 : decode cX11_says 21 = .ok (.invokevirtual 286, 3) := zb_X11_says_5.2.2.2.2.2.2.2.2.1
theorem dX11_says_24 : decode cX11_says 24 = .ok (.i2l, 1) := zb_X11_says_5.2.2.2.2.2.2.2.2.2.1
theorem dX11_says_25 : decode cX11_says 25 = .ok (.lreturn, 1) := zb_X11_says_5.2.2.2.2.2.2.2.2.2.2
theorem zb_X11_first_0 : (decode cX11_first 0 = .ok (.aload_n 0, 1)) ∧ (decode cX11_first 1 = .ok (.iload_n 1, 1)) ∧ (decode cX11_first 2 = .ok (.invokevirtual 78, 3)) ∧ (decode cX11_first 5 = .ok (.ifnonnull 6, 3)) ∧ (decode cX11_first 8 = .ok (.bipush (-2), 2)) ∧ (decode cX11_first 10 = .ok (.ireturn, 1)) ∧ (decode cX11_first 11 = .ok (.iconst 0, 1)) ∧ (decode cX11_first 12 = .ok (.istore_n 3, 1)) ∧ (decode cX11_first 13 = .ok (.iload_n 3, 1)) ∧ (decode cX11_first 14 = .ok (.aload_n 0, 1)) := by decide +kernel
theorem dX11_first_0 : decode cX11_first 0 = .ok (.aload_n 0, 1) := zb_X11_first_0.1
theorem dX11_first_1 : decode cX11_first 1 = .ok (.iload_n 1, 1) := zb_X11_first_0.2.1
theorem dX11_first_2 : decode cX11_first 2 = .ok (.invokevirtual 78, 3) := zb_X11_first_0.2.2.1
theorem dX11_first_5 : decode cX11_first 5 = .ok (.ifnonnull 6, 3) := zb_X11_first_0.2.2.2.1
theorem dX11_first_8 : decode cX11_first 8 = .ok (.bipush (-2), 2) := zb_X11_first_0.2.2.2.2.1
theorem dX11_first_10 : decode cX11_first 10 = .ok (.ireturn, 1) := zb_X11_first_0.2.2.2.2.2.1
theorem dX11_first_11 : decode cX11_first 11 = .ok (.iconst 0, 1) := zb_X11_first_0.2.2.2.2.2.2.1
theorem dX11_first_12 : decode cX11_first 12 = .ok (.istore_n 3, 1) := zb_X11_first_0.2.2.2.2.2.2.2.1
theorem dX11_first_13 : decode cX11_first 13 = .ok (.iload_n 3, 1) := zb_X11_first_0.2.2.2.2.2.2.2.2.1
theorem dX11_first_14 : decode cX11_first 14 = .ok (.aload_n 0, 1) := zb_X11_first_0.2.2.2.2.2.2.2.2.2
theorem zb_X11_first_15 : (decode cX11_first 15 = .ok (.getfield 39, 3)) ∧ (decode cX11_first 18 = .ok (.getfield 266, 3)) ∧ (decode cX11_first 21 = .ok (.if_icmp .ge 23, 3)) ∧ (decode cX11_first 44 = .ok (.aload_n 0, 1)) ∧ (decode cX11_first 45 = .ok (.getfield 39, 3)) ∧ (decode cX11_first 48 = .ok (.iload_n 1, 1)) ∧ (decode cX11_first 49 = .ok (.iload_n 2, 1)) ∧ (decode cX11_first 50 = .ok (.invokevirtual 299, 3)) ∧ (decode cX11_first 53 = .ok (.ireturn, 1)) ∧ (decode cX11_first 24 = .ok (.aload_n 0, 1)) := by decide +kernel
theorem dX11_first_15 : decode cX11_first 15 = .ok (.getfield 39, 3) := zb_X11_first_15.1
theorem dX11_first_18 : decode cX11_first 18 = .ok (.getfield 266, 3) := zb_X11_first_15.2.1
theorem dX11_first_21 : decode cX11_first 21 = .ok (.if_icmp .ge 23, 3) := zb_X11_first_15.2.2.1
theorem dX11_first_44 : decode cX11_first 44 = .ok (.aload_n 0, 1) := zb_X11_first_15.2.2.2.1
theorem dX11_first_45 : decode cX11_first 45 = .ok (.getfield 39, 3) := zb_X11_first_15.2.2.2.2.1
theorem dX11_first_48 : decode cX11_first 48 = .ok (.iload_n 1, 1) := zb_X11_first_15.2.2.2.2.2.1
theorem dX11_first_49 : decode cX11_first 49 = .ok (.iload_n 2, 1) := zb_X11_first_15.2.2.2.2.2.2.1
theorem dX11_first_50 : decode cX11_first 50 = .ok (.invokevirtual 299, 3) := zb_X11_first_15.2.2.2.2.2.2.2.1
theorem dX11_first_53 : decode cX11_first 53 = .ok (.ireturn, 1) := zb_X11_first_15.2.2.2.2.2.2.2.2.1
theorem dX11_first_24 : decode cX11_first 24 = .ok (.aload_n 0, 1) := zb_X11_first_15.2.2.2.2.2.2.2.2.2
theorem zb_X11_first_25 : (decode cX11_first 25 = .ok (.getfield 39, 3)) ∧ (decode cX11_first 28 = .ok (.getfield 296, 3)) ∧ (decode cX11_first 31 = .ok (.iload_n 3, 1)) ∧ (decode cX11_first 32 = .ok (.aload_n 0, 1)) ∧ (decode cX11_first 33 = .ok (.iload_n 3, 1)) ∧ (decode cX11_first 34 = .ok (.invokevirtual 286, 3)) ∧ (decode cX11_first 37 = .ok (.iastore, 1)) ∧ (decode cX11_first 38 = .ok (.iinc 3 1, 3)) ∧ (decode cX11_first 41 = .ok (.goto (-28), 3)) := by decide +kernel
theorem dX11_first_25 : decode cX11_first 25 = .ok (.getfield 39, 3) := zb_X11_first_25.1
theorem dX11_first_28 : decode cX11_first 28 = .ok (.getfield 296, 3) := zb_X11_first_25.2.1
theorem dX11_first_31 : decode cX11_first 31 = .ok (.iload_n 3, 1) := zb_X11_first_25.2.2.1
theorem dX11_first_32 : decode cX11_first 32 = .ok (.aload_n 0, 1) := zb_X11_first_25.2.2.2.1
theorem dX11_first_33 : decode cX11_first 33 = .ok (.iload_n 3, 1) := zb_X11_first_25.2.2.2.2.1
theorem dX11_first_34 : decode cX11_first 34 = .ok (.invokevirtual 286, 3) := zb_X11_first_25.2.2.2.2.2.1
theorem dX11_first_37 : decode cX11_first 37 = .ok (.iastore, 1) := zb_X11_first_25.2.2.2.2.2.2.1
theorem dX11_first_38 : decode cX11_first 38 = .ok (.iinc 3 1, 3) := zb_X11_first_25.2.2.2.2.2.2.2.1
theorem dX11_first_41 : decode cX11_first 41 = .ok (.goto (-28), 3) := zb_X11_first_25.2.2.2.2.2.2.2.2
theorem zb_X11_story_0 : (decode cX11_story 0 = .ok (.aload_n 0, 1)) ∧ (decode cX11_story 1 = .ok (.iload_n 1, 1)) ∧ (decode cX11_story 2 = .ok (.invokevirtual 78, 3)) ∧ (decode cX11_story 5 = .ok (.astore 4, 2)) ∧ (decode cX11_story 7 = .ok (.aload 4, 2)) ∧ (decode cX11_story 9 = .ok (.ifnull 27, 3)) ∧ (decode cX11_story 36 = .ok (.bipush (-2), 2)) ∧ (decode cX11_story 38 = .ok (.ireturn, 1)) ∧ (decode cX11_story 12 = .ok (.iload_n 2, 1)) ∧ (decode cX11_story 13 = .ok (.invokestatic 110, 3)) ∧ (decode cX11_story 16 = .ok (.ifCond .eq 20, 3)) := by decide +kernel
theorem dX11_story_0 : decode cX11_story 0 = .ok (.aload_n 0, 1) := zb_X11_story_0.1
theorem dX11_story_1 : decode cX11_story 1 = .ok (.iload_n 1, 1) := zb_X11_story_0.2.1
theorem dX11_story_2 : decode cX11_story 2 = .ok (.invokevirtual 78, 3) := zb_X11_story_0.2.2.1
theorem dX11_story_5 : decode cX11_story 5 = .ok (.astore 4, 2) := zb_X11_story_0.2.2.2.1
theorem dX11_story_7 : decode cX11_story 7 = .ok (.aload 4, 2) := zb_X11_story_0.2.2.2.2.1
theorem dX11_story_9 : decode cX11_story 9 = .ok (.ifnull 27, 3) := zb_X11_story_0.2.2.2.2.2.1
theorem dX11_story_36 : decode cX11_story 36 = .ok (.bipush (-2), 2) := zb_X11_story_0.2.2.2.2.2.2.1
theorem dX11_story_38 : decode cX11_story 38 = .ok (.ireturn, 1) := zb_X11_story_0.2.2.2.2.2.2.2.1
theorem dX11_story_12 : decode cX11_story 12 = .ok (.iload_n 2, 1) := zb_X11_story_0.2.2.2.2.2.2.2.2.1
theorem dX11_story_13 : decode cX11_story 13 = .ok (.invokestatic 110, 3) := zb_X11_story_0.2.2.2.2.2.2.2.2.2.1
theorem dX11_story_16 : decode cX11_story 16 = .ok (.ifCond .eq 20, 3) := zb_X11_story_0.2.2.2.2.2.2.2.2.2.2
theorem zb_X11_story_19 : (decode cX11_story 19 = .ok (.iload_n 3, 1)) ∧ (decode cX11_story 20 = .ok (.aload 4, 2)) ∧ (decode cX11_story 22 = .ok (.getfield 122, 3)) ∧ (decode cX11_story 25 = .ok (.if_icmp .lt 11, 3)) ∧ (decode cX11_story 28 = .ok (.iload_n 3, 1)) ∧ (decode cX11_story 29 = .ok (.aload_n 0, 1)) ∧ (decode cX11_story 30 = .ok (.getfield 71, 3)) ∧ (decode cX11_story 33 = .ok (.if_icmp .le 6, 3)) ∧ (decode cX11_story 39 = .ok (.aload_n 0, 1)) ∧ (decode cX11_story 40 = .ok (.getfield 53, 3)) ∧ (decode cX11_story 43 = .ok (.getfield 302, 3)) := by decide +kernel
theorem dX11_story_19 : decode cX11_story 19 = .ok (.iload_n 3, 1) := zb_X11_story_19.1
theorem dX11_story_20 : decode cX11_story 20 = .ok (.aload 4, 2) := zb_X11_story_19.2.1
theorem dX11_story_22 : decode cX11_story 22 = .ok (.getfield 122, 3) := zb_X11_story_19.2.2.1
theorem dX11_story_25 : decode cX11_story 25 = .ok (.if_icmp .lt 11, 3) := zb_X11_story_19.2.2.2.1
theorem dX11_story_28 : decode cX11_story 28 = .ok (.iload_n 3, 1) := zb_X11_story_19.2.2.2.2.1
theorem dX11_story_29 : decode cX11_story 29 = .ok (.aload_n 0, 1) := zb_X11_story_19.2.2.2.2.2.1
theorem dX11_story_30 : decode cX11_story 30 = .ok (.getfield 71, 3) := zb_X11_story_19.2.2.2.2.2.2.1
theorem dX11_story_33 : decode cX11_story 33 = .ok (.if_icmp .le 6, 3) := zb_X11_story_19.2.2.2.2.2.2.2.1
theorem dX11_story_39 : decode cX11_story 39 = .ok (.aload_n 0, 1) := zb_X11_story_19.2.2.2.2.2.2.2.2.1
theorem dX11_story_40 : decode cX11_story 40 = .ok (.getfield 53, 3) := zb_X11_story_19.2.2.2.2.2.2.2.2.2.1
theorem dX11_story_43 : decode cX11_story 43 = .ok (.getfield 302, 3) := zb_X11_story_19.2.2.2.2.2.2.2.2.2.2
theorem zb_X11_story_46 : (decode cX11_story 46 = .ok (.bipush 20, 2)) ∧ (decode cX11_story 48 = .ok (.if_icmp .lt 6, 3)) ∧ (decode cX11_story 54 = .ok (.aload_n 0, 1)) ∧ (decode cX11_story 55 = .ok (.getfield 53, 3)) ∧ (decode cX11_story 58 = .ok (.iload_n 1, 1)) ∧ (decode cX11_story 59 = .ok (.iload_n 2, 1)) ∧ (decode cX11_story 60 = .ok (.iload_n 3, 1)) ∧ (decode cX11_story 61 = .ok (.invokevirtual 305, 3)) ∧ (decode cX11_story 64 = .ok (.ireturn, 1)) ∧ (decode cX11_story 51 = .ok (.bipush (-4), 2)) ∧ (decode cX11_story 53 = .ok (.ireturn, 1)) := by decide +kernel
theorem dX11_story_46 : decode cX11_story 46 = .ok (.bipush 20, 2) := zb_X11_story_46.1
theorem dX11_story_48 : decode cX11_story 48 = .ok (.if_icmp .lt 6, 3) := zb_X11_story_46.2.1
theorem dX11_story_54 : decode cX11_story 54 = .ok (.aload_n 0, 1) := zb_X11_story_46.2.2.1
theorem dX11_story_55 : decode cX11_story 55 = .ok (.getfield 53, 3) := zb_X11_story_46.2.2.2.1
theorem dX11_story_58 : decode cX11_story 58 = .ok (.iload_n 1, 1) := zb_X11_story_46.2.2.2.2.1
theorem dX11_story_59 : decode cX11_story 59 = .ok (.iload_n 2, 1) := zb_X11_story_46.2.2.2.2.2.1
theorem dX11_story_60 : decode cX11_story 60 = .ok (.iload_n 3, 1) := zb_X11_story_46.2.2.2.2.2.2.1
theorem dX11_story_61 : decode cX11_story 61 = .ok (.invokevirtual 305, 3) := zb_X11_story_46.2.2.2.2.2.2.2.1
theorem dX11_story_64 : decode cX11_story 64 = .ok (.ireturn, 1) := zb_X11_story_46.2.2.2.2.2.2.2.2.1
theorem dX11_story_51 : decode cX11_story 51 = .ok (.bipush (-4), 2) := zb_X11_story_46.2.2.2.2.2.2.2.2.2.1
theorem dX11_story_53 : decode cX11_story 53 = .ok (.ireturn, 1) := zb_X11_story_46.2.2.2.2.2.2.2.2.2.2
theorem zb_X11_unfit_0 : (decode cX11_unfit 0 = .ok (.iconst 0, 1)) ∧ (decode cX11_unfit 1 = .ok (.istore_n 1, 1)) ∧ (decode cX11_unfit 2 = .ok (.iconst 0, 1)) ∧ (decode cX11_unfit 3 = .ok (.istore_n 2, 1)) ∧ (decode cX11_unfit 4 = .ok (.iload_n 2, 1)) ∧ (decode cX11_unfit 5 = .ok (.aload_n 0, 1)) ∧ (decode cX11_unfit 6 = .ok (.getfield 53, 3)) ∧ (decode cX11_unfit 9 = .ok (.getfield 302, 3)) ∧ (decode cX11_unfit 12 = .ok (.if_icmp .ge 65, 3)) ∧ (decode cX11_unfit 77 = .ok (.iload_n 1, 1)) ∧ (decode cX11_unfit 78 = .ok (.ireturn, 1)) ∧ (decode cX11_unfit 15 = .ok (.aload_n 0, 1)) := by decide +kernel
theorem dX11_unfit_0 : decode cX11_unfit 0 = .ok (.iconst 0, 1) := zb_X11_unfit_0.1
theorem dX11_unfit_1 : decode cX11_unfit 1 = .ok (.istore_n 1, 1) := zb_X11_unfit_0.2.1
theorem dX11_unfit_2 : decode cX11_unfit 2 = .ok (.iconst 0, 1) := zb_X11_unfit_0.2.2.1
theorem dX11_unfit_3 : decode cX11_unfit 3 = .ok (.istore_n 2, 1) := zb_X11_unfit_0.2.2.2.1
theorem dX11_unfit_4 : decode cX11_unfit 4 = .ok (.iload_n 2, 1) := zb_X11_unfit_0.2.2.2.2.1
theorem dX11_unfit_5 : decode cX11_unfit 5 = .ok (.aload_n 0, 1) := zb_X11_unfit_0.2.2.2.2.2.1
theorem dX11_unfit_6 : decode cX11_unfit 6 = .ok (.getfield 53, 3) := zb_X11_unfit_0.2.2.2.2.2.2.1
theorem dX11_unfit_9 : decode cX11_unfit 9 = .ok (.getfield 302, 3) := zb_X11_unfit_0.2.2.2.2.2.2.2.1
theorem dX11_unfit_12 : decode cX11_unfit 12 = .ok (.if_icmp .ge 65, 3) := zb_X11_unfit_0.2.2.2.2.2.2.2.2.1
theorem dX11_unfit_77 : decode cX11_unfit 77 = .ok (.iload_n 1, 1) := zb_X11_unfit_0.2.2.2.2.2.2.2.2.2.1
theorem dX11_unfit_78 : decode cX11_unfit 78 = .ok (.ireturn, 1) := zb_X11_unfit_0.2.2.2.2.2.2.2.2.2.2.1
theorem dX11_unfit_15 : decode cX11_unfit 15 = .ok (.aload_n 0, 1) := zb_X11_unfit_0.2.2.2.2.2.2.2.2.2.2.2
theorem zb_X11_unfit_16 : (decode cX11_unfit 16 = .ok (.aload_n 0, 1)) ∧ (decode cX11_unfit 17 = .ok (.getfield 53, 3)) ∧ (decode cX11_unfit 20 = .ok (.getfield 308, 3)) ∧ (decode cX11_unfit 23 = .ok (.iload_n 2, 1)) ∧ (decode cX11_unfit 24 = .ok (.iaload, 1)) ∧ (decode cX11_unfit 25 = .ok (.invokevirtual 78, 3)) ∧ (decode cX11_unfit 28 = .ok (.astore_n 3, 1)) ∧ (decode cX11_unfit 29 = .ok (.aload_n 3, 1)) ∧ (decode cX11_unfit 30 = .ok (.ifnull 41, 3)) ∧ (decode cX11_unfit 71 = .ok (.iinc 2 1, 3)) ∧ (decode cX11_unfit 74 = .ok (.goto (-70), 3)) ∧ (decode cX11_unfit 33 = .ok (.aload_n 3, 1)) := by decide +kernel
theorem dX11_unfit_16 : decode cX11_unfit 16 = .ok (.aload_n 0, 1) := zb_X11_unfit_16.1
theorem dX11_unfit_17 : decode cX11_unfit 17 = .ok (.getfield 53, 3) := zb_X11_unfit_16.2.1
theorem dX11_unfit_20 : decode cX11_unfit 20 = .ok (.getfield 308, 3) := zb_X11_unfit_16.2.2.1
theorem dX11_unfit_23 : decode cX11_unfit 23 = .ok (.iload_n 2, 1) := zb_X11_unfit_16.2.2.2.1
theorem dX11_unfit_24 : decode cX11_unfit 24 = .ok (.iaload, 1) := zb_X11_unfit_16.2.2.2.2.1
theorem dX11_unfit_25 : decode cX11_unfit 25 = .ok (.invokevirtual 78, 3) := zb_X11_unfit_16.2.2.2.2.2.1
theorem dX11_unfit_28 : decode cX11_unfit 28 = .ok (.astore_n 3, 1) := zb_X11_unfit_16.2.2.2.2.2.2.1
theorem dX11_unfit_29 : decode cX11_unfit 29 = .ok (.aload_n 3, 1) := zb_X11_unfit_16.2.2.2.2.2.2.2.1
theorem dX11_unfit_30 : decode cX11_unfit 30 = .ok (.ifnull 41, 3) := zb_X11_unfit_16.2.2.2.2.2.2.2.2.1
theorem dX11_unfit_71 : decode cX11_unfit 71 = .ok (.iinc 2 1, 3) := zb_X11_unfit_16.2.2.2.2.2.2.2.2.2.1
theorem dX11_unfit_74 : decode cX11_unfit 74 = .ok (.goto (-70), 3) := zb_X11_unfit_16.2.2.2.2.2.2.2.2.2.2.1
theorem dX11_unfit_33 : decode cX11_unfit 33 = .ok (.aload_n 3, 1) := zb_X11_unfit_16.2.2.2.2.2.2.2.2.2.2.2
theorem zb_X11_unfit_34 : (decode cX11_unfit 34 = .ok (.aload_n 0, 1)) ∧ (decode cX11_unfit 35 = .ok (.getfield 10, 3)) ∧ (decode cX11_unfit 38 = .ok (.aload_n 0, 1)) ∧ (decode cX11_unfit 39 = .ok (.getfield 53, 3)) ∧ (decode cX11_unfit 42 = .ok (.getfield 311, 3)) ∧ (decode cX11_unfit 45 = .ok (.iload_n 2, 1)) ∧ (decode cX11_unfit 46 = .ok (.iaload, 1)) ∧ (decode cX11_unfit 47 = .ok (.invokevirtual 223, 3)) ∧ (decode cX11_unfit 50 = .ok (.aload_n 0, 1)) ∧ (decode cX11_unfit 51 = .ok (.getfield 53, 3)) ∧ (decode cX11_unfit 54 = .ok (.getfield 314, 3)) ∧ (decode cX11_unfit 57 = .ok (.iload_n 2, 1)) := by decide +kernel
theorem dX11_unfit_34 : decode cX11_unfit 34 = .ok (.aload_n 0, 1) := zb_X11_unfit_34.1
theorem dX11_unfit_35 : decode cX11_unfit 35 = .ok (.getfield 10, 3) := zb_X11_unfit_34.2.1
theorem dX11_unfit_38 : decode cX11_unfit 38 = .ok (.aload_n 0, 1) := zb_X11_unfit_34.2.2.1
theorem dX11_unfit_39 : decode cX11_unfit 39 = .ok (.getfield 53, 3) := zb_X11_unfit_34.2.2.2.1
theorem dX11_unfit_42 : decode cX11_unfit 42 = .ok (.getfield 311, 3) := zb_X11_unfit_34.2.2.2.2.1
theorem dX11_unfit_45 : decode cX11_unfit 45 = .ok (.iload_n 2, 1) := zb_X11_unfit_34.2.2.2.2.2.1
theorem dX11_unfit_46 : decode cX11_unfit 46 = .ok (.iaload, 1) := zb_X11_unfit_34.2.2.2.2.2.2.1
theorem dX11_unfit_47 : decode cX11_unfit 47 = .ok (.invokevirtual 223, 3) := zb_X11_unfit_34.2.2.2.2.2.2.2.1
theorem dX11_unfit_50 : decode cX11_unfit 50 = .ok (.aload_n 0, 1) := zb_X11_unfit_34.2.2.2.2.2.2.2.2.1
theorem dX11_unfit_51 : decode cX11_unfit 51 = .ok (.getfield 53, 3) := zb_X11_unfit_34.2.2.2.2.2.2.2.2.2.1
theorem dX11_unfit_54 : decode cX11_unfit 54 = .ok (.getfield 314, 3) := zb_X11_unfit_34.2.2.2.2.2.2.2.2.2.2.1
theorem dX11_unfit_57 : decode cX11_unfit 57 = .ok (.iload_n 2, 1) := zb_X11_unfit_34.2.2.2.2.2.2.2.2.2.2.2
theorem zb_X11_unfit_58 : (decode cX11_unfit 58 = .ok (.iaload, 1)) ∧ (decode cX11_unfit 59 = .ok (.invokestatic 317, 3)) ∧ (decode cX11_unfit 62 = .ok (.ifCond .ne 9, 3)) ∧ (decode cX11_unfit 65 = .ok (.iload_n 1, 1)) ∧ (decode cX11_unfit 66 = .ok (.iconst 1, 1)) ∧ (decode cX11_unfit 67 = .ok (.iload_n 2, 1)) ∧ (decode cX11_unfit 68 = .ok (.ishl, 1)) ∧ (decode cX11_unfit 69 = .ok (.ior, 1)) ∧ (decode cX11_unfit 70 = .ok (.istore_n 1, 1)) := by decide +kernel
theorem dX11_unfit_58 : decode cX11_unfit 58 = .ok (.iaload, 1) := zb_X11_unfit_58.1
theorem dX11_unfit_59 : decode cX11_unfit 59 = .ok (.invokestatic 317, 3) := zb_X11_unfit_58.2.1
theorem dX11_unfit_62 : decode cX11_unfit 62 = .ok (.ifCond .ne 9, 3) := zb_X11_unfit_58.2.2.1
theorem dX11_unfit_65 : decode cX11_unfit 65 = .ok (.iload_n 1, 1) := zb_X11_unfit_58.2.2.2.1
theorem dX11_unfit_66 : decode cX11_unfit 66 = .ok (.iconst 1, 1) := zb_X11_unfit_58.2.2.2.2.1
theorem dX11_unfit_67 : decode cX11_unfit 67 = .ok (.iload_n 2, 1) := zb_X11_unfit_58.2.2.2.2.2.1
theorem dX11_unfit_68 : decode cX11_unfit 68 = .ok (.ishl, 1) := zb_X11_unfit_58.2.2.2.2.2.2.1
theorem dX11_unfit_69 : decode cX11_unfit 69 = .ok (.ior, 1) := zb_X11_unfit_58.2.2.2.2.2.2.2.1
theorem dX11_unfit_70 : decode cX11_unfit 70 = .ok (.istore_n 1, 1) := zb_X11_unfit_58.2.2.2.2.2.2.2.2
theorem zb_X11_clash_66 : (decode cX11_clash 66 = .ok (.ifnonnull 6, 3)) ∧ (decode cX11_clash 121 = .ok (.iload 4, 2)) ∧ (decode cX11_clash 125 = .ok (.lstore 6, 2)) ∧ (decode cX11_clash 134 = .ok (.iload 4, 2)) ∧ (decode cX11_clash 137 = .ok (.istore 8, 2)) ∧ (decode cX11_clash 139 = .ok (.iload 8, 2)) ∧ (decode cX11_clash 148 = .ok (.iload 5, 2)) ∧ (decode cX11_clash 174 = .ok (.lload 6, 2)) := by decide +kernel
theorem dX11_clash_66 : decode cX11_clash 66 = .ok (.ifnonnull 6, 3) := zb_X11_clash_66.1
theorem dX11_clash_121 : decode cX11_clash 121 = .ok (.iload 4, 2) := zb_X11_clash_66.2.1
theorem dX11_clash_125 : decode cX11_clash 125 = .ok (.lstore 6, 2) := zb_X11_clash_66.2.2.1
theorem dX11_clash_134 : decode cX11_clash 134 = .ok (.iload 4, 2) := zb_X11_clash_66.2.2.2.1
theorem dX11_clash_137 : decode cX11_clash 137 = .ok (.istore 8, 2) := zb_X11_clash_66.2.2.2.2.1
theorem dX11_clash_139 : decode cX11_clash 139 = .ok (.iload 8, 2) := zb_X11_clash_66.2.2.2.2.2.1
theorem dX11_clash_148 : decode cX11_clash 148 = .ok (.iload 5, 2) := zb_X11_clash_66.2.2.2.2.2.2.1
theorem dX11_clash_174 : decode cX11_clash 174 = .ok (.lload 6, 2) := zb_X11_clash_66.2.2.2.2.2.2.2
theorem zb_X11_clash_183 : (decode cX11_clash 183 = .ok (.iload 5, 2)) ∧ (decode cX11_clash 159 = .ok (.iload 8, 2)) ∧ (decode cX11_clash 161 = .ok (.lload 6, 2)) ∧ (decode cX11_clash 166 = .ok (.lstore 6, 2)) ∧ (decode cX11_clash 168 = .ok (.iinc 8 1, 3)) ∧ (decode cX11_clash 100 = .ok (.iload 4, 2)) ∧ (decode cX11_clash 111 = .ok (.istore 5, 2)) ∧ (decode cX11_clash 98 = .ok (.istore 4, 2)) := by decide +kernel
theorem dX11_clash_183 : decode cX11_clash 183 = .ok (.iload 5, 2) := zb_X11_clash_183.1
theorem dX11_clash_159 : decode cX11_clash 159 = .ok (.iload 8, 2) := zb_X11_clash_183.2.1
theorem dX11_clash_161 : decode cX11_clash 161 = .ok (.lload 6, 2) := zb_X11_clash_183.2.2.1
theorem dX11_clash_166 : decode cX11_clash 166 = .ok (.lstore 6, 2) := zb_X11_clash_183.2.2.2.1
theorem dX11_clash_168 : decode cX11_clash 168 = .ok (.iinc 8 1, 3) := zb_X11_clash_183.2.2.2.2.1
theorem dX11_clash_100 : decode cX11_clash 100 = .ok (.iload 4, 2) := zb_X11_clash_183.2.2.2.2.2.1
theorem dX11_clash_111 : decode cX11_clash 111 = .ok (.istore 5, 2) := zb_X11_clash_183.2.2.2.2.2.2.1
theorem dX11_clash_98 : decode cX11_clash 98 = .ok (.istore 4, 2) := zb_X11_clash_183.2.2.2.2.2.2.2
theorem zb_X11_row_0 : (decode cX11_row 0 = .ok (.lload_n 1, 1)) ∧ (decode cX11_row 1 = .ok (.lconst 0, 1)) ∧ (decode cX11_row 2 = .ok (.lcmp, 1)) ∧ (decode cX11_row 3 = .ok (.ifCond .lt 11, 3)) ∧ (decode cX11_row 14 = .ok (.bipush (-2), 2)) ∧ (decode cX11_row 16 = .ok (.ireturn, 1)) ∧ (decode cX11_row 6 = .ok (.lload_n 1, 1)) ∧ (decode cX11_row 7 = .ok (.ldc2_w 328, 3)) ∧ (decode cX11_row 10 = .ok (.lcmp, 1)) ∧ (decode cX11_row 11 = .ok (.ifCond .le 6, 3)) ∧ (decode cX11_row 17 = .ok (.aload_n 0, 1)) := by decide +kernel
theorem dX11_row_0 : decode cX11_row 0 = .ok (.lload_n 1, 1) := zb_X11_row_0.1
theorem dX11_row_1 : decode cX11_row 1 = .ok (.lconst 0, 1) := zb_X11_row_0.2.1
theorem dX11_row_2 : decode cX11_row 2 = .ok (.lcmp, 1) := zb_X11_row_0.2.2.1
theorem dX11_row_3 : decode cX11_row 3 = .ok (.ifCond .lt 11, 3) := zb_X11_row_0.2.2.2.1
theorem dX11_row_14 : decode cX11_row 14 = .ok (.bipush (-2), 2) := zb_X11_row_0.2.2.2.2.1
theorem dX11_row_16 : decode cX11_row 16 = .ok (.ireturn, 1) := zb_X11_row_0.2.2.2.2.2.1
theorem dX11_row_6 : decode cX11_row 6 = .ok (.lload_n 1, 1) := zb_X11_row_0.2.2.2.2.2.2.1
theorem dX11_row_7 : decode cX11_row 7 = .ok (.ldc2_w 328, 3) := zb_X11_row_0.2.2.2.2.2.2.2.1
theorem dX11_row_10 : decode cX11_row 10 = .ok (.lcmp, 1) := zb_X11_row_0.2.2.2.2.2.2.2.2.1
theorem dX11_row_11 : decode cX11_row 11 = .ok (.ifCond .le 6, 3) := zb_X11_row_0.2.2.2.2.2.2.2.2.2.1
theorem dX11_row_17 : decode cX11_row 17 = .ok (.aload_n 0, 1) := zb_X11_row_0.2.2.2.2.2.2.2.2.2.2
theorem zb_X11_row_18 : (decode cX11_row 18 = .ok (.getfield 60, 3)) ∧ (decode cX11_row 21 = .ok (.getfield 330, 3)) ∧ (decode cX11_row 24 = .ok (.iconst 4, 1)) ∧ (decode cX11_row 25 = .ok (.if_icmp .lt 6, 3)) ∧ (decode cX11_row 31 = .ok (.aload_n 0, 1)) ∧ (decode cX11_row 32 = .ok (.getfield 60, 3)) ∧ (decode cX11_row 35 = .ok (.lload_n 1, 1)) ∧ (decode cX11_row 36 = .ok (.invokevirtual 333, 3)) ∧ (decode cX11_row 39 = .ok (.ireturn, 1)) ∧ (decode cX11_row 28 = .ok (.bipush (-4), 2)) ∧ (decode cX11_row 30 = .ok (.ireturn, 1)) := by decide +kernel
theorem dX11_row_18 : decode cX11_row 18 = .ok (.getfield 60, 3) := zb_X11_row_18.1
theorem dX11_row_21 : decode cX11_row 21 = .ok (.getfield 330, 3) := zb_X11_row_18.2.1
theorem dX11_row_24 : decode cX11_row 24 = .ok (.iconst 4, 1) := zb_X11_row_18.2.2.1
theorem dX11_row_25 : decode cX11_row 25 = .ok (.if_icmp .lt 6, 3) := zb_X11_row_18.2.2.2.1
theorem dX11_row_31 : decode cX11_row 31 = .ok (.aload_n 0, 1) := zb_X11_row_18.2.2.2.2.1
theorem dX11_row_32 : decode cX11_row 32 = .ok (.getfield 60, 3) := zb_X11_row_18.2.2.2.2.2.1
theorem dX11_row_35 : decode cX11_row 35 = .ok (.lload_n 1, 1) := zb_X11_row_18.2.2.2.2.2.2.1
theorem dX11_row_36 : decode cX11_row 36 = .ok (.invokevirtual 333, 3) := zb_X11_row_18.2.2.2.2.2.2.2.1
theorem dX11_row_39 : decode cX11_row 39 = .ok (.ireturn, 1) := zb_X11_row_18.2.2.2.2.2.2.2.2.1
theorem dX11_row_28 : decode cX11_row 28 = .ok (.bipush (-4), 2) := zb_X11_row_18.2.2.2.2.2.2.2.2.2.1
theorem dX11_row_30 : decode cX11_row 30 = .ok (.ireturn, 1) := zb_X11_row_18.2.2.2.2.2.2.2.2.2.2
theorem zb_X11_days_0 : (decode cX11_days 0 = .ok (.iload_n 1, 1)) ∧ (decode cX11_days 1 = .ok (.iconst 1, 1)) ∧ (decode cX11_days 2 = .ok (.if_icmp .lt 18, 3)) ∧ (decode cX11_days 20 = .ok (.bipush (-2), 2)) ∧ (decode cX11_days 22 = .ok (.ireturn, 1)) ∧ (decode cX11_days 5 = .ok (.iload_n 1, 1)) ∧ (decode cX11_days 6 = .ok (.iconst 5, 1)) ∧ (decode cX11_days 7 = .ok (.if_icmp .gt 13, 3)) ∧ (decode cX11_days 10 = .ok (.iload_n 2, 1)) ∧ (decode cX11_days 11 = .ok (.ifCond .lt 9, 3)) ∧ (decode cX11_days 14 = .ok (.iload_n 2, 1)) := by decide +kernel
theorem dX11_days_0 : decode cX11_days 0 = .ok (.iload_n 1, 1) := zb_X11_days_0.1
theorem dX11_days_1 : decode cX11_days 1 = .ok (.iconst 1, 1) := zb_X11_days_0.2.1
theorem dX11_days_2 : decode cX11_days 2 = .ok (.if_icmp .lt 18, 3) := zb_X11_days_0.2.2.1
theorem dX11_days_20 : decode cX11_days 20 = .ok (.bipush (-2), 2) := zb_X11_days_0.2.2.2.1
theorem dX11_days_22 : decode cX11_days 22 = .ok (.ireturn, 1) := zb_X11_days_0.2.2.2.2.1
theorem dX11_days_5 : decode cX11_days 5 = .ok (.iload_n 1, 1) := zb_X11_days_0.2.2.2.2.2.1
theorem dX11_days_6 : decode cX11_days 6 = .ok (.iconst 5, 1) := zb_X11_days_0.2.2.2.2.2.2.1
theorem dX11_days_7 : decode cX11_days 7 = .ok (.if_icmp .gt 13, 3) := zb_X11_days_0.2.2.2.2.2.2.2.1
theorem dX11_days_10 : decode cX11_days 10 = .ok (.iload_n 2, 1) := zb_X11_days_0.2.2.2.2.2.2.2.2.1
theorem dX11_days_11 : decode cX11_days 11 = .ok (.ifCond .lt 9, 3) := zb_X11_days_0.2.2.2.2.2.2.2.2.2.1
theorem dX11_days_14 : decode cX11_days 14 = .ok (.iload_n 2, 1) := zb_X11_days_0.2.2.2.2.2.2.2.2.2.2
theorem zb_X11_days_15 : (decode cX11_days 15 = .ok (.bipush 99, 2)) ∧ (decode cX11_days 17 = .ok (.if_icmp .le 6, 3)) ∧ (decode cX11_days 23 = .ok (.iload_n 3, 1)) ∧ (decode cX11_days 24 = .ok (.iconst (-1), 1)) ∧ (decode cX11_days 25 = .ok (.if_icmp .lt 8, 3)) ∧ (decode cX11_days 33 = .ok (.iconst (-1), 1)) ∧ (decode cX11_days 34 = .ok (.ireturn, 1)) ∧ (decode cX11_days 28 = .ok (.iload_n 3, 1)) ∧ (decode cX11_days 29 = .ok (.iload_n 1, 1)) ∧ (decode cX11_days 30 = .ok (.if_icmp .lt 5, 3)) ∧ (decode cX11_days 35 = .ok (.aload_n 0, 1)) := by decide +kernel
theorem dX11_days_15 : decode cX11_days 15 = .ok (.bipush 99, 2) := zb_X11_days_15.1
theorem dX11_days_17 : decode cX11_days 17 = .ok (.if_icmp .le 6, 3) := zb_X11_days_15.2.1
theorem dX11_days_23 : decode cX11_days 23 = .ok (.iload_n 3, 1) := zb_X11_days_15.2.2.1
theorem dX11_days_24 : decode cX11_days 24 = .ok (.iconst (-1), 1) := zb_X11_days_15.2.2.2.1
theorem dX11_days_25 : decode cX11_days 25 = .ok (.if_icmp .lt 8, 3) := zb_X11_days_15.2.2.2.2.1
theorem dX11_days_33 : decode cX11_days 33 = .ok (.iconst (-1), 1) := zb_X11_days_15.2.2.2.2.2.1
theorem dX11_days_34 : decode cX11_days 34 = .ok (.ireturn, 1) := zb_X11_days_15.2.2.2.2.2.2.1
theorem dX11_days_28 : decode cX11_days 28 = .ok (.iload_n 3, 1) := zb_X11_days_15.2.2.2.2.2.2.2.1
theorem dX11_days_29 : decode cX11_days 29 = .ok (.iload_n 1, 1) := zb_X11_days_15.2.2.2.2.2.2.2.2.1
theorem dX11_days_30 : decode cX11_days 30 = .ok (.if_icmp .lt 5, 3) := zb_X11_days_15.2.2.2.2.2.2.2.2.2.1
theorem dX11_days_35 : decode cX11_days 35 = .ok (.aload_n 0, 1) := zb_X11_days_15.2.2.2.2.2.2.2.2.2.2
theorem zb_X11_days_36 : (decode cX11_days 36 = .ok (.getfield 60, 3)) ∧ (decode cX11_days 39 = .ok (.iload_n 1, 1)) ∧ (decode cX11_days 40 = .ok (.iload_n 2, 1)) ∧ (decode cX11_days 41 = .ok (.invokevirtual 336, 3)) ∧ (decode cX11_days 44 = .ok (.iload_n 3, 1)) ∧ (decode cX11_days 45 = .ok (.iconst (-1), 1)) ∧ (decode cX11_days 46 = .ok (.if_icmp .ne 13, 3)) ∧ (decode cX11_days 59 = .ok (.aload_n 0, 1)) ∧ (decode cX11_days 60 = .ok (.getfield 60, 3)) ∧ (decode cX11_days 63 = .ok (.iload_n 3, 1)) ∧ (decode cX11_days 64 = .ok (.iload_n 1, 1)) := by decide +kernel
theorem dX11_days_36 : decode cX11_days 36 = .ok (.getfield 60, 3) := zb_X11_days_36.1
theorem dX11_days_39 : decode cX11_days 39 = .ok (.iload_n 1, 1) := zb_X11_days_36.2.1
theorem dX11_days_40 : decode cX11_days 40 = .ok (.iload_n 2, 1) := zb_X11_days_36.2.2.1
theorem dX11_days_41 : decode cX11_days 41 = .ok (.invokevirtual 336, 3) := zb_X11_days_36.2.2.2.1
theorem dX11_days_44 : decode cX11_days 44 = .ok (.iload_n 3, 1) := zb_X11_days_36.2.2.2.2.1
theorem dX11_days_45 : decode cX11_days 45 = .ok (.iconst (-1), 1) := zb_X11_days_36.2.2.2.2.2.1
theorem dX11_days_46 : decode cX11_days 46 = .ok (.if_icmp .ne 13, 3) := zb_X11_days_36.2.2.2.2.2.2.1
theorem dX11_days_59 : decode cX11_days 59 = .ok (.aload_n 0, 1) := zb_X11_days_36.2.2.2.2.2.2.2.1
theorem dX11_days_60 : decode cX11_days 60 = .ok (.getfield 60, 3) := zb_X11_days_36.2.2.2.2.2.2.2.2.1
theorem dX11_days_63 : decode cX11_days 63 = .ok (.iload_n 3, 1) := zb_X11_days_36.2.2.2.2.2.2.2.2.2.1
theorem dX11_days_64 : decode cX11_days 64 = .ok (.iload_n 1, 1) := zb_X11_days_36.2.2.2.2.2.2.2.2.2.2
theorem zb_X11_days_65 : (decode cX11_days 65 = .ok (.aload_n 0, 1)) ∧ (decode cX11_days 66 = .ok (.getfield 60, 3)) ∧ (decode cX11_days 69 = .ok (.getfield 342, 3)) ∧ (decode cX11_days 72 = .ok (.invokevirtual 345, 3)) ∧ (decode cX11_days 75 = .ok (.ireturn, 1)) ∧ (decode cX11_days 49 = .ok (.aload_n 0, 1)) ∧ (decode cX11_days 50 = .ok (.getfield 60, 3)) ∧ (decode cX11_days 53 = .ok (.getfield 339, 3)) ∧ (decode cX11_days 56 = .ok (.goto 19, 3)) := by decide +kernel
theorem dX11_days_65 : decode cX11_days 65 = .ok (.aload_n 0, 1) := zb_X11_days_65.1
theorem dX11_days_66 : decode cX11_days 66 = .ok (.getfield 60, 3) := zb_X11_days_65.2.1
theorem dX11_days_69 : decode cX11_days 69 = .ok (.getfield 342, 3) := zb_X11_days_65.2.2.1
theorem dX11_days_72 : decode cX11_days 72 = .ok (.invokevirtual 345, 3) := zb_X11_days_65.2.2.2.1
theorem dX11_days_75 : decode cX11_days 75 = .ok (.ireturn, 1) := zb_X11_days_65.2.2.2.2.1
theorem dX11_days_49 : decode cX11_days 49 = .ok (.aload_n 0, 1) := zb_X11_days_65.2.2.2.2.2.1
theorem dX11_days_50 : decode cX11_days 50 = .ok (.getfield 60, 3) := zb_X11_days_65.2.2.2.2.2.2.1
theorem dX11_days_53 : decode cX11_days 53 = .ok (.getfield 339, 3) := zb_X11_days_65.2.2.2.2.2.2.2.1
theorem dX11_days_56 : decode cX11_days 56 = .ok (.goto 19, 3) := zb_X11_days_65.2.2.2.2.2.2.2.2
theorem zb_X11_sheet_0 : (decode cX11_sheet 0 = .ok (.aload_n 0, 1)) ∧ (decode cX11_sheet 1 = .ok (.iload_n 1, 1)) ∧ (decode cX11_sheet 2 = .ok (.invokevirtual 348, 3)) ∧ (decode cX11_sheet 5 = .ok (.astore 4, 2)) ∧ (decode cX11_sheet 7 = .ok (.aload 4, 2)) ∧ (decode cX11_sheet 9 = .ok (.ifnull 13, 3)) ∧ (decode cX11_sheet 22 = .ok (.bipush (-2), 2)) ∧ (decode cX11_sheet 24 = .ok (.ireturn, 1)) ∧ (decode cX11_sheet 12 = .ok (.iload_n 2, 1)) ∧ (decode cX11_sheet 13 = .ok (.iconst (-1), 1)) := by decide +kernel
theorem dX11_sheet_0 : decode cX11_sheet 0 = .ok (.aload_n 0, 1) := zb_X11_sheet_0.1
theorem dX11_sheet_1 : decode cX11_sheet 1 = .ok (.iload_n 1, 1) := zb_X11_sheet_0.2.1
theorem dX11_sheet_2 : decode cX11_sheet 2 = .ok (.invokevirtual 348, 3) := zb_X11_sheet_0.2.2.1
theorem dX11_sheet_5 : decode cX11_sheet 5 = .ok (.astore 4, 2) := zb_X11_sheet_0.2.2.2.1
theorem dX11_sheet_7 : decode cX11_sheet 7 = .ok (.aload 4, 2) := zb_X11_sheet_0.2.2.2.2.1
theorem dX11_sheet_9 : decode cX11_sheet 9 = .ok (.ifnull 13, 3) := zb_X11_sheet_0.2.2.2.2.2.1
theorem dX11_sheet_22 : decode cX11_sheet 22 = .ok (.bipush (-2), 2) := zb_X11_sheet_0.2.2.2.2.2.2.1
theorem dX11_sheet_24 : decode cX11_sheet 24 = .ok (.ireturn, 1) := zb_X11_sheet_0.2.2.2.2.2.2.2.1
theorem dX11_sheet_12 : decode cX11_sheet 12 = .ok (.iload_n 2, 1) := zb_X11_sheet_0.2.2.2.2.2.2.2.2.1
theorem dX11_sheet_13 : decode cX11_sheet 13 = .ok (.iconst (-1), 1) := zb_X11_sheet_0.2.2.2.2.2.2.2.2.2
theorem zb_X11_sheet_14 : (decode cX11_sheet 14 = .ok (.if_icmp .lt 8, 3)) ∧ (decode cX11_sheet 17 = .ok (.iload_n 2, 1)) ∧ (decode cX11_sheet 18 = .ok (.iconst 3, 1)) ∧ (decode cX11_sheet 19 = .ok (.if_icmp .lt 6, 3)) ∧ (decode cX11_sheet 25 = .ok (.iload_n 2, 1)) ∧ (decode cX11_sheet 26 = .ok (.iconst (-1), 1)) ∧ (decode cX11_sheet 27 = .ok (.if_icmp .ne 12, 3)) ∧ (decode cX11_sheet 39 = .ok (.iload_n 3, 1)) ∧ (decode cX11_sheet 40 = .ok (.bipush 40, 2)) ∧ (decode cX11_sheet 42 = .ok (.if_icmp .le 6, 3)) := by decide +kernel
theorem dX11_sheet_14 : decode cX11_sheet 14 = .ok (.if_icmp .lt 8, 3) := zb_X11_sheet_14.1
theorem dX11_sheet_17 : decode cX11_sheet 17 = .ok (.iload_n 2, 1) := zb_X11_sheet_14.2.1
theorem dX11_sheet_18 : decode cX11_sheet 18 = .ok (.iconst 3, 1) := zb_X11_sheet_14.2.2.1
theorem dX11_sheet_19 : decode cX11_sheet 19 = .ok (.if_icmp .lt 6, 3) := zb_X11_sheet_14.2.2.2.1
theorem dX11_sheet_25 : decode cX11_sheet 25 = .ok (.iload_n 2, 1) := zb_X11_sheet_14.2.2.2.2.1
theorem dX11_sheet_26 : decode cX11_sheet 26 = .ok (.iconst (-1), 1) := zb_X11_sheet_14.2.2.2.2.2.1
theorem dX11_sheet_27 : decode cX11_sheet 27 = .ok (.if_icmp .ne 12, 3) := zb_X11_sheet_14.2.2.2.2.2.2.1
theorem dX11_sheet_39 : decode cX11_sheet 39 = .ok (.iload_n 3, 1) := zb_X11_sheet_14.2.2.2.2.2.2.2.1
theorem dX11_sheet_40 : decode cX11_sheet 40 = .ok (.bipush 40, 2) := zb_X11_sheet_14.2.2.2.2.2.2.2.2.1
theorem dX11_sheet_42 : decode cX11_sheet 42 = .ok (.if_icmp .le 6, 3) := zb_X11_sheet_14.2.2.2.2.2.2.2.2.2
theorem zb_X11_sheet_48 : (decode cX11_sheet 48 = .ok (.iload_n 3, 1)) ∧ (decode cX11_sheet 49 = .ok (.ifCond .ge 6, 3)) ∧ (decode cX11_sheet 55 = .ok (.aload 4, 2)) ∧ (decode cX11_sheet 57 = .ok (.iload_n 2, 1)) ∧ (decode cX11_sheet 58 = .ok (.iload_n 3, 1)) ∧ (decode cX11_sheet 59 = .ok (.invokevirtual 352, 3)) ∧ (decode cX11_sheet 62 = .ok (.iconst 1, 1)) ∧ (decode cX11_sheet 63 = .ok (.ireturn, 1)) ∧ (decode cX11_sheet 52 = .ok (.bipush (-14), 2)) ∧ (decode cX11_sheet 54 = .ok (.ireturn, 1)) := by decide +kernel
theorem dX11_sheet_48 : decode cX11_sheet 48 = .ok (.iload_n 3, 1) := zb_X11_sheet_48.1
theorem dX11_sheet_49 : decode cX11_sheet 49 = .ok (.ifCond .ge 6, 3) := zb_X11_sheet_48.2.1
theorem dX11_sheet_55 : decode cX11_sheet 55 = .ok (.aload 4, 2) := zb_X11_sheet_48.2.2.1
theorem dX11_sheet_57 : decode cX11_sheet 57 = .ok (.iload_n 2, 1) := zb_X11_sheet_48.2.2.2.1
theorem dX11_sheet_58 : decode cX11_sheet 58 = .ok (.iload_n 3, 1) := zb_X11_sheet_48.2.2.2.2.1
theorem dX11_sheet_59 : decode cX11_sheet 59 = .ok (.invokevirtual 352, 3) := zb_X11_sheet_48.2.2.2.2.2.1
theorem dX11_sheet_62 : decode cX11_sheet 62 = .ok (.iconst 1, 1) := zb_X11_sheet_48.2.2.2.2.2.2.1
theorem dX11_sheet_63 : decode cX11_sheet 63 = .ok (.ireturn, 1) := zb_X11_sheet_48.2.2.2.2.2.2.2.1
theorem dX11_sheet_52 : decode cX11_sheet 52 = .ok (.bipush (-14), 2) := zb_X11_sheet_48.2.2.2.2.2.2.2.2.1
theorem dX11_sheet_54 : decode cX11_sheet 54 = .ok (.ireturn, 1) := zb_X11_sheet_48.2.2.2.2.2.2.2.2.2
theorem zb_X11_sheet_45 : (decode cX11_sheet 45 = .ok (.bipush (-2), 2)) ∧ (decode cX11_sheet 47 = .ok (.ireturn, 1)) ∧ (decode cX11_sheet 30 = .ok (.aload 4, 2)) ∧ (decode cX11_sheet 32 = .ok (.iload_n 2, 1)) ∧ (decode cX11_sheet 33 = .ok (.iconst 0, 1)) ∧ (decode cX11_sheet 34 = .ok (.invokevirtual 352, 3)) ∧ (decode cX11_sheet 37 = .ok (.iconst 1, 1)) ∧ (decode cX11_sheet 38 = .ok (.ireturn, 1)) := by decide +kernel
theorem dX11_sheet_45 : decode cX11_sheet 45 = .ok (.bipush (-2), 2) := zb_X11_sheet_45.1
theorem dX11_sheet_47 : decode cX11_sheet 47 = .ok (.ireturn, 1) := zb_X11_sheet_45.2.1
theorem dX11_sheet_30 : decode cX11_sheet 30 = .ok (.aload 4, 2) := zb_X11_sheet_45.2.2.1
theorem dX11_sheet_32 : decode cX11_sheet 32 = .ok (.iload_n 2, 1) := zb_X11_sheet_45.2.2.2.1
theorem dX11_sheet_33 : decode cX11_sheet 33 = .ok (.iconst 0, 1) := zb_X11_sheet_45.2.2.2.2.1
theorem dX11_sheet_34 : decode cX11_sheet 34 = .ok (.invokevirtual 352, 3) := zb_X11_sheet_45.2.2.2.2.2.1
theorem dX11_sheet_37 : decode cX11_sheet 37 = .ok (.iconst 1, 1) := zb_X11_sheet_45.2.2.2.2.2.2.1
theorem dX11_sheet_38 : decode cX11_sheet 38 = .ok (.ireturn, 1) := zb_X11_sheet_45.2.2.2.2.2.2.2
theorem zb_X11_cell_0 : (decode cX11_cell 0 = .ok (.aload_n 0, 1)) ∧ (decode cX11_cell 1 = .ok (.iload_n 1, 1)) ∧ (decode cX11_cell 2 = .ok (.invokevirtual 348, 3)) ∧ (decode cX11_cell 5 = .ok (.astore 4, 2)) ∧ (decode cX11_cell 7 = .ok (.aload 4, 2)) ∧ (decode cX11_cell 9 = .ok (.ifnonnull 6, 3)) ∧ (decode cX11_cell 12 = .ok (.bipush (-2), 2)) ∧ (decode cX11_cell 14 = .ok (.ireturn, 1)) ∧ (decode cX11_cell 15 = .ok (.aload 4, 2)) := by decide +kernel
theorem dX11_cell_0 : decode cX11_cell 0 = .ok (.aload_n 0, 1) := zb_X11_cell_0.1
theorem dX11_cell_1 : decode cX11_cell 1 = .ok (.iload_n 1, 1) := zb_X11_cell_0.2.1
theorem dX11_cell_2 : decode cX11_cell 2 = .ok (.invokevirtual 348, 3) := zb_X11_cell_0.2.2.1
theorem dX11_cell_5 : decode cX11_cell 5 = .ok (.astore 4, 2) := zb_X11_cell_0.2.2.2.1
theorem dX11_cell_7 : decode cX11_cell 7 = .ok (.aload 4, 2) := zb_X11_cell_0.2.2.2.2.1
theorem dX11_cell_9 : decode cX11_cell 9 = .ok (.ifnonnull 6, 3) := zb_X11_cell_0.2.2.2.2.2.1
theorem dX11_cell_12 : decode cX11_cell 12 = .ok (.bipush (-2), 2) := zb_X11_cell_0.2.2.2.2.2.2.1
theorem dX11_cell_14 : decode cX11_cell 14 = .ok (.ireturn, 1) := zb_X11_cell_0.2.2.2.2.2.2.2.1
theorem dX11_cell_15 : decode cX11_cell 15 = .ok (.aload 4, 2) := zb_X11_cell_0.2.2.2.2.2.2.2.2
theorem zb_X11_cell_17 : (decode cX11_cell 17 = .ok (.getfield 355, 3)) ∧ (decode cX11_cell 20 = .ok (.iconst (-1), 1)) ∧ (decode cX11_cell 21 = .ok (.if_icmp .ne 6, 3)) ∧ (decode cX11_cell 27 = .ok (.aload 4, 2)) ∧ (decode cX11_cell 29 = .ok (.iload_n 2, 1)) ∧ (decode cX11_cell 30 = .ok (.invokevirtual 358, 3)) ∧ (decode cX11_cell 33 = .ok (.ifCond .ne 6, 3)) ∧ (decode cX11_cell 39 = .ok (.aload 4, 2)) ∧ (decode cX11_cell 41 = .ok (.iload_n 2, 1)) := by decide +kernel
theorem dX11_cell_17 : decode cX11_cell 17 = .ok (.getfield 355, 3) := zb_X11_cell_17.1
theorem dX11_cell_20 : decode cX11_cell 20 = .ok (.iconst (-1), 1) := zb_X11_cell_17.2.1
theorem dX11_cell_21 : decode cX11_cell 21 = .ok (.if_icmp .ne 6, 3) := zb_X11_cell_17.2.2.1
theorem dX11_cell_27 : decode cX11_cell 27 = .ok (.aload 4, 2) := zb_X11_cell_17.2.2.2.1
theorem dX11_cell_29 : decode cX11_cell 29 = .ok (.iload_n 2, 1) := zb_X11_cell_17.2.2.2.2.1
theorem dX11_cell_30 : decode cX11_cell 30 = .ok (.invokevirtual 358, 3) := zb_X11_cell_17.2.2.2.2.2.1
theorem dX11_cell_33 : decode cX11_cell 33 = .ok (.ifCond .ne 6, 3) := zb_X11_cell_17.2.2.2.2.2.2.1
theorem dX11_cell_39 : decode cX11_cell 39 = .ok (.aload 4, 2) := zb_X11_cell_17.2.2.2.2.2.2.2.1
theorem dX11_cell_41 : decode cX11_cell 41 = .ok (.iload_n 2, 1) := zb_X11_cell_17.2.2.2.2.2.2.2.2
theorem zb_X11_cell_42 : (decode cX11_cell 42 = .ok (.iload_n 3, 1)) ∧ (decode cX11_cell 43 = .ok (.invokevirtual 361, 3)) ∧ (decode cX11_cell 46 = .ok (.iconst 1, 1)) ∧ (decode cX11_cell 47 = .ok (.ireturn, 1)) ∧ (decode cX11_cell 36 = .ok (.bipush (-12), 2)) ∧ (decode cX11_cell 38 = .ok (.ireturn, 1)) ∧ (decode cX11_cell 24 = .ok (.bipush (-11), 2)) ∧ (decode cX11_cell 26 = .ok (.ireturn, 1)) := by decide +kernel
theorem dX11_cell_42 : decode cX11_cell 42 = .ok (.iload_n 3, 1) := zb_X11_cell_42.1
theorem dX11_cell_43 : decode cX11_cell 43 = .ok (.invokevirtual 361, 3) := zb_X11_cell_42.2.1
theorem dX11_cell_46 : decode cX11_cell 46 = .ok (.iconst 1, 1) := zb_X11_cell_42.2.2.1
theorem dX11_cell_47 : decode cX11_cell 47 = .ok (.ireturn, 1) := zb_X11_cell_42.2.2.2.1
theorem dX11_cell_36 : decode cX11_cell 36 = .ok (.bipush (-12), 2) := zb_X11_cell_42.2.2.2.2.1
theorem dX11_cell_38 : decode cX11_cell 38 = .ok (.ireturn, 1) := zb_X11_cell_42.2.2.2.2.2.1
theorem dX11_cell_24 : decode cX11_cell 24 = .ok (.bipush (-11), 2) := zb_X11_cell_42.2.2.2.2.2.2.1
theorem dX11_cell_26 : decode cX11_cell 26 = .ok (.ireturn, 1) := zb_X11_cell_42.2.2.2.2.2.2.2
theorem zb_X11_copy_0 : (decode cX11_copy 0 = .ok (.aload_n 0, 1)) ∧ (decode cX11_copy 1 = .ok (.iload_n 1, 1)) ∧ (decode cX11_copy 2 = .ok (.invokevirtual 348, 3)) ∧ (decode cX11_copy 5 = .ok (.astore 6, 2)) ∧ (decode cX11_copy 7 = .ok (.aload_n 0, 1)) ∧ (decode cX11_copy 8 = .ok (.iload_n 3, 1)) ∧ (decode cX11_copy 9 = .ok (.invokevirtual 348, 3)) ∧ (decode cX11_copy 12 = .ok (.astore 7, 2)) ∧ (decode cX11_copy 14 = .ok (.aload 6, 2)) ∧ (decode cX11_copy 16 = .ok (.ifnull 8, 3)) ∧ (decode cX11_copy 24 = .ok (.bipush (-2), 2)) := by decide +kernel
theorem dX11_copy_0 : decode cX11_copy 0 = .ok (.aload_n 0, 1) := zb_X11_copy_0.1
theorem dX11_copy_1 : decode cX11_copy 1 = .ok (.iload_n 1, 1) := zb_X11_copy_0.2.1
theorem dX11_copy_2 : decode cX11_copy 2 = .ok (.invokevirtual 348, 3) := zb_X11_copy_0.2.2.1
theorem dX11_copy_5 : decode cX11_copy 5 = .ok (.astore 6, 2) := zb_X11_copy_0.2.2.2.1
theorem dX11_copy_7 : decode cX11_copy 7 = .ok (.aload_n 0, 1) := zb_X11_copy_0.2.2.2.2.1
theorem dX11_copy_8 : decode cX11_copy 8 = .ok (.iload_n 3, 1) := zb_X11_copy_0.2.2.2.2.2.1
theorem dX11_copy_9 : decode cX11_copy 9 = .ok (.invokevirtual 348, 3) := zb_X11_copy_0.2.2.2.2.2.2.1
theorem dX11_copy_12 : decode cX11_copy 12 = .ok (.astore 7, 2) := zb_X11_copy_0.2.2.2.2.2.2.2.1
theorem dX11_copy_14 : decode cX11_copy 14 = .ok (.aload 6, 2) := zb_X11_copy_0.2.2.2.2.2.2.2.2.1
theorem dX11_copy_16 : decode cX11_copy 16 = .ok (.ifnull 8, 3) := zb_X11_copy_0.2.2.2.2.2.2.2.2.2.1
theorem dX11_copy_24 : decode cX11_copy 24 = .ok (.bipush (-2), 2) := zb_X11_copy_0.2.2.2.2.2.2.2.2.2.2
theorem zb_X11_copy_26 : (decode cX11_copy 26 = .ok (.ireturn, 1)) ∧ (decode cX11_copy 19 = .ok (.aload 7, 2)) ∧ (decode cX11_copy 21 = .ok (.ifnonnull 6, 3)) ∧ (decode cX11_copy 27 = .ok (.aload 6, 2)) ∧ (decode cX11_copy 29 = .ok (.getfield 355, 3)) ∧ (decode cX11_copy 32 = .ok (.iconst (-1), 1)) ∧ (decode cX11_copy 33 = .ok (.if_icmp .eq 12, 3)) ∧ (decode cX11_copy 45 = .ok (.bipush (-11), 2)) ∧ (decode cX11_copy 47 = .ok (.ireturn, 1)) ∧ (decode cX11_copy 36 = .ok (.aload 7, 2)) ∧ (decode cX11_copy 38 = .ok (.getfield 355, 3)) := by decide +kernel
theorem dX11_copy_26 : decode cX11_copy 26 = .ok (.ireturn, 1) := zb_X11_copy_26.1
theorem dX11_copy_19 : decode cX11_copy 19 = .ok (.aload 7, 2) := zb_X11_copy_26.2.1
theorem dX11_copy_21 : decode cX11_copy 21 = .ok (.ifnonnull 6, 3) := zb_X11_copy_26.2.2.1
theorem dX11_copy_27 : decode cX11_copy 27 = .ok (.aload 6, 2) := zb_X11_copy_26.2.2.2.1
theorem dX11_copy_29 : decode cX11_copy 29 = .ok (.getfield 355, 3) := zb_X11_copy_26.2.2.2.2.1
theorem dX11_copy_32 : decode cX11_copy 32 = .ok (.iconst (-1), 1) := zb_X11_copy_26.2.2.2.2.2.1
theorem dX11_copy_33 : decode cX11_copy 33 = .ok (.if_icmp .eq 12, 3) := zb_X11_copy_26.2.2.2.2.2.2.1
theorem dX11_copy_45 : decode cX11_copy 45 = .ok (.bipush (-11), 2) := zb_X11_copy_26.2.2.2.2.2.2.2.1
theorem dX11_copy_47 : decode cX11_copy 47 = .ok (.ireturn, 1) := zb_X11_copy_26.2.2.2.2.2.2.2.2.1
theorem dX11_copy_36 : decode cX11_copy 36 = .ok (.aload 7, 2) := zb_X11_copy_26.2.2.2.2.2.2.2.2.2.1
theorem dX11_copy_38 : decode cX11_copy 38 = .ok (.getfield 355, 3) := zb_X11_copy_26.2.2.2.2.2.2.2.2.2.2
theorem zb_X11_copy_41 : (decode cX11_copy 41 = .ok (.iconst (-1), 1)) ∧ (decode cX11_copy 42 = .ok (.if_icmp .ne 6, 3)) ∧ (decode cX11_copy 48 = .ok (.aload 6, 2)) ∧ (decode cX11_copy 50 = .ok (.getfield 355, 3)) ∧ (decode cX11_copy 53 = .ok (.aload 7, 2)) ∧ (decode cX11_copy 55 = .ok (.getfield 355, 3)) ∧ (decode cX11_copy 58 = .ok (.if_icmp .eq 6, 3)) ∧ (decode cX11_copy 64 = .ok (.aload 6, 2)) ∧ (decode cX11_copy 66 = .ok (.iload_n 2, 1)) ∧ (decode cX11_copy 67 = .ok (.iload 5, 2)) ∧ (decode cX11_copy 69 = .ok (.invokevirtual 364, 3)) := by decide +kernel
theorem dX11_copy_41 : decode cX11_copy 41 = .ok (.iconst (-1), 1) := zb_X11_copy_41.1
theorem dX11_copy_42 : decode cX11_copy 42 = .ok (.if_icmp .ne 6, 3) := zb_X11_copy_41.2.1
theorem dX11_copy_48 : decode cX11_copy 48 = .ok (.aload 6, 2) := zb_X11_copy_41.2.2.1
theorem dX11_copy_50 : decode cX11_copy 50 = .ok (.getfield 355, 3) := zb_X11_copy_41.2.2.2.1
theorem dX11_copy_53 : decode cX11_copy 53 = .ok (.aload 7, 2) := zb_X11_copy_41.2.2.2.2.1
theorem dX11_copy_55 : decode cX11_copy 55 = .ok (.getfield 355, 3) := zb_X11_copy_41.2.2.2.2.2.1
theorem dX11_copy_58 : decode cX11_copy 58 = .ok (.if_icmp .eq 6, 3) := zb_X11_copy_41.2.2.2.2.2.2.1
theorem dX11_copy_64 : decode cX11_copy 64 = .ok (.aload 6, 2) := zb_X11_copy_41.2.2.2.2.2.2.2.1
theorem dX11_copy_66 : decode cX11_copy 66 = .ok (.iload_n 2, 1) := zb_X11_copy_41.2.2.2.2.2.2.2.2.1
theorem dX11_copy_67 : decode cX11_copy 67 = .ok (.iload 5, 2) := zb_X11_copy_41.2.2.2.2.2.2.2.2.2.1
theorem dX11_copy_69 : decode cX11_copy 69 = .ok (.invokevirtual 364, 3) := zb_X11_copy_41.2.2.2.2.2.2.2.2.2.2
theorem zb_X11_copy_72 : (decode cX11_copy 72 = .ok (.ifCond .eq 15, 3)) ∧ (decode cX11_copy 75 = .ok (.aload 7, 2)) ∧ (decode cX11_copy 77 = .ok (.iload 4, 2)) ∧ (decode cX11_copy 79 = .ok (.iload 5, 2)) ∧ (decode cX11_copy 81 = .ok (.invokevirtual 364, 3)) ∧ (decode cX11_copy 84 = .ok (.ifCond .ne 6, 3)) ∧ (decode cX11_copy 90 = .ok (.aload 6, 2)) ∧ (decode cX11_copy 92 = .ok (.getfield 367, 3)) ∧ (decode cX11_copy 95 = .ok (.iload_n 2, 1)) ∧ (decode cX11_copy 96 = .ok (.aload 7, 2)) ∧ (decode cX11_copy 98 = .ok (.getfield 367, 3)) := by decide +kernel
theorem dX11_copy_72 : decode cX11_copy 72 = .ok (.ifCond .eq 15, 3) := zb_X11_copy_72.1
theorem dX11_copy_75 : decode cX11_copy 75 = .ok (.aload 7, 2) := zb_X11_copy_72.2.1
theorem dX11_copy_77 : decode cX11_copy 77 = .ok (.iload 4, 2) := zb_X11_copy_72.2.2.1
theorem dX11_copy_79 : decode cX11_copy 79 = .ok (.iload 5, 2) := zb_X11_copy_72.2.2.2.1
theorem dX11_copy_81 : decode cX11_copy 81 = .ok (.invokevirtual 364, 3) := zb_X11_copy_72.2.2.2.2.1
theorem dX11_copy_84 : decode cX11_copy 84 = .ok (.ifCond .ne 6, 3) := zb_X11_copy_72.2.2.2.2.2.1
theorem dX11_copy_90 : decode cX11_copy 90 = .ok (.aload 6, 2) := zb_X11_copy_72.2.2.2.2.2.2.1
theorem dX11_copy_92 : decode cX11_copy 92 = .ok (.getfield 367, 3) := zb_X11_copy_72.2.2.2.2.2.2.2.1
theorem dX11_copy_95 : decode cX11_copy 95 = .ok (.iload_n 2, 1) := zb_X11_copy_72.2.2.2.2.2.2.2.2.1
theorem dX11_copy_96 : decode cX11_copy 96 = .ok (.aload 7, 2) := zb_X11_copy_72.2.2.2.2.2.2.2.2.2.1
theorem dX11_copy_98 : decode cX11_copy 98 = .ok (.getfield 367, 3) := zb_X11_copy_72.2.2.2.2.2.2.2.2.2.2
theorem zb_X11_copy_101 : (decode cX11_copy 101 = .ok (.iload 4, 2)) ∧ (decode cX11_copy 103 = .ok (.iload 5, 2)) ∧ (decode cX11_copy 105 = .ok (.invokestatic 370, 3)) ∧ (decode cX11_copy 108 = .ok (.iload 5, 2)) ∧ (decode cX11_copy 110 = .ok (.ireturn, 1)) ∧ (decode cX11_copy 87 = .ok (.bipush (-12), 2)) ∧ (decode cX11_copy 89 = .ok (.ireturn, 1)) ∧ (decode cX11_copy 61 = .ok (.bipush (-13), 2)) ∧ (decode cX11_copy 63 = .ok (.ireturn, 1)) := by decide +kernel
theorem dX11_copy_101 : decode cX11_copy 101 = .ok (.iload 4, 2) := zb_X11_copy_101.1
theorem dX11_copy_103 : decode cX11_copy 103 = .ok (.iload 5, 2) := zb_X11_copy_101.2.1
theorem dX11_copy_105 : decode cX11_copy 105 = .ok (.invokestatic 370, 3) := zb_X11_copy_101.2.2.1
theorem dX11_copy_108 : decode cX11_copy 108 = .ok (.iload 5, 2) := zb_X11_copy_101.2.2.2.1
theorem dX11_copy_110 : decode cX11_copy 110 = .ok (.ireturn, 1) := zb_X11_copy_101.2.2.2.2.1
theorem dX11_copy_87 : decode cX11_copy 87 = .ok (.bipush (-12), 2) := zb_X11_copy_101.2.2.2.2.2.1
theorem dX11_copy_89 : decode cX11_copy 89 = .ok (.ireturn, 1) := zb_X11_copy_101.2.2.2.2.2.2.1
theorem dX11_copy_61 : decode cX11_copy 61 = .ok (.bipush (-13), 2) := zb_X11_copy_101.2.2.2.2.2.2.2.1
theorem dX11_copy_63 : decode cX11_copy 63 = .ok (.ireturn, 1) := zb_X11_copy_101.2.2.2.2.2.2.2.2
theorem zb_X11_fixes_5 : (decode cX11_fixes 5 = .ok (.astore 6, 2)) ∧ (decode cX11_fixes 12 = .ok (.astore 7, 2)) ∧ (decode cX11_fixes 14 = .ok (.aload 6, 2)) ∧ (decode cX11_fixes 16 = .ok (.ifnull 29, 3)) ∧ (decode cX11_fixes 19 = .ok (.aload 7, 2)) ∧ (decode cX11_fixes 21 = .ok (.ifnull 24, 3)) ∧ (decode cX11_fixes 33 = .ok (.iload 5, 2)) ∧ (decode cX11_fixes 38 = .ok (.iload 5, 2)) ∧ (decode cX11_fixes 69 = .ok (.aload 7, 2)) ∧ (decode cX11_fixes 82 = .ok (.istore 8, 2)) := by decide +kernel
theorem dX11_fixes_5 : decode cX11_fixes 5 = .ok (.astore 6, 2) := zb_X11_fixes_5.1
theorem dX11_fixes_12 : decode cX11_fixes 12 = .ok (.astore 7, 2) := zb_X11_fixes_5.2.1
theorem dX11_fixes_14 : decode cX11_fixes 14 = .ok (.aload 6, 2) := zb_X11_fixes_5.2.2.1
theorem dX11_fixes_16 : decode cX11_fixes 16 = .ok (.ifnull 29, 3) := zb_X11_fixes_5.2.2.2.1
theorem dX11_fixes_19 : decode cX11_fixes 19 = .ok (.aload 7, 2) := zb_X11_fixes_5.2.2.2.2.1
theorem dX11_fixes_21 : decode cX11_fixes 21 = .ok (.ifnull 24, 3) := zb_X11_fixes_5.2.2.2.2.2.1
theorem dX11_fixes_33 : decode cX11_fixes 33 = .ok (.iload 5, 2) := zb_X11_fixes_5.2.2.2.2.2.2.1
theorem dX11_fixes_38 : decode cX11_fixes 38 = .ok (.iload 5, 2) := zb_X11_fixes_5.2.2.2.2.2.2.2.1
theorem dX11_fixes_69 : decode cX11_fixes 69 = .ok (.aload 7, 2) := zb_X11_fixes_5.2.2.2.2.2.2.2.2.1
theorem dX11_fixes_82 : decode cX11_fixes 82 = .ok (.istore 8, 2) := zb_X11_fixes_5.2.2.2.2.2.2.2.2.2
theorem zb_X11_fixes_84 : (decode cX11_fixes 84 = .ok (.iload 4, 2)) ∧ (decode cX11_fixes 86 = .ok (.istore 9, 2)) ∧ (decode cX11_fixes 89 = .ok (.istore 10, 2)) ∧ (decode cX11_fixes 91 = .ok (.iload 10, 2)) ∧ (decode cX11_fixes 93 = .ok (.iload 5, 2)) ∧ (decode cX11_fixes 164 = .ok (.iload 8, 2)) ∧ (decode cX11_fixes 98 = .ok (.aload 7, 2)) ∧ (decode cX11_fixes 100 = .ok (.iload 9, 2)) ∧ (decode cX11_fixes 112 = .ok (.aload 7, 2)) ∧ (decode cX11_fixes 117 = .ok (.iload 9, 2)) := by decide +kernel
theorem dX11_fixes_84 : decode cX11_fixes 84 = .ok (.iload 4, 2) := zb_X11_fixes_84.1
theorem dX11_fixes_86 : decode cX11_fixes 86 = .ok (.istore 9, 2) := zb_X11_fixes_84.2.1
theorem dX11_fixes_89 : decode cX11_fixes 89 = .ok (.istore 10, 2) := zb_X11_fixes_84.2.2.1
theorem dX11_fixes_91 : decode cX11_fixes 91 = .ok (.iload 10, 2) := zb_X11_fixes_84.2.2.2.1
theorem dX11_fixes_93 : decode cX11_fixes 93 = .ok (.iload 5, 2) := zb_X11_fixes_84.2.2.2.2.1
theorem dX11_fixes_164 : decode cX11_fixes 164 = .ok (.iload 8, 2) := zb_X11_fixes_84.2.2.2.2.2.1
theorem dX11_fixes_98 : decode cX11_fixes 98 = .ok (.aload 7, 2) := zb_X11_fixes_84.2.2.2.2.2.2.1
theorem dX11_fixes_100 : decode cX11_fixes 100 = .ok (.iload 9, 2) := zb_X11_fixes_84.2.2.2.2.2.2.2.1
theorem dX11_fixes_112 : decode cX11_fixes 112 = .ok (.aload 7, 2) := zb_X11_fixes_84.2.2.2.2.2.2.2.2.1
theorem dX11_fixes_117 : decode cX11_fixes 117 = .ok (.iload 9, 2) := zb_X11_fixes_84.2.2.2.2.2.2.2.2.2
theorem zb_X11_fixes_122 : (decode cX11_fixes 122 = .ok (.istore 11, 2)) ∧ (decode cX11_fixes 124 = .ok (.iload 11, 2)) ∧ (decode cX11_fixes 134 = .ok (.aload 7, 2)) ∧ (decode cX11_fixes 139 = .ok (.iload 9, 2)) ∧ (decode cX11_fixes 143 = .ok (.iload 11, 2)) ∧ (decode cX11_fixes 155 = .ok (.iinc 9 2, 3)) ∧ (decode cX11_fixes 158 = .ok (.iinc 10 1, 3)) ∧ (decode cX11_fixes 152 = .ok (.iinc 8 1, 3)) ∧ (decode cX11_fixes 48 = .ok (.aload 7, 2)) ∧ (decode cX11_fixes 57 = .ok (.aload 7, 2)) := by decide +kernel
theorem dX11_fixes_122 : decode cX11_fixes 122 = .ok (.istore 11, 2) := zb_X11_fixes_122.1
theorem dX11_fixes_124 : decode cX11_fixes 124 = .ok (.iload 11, 2) := zb_X11_fixes_122.2.1
theorem dX11_fixes_134 : decode cX11_fixes 134 = .ok (.aload 7, 2) := zb_X11_fixes_122.2.2.1
theorem dX11_fixes_139 : decode cX11_fixes 139 = .ok (.iload 9, 2) := zb_X11_fixes_122.2.2.2.1
theorem dX11_fixes_143 : decode cX11_fixes 143 = .ok (.iload 11, 2) := zb_X11_fixes_122.2.2.2.2.1
theorem dX11_fixes_155 : decode cX11_fixes 155 = .ok (.iinc 9 2, 3) := zb_X11_fixes_122.2.2.2.2.2.1
theorem dX11_fixes_158 : decode cX11_fixes 158 = .ok (.iinc 10 1, 3) := zb_X11_fixes_122.2.2.2.2.2.2.1
theorem dX11_fixes_152 : decode cX11_fixes 152 = .ok (.iinc 8 1, 3) := zb_X11_fixes_122.2.2.2.2.2.2.2.1
theorem dX11_fixes_48 : decode cX11_fixes 48 = .ok (.aload 7, 2) := zb_X11_fixes_122.2.2.2.2.2.2.2.2.1
theorem dX11_fixes_57 : decode cX11_fixes 57 = .ok (.aload 7, 2) := zb_X11_fixes_122.2.2.2.2.2.2.2.2.2
theorem zb_X11_taken_0 : (decode cX11_taken 0 = .ok (.iload_n 2, 1)) ∧ (decode cX11_taken 1 = .ok (.ifCond .lt 9, 3)) ∧ (decode cX11_taken 10 = .ok (.bipush (-2), 2)) ∧ (decode cX11_taken 12 = .ok (.ireturn, 1)) ∧ (decode cX11_taken 4 = .ok (.iload_n 2, 1)) ∧ (decode cX11_taken 5 = .ok (.bipush 6, 2)) ∧ (decode cX11_taken 7 = .ok (.if_icmp .lt 6, 3)) ∧ (decode cX11_taken 13 = .ok (.aload_n 0, 1)) ∧ (decode cX11_taken 14 = .ok (.iload_n 1, 1)) ∧ (decode cX11_taken 15 = .ok (.invokevirtual 78, 3)) ∧ (decode cX11_taken 18 = .ok (.astore_n 3, 1)) ∧ (decode cX11_taken 19 = .ok (.aload_n 3, 1)) := by decide +kernel
theorem dX11_taken_0 : decode cX11_taken 0 = .ok (.iload_n 2, 1) := zb_X11_taken_0.1
theorem dX11_taken_1 : decode cX11_taken 1 = .ok (.ifCond .lt 9, 3) := zb_X11_taken_0.2.1
theorem dX11_taken_10 : decode cX11_taken 10 = .ok (.bipush (-2), 2) := zb_X11_taken_0.2.2.1
theorem dX11_taken_12 : decode cX11_taken 12 = .ok (.ireturn, 1) := zb_X11_taken_0.2.2.2.1
theorem dX11_taken_4 : decode cX11_taken 4 = .ok (.iload_n 2, 1) := zb_X11_taken_0.2.2.2.2.1
theorem dX11_taken_5 : decode cX11_taken 5 = .ok (.bipush 6, 2) := zb_X11_taken_0.2.2.2.2.2.1
theorem dX11_taken_7 : decode cX11_taken 7 = .ok (.if_icmp .lt 6, 3) := zb_X11_taken_0.2.2.2.2.2.2.1
theorem dX11_taken_13 : decode cX11_taken 13 = .ok (.aload_n 0, 1) := zb_X11_taken_0.2.2.2.2.2.2.2.1
theorem dX11_taken_14 : decode cX11_taken 14 = .ok (.iload_n 1, 1) := zb_X11_taken_0.2.2.2.2.2.2.2.2.1
theorem dX11_taken_15 : decode cX11_taken 15 = .ok (.invokevirtual 78, 3) := zb_X11_taken_0.2.2.2.2.2.2.2.2.2.1
theorem dX11_taken_18 : decode cX11_taken 18 = .ok (.astore_n 3, 1) := zb_X11_taken_0.2.2.2.2.2.2.2.2.2.2.1
theorem dX11_taken_19 : decode cX11_taken 19 = .ok (.aload_n 3, 1) := zb_X11_taken_0.2.2.2.2.2.2.2.2.2.2.2
theorem zb_X11_taken_20 : (decode cX11_taken 20 = .ok (.ifnonnull 6, 3)) ∧ (decode cX11_taken 23 = .ok (.bipush (-11), 2)) ∧ (decode cX11_taken 25 = .ok (.ireturn, 1)) ∧ (decode cX11_taken 26 = .ok (.aload_n 3, 1)) ∧ (decode cX11_taken 27 = .ok (.iload_n 2, 1)) ∧ (decode cX11_taken 28 = .ok (.invokevirtual 379, 3)) ∧ (decode cX11_taken 31 = .ok (.ifCond .eq 10, 3)) ∧ (decode cX11_taken 34 = .ok (.aload_n 3, 1)) ∧ (decode cX11_taken 35 = .ok (.getfield 125, 3)) ∧ (decode cX11_taken 38 = .ok (.goto 5, 3)) ∧ (decode cX11_taken 43 = .ok (.ireturn, 1)) ∧ (decode cX11_taken 41 = .ok (.bipush (-13), 2)) := by decide +kernel
theorem dX11_taken_20 : decode cX11_taken 20 = .ok (.ifnonnull 6, 3) := zb_X11_taken_20.1
theorem dX11_taken_23 : decode cX11_taken 23 = .ok (.bipush (-11), 2) := zb_X11_taken_20.2.1
theorem dX11_taken_25 : decode cX11_taken 25 = .ok (.ireturn, 1) := zb_X11_taken_20.2.2.1
theorem dX11_taken_26 : decode cX11_taken 26 = .ok (.aload_n 3, 1) := zb_X11_taken_20.2.2.2.1
theorem dX11_taken_27 : decode cX11_taken 27 = .ok (.iload_n 2, 1) := zb_X11_taken_20.2.2.2.2.1
theorem dX11_taken_28 : decode cX11_taken 28 = .ok (.invokevirtual 379, 3) := zb_X11_taken_20.2.2.2.2.2.1
theorem dX11_taken_31 : decode cX11_taken 31 = .ok (.ifCond .eq 10, 3) := zb_X11_taken_20.2.2.2.2.2.2.1
theorem dX11_taken_34 : decode cX11_taken 34 = .ok (.aload_n 3, 1) := zb_X11_taken_20.2.2.2.2.2.2.2.1
theorem dX11_taken_35 : decode cX11_taken 35 = .ok (.getfield 125, 3) := zb_X11_taken_20.2.2.2.2.2.2.2.2.1
theorem dX11_taken_38 : decode cX11_taken 38 = .ok (.goto 5, 3) := zb_X11_taken_20.2.2.2.2.2.2.2.2.2.1
theorem dX11_taken_43 : decode cX11_taken 43 = .ok (.ireturn, 1) := zb_X11_taken_20.2.2.2.2.2.2.2.2.2.2.1
theorem dX11_taken_41 : decode cX11_taken 41 = .ok (.bipush (-13), 2) := zb_X11_taken_20.2.2.2.2.2.2.2.2.2.2.2
theorem ck_X11_clash_0_15te : ((cX11_clash.data.toList).drop 0).take 16 = [42, 180, 0, 53, 27, 182, 1, 65, 153, 0, 40, 42, 180, 0, 53, 28] := by decide +kernel
theorem ck_X11_clash_1_15te : ((cX11_clash.data.toList).drop 16).take 16 = [182, 1, 65, 153, 0, 29, 27, 28, 159, 0, 24, 42, 180, 0, 53, 180] := by decide +kernel
theorem ck_X11_clash_2_15te : ((cX11_clash.data.toList).drop 32).take 16 = [1, 52, 27, 46, 42, 180, 0, 53, 180, 1, 52, 28, 46, 159, 0, 6] := by decide +kernel
theorem ck_X11_clash_3_15te : ((cX11_clash.data.toList).drop 48).take 16 = [16, 254, 172, 42, 42, 180, 0, 53, 180, 1, 52, 27, 46, 182, 0, 78] := by decide +kernel
theorem ck_X11_clash_4_15te : ((cX11_clash.data.toList).drop 64).take 16 = [78, 45, 199, 0, 6, 16, 254, 172, 42, 180, 0, 53, 180, 1, 55, 27] := by decide +kernel
theorem ck_X11_clash_5_15te : ((cX11_clash.data.toList).drop 80).take 16 = [46, 42, 180, 0, 53, 180, 1, 55, 28, 46, 163, 0, 7, 27, 167, 0] := by decide +kernel
theorem ck_X11_clash_6_15te : ((cX11_clash.data.toList).drop 96).take 16 = [4, 28, 54, 4, 21, 4, 27, 160, 0, 7, 28, 167, 0, 4, 27, 54] := by decide +kernel
theorem ck_X11_clash_7_15te : ((cX11_clash.data.toList).drop 112).take 16 = [5, 10, 42, 180, 0, 53, 180, 1, 58, 21, 4, 46, 121, 55, 6, 42] := by decide +kernel
theorem ck_X11_clash_8_15te : ((cX11_clash.data.toList).drop 128).take 16 = [180, 0, 53, 180, 1, 55, 21, 4, 46, 54, 8, 21, 8, 42, 180, 0] := by decide +kernel
theorem ck_X11_clash_9_15te : ((cX11_clash.data.toList).drop 144).take 16 = [53, 180, 1, 55, 21, 5, 46, 162, 0, 23, 45, 42, 180, 0, 10, 21] := by decide +kernel
theorem ck_X11_clash_10_15te : ((cX11_clash.data.toList).drop 160).take 16 = [8, 22, 6, 182, 1, 68, 55, 6, 132, 8, 1, 167, 255, 224, 22, 6] := by decide +kernel
theorem ck_X11_clash_11_15te : ((cX11_clash.data.toList).drop 176).take 16 = [42, 180, 0, 53, 180, 1, 58, 21, 5, 46, 184, 1, 61, 153, 0, 7] := by decide +kernel
theorem ck_X11_clash_12_15te : ((cX11_clash.data.toList).drop 192).take 16 = [3, 167, 0, 4, 4, 172] := by decide +kernel
theorem ck_X11_count_0_15te : ((cX11_count.data.toList).drop 0).take 16 = [27, 170, 0, 0, 0, 0, 0, 183, 0, 0, 0, 0, 0, 0, 0, 14] := by decide +kernel
theorem ck_X11_count_4_15te : ((cX11_count.data.toList).drop 64).take 16 = [0, 0, 0, 162, 0, 0, 0, 170, 0, 0, 0, 178, 42, 180, 0, 71] := by decide +kernel
theorem ck_X11_count_5_15te : ((cX11_count.data.toList).drop 80).take 16 = [172, 42, 180, 0, 75, 172, 42, 180, 0, 10, 180, 0, 94, 172, 42, 180] := by decide +kernel
theorem ck_X11_count_6_15te : ((cX11_count.data.toList).drop 96).take 16 = [0, 154, 172, 42, 180, 0, 25, 180, 0, 161, 172, 42, 180, 0, 25, 180] := by decide +kernel
theorem ck_X11_count_7_15te : ((cX11_count.data.toList).drop 112).take 16 = [0, 171, 172, 42, 180, 0, 25, 180, 0, 193, 172, 42, 180, 0, 32, 180] := by decide +kernel
theorem ck_X11_count_8_15te : ((cX11_count.data.toList).drop 128).take 16 = [0, 207, 172, 42, 180, 0, 39, 180, 1, 10, 172, 42, 180, 0, 53, 180] := by decide +kernel
theorem ck_X11_count_9_15te : ((cX11_count.data.toList).drop 144).take 16 = [1, 46, 172, 42, 180, 0, 60, 180, 1, 74, 172, 42, 180, 0, 46, 180] := by decide +kernel
theorem ck_X11_count_10_15te : ((cX11_count.data.toList).drop 160).take 16 = [1, 24, 172, 42, 180, 0, 46, 180, 1, 15, 172, 42, 180, 0, 46, 180] := by decide +kernel
theorem ck_X11_count_11_15te : ((cX11_count.data.toList).drop 176).take 16 = [1, 27, 172, 42, 180, 0, 253, 172, 16, 254, 172] := by decide +kernel
theorem ck_X11_fixes_0_15te : ((cX11_fixes.data.toList).drop 0).take 16 = [42, 27, 182, 0, 78, 58, 6, 42, 28, 182, 1, 92, 58, 7, 25, 6] := by decide +kernel
theorem ck_X11_fixes_1_15te : ((cX11_fixes.data.toList).drop 16).take 16 = [198, 0, 29, 25, 7, 198, 0, 24, 29, 155, 0, 20, 29, 6, 162, 0] := by decide +kernel
theorem ck_X11_fixes_2_15te : ((cX11_fixes.data.toList).drop 32).take 16 = [15, 21, 5, 155, 0, 10, 21, 5, 16, 20, 164, 0, 6, 16, 254, 172] := by decide +kernel
theorem ck_X11_fixes_3_15te : ((cX11_fixes.data.toList).drop 48).take 16 = [25, 7, 180, 1, 99, 2, 159, 0, 15, 25, 7, 180, 1, 99, 29, 159] := by decide +kernel
theorem ck_X11_fixes_4_15te : ((cX11_fixes.data.toList).drop 64).take 16 = [0, 6, 16, 243, 172, 25, 7, 180, 1, 99, 2, 160, 0, 6, 16, 245] := by decide +kernel
theorem ck_X11_fixes_5_15te : ((cX11_fixes.data.toList).drop 80).take 16 = [172, 3, 54, 8, 21, 4, 54, 9, 3, 54, 10, 21, 10, 21, 5, 162] := by decide +kernel
theorem ck_X11_fixes_6_15te : ((cX11_fixes.data.toList).drop 96).take 16 = [0, 69, 25, 7, 21, 9, 5, 182, 1, 108, 154, 0, 6, 16, 244, 172] := by decide +kernel
theorem ck_X11_fixes_7_15te : ((cX11_fixes.data.toList).drop 112).take 16 = [25, 7, 180, 1, 111, 21, 9, 4, 96, 46, 54, 11, 21, 11, 184, 0] := by decide +kernel
theorem ck_X11_fixes_8_15te : ((cX11_fixes.data.toList).drop 128).take 16 = [110, 153, 0, 26, 42, 27, 25, 7, 180, 1, 111, 21, 9, 46, 10, 21] := by decide +kernel
theorem ck_X11_fixes_9_15te : ((cX11_fixes.data.toList).drop 144).take 16 = [11, 121, 182, 1, 120, 158, 0, 6, 132, 8, 1, 132, 9, 2, 132, 10] := by decide +kernel
theorem ck_X11_fixes_10_15te : ((cX11_fixes.data.toList).drop 160).take 16 = [1, 167, 255, 186, 21, 8, 172] := by decide +kernel
theorem gX11_comes_X11_seekerAt : GoodIn wsX11_comes (wsV RX11 214 RX11 yX11_seekerAt wsX11_seekerAt) := ru_gG (ru_gV tw_3_169 tw_3_171 tw_0_3 tw_1_1 mT_X11_seekerAt)
theorem gX11_comes_X11_isCell : GoodIn wsX11_comes (va_wsS RX11 110 yX11_isCell wsX11_isCell) := ru_gG (ru_gS tw_2_195 tw_2_196 tw_1_1 mT_X11_isCell)
theorem gX11_comes_X11_apart : GoodIn wsX11_comes (va_wsS RX11 256 yX11_apart wsX11_apart) := ru_gG (ru_gS tw_4_12 tw_3_119 tw_1_1 mT_X11_apart)
theorem gX11_comes_X11_backFrom : GoodIn wsX11_comes (wsV RX11 259 RX11 yX11_backFrom wsX11_backFrom) := ru_gG (ru_gV tw_4_13 tw_4_15 tw_0_8 tw_1_1 mT_X11_backFrom)
theorem gX11_last_X11_seekerAt : GoodIn wsX11_last (wsV RX11 214 RX11 yX11_seekerAt wsX11_seekerAt) := ru_gG (ru_gV tw_3_169 tw_3_171 tw_0_3 tw_1_1 mT_X11_seekerAt)
theorem gX11_last_X11_isCell : GoodIn wsX11_last (va_wsS RX11 110 yX11_isCell wsX11_isCell) := ru_gG (ru_gS tw_2_195 tw_2_196 tw_1_1 mT_X11_isCell)
theorem gX11_last_X11_apart : GoodIn wsX11_last (va_wsS RX11 256 yX11_apart wsX11_apart) := ru_gG (ru_gS tw_4_12 tw_3_119 tw_1_1 mT_X11_apart)
theorem gX11_last_X11_backFrom : GoodIn wsX11_last (wsV RX11 259 RX11 yX11_backFrom wsX11_backFrom) := ru_gG (ru_gV tw_4_13 tw_4_15 tw_0_8 tw_1_1 mT_X11_backFrom)
theorem gX11_man_X11_bodyAt : GoodIn wsX11_man (wsV RX11 78 RX11 yX11_bodyAt wsX11_bodyAt) := ru_gG (ru_gV tw_2_139 tw_2_141 tw_0_0 tw_1_1 mT_X11_bodyAt)
theorem gX11_man_X11_isMark : GoodIn wsX11_man (va_wsS RX11 263 yX11_isMark wsX11_isMark) := ru_gG (ru_gS tw_4_30 tw_4_31 tw_1_1 mT_X11_isMark)
theorem gX11_man_X2_addMan : GoodIn wsX11_man (wsV RX11 267 RX2 yX2_addMan wsX2_addMan) := ru_gG (ru_gV tw_4_33 tw_4_34 tw_4_35 tw_1_5 mT_X2_addMan)
theorem gX11_feed_X3_addBytes : GoodIn wsX11_feed (wsV RX11 274 RX3 yX3_addBytes wsX3_addBytes) := ru_gG (ru_gV tw_4_41 tw_4_42 tw_4_43 tw_1_6 mT_X3_addBytes)
theorem gX11_says_X11_seekerAt : GoodIn wsX11_says (wsV RX11 214 RX11 yX11_seekerAt wsX11_seekerAt) := ru_gG (ru_gV tw_3_169 tw_3_171 tw_0_3 tw_1_1 mT_X11_seekerAt)
theorem gX11_says_X11_bodyAt : GoodIn wsX11_says (wsV RX11 78 RX11 yX11_bodyAt wsX11_bodyAt) := ru_gG (ru_gV tw_2_139 tw_2_141 tw_0_0 tw_1_1 mT_X11_bodyAt)
theorem gX11_says_X0_placesNow : GoodIn wsX11_says (wsV RX11 223 RX0 yX0_placesNow wsX0_placesNow) := ru_gG (ru_gV tw_3_187 tw_3_48 tw_3_49 tw_1_18 mT_X0_placesNow)
theorem gX11_says_X11_nearest : GoodIn wsX11_says (va_wsS RX11 289 yX11_nearest wsX11_nearest) := ru_gG (ru_gS tw_4_233 tw_4_234 tw_1_1 mT_X11_nearest)
theorem gX11_says_X3_ask : GoodIn wsX11_says (wsV RX11 292 RX3 yX3_ask wsX3_ask) := ru_gG (ru_gV tw_4_213 tw_4_214 tw_4_215 tw_1_6 mT_X3_ask)
theorem gX11_says_X11_takeOf : GoodIn wsX11_says (wsV RX11 286 RX11 yX11_takeOf wsX11_takeOf) := ru_gG (ru_gV tw_4_209 tw_4_211 tw_0_24 tw_1_1 mT_X11_takeOf)
theorem gX11_first_X11_bodyAt : GoodIn wsX11_first (wsV RX11 78 RX11 yX11_bodyAt wsX11_bodyAt) := ru_gG (ru_gV tw_2_139 tw_2_141 tw_0_0 tw_1_1 mT_X11_bodyAt)
theorem gX11_first_X2_inTurn : GoodIn wsX11_first (wsV RX11 299 RX2 yX2_inTurn wsX2_inTurn) := ru_gG (ru_gV tw_5_2 tw_5_3 tw_5_4 tw_1_5 mT_X2_inTurn)
theorem gX11_first_X11_takeOf : GoodIn wsX11_first (wsV RX11 286 RX11 yX11_takeOf wsX11_takeOf) := ru_gG (ru_gV tw_4_209 tw_4_211 tw_0_24 tw_1_1 mT_X11_takeOf)
theorem gX11_story_X11_bodyAt : GoodIn wsX11_story (wsV RX11 78 RX11 yX11_bodyAt wsX11_bodyAt) := ru_gG (ru_gV tw_2_139 tw_2_141 tw_0_0 tw_1_1 mT_X11_bodyAt)
theorem gX11_story_X11_isCell : GoodIn wsX11_story (va_wsS RX11 110 yX11_isCell wsX11_isCell) := ru_gG (ru_gS tw_2_195 tw_2_196 tw_1_1 mT_X11_isCell)
theorem gX11_story_X8_addStory : GoodIn wsX11_story (wsV RX11 305 RX8 yX8_addStory wsX8_addStory) := ru_gG (ru_gV tw_5_14 tw_5_15 tw_5_16 tw_1_9 mT_X8_addStory)
theorem gX11_unfit_X11_bodyAt : GoodIn wsX11_unfit (wsV RX11 78 RX11 yX11_bodyAt wsX11_bodyAt) := ru_gG (ru_gV tw_2_139 tw_2_141 tw_0_0 tw_1_1 mT_X11_bodyAt)
theorem gX11_unfit_X0_placesNow : GoodIn wsX11_unfit (wsV RX11 223 RX0 yX0_placesNow wsX0_placesNow) := ru_gG (ru_gV tw_3_187 tw_3_48 tw_3_49 tw_1_18 mT_X0_placesNow)
theorem gX11_unfit_X11_has : GoodIn wsX11_unfit (va_wsS RX11 317 yX11_has wsX11_has) := ru_gG (ru_gS tw_4_236 tw_3_126 tw_1_1 mT_X11_has)
theorem dX11_clash_0 : decode cX11_clash 0 = .ok (.aload_n 0, 1) := dk_0 (dk_k42 0) (dk_by (j := 0) rfl ck_X11_clash_0_15te rfl rfl rfl)
theorem dX11_clash_1 : decode cX11_clash 1 = .ok (.getfield 53, 3) := dk_2 (dk_k180 1) (dk_by (j := 1) rfl ck_X11_clash_0_15te rfl rfl rfl) (dk_by (j := 2) rfl ck_X11_clash_0_15te rfl rfl rfl) (dk_by (j := 3) rfl ck_X11_clash_0_15te rfl rfl rfl) (by decide)
theorem dX11_clash_4 : decode cX11_clash 4 = .ok (.iload_n 1, 1) := dk_0 (dk_k27 4) (dk_by (j := 4) rfl ck_X11_clash_0_15te rfl rfl rfl)
theorem gX11_clash_X8_hasStory : GoodIn wsX11_clash (wsV RX11 321 RX8 yX8_hasStory wsX8_hasStory) := ru_gG (ru_gV tw_5_26 tw_5_27 tw_5_28 tw_1_9 mT_X8_hasStory)
theorem dX11_clash_5 : decode cX11_clash 5 = .ok (.invokevirtual 321, 3) := dk_2 (dk_k182 5) (dk_by (j := 5) rfl ck_X11_clash_0_15te rfl rfl rfl) (dk_by (j := 6) rfl ck_X11_clash_0_15te rfl rfl rfl) (dk_by (j := 7) rfl ck_X11_clash_0_15te rfl rfl rfl) (by decide)
theorem dX11_clash_8 : decode cX11_clash 8 = .ok (.ifCond .eq 40, 3) := dk_s (dk_k153 8) (dk_by (j := 8) rfl ck_X11_clash_0_15te rfl rfl rfl) (dk_by (j := 9) rfl ck_X11_clash_0_15te rfl rfl rfl) (dk_by (j := 10) rfl ck_X11_clash_0_15te rfl rfl rfl) (by decide)
theorem dX11_clash_11 : decode cX11_clash 11 = .ok (.aload_n 0, 1) := dk_0 (dk_k42 11) (dk_by (j := 11) rfl ck_X11_clash_0_15te rfl rfl rfl)
theorem dX11_clash_12 : decode cX11_clash 12 = .ok (.getfield 53, 3) := dk_2 (dk_k180 12) (dk_by (j := 12) rfl ck_X11_clash_0_15te rfl rfl rfl) (dk_by (j := 13) rfl ck_X11_clash_0_15te rfl rfl rfl) (dk_by (j := 14) rfl ck_X11_clash_0_15te rfl rfl rfl) (by decide)
theorem dX11_clash_15 : decode cX11_clash 15 = .ok (.iload_n 2, 1) := dk_0 (dk_k28 15) (dk_by (j := 15) rfl ck_X11_clash_0_15te rfl rfl rfl)
theorem dX11_clash_16 : decode cX11_clash 16 = .ok (.invokevirtual 321, 3) := dk_2 (dk_k182 16) (dk_by (j := 0) rfl ck_X11_clash_1_15te rfl rfl rfl) (dk_by (j := 1) rfl ck_X11_clash_1_15te rfl rfl rfl) (dk_by (j := 2) rfl ck_X11_clash_1_15te rfl rfl rfl) (by decide)
theorem dX11_clash_19 : decode cX11_clash 19 = .ok (.ifCond .eq 29, 3) := dk_s (dk_k153 19) (dk_by (j := 3) rfl ck_X11_clash_1_15te rfl rfl rfl) (dk_by (j := 4) rfl ck_X11_clash_1_15te rfl rfl rfl) (dk_by (j := 5) rfl ck_X11_clash_1_15te rfl rfl rfl) (by decide)
theorem dX11_clash_22 : decode cX11_clash 22 = .ok (.iload_n 1, 1) := dk_0 (dk_k27 22) (dk_by (j := 6) rfl ck_X11_clash_1_15te rfl rfl rfl)
theorem dX11_clash_23 : decode cX11_clash 23 = .ok (.iload_n 2, 1) := dk_0 (dk_k28 23) (dk_by (j := 7) rfl ck_X11_clash_1_15te rfl rfl rfl)
theorem dX11_clash_24 : decode cX11_clash 24 = .ok (.if_icmp .eq 24, 3) := dk_s (dk_k159 24) (dk_by (j := 8) rfl ck_X11_clash_1_15te rfl rfl rfl) (dk_by (j := 9) rfl ck_X11_clash_1_15te rfl rfl rfl) (dk_by (j := 10) rfl ck_X11_clash_1_15te rfl rfl rfl) (by decide)
theorem dX11_clash_48 : decode cX11_clash 48 = .ok (.bipush (-2), 2) := dk_1 (dk_k16 48) (dk_by (j := 0) rfl ck_X11_clash_3_15te rfl rfl rfl) (dk_by (j := 1) rfl ck_X11_clash_3_15te rfl rfl rfl) (by decide)
theorem dX11_clash_50 : decode cX11_clash 50 = .ok (.ireturn, 1) := dk_0 (dk_k172 50) (dk_by (j := 2) rfl ck_X11_clash_3_15te rfl rfl rfl)
theorem dX11_clash_27 : decode cX11_clash 27 = .ok (.aload_n 0, 1) := dk_0 (dk_k42 27) (dk_by (j := 11) rfl ck_X11_clash_1_15te rfl rfl rfl)
theorem dX11_clash_28 : decode cX11_clash 28 = .ok (.getfield 53, 3) := dk_2 (dk_k180 28) (dk_by (j := 12) rfl ck_X11_clash_1_15te rfl rfl rfl) (dk_by (j := 13) rfl ck_X11_clash_1_15te rfl rfl rfl) (dk_by (j := 14) rfl ck_X11_clash_1_15te rfl rfl rfl) (by decide)
theorem dX11_clash_31 : decode cX11_clash 31 = .ok (.getfield 308, 3) := dk_2 (dk_k180 31) (dk_by (j := 15) rfl ck_X11_clash_1_15te rfl rfl rfl) (dk_by (j := 0) rfl ck_X11_clash_2_15te rfl rfl rfl) (dk_by (j := 1) rfl ck_X11_clash_2_15te rfl rfl rfl) (by decide)
theorem dX11_clash_34 : decode cX11_clash 34 = .ok (.iload_n 1, 1) := dk_0 (dk_k27 34) (dk_by (j := 2) rfl ck_X11_clash_2_15te rfl rfl rfl)
theorem dX11_clash_35 : decode cX11_clash 35 = .ok (.iaload, 1) := dk_0 (dk_k46 35) (dk_by (j := 3) rfl ck_X11_clash_2_15te rfl rfl rfl)
theorem dX11_clash_36 : decode cX11_clash 36 = .ok (.aload_n 0, 1) := dk_0 (dk_k42 36) (dk_by (j := 4) rfl ck_X11_clash_2_15te rfl rfl rfl)
theorem dX11_clash_37 : decode cX11_clash 37 = .ok (.getfield 53, 3) := dk_2 (dk_k180 37) (dk_by (j := 5) rfl ck_X11_clash_2_15te rfl rfl rfl) (dk_by (j := 6) rfl ck_X11_clash_2_15te rfl rfl rfl) (dk_by (j := 7) rfl ck_X11_clash_2_15te rfl rfl rfl) (by decide)
theorem dX11_clash_40 : decode cX11_clash 40 = .ok (.getfield 308, 3) := dk_2 (dk_k180 40) (dk_by (j := 8) rfl ck_X11_clash_2_15te rfl rfl rfl) (dk_by (j := 9) rfl ck_X11_clash_2_15te rfl rfl rfl) (dk_by (j := 10) rfl ck_X11_clash_2_15te rfl rfl rfl) (by decide)
theorem dX11_clash_43 : decode cX11_clash 43 = .ok (.iload_n 2, 1) := dk_0 (dk_k28 43) (dk_by (j := 11) rfl ck_X11_clash_2_15te rfl rfl rfl)
theorem dX11_clash_44 : decode cX11_clash 44 = .ok (.iaload, 1) := dk_0 (dk_k46 44) (dk_by (j := 12) rfl ck_X11_clash_2_15te rfl rfl rfl)
theorem dX11_clash_45 : decode cX11_clash 45 = .ok (.if_icmp .eq 6, 3) := dk_s (dk_k159 45) (dk_by (j := 13) rfl ck_X11_clash_2_15te rfl rfl rfl) (dk_by (j := 14) rfl ck_X11_clash_2_15te rfl rfl rfl) (dk_by (j := 15) rfl ck_X11_clash_2_15te rfl rfl rfl) (by decide)
theorem dX11_clash_51 : decode cX11_clash 51 = .ok (.aload_n 0, 1) := dk_0 (dk_k42 51) (dk_by (j := 3) rfl ck_X11_clash_3_15te rfl rfl rfl)
theorem dX11_clash_52 : decode cX11_clash 52 = .ok (.aload_n 0, 1) := dk_0 (dk_k42 52) (dk_by (j := 4) rfl ck_X11_clash_3_15te rfl rfl rfl)
theorem dX11_clash_53 : decode cX11_clash 53 = .ok (.getfield 53, 3) := dk_2 (dk_k180 53) (dk_by (j := 5) rfl ck_X11_clash_3_15te rfl rfl rfl) (dk_by (j := 6) rfl ck_X11_clash_3_15te rfl rfl rfl) (dk_by (j := 7) rfl ck_X11_clash_3_15te rfl rfl rfl) (by decide)
theorem dX11_clash_56 : decode cX11_clash 56 = .ok (.getfield 308, 3) := dk_2 (dk_k180 56) (dk_by (j := 8) rfl ck_X11_clash_3_15te rfl rfl rfl) (dk_by (j := 9) rfl ck_X11_clash_3_15te rfl rfl rfl) (dk_by (j := 10) rfl ck_X11_clash_3_15te rfl rfl rfl) (by decide)
theorem dX11_clash_59 : decode cX11_clash 59 = .ok (.iload_n 1, 1) := dk_0 (dk_k27 59) (dk_by (j := 11) rfl ck_X11_clash_3_15te rfl rfl rfl)
theorem dX11_clash_60 : decode cX11_clash 60 = .ok (.iaload, 1) := dk_0 (dk_k46 60) (dk_by (j := 12) rfl ck_X11_clash_3_15te rfl rfl rfl)
theorem gX11_clash_X11_bodyAt : GoodIn wsX11_clash (wsV RX11 78 RX11 yX11_bodyAt wsX11_bodyAt) := ru_gG (ru_gV tw_2_139 tw_2_141 tw_0_0 tw_1_1 mT_X11_bodyAt)
theorem dX11_clash_61 : decode cX11_clash 61 = .ok (.invokevirtual 78, 3) := dk_2 (dk_k182 61) (dk_by (j := 13) rfl ck_X11_clash_3_15te rfl rfl rfl) (dk_by (j := 14) rfl ck_X11_clash_3_15te rfl rfl rfl) (dk_by (j := 15) rfl ck_X11_clash_3_15te rfl rfl rfl) (by decide)
theorem dX11_clash_64 : decode cX11_clash 64 = .ok (.astore_n 3, 1) := dk_0 (dk_k78 64) (dk_by (j := 0) rfl ck_X11_clash_4_15te rfl rfl rfl)
theorem dX11_clash_65 : decode cX11_clash 65 = .ok (.aload_n 3, 1) := dk_0 (dk_k45 65) (dk_by (j := 1) rfl ck_X11_clash_4_15te rfl rfl rfl)
theorem dX11_clash_69 : decode cX11_clash 69 = .ok (.bipush (-2), 2) := dk_1 (dk_k16 69) (dk_by (j := 5) rfl ck_X11_clash_4_15te rfl rfl rfl) (dk_by (j := 6) rfl ck_X11_clash_4_15te rfl rfl rfl) (by decide)
theorem dX11_clash_71 : decode cX11_clash 71 = .ok (.ireturn, 1) := dk_0 (dk_k172 71) (dk_by (j := 7) rfl ck_X11_clash_4_15te rfl rfl rfl)
theorem dX11_clash_113 : decode cX11_clash 113 = .ok (.lconst 1, 1) := dk_0 (dk_k10 113) (dk_by (j := 1) rfl ck_X11_clash_7_15te rfl rfl rfl)
theorem dX11_clash_114 : decode cX11_clash 114 = .ok (.aload_n 0, 1) := dk_0 (dk_k42 114) (dk_by (j := 2) rfl ck_X11_clash_7_15te rfl rfl rfl)
theorem dX11_clash_115 : decode cX11_clash 115 = .ok (.getfield 53, 3) := dk_2 (dk_k180 115) (dk_by (j := 3) rfl ck_X11_clash_7_15te rfl rfl rfl) (dk_by (j := 4) rfl ck_X11_clash_7_15te rfl rfl rfl) (dk_by (j := 5) rfl ck_X11_clash_7_15te rfl rfl rfl) (by decide)
theorem dX11_clash_118 : decode cX11_clash 118 = .ok (.getfield 314, 3) := dk_2 (dk_k180 118) (dk_by (j := 6) rfl ck_X11_clash_7_15te rfl rfl rfl) (dk_by (j := 7) rfl ck_X11_clash_7_15te rfl rfl rfl) (dk_by (j := 8) rfl ck_X11_clash_7_15te rfl rfl rfl) (by decide)
theorem dX11_clash_123 : decode cX11_clash 123 = .ok (.iaload, 1) := dk_0 (dk_k46 123) (dk_by (j := 11) rfl ck_X11_clash_7_15te rfl rfl rfl)
theorem dX11_clash_124 : decode cX11_clash 124 = .ok (.lshl, 1) := dk_0 (dk_k121 124) (dk_by (j := 12) rfl ck_X11_clash_7_15te rfl rfl rfl)
theorem dX11_clash_127 : decode cX11_clash 127 = .ok (.aload_n 0, 1) := dk_0 (dk_k42 127) (dk_by (j := 15) rfl ck_X11_clash_7_15te rfl rfl rfl)
theorem dX11_clash_128 : decode cX11_clash 128 = .ok (.getfield 53, 3) := dk_2 (dk_k180 128) (dk_by (j := 0) rfl ck_X11_clash_8_15te rfl rfl rfl) (dk_by (j := 1) rfl ck_X11_clash_8_15te rfl rfl rfl) (dk_by (j := 2) rfl ck_X11_clash_8_15te rfl rfl rfl) (by decide)
theorem dX11_clash_131 : decode cX11_clash 131 = .ok (.getfield 311, 3) := dk_2 (dk_k180 131) (dk_by (j := 3) rfl ck_X11_clash_8_15te rfl rfl rfl) (dk_by (j := 4) rfl ck_X11_clash_8_15te rfl rfl rfl) (dk_by (j := 5) rfl ck_X11_clash_8_15te rfl rfl rfl) (by decide)
theorem dX11_clash_136 : decode cX11_clash 136 = .ok (.iaload, 1) := dk_0 (dk_k46 136) (dk_by (j := 8) rfl ck_X11_clash_8_15te rfl rfl rfl)
theorem dX11_clash_141 : decode cX11_clash 141 = .ok (.aload_n 0, 1) := dk_0 (dk_k42 141) (dk_by (j := 13) rfl ck_X11_clash_8_15te rfl rfl rfl)
theorem dX11_clash_142 : decode cX11_clash 142 = .ok (.getfield 53, 3) := dk_2 (dk_k180 142) (dk_by (j := 14) rfl ck_X11_clash_8_15te rfl rfl rfl) (dk_by (j := 15) rfl ck_X11_clash_8_15te rfl rfl rfl) (dk_by (j := 0) rfl ck_X11_clash_9_15te rfl rfl rfl) (by decide)
theorem dX11_clash_145 : decode cX11_clash 145 = .ok (.getfield 311, 3) := dk_2 (dk_k180 145) (dk_by (j := 1) rfl ck_X11_clash_9_15te rfl rfl rfl) (dk_by (j := 2) rfl ck_X11_clash_9_15te rfl rfl rfl) (dk_by (j := 3) rfl ck_X11_clash_9_15te rfl rfl rfl) (by decide)
theorem dX11_clash_150 : decode cX11_clash 150 = .ok (.iaload, 1) := dk_0 (dk_k46 150) (dk_by (j := 6) rfl ck_X11_clash_9_15te rfl rfl rfl)
theorem dX11_clash_151 : decode cX11_clash 151 = .ok (.if_icmp .ge 23, 3) := dk_s (dk_k162 151) (dk_by (j := 7) rfl ck_X11_clash_9_15te rfl rfl rfl) (dk_by (j := 8) rfl ck_X11_clash_9_15te rfl rfl rfl) (dk_by (j := 9) rfl ck_X11_clash_9_15te rfl rfl rfl) (by decide)
theorem dX11_clash_176 : decode cX11_clash 176 = .ok (.aload_n 0, 1) := dk_0 (dk_k42 176) (dk_by (j := 0) rfl ck_X11_clash_11_15te rfl rfl rfl)
theorem dX11_clash_177 : decode cX11_clash 177 = .ok (.getfield 53, 3) := dk_2 (dk_k180 177) (dk_by (j := 1) rfl ck_X11_clash_11_15te rfl rfl rfl) (dk_by (j := 2) rfl ck_X11_clash_11_15te rfl rfl rfl) (dk_by (j := 3) rfl ck_X11_clash_11_15te rfl rfl rfl) (by decide)
theorem dX11_clash_180 : decode cX11_clash 180 = .ok (.getfield 314, 3) := dk_2 (dk_k180 180) (dk_by (j := 4) rfl ck_X11_clash_11_15te rfl rfl rfl) (dk_by (j := 5) rfl ck_X11_clash_11_15te rfl rfl rfl) (dk_by (j := 6) rfl ck_X11_clash_11_15te rfl rfl rfl) (by decide)
theorem dX11_clash_185 : decode cX11_clash 185 = .ok (.iaload, 1) := dk_0 (dk_k46 185) (dk_by (j := 9) rfl ck_X11_clash_11_15te rfl rfl rfl)
theorem gX11_clash_X11_has : GoodIn wsX11_clash (va_wsS RX11 317 yX11_has wsX11_has) := ru_gG (ru_gS tw_4_236 tw_3_126 tw_1_1 mT_X11_has)
theorem dX11_clash_186 : decode cX11_clash 186 = .ok (.invokestatic 317, 3) := dk_2 (dk_k184 186) (dk_by (j := 10) rfl ck_X11_clash_11_15te rfl rfl rfl) (dk_by (j := 11) rfl ck_X11_clash_11_15te rfl rfl rfl) (dk_by (j := 12) rfl ck_X11_clash_11_15te rfl rfl rfl) (by decide)
theorem dX11_clash_189 : decode cX11_clash 189 = .ok (.ifCond .eq 7, 3) := dk_s (dk_k153 189) (dk_by (j := 13) rfl ck_X11_clash_11_15te rfl rfl rfl) (dk_by (j := 14) rfl ck_X11_clash_11_15te rfl rfl rfl) (dk_by (j := 15) rfl ck_X11_clash_11_15te rfl rfl rfl) (by decide)
theorem dX11_clash_192 : decode cX11_clash 192 = .ok (.iconst 0, 1) := dk_0 (dk_k3 192) (dk_by (j := 0) rfl ck_X11_clash_12_15te rfl rfl rfl)
theorem dX11_clash_193 : decode cX11_clash 193 = .ok (.goto 4, 3) := dk_s (dk_k167 193) (dk_by (j := 1) rfl ck_X11_clash_12_15te rfl rfl rfl) (dk_by (j := 2) rfl ck_X11_clash_12_15te rfl rfl rfl) (dk_by (j := 3) rfl ck_X11_clash_12_15te rfl rfl rfl) (by decide)
theorem dX11_clash_197 : decode cX11_clash 197 = .ok (.ireturn, 1) := dk_0 (dk_k172 197) (dk_by (j := 5) rfl ck_X11_clash_12_15te rfl rfl rfl)
theorem dX11_clash_196 : decode cX11_clash 196 = .ok (.iconst 1, 1) := dk_0 (dk_k4 196) (dk_by (j := 4) rfl ck_X11_clash_12_15te rfl rfl rfl)
theorem dX11_clash_154 : decode cX11_clash 154 = .ok (.aload_n 3, 1) := dk_0 (dk_k45 154) (dk_by (j := 10) rfl ck_X11_clash_9_15te rfl rfl rfl)
theorem dX11_clash_155 : decode cX11_clash 155 = .ok (.aload_n 0, 1) := dk_0 (dk_k42 155) (dk_by (j := 11) rfl ck_X11_clash_9_15te rfl rfl rfl)
theorem dX11_clash_156 : decode cX11_clash 156 = .ok (.getfield 10, 3) := dk_2 (dk_k180 156) (dk_by (j := 12) rfl ck_X11_clash_9_15te rfl rfl rfl) (dk_by (j := 13) rfl ck_X11_clash_9_15te rfl rfl rfl) (dk_by (j := 14) rfl ck_X11_clash_9_15te rfl rfl rfl) (by decide)
theorem gX11_clash_X0_driftIn : GoodIn wsX11_clash (wsV RX11 324 RX0 yX0_driftIn wsX0_driftIn) := ru_gG (ru_gV tw_5_30 tw_3_52 tw_3_53 tw_1_18 mT_X0_driftIn)
theorem dX11_clash_163 : decode cX11_clash 163 = .ok (.invokevirtual 324, 3) := dk_2 (dk_k182 163) (dk_by (j := 3) rfl ck_X11_clash_10_15te rfl rfl rfl) (dk_by (j := 4) rfl ck_X11_clash_10_15te rfl rfl rfl) (dk_by (j := 5) rfl ck_X11_clash_10_15te rfl rfl rfl) (by decide)
theorem dX11_clash_171 : decode cX11_clash 171 = .ok (.goto (-32), 3) := dk_s (dk_k167 171) (dk_by (j := 11) rfl ck_X11_clash_10_15te rfl rfl rfl) (dk_by (j := 12) rfl ck_X11_clash_10_15te rfl rfl rfl) (dk_by (j := 13) rfl ck_X11_clash_10_15te rfl rfl rfl) (by decide)
theorem dX11_clash_102 : decode cX11_clash 102 = .ok (.iload_n 1, 1) := dk_0 (dk_k27 102) (dk_by (j := 6) rfl ck_X11_clash_6_15te rfl rfl rfl)
theorem dX11_clash_103 : decode cX11_clash 103 = .ok (.if_icmp .ne 7, 3) := dk_s (dk_k160 103) (dk_by (j := 7) rfl ck_X11_clash_6_15te rfl rfl rfl) (dk_by (j := 8) rfl ck_X11_clash_6_15te rfl rfl rfl) (dk_by (j := 9) rfl ck_X11_clash_6_15te rfl rfl rfl) (by decide)
theorem dX11_clash_110 : decode cX11_clash 110 = .ok (.iload_n 1, 1) := dk_0 (dk_k27 110) (dk_by (j := 14) rfl ck_X11_clash_6_15te rfl rfl rfl)
theorem dX11_clash_106 : decode cX11_clash 106 = .ok (.iload_n 2, 1) := dk_0 (dk_k28 106) (dk_by (j := 10) rfl ck_X11_clash_6_15te rfl rfl rfl)
theorem dX11_clash_107 : decode cX11_clash 107 = .ok (.goto 4, 3) := dk_s (dk_k167 107) (dk_by (j := 11) rfl ck_X11_clash_6_15te rfl rfl rfl) (dk_by (j := 12) rfl ck_X11_clash_6_15te rfl rfl rfl) (dk_by (j := 13) rfl ck_X11_clash_6_15te rfl rfl rfl) (by decide)
theorem dX11_clash_72 : decode cX11_clash 72 = .ok (.aload_n 0, 1) := dk_0 (dk_k42 72) (dk_by (j := 8) rfl ck_X11_clash_4_15te rfl rfl rfl)
theorem dX11_clash_73 : decode cX11_clash 73 = .ok (.getfield 53, 3) := dk_2 (dk_k180 73) (dk_by (j := 9) rfl ck_X11_clash_4_15te rfl rfl rfl) (dk_by (j := 10) rfl ck_X11_clash_4_15te rfl rfl rfl) (dk_by (j := 11) rfl ck_X11_clash_4_15te rfl rfl rfl) (by decide)
theorem dX11_clash_76 : decode cX11_clash 76 = .ok (.getfield 311, 3) := dk_2 (dk_k180 76) (dk_by (j := 12) rfl ck_X11_clash_4_15te rfl rfl rfl) (dk_by (j := 13) rfl ck_X11_clash_4_15te rfl rfl rfl) (dk_by (j := 14) rfl ck_X11_clash_4_15te rfl rfl rfl) (by decide)
theorem dX11_clash_79 : decode cX11_clash 79 = .ok (.iload_n 1, 1) := dk_0 (dk_k27 79) (dk_by (j := 15) rfl ck_X11_clash_4_15te rfl rfl rfl)
theorem dX11_clash_80 : decode cX11_clash 80 = .ok (.iaload, 1) := dk_0 (dk_k46 80) (dk_by (j := 0) rfl ck_X11_clash_5_15te rfl rfl rfl)
theorem dX11_clash_81 : decode cX11_clash 81 = .ok (.aload_n 0, 1) := dk_0 (dk_k42 81) (dk_by (j := 1) rfl ck_X11_clash_5_15te rfl rfl rfl)
theorem dX11_clash_82 : decode cX11_clash 82 = .ok (.getfield 53, 3) := dk_2 (dk_k180 82) (dk_by (j := 2) rfl ck_X11_clash_5_15te rfl rfl rfl) (dk_by (j := 3) rfl ck_X11_clash_5_15te rfl rfl rfl) (dk_by (j := 4) rfl ck_X11_clash_5_15te rfl rfl rfl) (by decide)
theorem dX11_clash_85 : decode cX11_clash 85 = .ok (.getfield 311, 3) := dk_2 (dk_k180 85) (dk_by (j := 5) rfl ck_X11_clash_5_15te rfl rfl rfl) (dk_by (j := 6) rfl ck_X11_clash_5_15te rfl rfl rfl) (dk_by (j := 7) rfl ck_X11_clash_5_15te rfl rfl rfl) (by decide)
theorem dX11_clash_88 : decode cX11_clash 88 = .ok (.iload_n 2, 1) := dk_0 (dk_k28 88) (dk_by (j := 8) rfl ck_X11_clash_5_15te rfl rfl rfl)
theorem dX11_clash_89 : decode cX11_clash 89 = .ok (.iaload, 1) := dk_0 (dk_k46 89) (dk_by (j := 9) rfl ck_X11_clash_5_15te rfl rfl rfl)
theorem dX11_clash_90 : decode cX11_clash 90 = .ok (.if_icmp .gt 7, 3) := dk_s (dk_k163 90) (dk_by (j := 10) rfl ck_X11_clash_5_15te rfl rfl rfl) (dk_by (j := 11) rfl ck_X11_clash_5_15te rfl rfl rfl) (dk_by (j := 12) rfl ck_X11_clash_5_15te rfl rfl rfl) (by decide)
theorem dX11_clash_97 : decode cX11_clash 97 = .ok (.iload_n 2, 1) := dk_0 (dk_k28 97) (dk_by (j := 1) rfl ck_X11_clash_6_15te rfl rfl rfl)
theorem dX11_clash_93 : decode cX11_clash 93 = .ok (.iload_n 1, 1) := dk_0 (dk_k27 93) (dk_by (j := 13) rfl ck_X11_clash_5_15te rfl rfl rfl)
theorem dX11_clash_94 : decode cX11_clash 94 = .ok (.goto 4, 3) := dk_s (dk_k167 94) (dk_by (j := 14) rfl ck_X11_clash_5_15te rfl rfl rfl) (dk_by (j := 15) rfl ck_X11_clash_5_15te rfl rfl rfl) (dk_by (j := 0) rfl ck_X11_clash_6_15te rfl rfl rfl) (by decide)
theorem gX11_row_X1_addRow : GoodIn wsX11_row (wsV RX11 333 RX1 yX1_addRow wsX1_addRow) := ru_gG (ru_gV tw_5_36 tw_5_37 tw_5_38 tw_1_10 mT_X1_addRow)
theorem gX11_days_X1_plan : GoodIn wsX11_days (wsV RX11 336 RX1 yX1_plan wsX1_plan) := ru_gG (ru_gV tw_5_45 tw_5_46 tw_5_47 tw_1_10 mT_X1_plan)
theorem gX11_days_X1_wayOn : GoodIn wsX11_days (wsV RX11 345 RX1 yX1_wayOn wsX1_wayOn) := ru_gG (ru_gV tw_5_64 tw_5_60 tw_5_61 tw_1_10 mT_X1_wayOn)
theorem dX11_count_0 : decode cX11_count 0 = .ok (.iload_n 1, 1) := dk_0 (dk_k27 0) (dk_by (j := 0) rfl ck_X11_count_0_15te rfl rfl rfl)
theorem dX11_count_1 : decode cX11_count 1 = .ok (.tableswitch 183 0 14 #[75, 80, 85, 93, 98, 106, 114, 122, 130, 138, 146, 154, 162, 170, 178], 75) := by decide +kernel
theorem dX11_count_184 : decode cX11_count 184 = .ok (.bipush (-2), 2) := dk_1 (dk_k16 184) (dk_by (j := 8) rfl ck_X11_count_11_15te rfl rfl rfl) (dk_by (j := 9) rfl ck_X11_count_11_15te rfl rfl rfl) (by decide)
theorem dX11_count_186 : decode cX11_count 186 = .ok (.ireturn, 1) := dk_0 (dk_k172 186) (dk_by (j := 10) rfl ck_X11_count_11_15te rfl rfl rfl)
theorem dX11_count_76 : decode cX11_count 76 = .ok (.aload_n 0, 1) := dk_0 (dk_k42 76) (dk_by (j := 12) rfl ck_X11_count_4_15te rfl rfl rfl)
theorem dX11_count_77 : decode cX11_count 77 = .ok (.getfield 71, 3) := dk_2 (dk_k180 77) (dk_by (j := 13) rfl ck_X11_count_4_15te rfl rfl rfl) (dk_by (j := 14) rfl ck_X11_count_4_15te rfl rfl rfl) (dk_by (j := 15) rfl ck_X11_count_4_15te rfl rfl rfl) (by decide)
theorem dX11_count_80 : decode cX11_count 80 = .ok (.ireturn, 1) := dk_0 (dk_k172 80) (dk_by (j := 0) rfl ck_X11_count_5_15te rfl rfl rfl)
theorem dX11_count_81 : decode cX11_count 81 = .ok (.aload_n 0, 1) := dk_0 (dk_k42 81) (dk_by (j := 1) rfl ck_X11_count_5_15te rfl rfl rfl)
theorem dX11_count_82 : decode cX11_count 82 = .ok (.getfield 75, 3) := dk_2 (dk_k180 82) (dk_by (j := 2) rfl ck_X11_count_5_15te rfl rfl rfl) (dk_by (j := 3) rfl ck_X11_count_5_15te rfl rfl rfl) (dk_by (j := 4) rfl ck_X11_count_5_15te rfl rfl rfl) (by decide)
theorem dX11_count_85 : decode cX11_count 85 = .ok (.ireturn, 1) := dk_0 (dk_k172 85) (dk_by (j := 5) rfl ck_X11_count_5_15te rfl rfl rfl)
theorem dX11_count_86 : decode cX11_count 86 = .ok (.aload_n 0, 1) := dk_0 (dk_k42 86) (dk_by (j := 6) rfl ck_X11_count_5_15te rfl rfl rfl)
theorem dX11_count_87 : decode cX11_count 87 = .ok (.getfield 10, 3) := dk_2 (dk_k180 87) (dk_by (j := 7) rfl ck_X11_count_5_15te rfl rfl rfl) (dk_by (j := 8) rfl ck_X11_count_5_15te rfl rfl rfl) (dk_by (j := 9) rfl ck_X11_count_5_15te rfl rfl rfl) (by decide)
theorem dX11_count_90 : decode cX11_count 90 = .ok (.getfield 94, 3) := dk_2 (dk_k180 90) (dk_by (j := 10) rfl ck_X11_count_5_15te rfl rfl rfl) (dk_by (j := 11) rfl ck_X11_count_5_15te rfl rfl rfl) (dk_by (j := 12) rfl ck_X11_count_5_15te rfl rfl rfl) (by decide)
theorem dX11_count_93 : decode cX11_count 93 = .ok (.ireturn, 1) := dk_0 (dk_k172 93) (dk_by (j := 13) rfl ck_X11_count_5_15te rfl rfl rfl)
theorem dX11_count_94 : decode cX11_count 94 = .ok (.aload_n 0, 1) := dk_0 (dk_k42 94) (dk_by (j := 14) rfl ck_X11_count_5_15te rfl rfl rfl)
theorem dX11_count_95 : decode cX11_count 95 = .ok (.getfield 154, 3) := dk_2 (dk_k180 95) (dk_by (j := 15) rfl ck_X11_count_5_15te rfl rfl rfl) (dk_by (j := 0) rfl ck_X11_count_6_15te rfl rfl rfl) (dk_by (j := 1) rfl ck_X11_count_6_15te rfl rfl rfl) (by decide)
theorem dX11_count_98 : decode cX11_count 98 = .ok (.ireturn, 1) := dk_0 (dk_k172 98) (dk_by (j := 2) rfl ck_X11_count_6_15te rfl rfl rfl)
theorem dX11_count_99 : decode cX11_count 99 = .ok (.aload_n 0, 1) := dk_0 (dk_k42 99) (dk_by (j := 3) rfl ck_X11_count_6_15te rfl rfl rfl)
theorem dX11_count_100 : decode cX11_count 100 = .ok (.getfield 25, 3) := dk_2 (dk_k180 100) (dk_by (j := 4) rfl ck_X11_count_6_15te rfl rfl rfl) (dk_by (j := 5) rfl ck_X11_count_6_15te rfl rfl rfl) (dk_by (j := 6) rfl ck_X11_count_6_15te rfl rfl rfl) (by decide)
theorem dX11_count_103 : decode cX11_count 103 = .ok (.getfield 161, 3) := dk_2 (dk_k180 103) (dk_by (j := 7) rfl ck_X11_count_6_15te rfl rfl rfl) (dk_by (j := 8) rfl ck_X11_count_6_15te rfl rfl rfl) (dk_by (j := 9) rfl ck_X11_count_6_15te rfl rfl rfl) (by decide)
theorem dX11_count_106 : decode cX11_count 106 = .ok (.ireturn, 1) := dk_0 (dk_k172 106) (dk_by (j := 10) rfl ck_X11_count_6_15te rfl rfl rfl)
theorem dX11_count_107 : decode cX11_count 107 = .ok (.aload_n 0, 1) := dk_0 (dk_k42 107) (dk_by (j := 11) rfl ck_X11_count_6_15te rfl rfl rfl)
theorem dX11_count_108 : decode cX11_count 108 = .ok (.getfield 25, 3) := dk_2 (dk_k180 108) (dk_by (j := 12) rfl ck_X11_count_6_15te rfl rfl rfl) (dk_by (j := 13) rfl ck_X11_count_6_15te rfl rfl rfl) (dk_by (j := 14) rfl ck_X11_count_6_15te rfl rfl rfl) (by decide)
theorem dX11_count_111 : decode cX11_count 111 = .ok (.getfield 171, 3) := dk_2 (dk_k180 111) (dk_by (j := 15) rfl ck_X11_count_6_15te rfl rfl rfl) (dk_by (j := 0) rfl ck_X11_count_7_15te rfl rfl rfl) (dk_by (j := 1) rfl ck_X11_count_7_15te rfl rfl rfl) (by decide)
theorem dX11_count_114 : decode cX11_count 114 = .ok (.ireturn, 1) := dk_0 (dk_k172 114) (dk_by (j := 2) rfl ck_X11_count_7_15te rfl rfl rfl)
theorem dX11_count_115 : decode cX11_count 115 = .ok (.aload_n 0, 1) := dk_0 (dk_k42 115) (dk_by (j := 3) rfl ck_X11_count_7_15te rfl rfl rfl)
theorem dX11_count_116 : decode cX11_count 116 = .ok (.getfield 25, 3) := dk_2 (dk_k180 116) (dk_by (j := 4) rfl ck_X11_count_7_15te rfl rfl rfl) (dk_by (j := 5) rfl ck_X11_count_7_15te rfl rfl rfl) (dk_by (j := 6) rfl ck_X11_count_7_15te rfl rfl rfl) (by decide)
theorem dX11_count_119 : decode cX11_count 119 = .ok (.getfield 193, 3) := dk_2 (dk_k180 119) (dk_by (j := 7) rfl ck_X11_count_7_15te rfl rfl rfl) (dk_by (j := 8) rfl ck_X11_count_7_15te rfl rfl rfl) (dk_by (j := 9) rfl ck_X11_count_7_15te rfl rfl rfl) (by decide)
theorem dX11_count_122 : decode cX11_count 122 = .ok (.ireturn, 1) := dk_0 (dk_k172 122) (dk_by (j := 10) rfl ck_X11_count_7_15te rfl rfl rfl)
theorem dX11_count_123 : decode cX11_count 123 = .ok (.aload_n 0, 1) := dk_0 (dk_k42 123) (dk_by (j := 11) rfl ck_X11_count_7_15te rfl rfl rfl)
theorem dX11_count_124 : decode cX11_count 124 = .ok (.getfield 32, 3) := dk_2 (dk_k180 124) (dk_by (j := 12) rfl ck_X11_count_7_15te rfl rfl rfl) (dk_by (j := 13) rfl ck_X11_count_7_15te rfl rfl rfl) (dk_by (j := 14) rfl ck_X11_count_7_15te rfl rfl rfl) (by decide)
theorem dX11_count_127 : decode cX11_count 127 = .ok (.getfield 207, 3) := dk_2 (dk_k180 127) (dk_by (j := 15) rfl ck_X11_count_7_15te rfl rfl rfl) (dk_by (j := 0) rfl ck_X11_count_8_15te rfl rfl rfl) (dk_by (j := 1) rfl ck_X11_count_8_15te rfl rfl rfl) (by decide)
theorem dX11_count_130 : decode cX11_count 130 = .ok (.ireturn, 1) := dk_0 (dk_k172 130) (dk_by (j := 2) rfl ck_X11_count_8_15te rfl rfl rfl)
theorem dX11_count_131 : decode cX11_count 131 = .ok (.aload_n 0, 1) := dk_0 (dk_k42 131) (dk_by (j := 3) rfl ck_X11_count_8_15te rfl rfl rfl)
theorem dX11_count_132 : decode cX11_count 132 = .ok (.getfield 39, 3) := dk_2 (dk_k180 132) (dk_by (j := 4) rfl ck_X11_count_8_15te rfl rfl rfl) (dk_by (j := 5) rfl ck_X11_count_8_15te rfl rfl rfl) (dk_by (j := 6) rfl ck_X11_count_8_15te rfl rfl rfl) (by decide)
theorem dX11_count_135 : decode cX11_count 135 = .ok (.getfield 266, 3) := dk_2 (dk_k180 135) (dk_by (j := 7) rfl ck_X11_count_8_15te rfl rfl rfl) (dk_by (j := 8) rfl ck_X11_count_8_15te rfl rfl rfl) (dk_by (j := 9) rfl ck_X11_count_8_15te rfl rfl rfl) (by decide)
theorem dX11_count_138 : decode cX11_count 138 = .ok (.ireturn, 1) := dk_0 (dk_k172 138) (dk_by (j := 10) rfl ck_X11_count_8_15te rfl rfl rfl)
theorem dX11_count_139 : decode cX11_count 139 = .ok (.aload_n 0, 1) := dk_0 (dk_k42 139) (dk_by (j := 11) rfl ck_X11_count_8_15te rfl rfl rfl)
theorem dX11_count_140 : decode cX11_count 140 = .ok (.getfield 53, 3) := dk_2 (dk_k180 140) (dk_by (j := 12) rfl ck_X11_count_8_15te rfl rfl rfl) (dk_by (j := 13) rfl ck_X11_count_8_15te rfl rfl rfl) (dk_by (j := 14) rfl ck_X11_count_8_15te rfl rfl rfl) (by decide)
theorem dX11_count_143 : decode cX11_count 143 = .ok (.getfield 302, 3) := dk_2 (dk_k180 143) (dk_by (j := 15) rfl ck_X11_count_8_15te rfl rfl rfl) (dk_by (j := 0) rfl ck_X11_count_9_15te rfl rfl rfl) (dk_by (j := 1) rfl ck_X11_count_9_15te rfl rfl rfl) (by decide)
theorem dX11_count_146 : decode cX11_count 146 = .ok (.ireturn, 1) := dk_0 (dk_k172 146) (dk_by (j := 2) rfl ck_X11_count_9_15te rfl rfl rfl)
theorem dX11_count_147 : decode cX11_count 147 = .ok (.aload_n 0, 1) := dk_0 (dk_k42 147) (dk_by (j := 3) rfl ck_X11_count_9_15te rfl rfl rfl)
theorem dX11_count_148 : decode cX11_count 148 = .ok (.getfield 60, 3) := dk_2 (dk_k180 148) (dk_by (j := 4) rfl ck_X11_count_9_15te rfl rfl rfl) (dk_by (j := 5) rfl ck_X11_count_9_15te rfl rfl rfl) (dk_by (j := 6) rfl ck_X11_count_9_15te rfl rfl rfl) (by decide)
theorem dX11_count_151 : decode cX11_count 151 = .ok (.getfield 330, 3) := dk_2 (dk_k180 151) (dk_by (j := 7) rfl ck_X11_count_9_15te rfl rfl rfl) (dk_by (j := 8) rfl ck_X11_count_9_15te rfl rfl rfl) (dk_by (j := 9) rfl ck_X11_count_9_15te rfl rfl rfl) (by decide)
theorem dX11_count_154 : decode cX11_count 154 = .ok (.ireturn, 1) := dk_0 (dk_k172 154) (dk_by (j := 10) rfl ck_X11_count_9_15te rfl rfl rfl)
theorem dX11_count_155 : decode cX11_count 155 = .ok (.aload_n 0, 1) := dk_0 (dk_k42 155) (dk_by (j := 11) rfl ck_X11_count_9_15te rfl rfl rfl)
theorem dX11_count_156 : decode cX11_count 156 = .ok (.getfield 46, 3) := dk_2 (dk_k180 156) (dk_by (j := 12) rfl ck_X11_count_9_15te rfl rfl rfl) (dk_by (j := 13) rfl ck_X11_count_9_15te rfl rfl rfl) (dk_by (j := 14) rfl ck_X11_count_9_15te rfl rfl rfl) (by decide)
theorem dX11_count_159 : decode cX11_count 159 = .ok (.getfield 280, 3) := dk_2 (dk_k180 159) (dk_by (j := 15) rfl ck_X11_count_9_15te rfl rfl rfl) (dk_by (j := 0) rfl ck_X11_count_10_15te rfl rfl rfl) (dk_by (j := 1) rfl ck_X11_count_10_15te rfl rfl rfl) (by decide)
theorem dX11_count_162 : decode cX11_count 162 = .ok (.ireturn, 1) := dk_0 (dk_k172 162) (dk_by (j := 2) rfl ck_X11_count_10_15te rfl rfl rfl)
theorem dX11_count_163 : decode cX11_count 163 = .ok (.aload_n 0, 1) := dk_0 (dk_k42 163) (dk_by (j := 3) rfl ck_X11_count_10_15te rfl rfl rfl)
theorem dX11_count_164 : decode cX11_count 164 = .ok (.getfield 46, 3) := dk_2 (dk_k180 164) (dk_by (j := 4) rfl ck_X11_count_10_15te rfl rfl rfl) (dk_by (j := 5) rfl ck_X11_count_10_15te rfl rfl rfl) (dk_by (j := 6) rfl ck_X11_count_10_15te rfl rfl rfl) (by decide)
theorem dX11_count_167 : decode cX11_count 167 = .ok (.getfield 271, 3) := dk_2 (dk_k180 167) (dk_by (j := 7) rfl ck_X11_count_10_15te rfl rfl rfl) (dk_by (j := 8) rfl ck_X11_count_10_15te rfl rfl rfl) (dk_by (j := 9) rfl ck_X11_count_10_15te rfl rfl rfl) (by decide)
theorem dX11_count_170 : decode cX11_count 170 = .ok (.ireturn, 1) := dk_0 (dk_k172 170) (dk_by (j := 10) rfl ck_X11_count_10_15te rfl rfl rfl)
theorem dX11_count_171 : decode cX11_count 171 = .ok (.aload_n 0, 1) := dk_0 (dk_k42 171) (dk_by (j := 11) rfl ck_X11_count_10_15te rfl rfl rfl)
theorem dX11_count_172 : decode cX11_count 172 = .ok (.getfield 46, 3) := dk_2 (dk_k180 172) (dk_by (j := 12) rfl ck_X11_count_10_15te rfl rfl rfl) (dk_by (j := 13) rfl ck_X11_count_10_15te rfl rfl rfl) (dk_by (j := 14) rfl ck_X11_count_10_15te rfl rfl rfl) (by decide)
theorem dX11_count_175 : decode cX11_count 175 = .ok (.getfield 283, 3) := dk_2 (dk_k180 175) (dk_by (j := 15) rfl ck_X11_count_10_15te rfl rfl rfl) (dk_by (j := 0) rfl ck_X11_count_11_15te rfl rfl rfl) (dk_by (j := 1) rfl ck_X11_count_11_15te rfl rfl rfl) (by decide)
theorem dX11_count_178 : decode cX11_count 178 = .ok (.ireturn, 1) := dk_0 (dk_k172 178) (dk_by (j := 2) rfl ck_X11_count_11_15te rfl rfl rfl)
theorem dX11_count_179 : decode cX11_count 179 = .ok (.aload_n 0, 1) := dk_0 (dk_k42 179) (dk_by (j := 3) rfl ck_X11_count_11_15te rfl rfl rfl)
theorem dX11_count_180 : decode cX11_count 180 = .ok (.getfield 253, 3) := dk_2 (dk_k180 180) (dk_by (j := 4) rfl ck_X11_count_11_15te rfl rfl rfl) (dk_by (j := 5) rfl ck_X11_count_11_15te rfl rfl rfl) (dk_by (j := 6) rfl ck_X11_count_11_15te rfl rfl rfl) (by decide)
theorem dX11_count_183 : decode cX11_count 183 = .ok (.ireturn, 1) := dk_0 (dk_k172 183) (dk_by (j := 7) rfl ck_X11_count_11_15te rfl rfl rfl)
theorem gX11_sheet_X11_sheetAt : GoodIn wsX11_sheet (wsV RX11 348 RX11 yX11_sheetAt wsX11_sheetAt) := ru_gG (ru_gV tw_5_73 tw_5_75 tw_0_28 tw_1_1 mT_X11_sheetAt)
theorem gX11_sheet_X7_become : GoodIn wsX11_sheet (wsV RX11 352 RX7 yX7_become wsX7_become) := ru_gG (ru_gV tw_5_77 tw_5_78 tw_5_79 tw_1_11 mT_X7_become)
theorem gX11_cell_X11_sheetAt : GoodIn wsX11_cell (wsV RX11 348 RX11 yX11_sheetAt wsX11_sheetAt) := ru_gG (ru_gV tw_5_73 tw_5_75 tw_0_28 tw_1_1 mT_X11_sheetAt)
theorem gX11_cell_X7_hasItem : GoodIn wsX11_cell (wsV RX11 358 RX7 yX7_hasItem wsX7_hasItem) := ru_gG (ru_gV tw_5_85 tw_5_86 tw_5_87 tw_1_11 mT_X7_hasItem)
theorem gX11_cell_X7_put : GoodIn wsX11_cell (wsV RX11 361 RX7 yX7_put wsX7_put) := ru_gG (ru_gV tw_5_89 tw_5_90 tw_5_91 tw_1_11 mT_X7_put)
theorem gX11_copy_X11_sheetAt : GoodIn wsX11_copy (wsV RX11 348 RX11 yX11_sheetAt wsX11_sheetAt) := ru_gG (ru_gV tw_5_73 tw_5_75 tw_0_28 tw_1_1 mT_X11_sheetAt)
theorem gX11_copy_X7_hasStretch : GoodIn wsX11_copy (wsV RX11 364 RX7 yX7_hasStretch wsX7_hasStretch) := ru_gG (ru_gV tw_5_97 tw_5_98 tw_5_99 tw_1_11 mT_X7_hasStretch)
theorem dX11_fixes_0 : decode cX11_fixes 0 = .ok (.aload_n 0, 1) := dk_0 (dk_k42 0) (dk_by (j := 0) rfl ck_X11_fixes_0_15te rfl rfl rfl)
theorem dX11_fixes_1 : decode cX11_fixes 1 = .ok (.iload_n 1, 1) := dk_0 (dk_k27 1) (dk_by (j := 1) rfl ck_X11_fixes_0_15te rfl rfl rfl)
theorem gX11_fixes_X11_bodyAt : GoodIn wsX11_fixes (wsV RX11 78 RX11 yX11_bodyAt wsX11_bodyAt) := ru_gG (ru_gV tw_2_139 tw_2_141 tw_0_0 tw_1_1 mT_X11_bodyAt)
theorem dX11_fixes_2 : decode cX11_fixes 2 = .ok (.invokevirtual 78, 3) := dk_2 (dk_k182 2) (dk_by (j := 2) rfl ck_X11_fixes_0_15te rfl rfl rfl) (dk_by (j := 3) rfl ck_X11_fixes_0_15te rfl rfl rfl) (dk_by (j := 4) rfl ck_X11_fixes_0_15te rfl rfl rfl) (by decide)
theorem dX11_fixes_7 : decode cX11_fixes 7 = .ok (.aload_n 0, 1) := dk_0 (dk_k42 7) (dk_by (j := 7) rfl ck_X11_fixes_0_15te rfl rfl rfl)
theorem dX11_fixes_8 : decode cX11_fixes 8 = .ok (.iload_n 2, 1) := dk_0 (dk_k28 8) (dk_by (j := 8) rfl ck_X11_fixes_0_15te rfl rfl rfl)
theorem gX11_fixes_X11_sheetAt : GoodIn wsX11_fixes (wsV RX11 348 RX11 yX11_sheetAt wsX11_sheetAt) := ru_gG (ru_gV tw_5_73 tw_5_75 tw_0_28 tw_1_1 mT_X11_sheetAt)
theorem dX11_fixes_9 : decode cX11_fixes 9 = .ok (.invokevirtual 348, 3) := dk_2 (dk_k182 9) (dk_by (j := 9) rfl ck_X11_fixes_0_15te rfl rfl rfl) (dk_by (j := 10) rfl ck_X11_fixes_0_15te rfl rfl rfl) (dk_by (j := 11) rfl ck_X11_fixes_0_15te rfl rfl rfl) (by decide)
theorem dX11_fixes_45 : decode cX11_fixes 45 = .ok (.bipush (-2), 2) := dk_1 (dk_k16 45) (dk_by (j := 13) rfl ck_X11_fixes_2_15te rfl rfl rfl) (dk_by (j := 14) rfl ck_X11_fixes_2_15te rfl rfl rfl) (by decide)
theorem dX11_fixes_47 : decode cX11_fixes 47 = .ok (.ireturn, 1) := dk_0 (dk_k172 47) (dk_by (j := 15) rfl ck_X11_fixes_2_15te rfl rfl rfl)
theorem dX11_fixes_24 : decode cX11_fixes 24 = .ok (.iload_n 3, 1) := dk_0 (dk_k29 24) (dk_by (j := 8) rfl ck_X11_fixes_1_15te rfl rfl rfl)
theorem dX11_fixes_25 : decode cX11_fixes 25 = .ok (.ifCond .lt 20, 3) := dk_s (dk_k155 25) (dk_by (j := 9) rfl ck_X11_fixes_1_15te rfl rfl rfl) (dk_by (j := 10) rfl ck_X11_fixes_1_15te rfl rfl rfl) (dk_by (j := 11) rfl ck_X11_fixes_1_15te rfl rfl rfl) (by decide)
theorem dX11_fixes_28 : decode cX11_fixes 28 = .ok (.iload_n 3, 1) := dk_0 (dk_k29 28) (dk_by (j := 12) rfl ck_X11_fixes_1_15te rfl rfl rfl)
theorem dX11_fixes_29 : decode cX11_fixes 29 = .ok (.iconst 3, 1) := dk_0 (dk_k6 29) (dk_by (j := 13) rfl ck_X11_fixes_1_15te rfl rfl rfl)
theorem dX11_fixes_30 : decode cX11_fixes 30 = .ok (.if_icmp .ge 15, 3) := dk_s (dk_k162 30) (dk_by (j := 14) rfl ck_X11_fixes_1_15te rfl rfl rfl) (dk_by (j := 15) rfl ck_X11_fixes_1_15te rfl rfl rfl) (dk_by (j := 0) rfl ck_X11_fixes_2_15te rfl rfl rfl) (by decide)
theorem dX11_fixes_35 : decode cX11_fixes 35 = .ok (.ifCond .lt 10, 3) := dk_s (dk_k155 35) (dk_by (j := 3) rfl ck_X11_fixes_2_15te rfl rfl rfl) (dk_by (j := 4) rfl ck_X11_fixes_2_15te rfl rfl rfl) (dk_by (j := 5) rfl ck_X11_fixes_2_15te rfl rfl rfl) (by decide)
theorem dX11_fixes_40 : decode cX11_fixes 40 = .ok (.bipush 20, 2) := dk_1 (dk_k16 40) (dk_by (j := 8) rfl ck_X11_fixes_2_15te rfl rfl rfl) (dk_by (j := 9) rfl ck_X11_fixes_2_15te rfl rfl rfl) (by decide)
theorem dX11_fixes_42 : decode cX11_fixes 42 = .ok (.if_icmp .le 6, 3) := dk_s (dk_k164 42) (dk_by (j := 10) rfl ck_X11_fixes_2_15te rfl rfl rfl) (dk_by (j := 11) rfl ck_X11_fixes_2_15te rfl rfl rfl) (dk_by (j := 12) rfl ck_X11_fixes_2_15te rfl rfl rfl) (by decide)
theorem dX11_fixes_71 : decode cX11_fixes 71 = .ok (.getfield 355, 3) := dk_2 (dk_k180 71) (dk_by (j := 7) rfl ck_X11_fixes_4_15te rfl rfl rfl) (dk_by (j := 8) rfl ck_X11_fixes_4_15te rfl rfl rfl) (dk_by (j := 9) rfl ck_X11_fixes_4_15te rfl rfl rfl) (by decide)
theorem dX11_fixes_74 : decode cX11_fixes 74 = .ok (.iconst (-1), 1) := dk_0 (dk_k2 74) (dk_by (j := 10) rfl ck_X11_fixes_4_15te rfl rfl rfl)
theorem dX11_fixes_75 : decode cX11_fixes 75 = .ok (.if_icmp .ne 6, 3) := dk_s (dk_k160 75) (dk_by (j := 11) rfl ck_X11_fixes_4_15te rfl rfl rfl) (dk_by (j := 12) rfl ck_X11_fixes_4_15te rfl rfl rfl) (dk_by (j := 13) rfl ck_X11_fixes_4_15te rfl rfl rfl) (by decide)
theorem dX11_fixes_81 : decode cX11_fixes 81 = .ok (.iconst 0, 1) := dk_0 (dk_k3 81) (dk_by (j := 1) rfl ck_X11_fixes_5_15te rfl rfl rfl)
theorem dX11_fixes_88 : decode cX11_fixes 88 = .ok (.iconst 0, 1) := dk_0 (dk_k3 88) (dk_by (j := 8) rfl ck_X11_fixes_5_15te rfl rfl rfl)
theorem dX11_fixes_95 : decode cX11_fixes 95 = .ok (.if_icmp .ge 69, 3) := dk_s (dk_k162 95) (dk_by (j := 15) rfl ck_X11_fixes_5_15te rfl rfl rfl) (dk_by (j := 0) rfl ck_X11_fixes_6_15te rfl rfl rfl) (dk_by (j := 1) rfl ck_X11_fixes_6_15te rfl rfl rfl) (by decide)
theorem dX11_fixes_166 : decode cX11_fixes 166 = .ok (.ireturn, 1) := dk_0 (dk_k172 166) (dk_by (j := 6) rfl ck_X11_fixes_10_15te rfl rfl rfl)
theorem dX11_fixes_102 : decode cX11_fixes 102 = .ok (.iconst 2, 1) := dk_0 (dk_k5 102) (dk_by (j := 6) rfl ck_X11_fixes_6_15te rfl rfl rfl)
theorem gX11_fixes_X7_hasStretch : GoodIn wsX11_fixes (wsV RX11 364 RX7 yX7_hasStretch wsX7_hasStretch) := ru_gG (ru_gV tw_5_97 tw_5_98 tw_5_99 tw_1_11 mT_X7_hasStretch)
theorem dX11_fixes_103 : decode cX11_fixes 103 = .ok (.invokevirtual 364, 3) := dk_2 (dk_k182 103) (dk_by (j := 7) rfl ck_X11_fixes_6_15te rfl rfl rfl) (dk_by (j := 8) rfl ck_X11_fixes_6_15te rfl rfl rfl) (dk_by (j := 9) rfl ck_X11_fixes_6_15te rfl rfl rfl) (by decide)
theorem dX11_fixes_106 : decode cX11_fixes 106 = .ok (.ifCond .ne 6, 3) := dk_s (dk_k154 106) (dk_by (j := 10) rfl ck_X11_fixes_6_15te rfl rfl rfl) (dk_by (j := 11) rfl ck_X11_fixes_6_15te rfl rfl rfl) (dk_by (j := 12) rfl ck_X11_fixes_6_15te rfl rfl rfl) (by decide)
theorem dX11_fixes_114 : decode cX11_fixes 114 = .ok (.getfield 367, 3) := dk_2 (dk_k180 114) (dk_by (j := 2) rfl ck_X11_fixes_7_15te rfl rfl rfl) (dk_by (j := 3) rfl ck_X11_fixes_7_15te rfl rfl rfl) (dk_by (j := 4) rfl ck_X11_fixes_7_15te rfl rfl rfl) (by decide)
theorem dX11_fixes_119 : decode cX11_fixes 119 = .ok (.iconst 1, 1) := dk_0 (dk_k4 119) (dk_by (j := 7) rfl ck_X11_fixes_7_15te rfl rfl rfl)
theorem dX11_fixes_120 : decode cX11_fixes 120 = .ok (.iadd, 1) := dk_0 (dk_k96 120) (dk_by (j := 8) rfl ck_X11_fixes_7_15te rfl rfl rfl)
theorem dX11_fixes_121 : decode cX11_fixes 121 = .ok (.iaload, 1) := dk_0 (dk_k46 121) (dk_by (j := 9) rfl ck_X11_fixes_7_15te rfl rfl rfl)
theorem gX11_fixes_X11_isCell : GoodIn wsX11_fixes (va_wsS RX11 110 yX11_isCell wsX11_isCell) := ru_gG (ru_gS tw_2_195 tw_2_196 tw_1_1 mT_X11_isCell)
theorem dX11_fixes_126 : decode cX11_fixes 126 = .ok (.invokestatic 110, 3) := dk_2 (dk_k184 126) (dk_by (j := 14) rfl ck_X11_fixes_7_15te rfl rfl rfl) (dk_by (j := 15) rfl ck_X11_fixes_7_15te rfl rfl rfl) (dk_by (j := 0) rfl ck_X11_fixes_8_15te rfl rfl rfl) (by decide)
theorem dX11_fixes_129 : decode cX11_fixes 129 = .ok (.ifCond .eq 26, 3) := dk_s (dk_k153 129) (dk_by (j := 1) rfl ck_X11_fixes_8_15te rfl rfl rfl) (dk_by (j := 2) rfl ck_X11_fixes_8_15te rfl rfl rfl) (dk_by (j := 3) rfl ck_X11_fixes_8_15te rfl rfl rfl) (by decide)
theorem dX11_fixes_132 : decode cX11_fixes 132 = .ok (.aload_n 0, 1) := dk_0 (dk_k42 132) (dk_by (j := 4) rfl ck_X11_fixes_8_15te rfl rfl rfl)
theorem dX11_fixes_133 : decode cX11_fixes 133 = .ok (.iload_n 1, 1) := dk_0 (dk_k27 133) (dk_by (j := 5) rfl ck_X11_fixes_8_15te rfl rfl rfl)
theorem dX11_fixes_136 : decode cX11_fixes 136 = .ok (.getfield 367, 3) := dk_2 (dk_k180 136) (dk_by (j := 8) rfl ck_X11_fixes_8_15te rfl rfl rfl) (dk_by (j := 9) rfl ck_X11_fixes_8_15te rfl rfl rfl) (dk_by (j := 10) rfl ck_X11_fixes_8_15te rfl rfl rfl) (by decide)
theorem dX11_fixes_141 : decode cX11_fixes 141 = .ok (.iaload, 1) := dk_0 (dk_k46 141) (dk_by (j := 13) rfl ck_X11_fixes_8_15te rfl rfl rfl)
theorem dX11_fixes_142 : decode cX11_fixes 142 = .ok (.lconst 1, 1) := dk_0 (dk_k10 142) (dk_by (j := 14) rfl ck_X11_fixes_8_15te rfl rfl rfl)
theorem dX11_fixes_145 : decode cX11_fixes 145 = .ok (.lshl, 1) := dk_0 (dk_k121 145) (dk_by (j := 1) rfl ck_X11_fixes_9_15te rfl rfl rfl)
theorem gX11_fixes_X11_fix : GoodIn wsX11_fixes (wsV RX11 376 RX11 yX11_fix wsX11_fix) := ru_gG (ru_gV tw_5_106 tw_3_71 tw_3_72 tw_1_1 mT_X11_fix)
theorem dX11_fixes_146 : decode cX11_fixes 146 = .ok (.invokevirtual 376, 3) := dk_2 (dk_k182 146) (dk_by (j := 2) rfl ck_X11_fixes_9_15te rfl rfl rfl) (dk_by (j := 3) rfl ck_X11_fixes_9_15te rfl rfl rfl) (dk_by (j := 4) rfl ck_X11_fixes_9_15te rfl rfl rfl) (by decide)
theorem dX11_fixes_149 : decode cX11_fixes 149 = .ok (.ifCond .le 6, 3) := dk_s (dk_k158 149) (dk_by (j := 5) rfl ck_X11_fixes_9_15te rfl rfl rfl) (dk_by (j := 6) rfl ck_X11_fixes_9_15te rfl rfl rfl) (dk_by (j := 7) rfl ck_X11_fixes_9_15te rfl rfl rfl) (by decide)
theorem dX11_fixes_161 : decode cX11_fixes 161 = .ok (.goto (-70), 3) := dk_s (dk_k167 161) (dk_by (j := 1) rfl ck_X11_fixes_10_15te rfl rfl rfl) (dk_by (j := 2) rfl ck_X11_fixes_10_15te rfl rfl rfl) (dk_by (j := 3) rfl ck_X11_fixes_10_15te rfl rfl rfl) (by decide)
theorem dX11_fixes_109 : decode cX11_fixes 109 = .ok (.bipush (-12), 2) := dk_1 (dk_k16 109) (dk_by (j := 13) rfl ck_X11_fixes_6_15te rfl rfl rfl) (dk_by (j := 14) rfl ck_X11_fixes_6_15te rfl rfl rfl) (by decide)
theorem dX11_fixes_111 : decode cX11_fixes 111 = .ok (.ireturn, 1) := dk_0 (dk_k172 111) (dk_by (j := 15) rfl ck_X11_fixes_6_15te rfl rfl rfl)
theorem dX11_fixes_78 : decode cX11_fixes 78 = .ok (.bipush (-11), 2) := dk_1 (dk_k16 78) (dk_by (j := 14) rfl ck_X11_fixes_4_15te rfl rfl rfl) (dk_by (j := 15) rfl ck_X11_fixes_4_15te rfl rfl rfl) (by decide)
theorem dX11_fixes_80 : decode cX11_fixes 80 = .ok (.ireturn, 1) := dk_0 (dk_k172 80) (dk_by (j := 0) rfl ck_X11_fixes_5_15te rfl rfl rfl)
theorem dX11_fixes_50 : decode cX11_fixes 50 = .ok (.getfield 355, 3) := dk_2 (dk_k180 50) (dk_by (j := 2) rfl ck_X11_fixes_3_15te rfl rfl rfl) (dk_by (j := 3) rfl ck_X11_fixes_3_15te rfl rfl rfl) (dk_by (j := 4) rfl ck_X11_fixes_3_15te rfl rfl rfl) (by decide)
theorem dX11_fixes_53 : decode cX11_fixes 53 = .ok (.iconst (-1), 1) := dk_0 (dk_k2 53) (dk_by (j := 5) rfl ck_X11_fixes_3_15te rfl rfl rfl)
theorem dX11_fixes_54 : decode cX11_fixes 54 = .ok (.if_icmp .eq 15, 3) := dk_s (dk_k159 54) (dk_by (j := 6) rfl ck_X11_fixes_3_15te rfl rfl rfl) (dk_by (j := 7) rfl ck_X11_fixes_3_15te rfl rfl rfl) (dk_by (j := 8) rfl ck_X11_fixes_3_15te rfl rfl rfl) (by decide)
theorem dX11_fixes_59 : decode cX11_fixes 59 = .ok (.getfield 355, 3) := dk_2 (dk_k180 59) (dk_by (j := 11) rfl ck_X11_fixes_3_15te rfl rfl rfl) (dk_by (j := 12) rfl ck_X11_fixes_3_15te rfl rfl rfl) (dk_by (j := 13) rfl ck_X11_fixes_3_15te rfl rfl rfl) (by decide)
theorem dX11_fixes_62 : decode cX11_fixes 62 = .ok (.iload_n 3, 1) := dk_0 (dk_k29 62) (dk_by (j := 14) rfl ck_X11_fixes_3_15te rfl rfl rfl)
theorem dX11_fixes_63 : decode cX11_fixes 63 = .ok (.if_icmp .eq 6, 3) := dk_s (dk_k159 63) (dk_by (j := 15) rfl ck_X11_fixes_3_15te rfl rfl rfl) (dk_by (j := 0) rfl ck_X11_fixes_4_15te rfl rfl rfl) (dk_by (j := 1) rfl ck_X11_fixes_4_15te rfl rfl rfl) (by decide)
theorem dX11_fixes_66 : decode cX11_fixes 66 = .ok (.bipush (-13), 2) := dk_1 (dk_k16 66) (dk_by (j := 2) rfl ck_X11_fixes_4_15te rfl rfl rfl) (dk_by (j := 3) rfl ck_X11_fixes_4_15te rfl rfl rfl) (by decide)
theorem dX11_fixes_68 : decode cX11_fixes 68 = .ok (.ireturn, 1) := dk_0 (dk_k172 68) (dk_by (j := 4) rfl ck_X11_fixes_4_15te rfl rfl rfl)
theorem gX11_taken_X11_bodyAt : GoodIn wsX11_taken (wsV RX11 78 RX11 yX11_bodyAt wsX11_bodyAt) := ru_gG (ru_gV tw_2_139 tw_2_141 tw_0_0 tw_1_1 mT_X11_bodyAt)
theorem gX11_taken_X0_isUnder : GoodIn wsX11_taken (wsV RX11 379 RX0 yX0_isUnder wsX0_isUnder) := ru_gG (ru_gV tw_3_173 tw_3_174 tw_3_175 tw_1_18 mT_X0_isUnder)
set_option maxHeartbeats 400000 in
set_option maxRecDepth 20000 in
theorem fc_X11_stays (l : Launch) (D : va_G) (ad : Nat → Nat → Nat) (C : Nat → Nat → ClassId) (nb : Nat) (M : fm_M) (hI : fm_I nb ad M) (p0 : Int32) : Met l yX11_stays wsX11_stays ({ frames := 0, cells := 0, slots := 0, locals := 0 }) (va_Pc [.ref (ad 0 0), .int p0] (fm_P D ad C nb M)) (va_Qi (fun (r : Int32) (u : fm_M) => fm_I nb ad u ∧ fm_same [12] M u ∧ ((¬ (0 ≤ p0.toInt ∧ p0.toInt ≤ 9) ∧ r.toInt = -2 ∧ (u.1 0 0 12).toInt = (M.1 0 0 12).toInt) ∨ ((0 ≤ p0.toInt ∧ p0.toInt ≤ 9) ∧ r.toInt = (M.1 0 0 12).toInt ∧ (u.1 0 0 12).toInt = p0.toInt))) (fun u t => fm_at D ad C nb u t.heap) (fm_A nb ad)) 0 0 (fm_A nb ad) := by
  refine Met.ofW (cc := cX11_stays) (maxL := 3) (ret := (some .int)) (by decide) rfl ?_
  intro p e s m args below meth c s₁ B hml hv
  obtain ⟨rfl, hw, hc⟩ := hv
  have hx := B.exec
  have hb := B.bytes
  have hr := B.returns
  have hts := atoms_spec (ws := wsX11_stays) B.pre
  have hown : s.vm.findClass RX11 = some m.cls := findClass_of_methodNamed B.named
  have hinX11 : ∀ w ∈ u_ws RX11 TX11 13, w ∈ wsX11_stays := fun w h => List.mem_cons_of_mem _ (iT_X11 w h)
  have hS : va_S (fm_A nb ad) s.heap s.heap [] := va_S.rf
  have hE : fm_same [12] M M := fm_same.rf
  have hl := lv_entry ([.ref (ad 0 0), .int p0]) (n := 3) (Nat.le_of_ble_eq_true rfl)
  rw [lg_entry_eq]
  generalize (lg_sl ([.ref (ad 0 0), .int p0]) ++ List.replicate (3 - (lg_sl ([.ref (ad 0 0), .int p0])).length) Slot.unset).toArray = ls at hl ⊢
  have hl : lv_has ls 3 [(0, .ref (ad 0 0)), (1, .int p0)] := hl
  refine lv_iload_n hx hb dX11_stays_0 rfl (lv_at hl 1 rfl) ?_
  refine fx_if_lt (tgt := 10) hx hb dX11_stays_1 (by decide) rfl (fun c1 => ?_) (fun c1 => ?_)
  · refine lv_bipush (v := (-2)) hx hb dX11_stays_10 (by decide) ?_
    exact W.iret (v := (-2)) hx hb hr (fun t ht hW => ⟨⟨(-2), M, rfl, ⟨hI, hE, Or.inl ⟨by omega, zk_m2, rfl⟩⟩, by show fm_at D ad C nb _ t.heap; rw [ht]; exact hw⟩, hS.F ht⟩) hS.2.2 dX11_stays_12
  · refine lv_iload_n hx hb dX11_stays_4 rfl (lv_at hl 1 rfl) ?_
    refine lv_bipush (v := 9) hx hb dX11_stays_5 (by decide) ?_
    refine fx_icmp_le (tgt := 13) hx hb dX11_stays_7 (by decide) rfl zk_9 (fun c2 => ?_) (fun c2 => ?_)
    · refine lv_aload_n hx hb dX11_stays_13 rfl (lv_at hl 0 rfl) ?_
      refine fm_getI (a := 0) (j := 12) (T := TX11) (N := 13) hx hb hts hinX11 hown hc hw hI kl_0 sh_0 rfl (by decide) rfl bd_0_12 (hts (.fieldLink RX11 253 "RedTent" "stayHours" "I") (List.mem_cons_of_mem _ tw_2_107)) (fun _ h9 => h9) dX11_stays_14 (fun x3 ex3 bx3 => ?_)
      refine lv_istore_n (lv' := [(2, .int x3), (0, .ref (ad 0 0)), (1, .int p0)]) hx hb dX11_stays_17 rfl hl (by decide) rfl (fun ls hl => ?_)
      refine lv_aload_n hx hb dX11_stays_18 rfl (lv_at hl 1 rfl) ?_
      refine lv_iload_n hx hb dX11_stays_19 rfl (lv_at hl 2 rfl) ?_
      refine fm_putI (a := 0) (j := 12) (T := TX11) (N := 13) hx hb hts hinX11 tyX11 tyX11_ok nmX11 hown hc hw hI hE hS kl_0 sh_0 od_0 rfl (by decide) rfl bd_0_12 (hts (.fieldLink RX11 253 "RedTent" "stayHours" "I") (List.mem_cons_of_mem _ tw_2_107)) (fun _ h9 => h9) rfl (by decide +kernel) (by omega) (by decide) (by decide) dX11_stays_20 (fun M4 H locs eM4 hw hI hE hS => ?_)
      refine lv_iload_n hx hb dX11_stays_23 rfl (lv_at hl 0 rfl) ?_
      have qx3 : x3.toInt = (M.1 0 0 12).toInt := by rw [ex3]
      exact W.iret (v := x3) hx hb hr (fun t ht hW => ⟨⟨x3, M4, rfl, ⟨hI, hE, Or.inr ⟨by omega, by omega, by rw [eM4, fm_wI_at]⟩⟩, by show fm_at D ad C nb _ t.heap; rw [ht]; exact hw⟩, hS.F ht⟩) hS.2.2 dX11_stays_24
    · refine lv_bipush (v := (-2)) hx hb dX11_stays_10 (by decide) ?_
      exact W.iret (v := (-2)) hx hb hr (fun t ht hW => ⟨⟨(-2), M, rfl, ⟨hI, hE, Or.inl ⟨by omega, zk_m2, rfl⟩⟩, by show fm_at D ad C nb _ t.heap; rw [ht]; exact hw⟩, hS.F ht⟩) hS.2.2 dX11_stays_12
set_option maxHeartbeats 400000 in
set_option maxRecDepth 20000 in
theorem fc_X11_comes (l : Launch) (D : va_G) (ad : Nat → Nat → Nat) (C : Nat → Nat → ClassId) (nb : Nat) (M : fm_M) (hI : fm_I nb ad M) (p0 p1 p2 p3 : Int32) : Met l yX11_comes wsX11_comes ({ frames := 3, cells := 0, slots := 0, locals := 69 }) (va_Pc [.ref (ad 0 0), .int p0, .int p1, .int p2, .int p3] (fm_P D ad C nb M)) (vp_Si (fun r : Int32 => True)) 0 0 (fun _ => False) := by
  refine Met.ofW (cc := cX11_comes) (maxL := 6) (ret := (some .int)) (by decide) rfl ?_
  intro p e s m args below meth c s₁ B hml hv
  obtain ⟨rfl, hw, hc⟩ := hv
  have hx := B.exec
  have hb := B.bytes
  have hr := B.returns
  have hts := atoms_spec (ws := wsX11_comes) B.pre
  have hown : s.vm.findClass RX11 = some m.cls := findClass_of_methodNamed B.named
  have hS : va_S (fm_A nb ad) s.heap s.heap [] := va_S.rf
  have hl := lv_entry ([.ref (ad 0 0), .int p0, .int p1, .int p2, .int p3]) (n := 6) (Nat.le_of_ble_eq_true rfl)
  rw [lg_entry_eq]
  generalize (lg_sl ([.ref (ad 0 0), .int p0, .int p1, .int p2, .int p3]) ++ List.replicate (6 - (lg_sl ([.ref (ad 0 0), .int p0, .int p1, .int p2, .int p3])).length) Slot.unset).toArray = ls at hl ⊢
  have hl : lv_has ls 6 [(0, .ref (ad 0 0)), (1, .int p0), (2, .int p1), (3, .int p2), (4, .int p3)] := hl
  refine lv_aload_n hx hb dX11_comes_0 rfl (lv_at hl 0 rfl) ?_
  refine lv_iload_n hx hb dX11_comes_1 rfl (lv_at hl 1 rfl) ?_
  refine va_csq (va_Run.run (va_runV (As := [.int p0]) (rest := []) ⟨hx, hb, hml, hown, hts⟩ (fc_X11_seekerAt l D ad C nb M hI p0) (cwV 1 hts gX11_comes_X11_seekerAt rfl rfl rfl (by decide +kernel) ⟨Nat.le_of_ble_eq_true rfl, Nat.le_of_ble_eq_true rfl⟩) (fm_preV hc hw hS kl_0 sh_0 rfl) rfl rfl hl.1 rfl (lv_room (Nat.le_of_ble_eq_true rfl)) dX11_comes_2 ⟨by decide +kernel, by decide +kernel⟩)) (fun r1 hr1 => ?_)
  rcases hr1 with ⟨rfl, hr1n⟩ | ⟨hr1l, hr1u, hr1x, rfl⟩
  · refine lv_astoreN (lv' := [(5, .null), (0, .ref (ad 0 0)), (1, .int p0), (2, .int p1), (3, .int p2), (4, .int p3)]) hx hb dX11_comes_5 hl (by decide) rfl (fun ls hl => ?_)
    refine lv_aloadN hx hb dX11_comes_7 (lv_at hl 0 rfl) ?_
    refine lv_ifnullN (tgt := 39) hx hb dX11_comes_9 (by decide) ?_
    refine lv_bipush (v := (-2)) hx hb dX11_comes_39 (by decide) ?_
    exact W.iret (v := (-2)) hx hb hr (fun t ht hW => ⟨(-2), rfl, trivial, ht⟩) (fun _ h => absurd h List.not_mem_nil) dX11_comes_41
  · have khr1 : p0.toNatClampNeg < nb := zi_cln ⟨hr1l, hr1u⟩
    have nhr1 : nb ≤ 12 := hI.2.2.2.2.2.2.2
    refine lv_astore (lv' := [(5, .ref (ad 50 p0.toNatClampNeg)), (0, .ref (ad 0 0)), (1, .int p0), (2, .int p1), (3, .int p2), (4, .int p3)]) hx hb dX11_comes_5 hl (by decide) rfl (fun ls hl => ?_)
    refine lv_aload hx hb dX11_comes_7 (lv_at hl 0 rfl) ?_
    refine lv_ifnull hx hb dX11_comes_9 ?_
    refine lv_iload_n hx hb dX11_comes_12 rfl (lv_at hl 3 rfl) ?_
    refine vp_callSi (va_Run.run (va_runS (As := [.int p1]) (rest := []) ⟨hx, hb, hml, hown, hts⟩ (fc_X11_isCell l p1) (va_cwS 1 hts gX11_comes_X11_isCell rfl rfl rfl (by decide +kernel) ⟨Nat.le_of_ble_eq_true rfl, Nat.le_of_ble_eq_true rfl⟩) ⟨fun a U g mk q => q, fun U hU hW => ⟨rfl, trivial⟩⟩ rfl rfl hl.1 rfl (lv_room (Nat.le_of_ble_eq_true rfl)) dX11_comes_13 ⟨by decide +kernel, by decide +kernel⟩)) (fun r2 hr2 => ?_)
    rcases hr2 with ⟨rfl, c3⟩ | ⟨rfl, c3⟩
    · refine fx_if_eq (tgt := 39) hx hb dX11_comes_16 (by decide) zk_1 (fun c4 => by exfalso; omega) (fun c4 => ?_)
      refine lv_iload_n hx hb dX11_comes_19 rfl (lv_at hl 4 rfl) ?_
      refine vp_callSi (va_Run.run (va_runS (As := [.int p2]) (rest := []) ⟨hx, hb, hml, hown, hts⟩ (fc_X11_isCell l p2) (va_cwS 1 hts gX11_comes_X11_isCell rfl rfl rfl (by decide +kernel) ⟨Nat.le_of_ble_eq_true rfl, Nat.le_of_ble_eq_true rfl⟩) ⟨fun a U g mk q => q, fun U hU hW => ⟨rfl, trivial⟩⟩ rfl rfl hl.1 rfl (lv_room (Nat.le_of_ble_eq_true rfl)) dX11_comes_20 ⟨by decide +kernel, by decide +kernel⟩)) (fun r5 hr5 => ?_)
      rcases hr5 with ⟨rfl, c6⟩ | ⟨rfl, c6⟩
      · refine fx_if_eq (tgt := 39) hx hb dX11_comes_23 (by decide) zk_1 (fun c7 => by exfalso; omega) (fun c7 => ?_)
        refine lv_iload hx hb dX11_comes_26 (lv_at hl 5 rfl) ?_
        refine fx_if_lt (tgt := 39) hx hb dX11_comes_28 (by decide) rfl (fun c8 => ?_) (fun c8 => ?_)
        · refine lv_bipush (v := (-2)) hx hb dX11_comes_39 (by decide) ?_
          exact W.iret (v := (-2)) hx hb hr (fun t ht hW => ⟨(-2), rfl, trivial, ht⟩) (fun _ h => absurd h List.not_mem_nil) dX11_comes_41
        · refine lv_iload hx hb dX11_comes_31 (lv_at hl 5 rfl) ?_
          refine lv_sipush (v := 240) hx hb dX11_comes_33 (by decide) ?_
          refine fx_icmp_lt (tgt := 42) hx hb dX11_comes_36 (by decide) rfl zk_240 (fun c9 => ?_) (fun c9 => ?_)
          · refine lv_aload_n hx hb dX11_comes_42 rfl (lv_at hl 1 rfl) ?_
            refine lv_aload hx hb dX11_comes_43 (lv_at hl 0 rfl) ?_
            refine lv_iload_n hx hb dX11_comes_45 rfl (lv_at hl 3 rfl) ?_
            refine lv_iload_n hx hb dX11_comes_46 rfl (lv_at hl 4 rfl) ?_
            refine vp_callSi (va_Run.run (va_runS (As := [.int p1, .int p2]) (rest := [.ref (ad 50 p0.toNatClampNeg), .ref (ad 0 0)]) ⟨hx, hb, hml, hown, hts⟩ (fc_X11_apart l p1 p2 (by omega) (by omega)) (va_cwS 2 hts gX11_comes_X11_apart rfl rfl rfl (by decide +kernel) ⟨Nat.le_of_ble_eq_true rfl, Nat.le_of_ble_eq_true rfl⟩) ⟨fun a U g mk q => q, fun U hU hW => ⟨rfl, trivial⟩⟩ rfl rfl hl.1 rfl (lv_room (Nat.le_of_ble_eq_true rfl)) dX11_comes_47 ⟨by decide +kernel, by decide +kernel⟩)) (fun r10 hr10 => ?_)
            refine lv_iload hx hb dX11_comes_50 (lv_at hl 5 rfl) ?_
            refine vp_callSi (va_Run.run (va_runV (As := [.ref (ad 50 p0.toNatClampNeg), .int r10, .int p3]) (rest := []) ⟨hx, hb, hml, hown, hts⟩ (fc_X11_backFrom l D ad C nb M hI p0.toNatClampNeg khr1 r10 p3 (by omega) (by omega)) (cwV 3 hts gX11_comes_X11_backFrom rfl rfl rfl (by decide +kernel) ⟨Nat.le_of_ble_eq_true rfl, Nat.le_of_ble_eq_true rfl⟩) (fm_preV hc hw hS kl_0 sh_0 rfl) rfl rfl hl.1 rfl (lv_room (Nat.le_of_ble_eq_true rfl)) dX11_comes_52 ⟨by decide +kernel, by decide +kernel⟩)) (fun r11 hr11 => ?_)
            exact W.iret (v := r11) hx hb hr (fun t ht hW => ⟨r11, rfl, trivial, ht⟩) (fun _ h => absurd h List.not_mem_nil) dX11_comes_55
          · refine lv_bipush (v := (-2)) hx hb dX11_comes_39 (by decide) ?_
            exact W.iret (v := (-2)) hx hb hr (fun t ht hW => ⟨(-2), rfl, trivial, ht⟩) (fun _ h => absurd h List.not_mem_nil) dX11_comes_41
      · refine fx_if_eq (tgt := 39) hx hb dX11_comes_23 (by decide) zk_0 (fun c12 => ?_) (fun c12 => by exfalso; omega)
        refine lv_bipush (v := (-2)) hx hb dX11_comes_39 (by decide) ?_
        exact W.iret (v := (-2)) hx hb hr (fun t ht hW => ⟨(-2), rfl, trivial, ht⟩) (fun _ h => absurd h List.not_mem_nil) dX11_comes_41
    · refine fx_if_eq (tgt := 39) hx hb dX11_comes_16 (by decide) zk_0 (fun c13 => ?_) (fun c13 => by exfalso; omega)
      refine lv_bipush (v := (-2)) hx hb dX11_comes_39 (by decide) ?_
      exact W.iret (v := (-2)) hx hb hr (fun t ht hW => ⟨(-2), rfl, trivial, ht⟩) (fun _ h => absurd h List.not_mem_nil) dX11_comes_41
set_option maxHeartbeats 400000 in
set_option maxRecDepth 20000 in
theorem fc_X11_last (l : Launch) (D : va_G) (ad : Nat → Nat → Nat) (C : Nat → Nat → ClassId) (nb : Nat) (M : fm_M) (hI : fm_I nb ad M) (p0 p1 p2 : Int32) : Met l yX11_last wsX11_last ({ frames := 3, cells := 0, slots := 0, locals := 69 }) (va_Pc [.ref (ad 0 0), .int p0, .int p1, .int p2] (fm_P D ad C nb M)) (vp_Si (fun r : Int32 => True)) 0 0 (fun _ => False) := by
  refine Met.ofW (cc := cX11_last) (maxL := 7) (ret := (some .int)) (by decide) rfl ?_
  intro p e s m args below meth c s₁ B hml hv
  obtain ⟨rfl, hw, hc⟩ := hv
  have hx := B.exec
  have hb := B.bytes
  have hr := B.returns
  have hts := atoms_spec (ws := wsX11_last) B.pre
  have hown : s.vm.findClass RX11 = some m.cls := findClass_of_methodNamed B.named
  have hS : va_S (fm_A nb ad) s.heap s.heap [] := va_S.rf
  have hl := lv_entry ([.ref (ad 0 0), .int p0, .int p1, .int p2]) (n := 7) (Nat.le_of_ble_eq_true rfl)
  rw [lg_entry_eq]
  generalize (lg_sl ([.ref (ad 0 0), .int p0, .int p1, .int p2]) ++ List.replicate (7 - (lg_sl ([.ref (ad 0 0), .int p0, .int p1, .int p2])).length) Slot.unset).toArray = ls at hl ⊢
  have hl : lv_has ls 7 [(0, .ref (ad 0 0)), (1, .int p0), (2, .int p1), (3, .int p2)] := hl
  refine lv_aload_n hx hb dX11_last_0 rfl (lv_at hl 0 rfl) ?_
  refine lv_iload_n hx hb dX11_last_1 rfl (lv_at hl 1 rfl) ?_
  refine va_csq (va_Run.run (va_runV (As := [.int p0]) (rest := []) ⟨hx, hb, hml, hown, hts⟩ (fc_X11_seekerAt l D ad C nb M hI p0) (cwV 1 hts gX11_last_X11_seekerAt rfl rfl rfl (by decide +kernel) ⟨Nat.le_of_ble_eq_true rfl, Nat.le_of_ble_eq_true rfl⟩) (fm_preV hc hw hS kl_0 sh_0 rfl) rfl rfl hl.1 rfl (lv_room (Nat.le_of_ble_eq_true rfl)) dX11_last_2 ⟨by decide +kernel, by decide +kernel⟩)) (fun r1 hr1 => ?_)
  rcases hr1 with ⟨rfl, hr1n⟩ | ⟨hr1l, hr1u, hr1x, rfl⟩
  · refine lv_astoreN (lv' := [(4, .null), (0, .ref (ad 0 0)), (1, .int p0), (2, .int p1), (3, .int p2)]) hx hb dX11_last_5 hl (by decide) rfl (fun ls hl => ?_)
    refine lv_aloadN hx hb dX11_last_7 (lv_at hl 0 rfl) ?_
    refine lv_ifnullN (tgt := 26) hx hb dX11_last_9 (by decide) ?_
    refine lv_bipush (v := (-2)) hx hb dX11_last_26 (by decide) ?_
    exact W.iret (v := (-2)) hx hb hr (fun t ht hW => ⟨(-2), rfl, trivial, ht⟩) (fun _ h => absurd h List.not_mem_nil) dX11_last_28
  · have khr1 : p0.toNatClampNeg < nb := zi_cln ⟨hr1l, hr1u⟩
    have nhr1 : nb ≤ 12 := hI.2.2.2.2.2.2.2
    refine lv_astore (lv' := [(4, .ref (ad 50 p0.toNatClampNeg)), (0, .ref (ad 0 0)), (1, .int p0), (2, .int p1), (3, .int p2)]) hx hb dX11_last_5 hl (by decide) rfl (fun ls hl => ?_)
    refine lv_aload hx hb dX11_last_7 (lv_at hl 0 rfl) ?_
    refine lv_ifnull hx hb dX11_last_9 ?_
    refine lv_iload_n hx hb dX11_last_12 rfl (lv_at hl 3 rfl) ?_
    refine vp_callSi (va_Run.run (va_runS (As := [.int p1]) (rest := []) ⟨hx, hb, hml, hown, hts⟩ (fc_X11_isCell l p1) (va_cwS 1 hts gX11_last_X11_isCell rfl rfl rfl (by decide +kernel) ⟨Nat.le_of_ble_eq_true rfl, Nat.le_of_ble_eq_true rfl⟩) ⟨fun a U g mk q => q, fun U hU hW => ⟨rfl, trivial⟩⟩ rfl rfl hl.1 rfl (lv_room (Nat.le_of_ble_eq_true rfl)) dX11_last_13 ⟨by decide +kernel, by decide +kernel⟩)) (fun r2 hr2 => ?_)
    rcases hr2 with ⟨rfl, c3⟩ | ⟨rfl, c3⟩
    · refine fx_if_eq (tgt := 26) hx hb dX11_last_16 (by decide) zk_1 (fun c4 => by exfalso; omega) (fun c4 => ?_)
      refine lv_iload_n hx hb dX11_last_19 rfl (lv_at hl 4 rfl) ?_
      refine vp_callSi (va_Run.run (va_runS (As := [.int p2]) (rest := []) ⟨hx, hb, hml, hown, hts⟩ (fc_X11_isCell l p2) (va_cwS 1 hts gX11_last_X11_isCell rfl rfl rfl (by decide +kernel) ⟨Nat.le_of_ble_eq_true rfl, Nat.le_of_ble_eq_true rfl⟩) ⟨fun a U g mk q => q, fun U hU hW => ⟨rfl, trivial⟩⟩ rfl rfl hl.1 rfl (lv_room (Nat.le_of_ble_eq_true rfl)) dX11_last_20 ⟨by decide +kernel, by decide +kernel⟩)) (fun r5 hr5 => ?_)
      rcases hr5 with ⟨rfl, c6⟩ | ⟨rfl, c6⟩
      · refine fx_if_ne (tgt := 29) hx hb dX11_last_23 (by decide) zk_1 (fun c7 => ?_) (fun c7 => by exfalso; omega)
        refine lv_iload_n hx hb dX11_last_29 rfl (lv_at hl 3 rfl) ?_
        refine lv_iload_n hx hb dX11_last_30 rfl (lv_at hl 4 rfl) ?_
        refine vp_callSi (va_Run.run (va_runS (As := [.int p1, .int p2]) (rest := []) ⟨hx, hb, hml, hown, hts⟩ (fc_X11_apart l p1 p2 (by omega) (by omega)) (va_cwS 2 hts gX11_last_X11_apart rfl rfl rfl (by decide +kernel) ⟨Nat.le_of_ble_eq_true rfl, Nat.le_of_ble_eq_true rfl⟩) ⟨fun a U g mk q => q, fun U hU hW => ⟨rfl, trivial⟩⟩ rfl rfl hl.1 rfl (lv_room (Nat.le_of_ble_eq_true rfl)) dX11_last_31 ⟨by decide +kernel, by decide +kernel⟩)) (fun r8 hr8 => ?_)
        refine lv_istore (lv' := [(5, .int r8), (4, .ref (ad 50 p0.toNatClampNeg)), (0, .ref (ad 0 0)), (1, .int p0), (2, .int p1), (3, .int p2)]) hx hb dX11_last_34 hl (by decide) rfl (fun ls hl => ?_)
        refine lv_sipush (v := 239) hx hb dX11_last_36 (by decide) ?_
        refine lv_istore (lv' := [(6, .int 239), (5, .int r8), (4, .ref (ad 50 p0.toNatClampNeg)), (0, .ref (ad 0 0)), (1, .int p0), (2, .int p1), (3, .int p2)]) hx hb dX11_last_39 hl (by decide) rfl (fun ls hl => ?_)
        have lp : ∀ (n_lp : Nat) (lp_6 : Int32), (lp_6.toInt + 1).toNat < n_lp → ((-1) ≤ lp_6.toInt ∧ lp_6.toInt ≤ 239) → ∀ (ls : Array Slot), lv_has ls 7 [(6, .int lp_6), (5, .int r8), (4, .ref (ad 50 p0.toNatClampNeg)), (0, .ref (ad 0 0)), (1, .int p0), (2, .int p1), (3, .int p2)] → W p l e (headSpec wsX11_last ({ frames := 3, cells := 0, slots := 0, locals := 69 })).room s m ([.ref (ad 0 0), .int p0, .int p1, .int p2] : List Value).toArray below meth c s.heap [] 0 0 (MQ below (vp_Si (fun r : Int32 => True)) ([.ref (ad 0 0), .int p0, .int p1, .int p2] : List Value).toArray s 0 0 (fun _ => False)) (F0 m 41 ls []) := by
          intro n_lp
          induction n_lp with
          | zero => intro lp_6 hm_lp b_lp_6 ls hl; exact absurd hm_lp (Nat.not_lt_zero _)
          | succ n_lp ih_lp =>
            intro lp_6 hm_lp b_lp_6 ls hl
            refine lv_iload hx hb dX11_last_41 (lv_at hl 0 rfl) ?_
            refine fx_if_lt (tgt := 69) hx hb dX11_last_43 (by decide) rfl (fun c9 => ?_) (fun c9 => ?_)
            · refine lv_iconst (v := (-1)) hx hb dX11_last_69 (by decide) ?_
              exact W.iret (v := (-1)) hx hb hr (fun t ht hW => ⟨(-1), rfl, trivial, ht⟩) (fun _ h => absurd h List.not_mem_nil) dX11_last_70
            · refine lv_aload_n hx hb dX11_last_46 rfl (lv_at hl 3 rfl) ?_
              refine lv_aload hx hb dX11_last_47 (lv_at hl 2 rfl) ?_
              refine lv_iload hx hb dX11_last_49 (lv_at hl 1 rfl) ?_
              refine lv_iload hx hb dX11_last_51 (lv_at hl 0 rfl) ?_
              refine vp_callSi (va_Run.run (va_runV (As := [.ref (ad 50 p0.toNatClampNeg), .int r8, .int lp_6]) (rest := []) ⟨hx, hb, hml, hown, hts⟩ (fc_X11_backFrom l D ad C nb M hI p0.toNatClampNeg khr1 r8 lp_6 (by omega) (by omega)) (cwV 3 hts gX11_last_X11_backFrom rfl rfl rfl (by decide +kernel) ⟨Nat.le_of_ble_eq_true rfl, Nat.le_of_ble_eq_true rfl⟩) (fm_preV hc hw hS kl_0 sh_0 rfl) rfl rfl hl.1 rfl (lv_room (Nat.le_of_ble_eq_true rfl)) dX11_last_53 ⟨by decide +kernel, by decide +kernel⟩)) (fun r10 hr10 => ?_)
              refine lv_iconst (v := (-1)) hx hb dX11_last_56 (by decide) ?_
              refine fx_icmp_eq (tgt := 63) hx hb dX11_last_57 (by decide) rfl zk_m1 (fun c11 => ?_) (fun c11 => ?_)
              · obtain ⟨y12, ey12⟩ : ∃ y : Int32, y = lp_6 + (-1) := ⟨_, rfl⟩
                have ty12 : y12.toInt = lp_6.toInt + (-1) := by rw [ey12, zi_add _ _ (by rw [zk_m1]; omega) (by rw [zk_m1]; omega), zk_m1]
                refine lv_iinc (v := y12) (lv' := [(6, .int y12), (5, .int r8), (4, .ref (ad 50 p0.toNatClampNeg)), (0, .ref (ad 0 0)), (1, .int p0), (2, .int p1), (3, .int p2)]) hx hb dX11_last_63 hl (k := 0) rfl (by rw [ey12]; rfl) (by decide) rfl (fun ls hl => ?_)
                refine lv_goto (tgt := 41) hx hb dX11_last_66 (by decide) ?_
                exact ih_lp y12 (by omega) (by omega) ls (lv_sub hl [0, 1, 2, 3, 4, 5, 6] rfl)
              · refine lv_iload hx hb dX11_last_60 (lv_at hl 0 rfl) ?_
                exact W.iret (v := lp_6) hx hb hr (fun t ht hW => ⟨lp_6, rfl, trivial, ht⟩) (fun _ h => absurd h List.not_mem_nil) dX11_last_62
        exact lp _ 239 (Nat.lt_succ_self _) (by decide) ls (lv_sub hl [0, 1, 2, 3, 4, 5, 6] rfl)
      · refine fx_if_ne (tgt := 29) hx hb dX11_last_23 (by decide) zk_0 (fun c13 => by exfalso; omega) (fun c13 => ?_)
        refine lv_bipush (v := (-2)) hx hb dX11_last_26 (by decide) ?_
        exact W.iret (v := (-2)) hx hb hr (fun t ht hW => ⟨(-2), rfl, trivial, ht⟩) (fun _ h => absurd h List.not_mem_nil) dX11_last_28
    · refine fx_if_eq (tgt := 26) hx hb dX11_last_16 (by decide) zk_0 (fun c14 => ?_) (fun c14 => by exfalso; omega)
      refine lv_bipush (v := (-2)) hx hb dX11_last_26 (by decide) ?_
      exact W.iret (v := (-2)) hx hb hr (fun t ht hW => ⟨(-2), rfl, trivial, ht⟩) (fun _ h => absurd h List.not_mem_nil) dX11_last_28
set_option maxHeartbeats 400000 in
set_option maxRecDepth 20000 in
theorem fc_X11_man (l : Launch) (D : va_G) (ad : Nat → Nat → Nat) (C : Nat → Nat → ClassId) (nb : Nat) (M : fm_M) (hI : fm_I nb ad M) (p0 p1 p2 p3 : Int32) : Met l yX11_man wsX11_man ({ frames := 1, cells := 0, slots := 0, locals := 24 }) (va_Pc [.ref (ad 0 0), .int p0, .int p1, .int p2, .int p3] (fm_P D ad C nb M)) (va_Qi (fun (r : Int32) (u : fm_M) => fm_I nb ad u ∧ fm_same [21005, 22000, 23000, 24000, 25000] M u ∧ ((¬ (0 ≤ p0.toInt ∧ p0.toInt < nb ∧ 0 ≤ p1.toInt ∧ p1.toInt ≤ 99 ∧ 0 ≤ p2.toInt ∧ p2.toInt ≤ 99 ∧ 0 ≤ p3.toInt ∧ p3.toInt ≤ 99) ∧ r.toInt = -2 ∧ (u.1 21 0 5).toInt = (M.1 21 0 5).toInt) ∨ ((0 ≤ p0.toInt ∧ p0.toInt < nb ∧ 0 ≤ p1.toInt ∧ p1.toInt ≤ 99 ∧ 0 ≤ p2.toInt ∧ p2.toInt ≤ 99 ∧ 0 ≤ p3.toInt ∧ p3.toInt ≤ 99) ∧ 16 ≤ (M.1 21 0 5).toInt ∧ r.toInt = -4 ∧ (u.1 21 0 5).toInt = (M.1 21 0 5).toInt) ∨ ((0 ≤ p0.toInt ∧ p0.toInt < nb ∧ 0 ≤ p1.toInt ∧ p1.toInt ≤ 99 ∧ 0 ≤ p2.toInt ∧ p2.toInt ≤ 99 ∧ 0 ≤ p3.toInt ∧ p3.toInt ≤ 99) ∧ (M.1 21 0 5).toInt < 16 ∧ r.toInt = (M.1 21 0 5).toInt ∧ (u.1 21 0 5).toInt = (M.1 21 0 5).toInt + 1))) (fun u t => fm_at D ad C nb u t.heap) (fm_A nb ad)) 0 0 (fm_A nb ad) := by
  refine Met.ofW (cc := cX11_man) (maxL := 5) (ret := (some .int)) (by decide) rfl ?_
  intro p e s m args below meth c s₁ B hml hv
  obtain ⟨rfl, hw, hc⟩ := hv
  have hx := B.exec
  have hb := B.bytes
  have hr := B.returns
  have hts := atoms_spec (ws := wsX11_man) B.pre
  have hown : s.vm.findClass RX11 = some m.cls := findClass_of_methodNamed B.named
  have hinX11 : ∀ w ∈ u_ws RX11 TX11 13, w ∈ wsX11_man := fun w h => List.mem_cons_of_mem _ (iT_X11 w h)
  have hinX2 : ∀ w ∈ u_ws RX2 TX2 6, w ∈ wsX11_man := fun w h => List.mem_cons_of_mem _ (iT_X2 w h)
  have hS : va_S (fm_A nb ad) s.heap s.heap [] := va_S.rf
  have hE : fm_same [21005, 22000, 23000, 24000, 25000] M M := fm_same.rf
  have hl := lv_entry ([.ref (ad 0 0), .int p0, .int p1, .int p2, .int p3]) (n := 5) (Nat.le_of_ble_eq_true rfl)
  rw [lg_entry_eq]
  generalize (lg_sl ([.ref (ad 0 0), .int p0, .int p1, .int p2, .int p3]) ++ List.replicate (5 - (lg_sl ([.ref (ad 0 0), .int p0, .int p1, .int p2, .int p3])).length) Slot.unset).toArray = ls at hl ⊢
  have hl : lv_has ls 5 [(0, .ref (ad 0 0)), (1, .int p0), (2, .int p1), (3, .int p2), (4, .int p3)] := hl
  refine lv_aload_n hx hb dX11_man_0 rfl (lv_at hl 0 rfl) ?_
  refine lv_iload_n hx hb dX11_man_1 rfl (lv_at hl 1 rfl) ?_
  refine va_csq (va_Run.run (va_runV (As := [.int p0]) (rest := []) ⟨hx, hb, hml, hown, hts⟩ (fc_X11_bodyAt l D ad C nb M hI p0) (cwV 1 hts gX11_man_X11_bodyAt rfl rfl rfl (by decide +kernel) ⟨Nat.le_of_ble_eq_true rfl, Nat.le_of_ble_eq_true rfl⟩) (fm_preV hc hw hS kl_0 sh_0 rfl) rfl rfl hl.1 rfl (lv_room (Nat.le_of_ble_eq_true rfl)) dX11_man_2 ⟨by decide +kernel, by decide +kernel⟩)) (fun r1 hr1 => ?_)
  rcases hr1 with ⟨rfl, hr1n⟩ | ⟨hr1l, hr1u, rfl⟩
  · refine lv_ifnullN (tgt := 30) hx hb dX11_man_5 (by decide) ?_
    refine lv_bipush (v := (-2)) hx hb dX11_man_30 (by decide) ?_
    exact W.iret (v := (-2)) hx hb hr (fun t ht hW => ⟨⟨(-2), M, rfl, ⟨hI, hE, Or.inl ⟨by omega, zk_m2, rfl⟩⟩, by show fm_at D ad C nb _ t.heap; rw [ht]; exact hw⟩, hS.F ht⟩) hS.2.2 dX11_man_32
  · have khr1 : p0.toNatClampNeg < nb := zi_cln ⟨hr1l, hr1u⟩
    have nhr1 : nb ≤ 12 := hI.2.2.2.2.2.2.2
    refine lv_ifnull hx hb dX11_man_5 ?_
    refine lv_iload_n hx hb dX11_man_8 rfl (lv_at hl 2 rfl) ?_
    refine vp_callSi (va_Run.run (va_runS (As := [.int p1]) (rest := []) ⟨hx, hb, hml, hown, hts⟩ (fc_X11_isMark l p1) (va_cwS 1 hts gX11_man_X11_isMark rfl rfl rfl (by decide +kernel) ⟨Nat.le_of_ble_eq_true rfl, Nat.le_of_ble_eq_true rfl⟩) ⟨fun a U g mk q => q, fun U hU hW => ⟨rfl, trivial⟩⟩ rfl rfl hl.1 rfl (lv_room (Nat.le_of_ble_eq_true rfl)) dX11_man_9 ⟨by decide +kernel, by decide +kernel⟩)) (fun r2 hr2 => ?_)
    rcases hr2 with ⟨rfl, c3⟩ | ⟨rfl, c3⟩
    · refine fx_if_eq (tgt := 30) hx hb dX11_man_12 (by decide) zk_1 (fun c4 => by exfalso; omega) (fun c4 => ?_)
      refine lv_iload_n hx hb dX11_man_15 rfl (lv_at hl 3 rfl) ?_
      refine vp_callSi (va_Run.run (va_runS (As := [.int p2]) (rest := []) ⟨hx, hb, hml, hown, hts⟩ (fc_X11_isMark l p2) (va_cwS 1 hts gX11_man_X11_isMark rfl rfl rfl (by decide +kernel) ⟨Nat.le_of_ble_eq_true rfl, Nat.le_of_ble_eq_true rfl⟩) ⟨fun a U g mk q => q, fun U hU hW => ⟨rfl, trivial⟩⟩ rfl rfl hl.1 rfl (lv_room (Nat.le_of_ble_eq_true rfl)) dX11_man_16 ⟨by decide +kernel, by decide +kernel⟩)) (fun r5 hr5 => ?_)
      rcases hr5 with ⟨rfl, c6⟩ | ⟨rfl, c6⟩
      · refine fx_if_eq (tgt := 30) hx hb dX11_man_19 (by decide) zk_1 (fun c7 => by exfalso; omega) (fun c7 => ?_)
        refine lv_iload hx hb dX11_man_22 (lv_at hl 4 rfl) ?_
        refine vp_callSi (va_Run.run (va_runS (As := [.int p3]) (rest := []) ⟨hx, hb, hml, hown, hts⟩ (fc_X11_isMark l p3) (va_cwS 1 hts gX11_man_X11_isMark rfl rfl rfl (by decide +kernel) ⟨Nat.le_of_ble_eq_true rfl, Nat.le_of_ble_eq_true rfl⟩) ⟨fun a U g mk q => q, fun U hU hW => ⟨rfl, trivial⟩⟩ rfl rfl hl.1 rfl (lv_room (Nat.le_of_ble_eq_true rfl)) dX11_man_24 ⟨by decide +kernel, by decide +kernel⟩)) (fun r8 hr8 => ?_)
        rcases hr8 with ⟨rfl, c9⟩ | ⟨rfl, c9⟩
        · refine fx_if_ne (tgt := 33) hx hb dX11_man_27 (by decide) zk_1 (fun c10 => ?_) (fun c10 => by exfalso; omega)
          refine lv_aload_n hx hb dX11_man_33 rfl (lv_at hl 0 rfl) ?_
          refine fm_getG (a := 0) (j := 4) (T := TX11) (N := 13) hx hb hts hinX11 hown hc hw kl_0 sh_0 rfl (by decide) rfl (hI.to kl_0 tg_0_4) (hts (.fieldLink RX11 39 "RedTent" "crew" "LRedTent$Crew;") (List.mem_cons_of_mem _ tw_2_99)) (fun _ h9 => h9) dX11_man_34 ?_
          refine fm_getI (a := 21) (j := 5) (T := TX2) (N := 6) hx hb hts hinX2 hown hc hw hI kl_21 sh_21 rfl (by decide) rfl bd_21_5 (hts (.fieldLink RX11 266 "RedTent$Crew" "men" "I") (List.mem_cons_of_mem _ tw_1_152)) (fun _ h9 => h9) dX11_man_37 (fun x11 ex11 bx11 => ?_)
          refine lv_bipush (v := 16) hx hb dX11_man_40 (by decide) ?_
          refine fx_icmp_lt (tgt := 48) hx hb dX11_man_42 (by decide) rfl zk_16 (fun c12 => ?_) (fun c12 => ?_)
          · refine lv_aload_n hx hb dX11_man_48 rfl (lv_at hl 0 rfl) ?_
            refine fm_getG (a := 0) (j := 4) (T := TX11) (N := 13) hx hb hts hinX11 hown hc hw kl_0 sh_0 rfl (by decide) rfl (hI.to kl_0 tg_0_4) (hts (.fieldLink RX11 39 "RedTent" "crew" "LRedTent$Crew;") (List.mem_cons_of_mem _ tw_2_99)) (fun _ h9 => h9) dX11_man_49 ?_
            refine lv_iload_n hx hb dX11_man_52 rfl (lv_at hl 1 rfl) ?_
            refine lv_iload_n hx hb dX11_man_53 rfl (lv_at hl 2 rfl) ?_
            refine lv_iload_n hx hb dX11_man_54 rfl (lv_at hl 3 rfl) ?_
            refine lv_iload hx hb dX11_man_55 (lv_at hl 4 rfl) ?_
            refine fm_ci (va_runV (As := [.int p0, .int p1, .int p2, .int p3]) (rest := []) ⟨hx, hb, hml, hown, hts⟩ (fc_X2_addMan l D ad C nb M hI p0 p1 p2 p3 (by omega) (by omega) (by omega) (by omega) (by rw [← ex11]; omega)) (cwV 4 hts gX11_man_X2_addMan rfl rfl rfl (by decide +kernel) ⟨Nat.le_of_ble_eq_true rfl, Nat.le_of_ble_eq_true rfl⟩) (fm_preV hc hw hS kl_21 sh_21 rfl) rfl rfl hl.1 rfl (lv_room (Nat.le_of_ble_eq_true rfl)) dX11_man_57 ⟨by decide +kernel, by decide +kernel⟩) hS hc (fun r13 M14 H locs hr13 hw hS => ?_)
            obtain ⟨hI, hEM14, hr13⟩ := hr13
            have hE := hE.tr hEM14 (by decide)
            have qx11 : x11.toInt = (M.1 21 0 5).toInt := by rw [ex11]
            exact W.iret (v := r13) hx hb hr (fun t ht hW => ⟨⟨r13, M14, rfl, ⟨hI, hE, Or.inr (Or.inr ⟨by omega, by omega, by omega, (by omega)⟩)⟩, by show fm_at D ad C nb _ t.heap; rw [ht]; exact hw⟩, hS.F ht⟩) hS.2.2 dX11_man_60
          · refine lv_bipush (v := (-4)) hx hb dX11_man_45 (by decide) ?_
            have qx11 : x11.toInt = (M.1 21 0 5).toInt := by rw [ex11]
            exact W.iret (v := (-4)) hx hb hr (fun t ht hW => ⟨⟨(-4), M, rfl, ⟨hI, hE, Or.inr (Or.inl ⟨by omega, by omega, zk_m4, rfl⟩)⟩, by show fm_at D ad C nb _ t.heap; rw [ht]; exact hw⟩, hS.F ht⟩) hS.2.2 dX11_man_47
        · refine fx_if_ne (tgt := 33) hx hb dX11_man_27 (by decide) zk_0 (fun c15 => by exfalso; omega) (fun c15 => ?_)
          refine lv_bipush (v := (-2)) hx hb dX11_man_30 (by decide) ?_
          exact W.iret (v := (-2)) hx hb hr (fun t ht hW => ⟨⟨(-2), M, rfl, ⟨hI, hE, Or.inl ⟨by omega, zk_m2, rfl⟩⟩, by show fm_at D ad C nb _ t.heap; rw [ht]; exact hw⟩, hS.F ht⟩) hS.2.2 dX11_man_32
      · refine fx_if_eq (tgt := 30) hx hb dX11_man_19 (by decide) zk_0 (fun c16 => ?_) (fun c16 => by exfalso; omega)
        refine lv_bipush (v := (-2)) hx hb dX11_man_30 (by decide) ?_
        exact W.iret (v := (-2)) hx hb hr (fun t ht hW => ⟨⟨(-2), M, rfl, ⟨hI, hE, Or.inl ⟨by omega, zk_m2, rfl⟩⟩, by show fm_at D ad C nb _ t.heap; rw [ht]; exact hw⟩, hS.F ht⟩) hS.2.2 dX11_man_32
    · refine fx_if_eq (tgt := 30) hx hb dX11_man_12 (by decide) zk_0 (fun c17 => ?_) (fun c17 => by exfalso; omega)
      refine lv_bipush (v := (-2)) hx hb dX11_man_30 (by decide) ?_
      exact W.iret (v := (-2)) hx hb hr (fun t ht hW => ⟨⟨(-2), M, rfl, ⟨hI, hE, Or.inl ⟨by omega, zk_m2, rfl⟩⟩, by show fm_at D ad C nb _ t.heap; rw [ht]; exact hw⟩, hS.F ht⟩) hS.2.2 dX11_man_32
set_option maxHeartbeats 400000 in
set_option maxRecDepth 20000 in
theorem fc_X11_feed (l : Launch) (D : va_G) (ad : Nat → Nat → Nat) (C : Nat → Nat → ClassId) (nb : Nat) (M : fm_M) (hI : fm_I nb ad M) (p0 : Int32) (p1 : Int64) : Met l yX11_feed wsX11_feed ({ frames := 1, cells := 0, slots := 0, locals := 24 }) (va_Pc [.ref (ad 0 0), .int p0, .long p1] (fm_P D ad C nb M)) (va_Qi (fun (r : Int32) (u : fm_M) => fm_I nb ad u ∧ fm_same [27001, 28000] M u ∧ True) (fun u t => fm_at D ad C nb u t.heap) (fm_A nb ad)) 0 0 (fm_A nb ad) := by
  refine Met.ofW (cc := cX11_feed) (maxL := 4) (ret := (some .int)) (by decide) rfl ?_
  intro p e s m args below meth c s₁ B hml hv
  obtain ⟨rfl, hw, hc⟩ := hv
  have hx := B.exec
  have hb := B.bytes
  have hr := B.returns
  have hts := atoms_spec (ws := wsX11_feed) B.pre
  have hown : s.vm.findClass RX11 = some m.cls := findClass_of_methodNamed B.named
  have hinX11 : ∀ w ∈ u_ws RX11 TX11 13, w ∈ wsX11_feed := fun w h => List.mem_cons_of_mem _ (iT_X11 w h)
  have hinX3 : ∀ w ∈ u_ws RX3 TX3 8, w ∈ wsX11_feed := fun w h => List.mem_cons_of_mem _ (iT_X3 w h)
  have hS : va_S (fm_A nb ad) s.heap s.heap [] := va_S.rf
  have hE : fm_same [27001, 28000] M M := fm_same.rf
  have hl := lv_entry ([.ref (ad 0 0), .int p0, .long p1]) (n := 4) (Nat.le_of_ble_eq_true rfl)
  rw [lg_entry_eq]
  generalize (lg_sl ([.ref (ad 0 0), .int p0, .long p1]) ++ List.replicate (4 - (lg_sl ([.ref (ad 0 0), .int p0, .long p1])).length) Slot.unset).toArray = ls at hl ⊢
  have hl : lv_has ls 4 [(0, .ref (ad 0 0)), (1, .int p0), (2, .long p1)] := hl
  refine lv_iload_n hx hb dX11_feed_0 rfl (lv_at hl 1 rfl) ?_
  refine lv_iconst (v := 1) hx hb dX11_feed_1 (by decide) ?_
  refine fx_icmp_lt (tgt := 11) hx hb dX11_feed_2 (by decide) rfl zk_1 (fun c1 => ?_) (fun c1 => ?_)
  · refine lv_bipush (v := (-2)) hx hb dX11_feed_11 (by decide) ?_
    exact W.iret (v := (-2)) hx hb hr (fun t ht hW => ⟨⟨(-2), M, rfl, ⟨hI, hE, trivial⟩, by show fm_at D ad C nb _ t.heap; rw [ht]; exact hw⟩, hS.F ht⟩) hS.2.2 dX11_feed_13
  · refine lv_iload_n hx hb dX11_feed_5 rfl (lv_at hl 1 rfl) ?_
    refine lv_bipush (v := 8) hx hb dX11_feed_6 (by decide) ?_
    refine fx_icmp_le (tgt := 14) hx hb dX11_feed_8 (by decide) rfl zk_8 (fun c2 => ?_) (fun c2 => ?_)
    · refine lv_aload_n hx hb dX11_feed_14 rfl (lv_at hl 0 rfl) ?_
      refine fm_getG (a := 0) (j := 5) (T := TX11) (N := 13) hx hb hts hinX11 hown hc hw kl_0 sh_0 rfl (by decide) rfl (hI.to kl_0 tg_0_5) (hts (.fieldLink RX11 46 "RedTent" "orders" "LRedTent$Orders;") (List.mem_cons_of_mem _ tw_2_100)) (fun _ h9 => h9) dX11_feed_15 ?_
      refine fm_getI (a := 27) (j := 1) (T := TX3) (N := 8) hx hb hts hinX3 hown hc hw hI kl_27 sh_27 rfl (by decide) rfl bd_27_1 (hts (.fieldLink RX11 271 "RedTent$Orders" "tapeSize" "I") (List.mem_cons_of_mem _ tw_2_3)) (fun _ h9 => h9) dX11_feed_18 (fun x3 ex3 bx3 => ?_)
      refine lv_iload_n hx hb dX11_feed_21 rfl (lv_at hl 1 rfl) ?_
      refine fx_iadd hx hb dX11_feed_22 rfl rfl (by omega) (fun y4 ey4 ty4 => ?_)
      refine lv_sipush (v := 160) hx hb dX11_feed_23 (by decide) ?_
      refine fx_icmp_le (tgt := 32) hx hb dX11_feed_26 (by decide) rfl zk_160 (fun c5 => ?_) (fun c5 => ?_)
      · refine lv_aload_n hx hb dX11_feed_32 rfl (lv_at hl 0 rfl) ?_
        refine fm_getG (a := 0) (j := 5) (T := TX11) (N := 13) hx hb hts hinX11 hown hc hw kl_0 sh_0 rfl (by decide) rfl (hI.to kl_0 tg_0_5) (hts (.fieldLink RX11 46 "RedTent" "orders" "LRedTent$Orders;") (List.mem_cons_of_mem _ tw_2_100)) (fun _ h9 => h9) dX11_feed_33 ?_
        refine lv_iload_n hx hb dX11_feed_36 rfl (lv_at hl 1 rfl) ?_
        refine lv_lload_n hx hb dX11_feed_37 rfl (lv_at hl 2 rfl) ?_
        refine fm_ci (va_runV (As := [.int p0, .long p1]) (rest := []) ⟨hx, hb, hml, hown, hts⟩ (fc_X3_addBytes l D ad C nb M hI p0 p1 (by omega)) (cwV 2 hts gX11_feed_X3_addBytes rfl rfl rfl (by decide +kernel) ⟨Nat.le_of_ble_eq_true rfl, Nat.le_of_ble_eq_true rfl⟩) (fm_preV hc hw hS kl_27 sh_27 rfl) rfl rfl hl.1 rfl (lv_room (Nat.le_of_ble_eq_true rfl)) dX11_feed_38 ⟨by decide +kernel, by decide +kernel⟩) hS hc (fun r6 M7 H locs hr6 hw hS => ?_)
        obtain ⟨hI, hEM7, hr6⟩ := hr6
        have hE := hE.tr hEM7 (by decide)
        exact W.iret (v := r6) hx hb hr (fun t ht hW => ⟨⟨r6, M7, rfl, ⟨hI, hE, trivial⟩, by show fm_at D ad C nb _ t.heap; rw [ht]; exact hw⟩, hS.F ht⟩) hS.2.2 dX11_feed_41
      · refine lv_bipush (v := (-4)) hx hb dX11_feed_29 (by decide) ?_
        exact W.iret (v := (-4)) hx hb hr (fun t ht hW => ⟨⟨(-4), M, rfl, ⟨hI, hE, trivial⟩, by show fm_at D ad C nb _ t.heap; rw [ht]; exact hw⟩, hS.F ht⟩) hS.2.2 dX11_feed_31
    · refine lv_bipush (v := (-2)) hx hb dX11_feed_11 (by decide) ?_
      exact W.iret (v := (-2)) hx hb hr (fun t ht hW => ⟨⟨(-2), M, rfl, ⟨hI, hE, trivial⟩, by show fm_at D ad C nb _ t.heap; rw [ht]; exact hw⟩, hS.F ht⟩) hS.2.2 dX11_feed_13
set_option maxHeartbeats 400000 in
set_option maxRecDepth 20000 in
theorem fc_X11_force (l : Launch) (D : va_G) (ad : Nat → Nat → Nat) (C : Nat → Nat → ClassId) (nb : Nat) (M : fm_M) (hI : fm_I nb ad M) (p0 : Int32) : Met l yX11_force wsX11_force ({ frames := 0, cells := 0, slots := 0, locals := 0 }) (va_Pc [.ref (ad 0 0), .int p0] (fm_P D ad C nb M)) (va_Qi (fun (r : Int32) (u : fm_M) => fm_I nb ad u ∧ fm_same [27004] M u ∧ True) (fun u t => fm_at D ad C nb u t.heap) (fm_A nb ad)) 0 0 (fm_A nb ad) := by
  refine Met.ofW (cc := cX11_force) (maxL := 3) (ret := (some .int)) (by decide) rfl ?_
  intro p e s m args below meth c s₁ B hml hv
  obtain ⟨rfl, hw, hc⟩ := hv
  have hx := B.exec
  have hb := B.bytes
  have hr := B.returns
  have hts := atoms_spec (ws := wsX11_force) B.pre
  have hown : s.vm.findClass RX11 = some m.cls := findClass_of_methodNamed B.named
  have hinX11 : ∀ w ∈ u_ws RX11 TX11 13, w ∈ wsX11_force := fun w h => List.mem_cons_of_mem _ (iT_X11 w h)
  have hinX3 : ∀ w ∈ u_ws RX3 TX3 8, w ∈ wsX11_force := fun w h => List.mem_cons_of_mem _ (iT_X3 w h)
  have hS : va_S (fm_A nb ad) s.heap s.heap [] := va_S.rf
  have hE : fm_same [27004] M M := fm_same.rf
  have hl := lv_entry ([.ref (ad 0 0), .int p0]) (n := 3) (Nat.le_of_ble_eq_true rfl)
  rw [lg_entry_eq]
  generalize (lg_sl ([.ref (ad 0 0), .int p0]) ++ List.replicate (3 - (lg_sl ([.ref (ad 0 0), .int p0])).length) Slot.unset).toArray = ls at hl ⊢
  have hl : lv_has ls 3 [(0, .ref (ad 0 0)), (1, .int p0)] := hl
  refine lv_iload_n hx hb dX11_force_0 rfl (lv_at hl 1 rfl) ?_
  refine fx_if_lt (tgt := 15) hx hb dX11_force_1 (by decide) rfl (fun c1 => ?_) (fun c1 => ?_)
  · refine lv_bipush (v := (-2)) hx hb dX11_force_15 (by decide) ?_
    exact W.iret (v := (-2)) hx hb hr (fun t ht hW => ⟨⟨(-2), M, rfl, ⟨hI, hE, trivial⟩, by show fm_at D ad C nb _ t.heap; rw [ht]; exact hw⟩, hS.F ht⟩) hS.2.2 dX11_force_17
  · refine lv_iload_n hx hb dX11_force_4 rfl (lv_at hl 1 rfl) ?_
    refine lv_aload_n hx hb dX11_force_5 rfl (lv_at hl 0 rfl) ?_
    refine fm_getG (a := 0) (j := 5) (T := TX11) (N := 13) hx hb hts hinX11 hown hc hw kl_0 sh_0 rfl (by decide) rfl (hI.to kl_0 tg_0_5) (hts (.fieldLink RX11 46 "RedTent" "orders" "LRedTent$Orders;") (List.mem_cons_of_mem _ tw_2_100)) (fun _ h9 => h9) dX11_force_6 ?_
    refine fm_getI (a := 27) (j := 3) (T := TX3) (N := 8) hx hb hts hinX3 hown hc hw hI kl_27 sh_27 rfl (by decide) rfl bd_27_3 (hts (.fieldLink RX11 280 "RedTent$Orders" "textCount" "I") (List.mem_cons_of_mem _ tw_2_6)) (fun _ h9 => h9) dX11_force_9 (fun x2 ex2 bx2 => ?_)
    refine fx_icmp_lt (tgt := 18) hx hb dX11_force_12 (by decide) rfl rfl (fun c3 => ?_) (fun c3 => ?_)
    · refine lv_aload_n hx hb dX11_force_18 rfl (lv_at hl 0 rfl) ?_
      refine fm_getG (a := 0) (j := 5) (T := TX11) (N := 13) hx hb hts hinX11 hown hc hw kl_0 sh_0 rfl (by decide) rfl (hI.to kl_0 tg_0_5) (hts (.fieldLink RX11 46 "RedTent" "orders" "LRedTent$Orders;") (List.mem_cons_of_mem _ tw_2_100)) (fun _ h9 => h9) dX11_force_19 ?_
      refine fm_getI (a := 27) (j := 4) (T := TX3) (N := 8) hx hb hts hinX3 hown hc hw hI kl_27 sh_27 rfl (by decide) rfl bd_27_4 (hts (.fieldLink RX11 283 "RedTent$Orders" "inForce" "I") (List.mem_cons_of_mem _ tw_2_8)) (fun _ h9 => h9) dX11_force_22 (fun x4 ex4 bx4 => ?_)
      refine lv_istore_n (lv' := [(2, .int x4), (0, .ref (ad 0 0)), (1, .int p0)]) hx hb dX11_force_25 rfl hl (by decide) rfl (fun ls hl => ?_)
      refine lv_aload_n hx hb dX11_force_26 rfl (lv_at hl 1 rfl) ?_
      refine fm_getG (a := 0) (j := 5) (T := TX11) (N := 13) hx hb hts hinX11 hown hc hw kl_0 sh_0 rfl (by decide) rfl (hI.to kl_0 tg_0_5) (hts (.fieldLink RX11 46 "RedTent" "orders" "LRedTent$Orders;") (List.mem_cons_of_mem _ tw_2_100)) (fun _ h9 => h9) dX11_force_27 ?_
      refine lv_iload_n hx hb dX11_force_30 rfl (lv_at hl 2 rfl) ?_
      refine fm_putI (a := 27) (j := 4) (T := TX3) (N := 8) hx hb hts hinX3 tyX3 tyX3_ok nmX3 hown hc hw hI hE hS kl_27 sh_27 od_27 rfl (by decide) rfl bd_27_4 (hts (.fieldLink RX11 283 "RedTent$Orders" "inForce" "I") (List.mem_cons_of_mem _ tw_2_8)) (fun _ h9 => h9) rfl (by decide +kernel) (by omega) (by decide) (by decide) dX11_force_31 (fun M5 H locs eM5 hw hI hE hS => ?_)
      refine lv_iload_n hx hb dX11_force_34 rfl (lv_at hl 0 rfl) ?_
      exact W.iret (v := x4) hx hb hr (fun t ht hW => ⟨⟨x4, M5, rfl, ⟨hI, hE, trivial⟩, by show fm_at D ad C nb _ t.heap; rw [ht]; exact hw⟩, hS.F ht⟩) hS.2.2 dX11_force_35
    · refine lv_bipush (v := (-2)) hx hb dX11_force_15 (by decide) ?_
      exact W.iret (v := (-2)) hx hb hr (fun t ht hW => ⟨⟨(-2), M, rfl, ⟨hI, hE, trivial⟩, by show fm_at D ad C nb _ t.heap; rw [ht]; exact hw⟩, hS.F ht⟩) hS.2.2 dX11_force_17
set_option maxHeartbeats 400000 in
set_option maxRecDepth 20000 in
theorem fc_X11_says (l : Launch) (D : va_G) (ad : Nat → Nat → Nat) (C : Nat → Nat → ClassId) (nb : Nat) (M : fm_M) (hI : fm_I nb ad M) (p0 p1 p2 : Int32) : Met l yX11_says wsX11_says ({ frames := 6, cells := 0, slots := 0, locals := 142 }) (va_Pc [.ref (ad 0 0), .int p0, .int p1, .int p2] (fm_P D ad C nb M)) (va_Ql (fun (r : Int64) (u : fm_M) => fm_I nb ad u ∧ fm_same [30000, 31000, 50014, 56000] M u ∧ True) (fun u t => fm_at D ad C nb u t.heap) (fm_A nb ad)) 0 0 (fm_A nb ad) := by
  refine Met.ofW (cc := cX11_says) (maxL := 7) (ret := (some .long)) (by decide) rfl ?_
  intro p e s m args below meth c s₁ B hml hv
  obtain ⟨rfl, hw, hc⟩ := hv
  have hx := B.exec
  have hb := B.bytes
  have hr := B.returns
  have hts := atoms_spec (ws := wsX11_says) B.pre
  have hown : s.vm.findClass RX11 = some m.cls := findClass_of_methodNamed B.named
  have hinX0 : ∀ w ∈ u_ws RX0 TX0 15, w ∈ wsX11_says := fun w h => List.mem_cons_of_mem _ (iT_X0 w h)
  have hinX11 : ∀ w ∈ u_ws RX11 TX11 13, w ∈ wsX11_says := fun w h => List.mem_cons_of_mem _ (iT_X11 w h)
  have hinX2 : ∀ w ∈ u_ws RX2 TX2 6, w ∈ wsX11_says := fun w h => List.mem_cons_of_mem _ (iT_X2 w h)
  have hS : va_S (fm_A nb ad) s.heap s.heap [] := va_S.rf
  have hE : fm_same [30000, 31000, 50014, 56000] M M := fm_same.rf
  have hl := lv_entry ([.ref (ad 0 0), .int p0, .int p1, .int p2]) (n := 7) (Nat.le_of_ble_eq_true rfl)
  rw [lg_entry_eq]
  generalize (lg_sl ([.ref (ad 0 0), .int p0, .int p1, .int p2]) ++ List.replicate (7 - (lg_sl ([.ref (ad 0 0), .int p0, .int p1, .int p2])).length) Slot.unset).toArray = ls at hl ⊢
  have hl : lv_has ls 7 [(0, .ref (ad 0 0)), (1, .int p0), (2, .int p1), (3, .int p2)] := hl
  have jt : ∀  (M_jt : fm_M), fm_I nb ad M_jt → fm_same [30000, 31000, 50014, 56000] M M_jt → ∀ (H : Heap) (locs : List Loc), fm_at D ad C nb M_jt H → va_S (fm_A nb ad) s.heap H locs → ∀ (ls : Array Slot), lv_has ls 7 [(0, .ref (ad 0 0)), (1, .int p0), (2, .int p1), (3, .int p2)] → W p l e (headSpec wsX11_says ({ frames := 6, cells := 0, slots := 0, locals := 142 })).room s m ([.ref (ad 0 0), .int p0, .int p1, .int p2] : List Value).toArray below meth c H locs 0 0 (MQ below (va_Ql (fun (r : Int64) (u : fm_M) => fm_I nb ad u ∧ fm_same [30000, 31000, 50014, 56000] M u ∧ True) (fun u t => fm_at D ad C nb u t.heap) (fm_A nb ad)) ([.ref (ad 0 0), .int p0, .int p1, .int p2] : List Value).toArray s 0 0 (fm_A nb ad)) (F0 m 26 ls []) := by
    intro  M_jt hI hE H locs hw hS ls hl
    refine lv_aload_n hx hb dX11_says_26 rfl (lv_at hl 0 rfl) ?_
    refine lv_iload_n hx hb dX11_says_27 rfl (lv_at hl 2 rfl) ?_
    refine va_csq (va_Run.run (va_runV (As := [.int p1]) (rest := []) ⟨hx, hb, hml, hown, hts⟩ (fc_X11_seekerAt l D ad C nb M_jt hI p1) (cwV 1 hts gX11_says_X11_seekerAt rfl rfl rfl (by decide +kernel) ⟨Nat.le_of_ble_eq_true rfl, Nat.le_of_ble_eq_true rfl⟩) (fm_preV hc hw hS kl_0 sh_0 rfl) rfl rfl hl.1 rfl (lv_room (Nat.le_of_ble_eq_true rfl)) dX11_says_28 ⟨by decide +kernel, by decide +kernel⟩)) (fun r1 hr1 => ?_)
    rcases hr1 with ⟨rfl, hr1n⟩ | ⟨hr1l, hr1u, hr1x, rfl⟩
    · refine lv_astoreN (lv' := [(4, .null), (0, .ref (ad 0 0)), (1, .int p0), (2, .int p1), (3, .int p2)]) hx hb dX11_says_31 hl (by decide) rfl (fun ls hl => ?_)
      refine lv_aload_n hx hb dX11_says_33 rfl (lv_at hl 1 rfl) ?_
      refine lv_iload_n hx hb dX11_says_34 rfl (lv_at hl 4 rfl) ?_
      refine va_csq (va_Run.run (va_runV (As := [.int p2]) (rest := []) ⟨hx, hb, hml, hown, hts⟩ (fc_X11_bodyAt l D ad C nb M_jt hI p2) (cwV 1 hts gX11_says_X11_bodyAt rfl rfl rfl (by decide +kernel) ⟨Nat.le_of_ble_eq_true rfl, Nat.le_of_ble_eq_true rfl⟩) (fm_preV hc hw hS kl_0 sh_0 rfl) rfl rfl hl.1 rfl (lv_room (Nat.le_of_ble_eq_true rfl)) dX11_says_35 ⟨by decide +kernel, by decide +kernel⟩)) (fun r2 hr2 => ?_)
      rcases hr2 with ⟨rfl, hr2n⟩ | ⟨hr2l, hr2u, rfl⟩
      · refine lv_astoreN (lv' := [(5, .null), (4, .null), (0, .ref (ad 0 0)), (1, .int p0), (2, .int p1), (3, .int p2)]) hx hb dX11_says_38 hl (by decide) rfl (fun ls hl => ?_)
        refine lv_iload_n hx hb dX11_says_40 rfl (lv_at hl 3 rfl) ?_
        refine lv_iconst (v := 1) hx hb dX11_says_41 (by decide) ?_
        refine fx_icmp_ne (tgt := 55) hx hb dX11_says_42 (by decide) rfl zk_1 (fun c3 => ?_) (fun c3 => ?_)
        · refine lv_ldc2 (v := (-4611686018427387904)) hx hb hown (hts (.constantLong RX11 148 (-4611686018427387904)) (List.mem_cons_of_mem _ tw_3_42)) dX11_says_55 ?_
          exact W.lret (v := (-4611686018427387904)) hx hb hr (fun t ht hW => ⟨⟨(-4611686018427387904), M_jt, rfl, ⟨hI, hE, trivial⟩, by show fm_at D ad C nb _ t.heap; rw [ht]; exact hw⟩, hS.F ht⟩) hS.2.2 dX11_says_58
        · refine lv_aloadN hx hb dX11_says_45 (lv_at hl 1 rfl) ?_
          refine lv_ifnullN (tgt := 55) hx hb dX11_says_47 (by decide) ?_
          refine lv_ldc2 (v := (-4611686018427387904)) hx hb hown (hts (.constantLong RX11 148 (-4611686018427387904)) (List.mem_cons_of_mem _ tw_3_42)) dX11_says_55 ?_
          exact W.lret (v := (-4611686018427387904)) hx hb hr (fun t ht hW => ⟨⟨(-4611686018427387904), M_jt, rfl, ⟨hI, hE, trivial⟩, by show fm_at D ad C nb _ t.heap; rw [ht]; exact hw⟩, hS.F ht⟩) hS.2.2 dX11_says_58
      · have khr2 : p2.toNatClampNeg < nb := zi_cln ⟨hr2l, hr2u⟩
        have nhr2 : nb ≤ 12 := hI.2.2.2.2.2.2.2
        refine lv_astore (lv' := [(5, .ref (ad 50 p2.toNatClampNeg)), (4, .null), (0, .ref (ad 0 0)), (1, .int p0), (2, .int p1), (3, .int p2)]) hx hb dX11_says_38 hl (by decide) rfl (fun ls hl => ?_)
        refine lv_iload_n hx hb dX11_says_40 rfl (lv_at hl 3 rfl) ?_
        refine lv_iconst (v := 1) hx hb dX11_says_41 (by decide) ?_
        refine fx_icmp_ne (tgt := 55) hx hb dX11_says_42 (by decide) rfl zk_1 (fun c4 => ?_) (fun c4 => ?_)
        · refine lv_ldc2 (v := (-4611686018427387904)) hx hb hown (hts (.constantLong RX11 148 (-4611686018427387904)) (List.mem_cons_of_mem _ tw_3_42)) dX11_says_55 ?_
          exact W.lret (v := (-4611686018427387904)) hx hb hr (fun t ht hW => ⟨⟨(-4611686018427387904), M_jt, rfl, ⟨hI, hE, trivial⟩, by show fm_at D ad C nb _ t.heap; rw [ht]; exact hw⟩, hS.F ht⟩) hS.2.2 dX11_says_58
        · refine lv_aloadN hx hb dX11_says_45 (lv_at hl 1 rfl) ?_
          refine lv_ifnullN (tgt := 55) hx hb dX11_says_47 (by decide) ?_
          refine lv_ldc2 (v := (-4611686018427387904)) hx hb hown (hts (.constantLong RX11 148 (-4611686018427387904)) (List.mem_cons_of_mem _ tw_3_42)) dX11_says_55 ?_
          exact W.lret (v := (-4611686018427387904)) hx hb hr (fun t ht hW => ⟨⟨(-4611686018427387904), M_jt, rfl, ⟨hI, hE, trivial⟩, by show fm_at D ad C nb _ t.heap; rw [ht]; exact hw⟩, hS.F ht⟩) hS.2.2 dX11_says_58
    · have khr1 : p1.toNatClampNeg < nb := zi_cln ⟨hr1l, hr1u⟩
      have nhr1 : nb ≤ 12 := hI.2.2.2.2.2.2.2
      refine lv_astore (lv' := [(4, .ref (ad 50 p1.toNatClampNeg)), (0, .ref (ad 0 0)), (1, .int p0), (2, .int p1), (3, .int p2)]) hx hb dX11_says_31 hl (by decide) rfl (fun ls hl => ?_)
      refine lv_aload_n hx hb dX11_says_33 rfl (lv_at hl 1 rfl) ?_
      refine lv_iload_n hx hb dX11_says_34 rfl (lv_at hl 4 rfl) ?_
      refine va_csq (va_Run.run (va_runV (As := [.int p2]) (rest := []) ⟨hx, hb, hml, hown, hts⟩ (fc_X11_bodyAt l D ad C nb M_jt hI p2) (cwV 1 hts gX11_says_X11_bodyAt rfl rfl rfl (by decide +kernel) ⟨Nat.le_of_ble_eq_true rfl, Nat.le_of_ble_eq_true rfl⟩) (fm_preV hc hw hS kl_0 sh_0 rfl) rfl rfl hl.1 rfl (lv_room (Nat.le_of_ble_eq_true rfl)) dX11_says_35 ⟨by decide +kernel, by decide +kernel⟩)) (fun r5 hr5 => ?_)
      rcases hr5 with ⟨rfl, hr5n⟩ | ⟨hr5l, hr5u, rfl⟩
      · refine lv_astoreN (lv' := [(5, .null), (4, .ref (ad 50 p1.toNatClampNeg)), (0, .ref (ad 0 0)), (1, .int p0), (2, .int p1), (3, .int p2)]) hx hb dX11_says_38 hl (by decide) rfl (fun ls hl => ?_)
        refine lv_iload_n hx hb dX11_says_40 rfl (lv_at hl 3 rfl) ?_
        refine lv_iconst (v := 1) hx hb dX11_says_41 (by decide) ?_
        refine fx_icmp_ne (tgt := 55) hx hb dX11_says_42 (by decide) rfl zk_1 (fun c6 => ?_) (fun c6 => ?_)
        · refine lv_ldc2 (v := (-4611686018427387904)) hx hb hown (hts (.constantLong RX11 148 (-4611686018427387904)) (List.mem_cons_of_mem _ tw_3_42)) dX11_says_55 ?_
          exact W.lret (v := (-4611686018427387904)) hx hb hr (fun t ht hW => ⟨⟨(-4611686018427387904), M_jt, rfl, ⟨hI, hE, trivial⟩, by show fm_at D ad C nb _ t.heap; rw [ht]; exact hw⟩, hS.F ht⟩) hS.2.2 dX11_says_58
        · refine lv_aload hx hb dX11_says_45 (lv_at hl 1 rfl) ?_
          refine lv_ifnull hx hb dX11_says_47 ?_
          refine lv_aloadN hx hb dX11_says_50 (lv_at hl 0 rfl) ?_
          refine lv_ifnonnullN hx hb dX11_says_52 ?_
          refine lv_ldc2 (v := (-4611686018427387904)) hx hb hown (hts (.constantLong RX11 148 (-4611686018427387904)) (List.mem_cons_of_mem _ tw_3_42)) dX11_says_55 ?_
          exact W.lret (v := (-4611686018427387904)) hx hb hr (fun t ht hW => ⟨⟨(-4611686018427387904), M_jt, rfl, ⟨hI, hE, trivial⟩, by show fm_at D ad C nb _ t.heap; rw [ht]; exact hw⟩, hS.F ht⟩) hS.2.2 dX11_says_58
      · have khr5 : p2.toNatClampNeg < nb := zi_cln ⟨hr5l, hr5u⟩
        have nhr5 : nb ≤ 12 := hI.2.2.2.2.2.2.2
        refine lv_astore (lv' := [(5, .ref (ad 50 p2.toNatClampNeg)), (4, .ref (ad 50 p1.toNatClampNeg)), (0, .ref (ad 0 0)), (1, .int p0), (2, .int p1), (3, .int p2)]) hx hb dX11_says_38 hl (by decide) rfl (fun ls hl => ?_)
        refine lv_iload_n hx hb dX11_says_40 rfl (lv_at hl 3 rfl) ?_
        refine lv_iconst (v := 1) hx hb dX11_says_41 (by decide) ?_
        refine fx_icmp_ne (tgt := 55) hx hb dX11_says_42 (by decide) rfl zk_1 (fun c7 => ?_) (fun c7 => ?_)
        · refine lv_ldc2 (v := (-4611686018427387904)) hx hb hown (hts (.constantLong RX11 148 (-4611686018427387904)) (List.mem_cons_of_mem _ tw_3_42)) dX11_says_55 ?_
          exact W.lret (v := (-4611686018427387904)) hx hb hr (fun t ht hW => ⟨⟨(-4611686018427387904), M_jt, rfl, ⟨hI, hE, trivial⟩, by show fm_at D ad C nb _ t.heap; rw [ht]; exact hw⟩, hS.F ht⟩) hS.2.2 dX11_says_58
        · refine lv_aload hx hb dX11_says_45 (lv_at hl 1 rfl) ?_
          refine lv_ifnull hx hb dX11_says_47 ?_
          refine lv_aload hx hb dX11_says_50 (lv_at hl 0 rfl) ?_
          refine lv_ifnonnull (tgt := 59) hx hb dX11_says_52 (by decide) ?_
          refine lv_aload hx hb dX11_says_59 (lv_at hl 1 rfl) ?_
          refine fm_getI (a := 50) (j := 1) (T := TX0) (N := 15) hx hb hts hinX0 hown hc hw hI (kl_50 khr1) sh_50 rfl (by decide) rfl bd_50_1 (hts (.fieldLink RX11 119 "RedTent$Body" "start" "I") (List.mem_cons_of_mem _ tw_2_206)) (fun _ h9 => h9) dX11_says_61 (fun x8 ex8 bx8 => ?_)
          refine lv_aload hx hb dX11_says_64 (lv_at hl 0 rfl) ?_
          refine lv_aload_n hx hb dX11_says_66 rfl (lv_at hl 2 rfl) ?_
          refine fm_getG (a := 0) (j := 0) (T := TX11) (N := 13) hx hb hts hinX11 hown hc hw kl_0 sh_0 rfl (by decide) rfl (hI.to kl_0 tg_0_0) (hts (.fieldLink RX11 10 "RedTent" "weather" "LRedTent$Weather;") (List.mem_cons_of_mem _ tw_2_95)) (fun _ h9 => h9) dX11_says_67 ?_
          refine lv_aload_n hx hb dX11_says_70 rfl (lv_at hl 2 rfl) ?_
          refine fm_getI (a := 0) (j := 9) (T := TX11) (N := 13) hx hb hts hinX11 hown hc hw hI kl_0 sh_0 rfl (by decide) rfl bd_0_9 (hts (.fieldLink RX11 71 "RedTent" "now" "I") (List.mem_cons_of_mem _ tw_2_104)) (fun _ h9 => h9) dX11_says_71 (fun x9 ex9 bx9 => ?_)
          refine fm_cl (va_runV (As := [.ref (ad 1 0), .int x9]) (rest := [.int x8]) ⟨hx, hb, hml, hown, hts⟩ (fc_X0_placesNow l D ad C nb M_jt hI p2.toNatClampNeg khr5 x9) (cwV 2 hts gX11_says_X0_placesNow rfl rfl rfl (by decide +kernel) ⟨Nat.le_of_ble_eq_true rfl, Nat.le_of_ble_eq_true rfl⟩) (fm_preV hc hw hS (kl_50 khr5) sh_50 rfl) rfl rfl hl.1 rfl (lv_room (Nat.le_of_ble_eq_true rfl)) dX11_says_74 ⟨by decide +kernel, by decide +kernel⟩) hS hc (fun r10 M11 H locs hr10 hw hS => ?_)
          obtain ⟨hI, hEM11, hr10⟩ := hr10
          have hE := hE.tr hEM11 (by decide)
          refine vp_callSi (va_Run.run (va_runS (As := [.int x8, .long r10]) (rest := []) ⟨hx, hb, hml, hown, hts⟩ (fc_X11_nearest l x8 r10 (by omega)) (va_cwS 2 hts gX11_says_X11_nearest rfl rfl rfl (by decide +kernel) ⟨Nat.le_of_ble_eq_true rfl, Nat.le_of_ble_eq_true rfl⟩) ⟨fun a U g mk q => q, fun U hU hW => ⟨rfl, trivial⟩⟩ rfl rfl hl.1 rfl (lv_room (Nat.le_of_ble_eq_true rfl)) dX11_says_77 ⟨by decide +kernel, by decide +kernel⟩)) (fun r12 hr12 => ?_)
          refine lv_istore (lv' := [(6, .int r12), (5, .ref (ad 50 p2.toNatClampNeg)), (4, .ref (ad 50 p1.toNatClampNeg)), (0, .ref (ad 0 0)), (1, .int p0), (2, .int p1), (3, .int p2)]) hx hb dX11_says_80 hl (by decide) rfl (fun ls hl => ?_)
          refine lv_aload_n hx hb dX11_says_82 rfl (lv_at hl 3 rfl) ?_
          refine fm_getG (a := 0) (j := 5) (T := TX11) (N := 13) hx hb hts hinX11 hown hc hw kl_0 sh_0 rfl (by decide) rfl (hI.to kl_0 tg_0_5) (hts (.fieldLink RX11 46 "RedTent" "orders" "LRedTent$Orders;") (List.mem_cons_of_mem _ tw_2_100)) (fun _ h9 => h9) dX11_says_83 ?_
          refine lv_iconst (v := 1) hx hb dX11_says_86 (by decide) ?_
          refine lv_iconst (v := 0) hx hb dX11_says_87 (by decide) ?_
          refine lv_iconst (v := 0) hx hb dX11_says_88 (by decide) ?_
          refine lv_iconst (v := 0) hx hb dX11_says_89 (by decide) ?_
          refine lv_aload_n hx hb dX11_says_90 rfl (lv_at hl 3 rfl) ?_
          refine fm_getI (a := 0) (j := 9) (T := TX11) (N := 13) hx hb hts hinX11 hown hc hw hI kl_0 sh_0 rfl (by decide) rfl bd_0_9 (hts (.fieldLink RX11 71 "RedTent" "now" "I") (List.mem_cons_of_mem _ tw_2_104)) (fun _ h9 => h9) dX11_says_91 (fun x13 ex13 bx13 => ?_)
          obtain rfl : x9 = x13 := by rw [ex13, (hEM11 0 0 9 (by decide)).1]; exact ex9
          refine lv_aload hx hb dX11_says_94 (lv_at hl 2 rfl) ?_
          refine fm_getI (a := 50) (j := 4) (T := TX0) (N := 15) hx hb hts hinX0 hown hc hw hI (kl_50 khr1) sh_50 rfl (by decide) rfl bd_50_4 (hts (.fieldLink RX11 131 "RedTent$Body" "fuel" "I") (List.mem_cons_of_mem _ tw_2_212)) (fun _ h9 => h9) dX11_says_96 (fun x14 ex14 bx14 => ?_)
          refine lv_iload hx hb dX11_says_99 (lv_at hl 0 rfl) ?_
          refine fm_ci (va_runV (As := [.int 1, .int 0, .int 0, .int 0, .int x9, .int x14, .int r12]) (rest := []) ⟨hx, hb, hml, hown, hts⟩ (fc_X3_ask l D ad C nb M11 hI 1 0 0 0 x9 x14 r12) (cwV 7 hts gX11_says_X3_ask rfl rfl rfl (by decide +kernel) ⟨Nat.le_of_ble_eq_true rfl, Nat.le_of_ble_eq_true rfl⟩) (fm_preV hc hw hS kl_27 sh_27 rfl) rfl rfl hl.1 rfl (lv_room (Nat.le_of_ble_eq_true rfl)) dX11_says_101 ⟨by decide +kernel, by decide +kernel⟩) hS hc (fun r15 M16 H locs hr15 hw hS => ?_)
          obtain ⟨hI, hEM16, hr15⟩ := hr15
          have hE := hE.tr hEM16 (by decide)
          refine fx_i2l hx hb dX11_says_104 rfl (fun y17 ey17 ty17 => ?_)
          exact W.lret (v := y17) hx hb hr (fun t ht hW => ⟨⟨y17, M16, rfl, ⟨hI, hE, trivial⟩, by show fm_at D ad C nb _ t.heap; rw [ht]; exact hw⟩, hS.F ht⟩) hS.2.2 dX11_says_105
  refine lv_iload_n hx hb dX11_says_0 rfl (lv_at hl 1 rfl) ?_
  refine fx_if_ne (tgt := 26) hx hb dX11_says_1 (by decide) rfl (fun c18 => ?_) (fun c18 => ?_)
  · exact jt M hI hE _ _ hw hS ls (lv_sub hl [0, 1, 2, 3] rfl)
  · refine lv_iload_n hx hb dX11_says_4 rfl (lv_at hl 2 rfl) ?_
    refine fx_if_lt (tgt := 26) hx hb dX11_says_5 (by decide) rfl (fun c19 => ?_) (fun c19 => ?_)
    · exact jt M hI hE _ _ hw hS ls (lv_sub hl [0, 1, 2, 3] rfl)
    · refine lv_iload_n hx hb dX11_says_8 rfl (lv_at hl 2 rfl) ?_
      refine lv_aload_n hx hb dX11_says_9 rfl (lv_at hl 0 rfl) ?_
      refine fm_getG (a := 0) (j := 4) (T := TX11) (N := 13) hx hb hts hinX11 hown hc hw kl_0 sh_0 rfl (by decide) rfl (hI.to kl_0 tg_0_4) (hts (.fieldLink RX11 39 "RedTent" "crew" "LRedTent$Crew;") (List.mem_cons_of_mem _ tw_2_99)) (fun _ h9 => h9) dX11_says_10 ?_
      refine fm_getI (a := 21) (j := 5) (T := TX2) (N := 6) hx hb hts hinX2 hown hc hw hI kl_21 sh_21 rfl (by decide) rfl bd_21_5 (hts (.fieldLink RX11 266 "RedTent$Crew" "men" "I") (List.mem_cons_of_mem _ tw_1_152)) (fun _ h9 => h9) dX11_says_13 (fun x20 ex20 bx20 => ?_)
      refine fx_icmp_ge (tgt := 26) hx hb dX11_says_16 (by decide) rfl rfl (fun c21 => ?_) (fun c21 => ?_)
      · exact jt M hI hE _ _ hw hS ls (lv_sub hl [0, 1, 2, 3] rfl)
      · refine lv_aload_n hx hb dX11_says_19 rfl (lv_at hl 0 rfl) ?_
        refine lv_iload_n hx hb dX11_says_20 rfl (lv_at hl 2 rfl) ?_
        refine fm_ci (va_runV (As := [.int p1]) (rest := []) ⟨hx, hb, hml, hown, hts⟩ (fc_X11_takeOf l D ad C nb M hI p1) (cwV 1 hts gX11_says_X11_takeOf rfl rfl rfl (by decide +kernel) ⟨Nat.le_of_ble_eq_true rfl, Nat.le_of_ble_eq_true rfl⟩) (fm_preV hc hw hS kl_0 sh_0 rfl) rfl rfl hl.1 rfl (lv_room (Nat.le_of_ble_eq_true rfl)) dX11_says_21 ⟨by decide +kernel, by decide +kernel⟩) hS hc (fun r22 M23 H locs hr22 hw hS => ?_)
        obtain ⟨hI, hEM23, hr22⟩ := hr22
        have hE := hE.tr hEM23 (by decide)
        refine fx_i2l hx hb dX11_says_24 rfl (fun y24 ey24 ty24 => ?_)
        exact W.lret (v := y24) hx hb hr (fun t ht hW => ⟨⟨y24, M23, rfl, ⟨hI, hE, trivial⟩, by show fm_at D ad C nb _ t.heap; rw [ht]; exact hw⟩, hS.F ht⟩) hS.2.2 dX11_says_25
set_option maxHeartbeats 400000 in
set_option maxRecDepth 20000 in
theorem fc_X11_first (l : Launch) (D : va_G) (ad : Nat → Nat → Nat) (C : Nat → Nat → ClassId) (nb : Nat) (M : fm_M) (hI : fm_I nb ad M) (p0 p1 : Int32) : Met l yX11_first wsX11_first ({ frames := 6, cells := 0, slots := 0, locals := 142 }) (va_Pc [.ref (ad 0 0), .int p0, .int p1] (fm_P D ad C nb M)) (va_Qi (fun (r : Int32) (u : fm_M) => fm_I nb ad u ∧ fm_same [26000, 30000, 31000] M u ∧ True) (fun u t => fm_at D ad C nb u t.heap) (fm_A nb ad)) 0 0 (fm_A nb ad) := by
  refine Met.ofW (cc := cX11_first) (maxL := 4) (ret := (some .int)) (by decide) rfl ?_
  intro p e s m args below meth c s₁ B hml hv
  obtain ⟨rfl, hw, hc⟩ := hv
  have hx := B.exec
  have hb := B.bytes
  have hr := B.returns
  have hts := atoms_spec (ws := wsX11_first) B.pre
  have hown : s.vm.findClass RX11 = some m.cls := findClass_of_methodNamed B.named
  have hinX11 : ∀ w ∈ u_ws RX11 TX11 13, w ∈ wsX11_first := fun w h => List.mem_cons_of_mem _ (iT_X11 w h)
  have hinX2 : ∀ w ∈ u_ws RX2 TX2 6, w ∈ wsX11_first := fun w h => List.mem_cons_of_mem _ (iT_X2 w h)
  have hS : va_S (fm_A nb ad) s.heap s.heap [] := va_S.rf
  have hE : fm_same [26000, 30000, 31000] M M := fm_same.rf
  have hl := lv_entry ([.ref (ad 0 0), .int p0, .int p1]) (n := 4) (Nat.le_of_ble_eq_true rfl)
  rw [lg_entry_eq]
  generalize (lg_sl ([.ref (ad 0 0), .int p0, .int p1]) ++ List.replicate (4 - (lg_sl ([.ref (ad 0 0), .int p0, .int p1])).length) Slot.unset).toArray = ls at hl ⊢
  have hl : lv_has ls 4 [(0, .ref (ad 0 0)), (1, .int p0), (2, .int p1)] := hl
  refine lv_aload_n hx hb dX11_first_0 rfl (lv_at hl 0 rfl) ?_
  refine lv_iload_n hx hb dX11_first_1 rfl (lv_at hl 1 rfl) ?_
  refine va_csq (va_Run.run (va_runV (As := [.int p0]) (rest := []) ⟨hx, hb, hml, hown, hts⟩ (fc_X11_bodyAt l D ad C nb M hI p0) (cwV 1 hts gX11_first_X11_bodyAt rfl rfl rfl (by decide +kernel) ⟨Nat.le_of_ble_eq_true rfl, Nat.le_of_ble_eq_true rfl⟩) (fm_preV hc hw hS kl_0 sh_0 rfl) rfl rfl hl.1 rfl (lv_room (Nat.le_of_ble_eq_true rfl)) dX11_first_2 ⟨by decide +kernel, by decide +kernel⟩)) (fun r1 hr1 => ?_)
  rcases hr1 with ⟨rfl, hr1n⟩ | ⟨hr1l, hr1u, rfl⟩
  · refine lv_ifnonnullN hx hb dX11_first_5 ?_
    refine lv_bipush (v := (-2)) hx hb dX11_first_8 (by decide) ?_
    exact W.iret (v := (-2)) hx hb hr (fun t ht hW => ⟨⟨(-2), M, rfl, ⟨hI, hE, trivial⟩, by show fm_at D ad C nb _ t.heap; rw [ht]; exact hw⟩, hS.F ht⟩) hS.2.2 dX11_first_10
  · have khr1 : p0.toNatClampNeg < nb := zi_cln ⟨hr1l, hr1u⟩
    have nhr1 : nb ≤ 12 := hI.2.2.2.2.2.2.2
    refine lv_ifnonnull (tgt := 11) hx hb dX11_first_5 (by decide) ?_
    refine lv_iconst (v := 0) hx hb dX11_first_11 (by decide) ?_
    refine lv_istore_n (lv' := [(3, .int 0), (0, .ref (ad 0 0)), (1, .int p0), (2, .int p1)]) hx hb dX11_first_12 rfl hl (by decide) rfl (fun ls hl => ?_)
    have lp : ∀ (n_lp : Nat) (lp_3 : Int32) (M_lp : fm_M), (16 - lp_3.toInt).toNat < n_lp → (0 ≤ lp_3.toInt ∧ lp_3.toInt ≤ 16) → fm_I nb ad M_lp → fm_same [26000, 30000, 31000] M M_lp → ∀ (H : Heap) (locs : List Loc), fm_at D ad C nb M_lp H → va_S (fm_A nb ad) s.heap H locs → ∀ (ls : Array Slot), lv_has ls 4 [(3, .int lp_3), (0, .ref (ad 0 0)), (1, .int p0), (2, .int p1)] → W p l e (headSpec wsX11_first ({ frames := 6, cells := 0, slots := 0, locals := 142 })).room s m ([.ref (ad 0 0), .int p0, .int p1] : List Value).toArray below meth c H locs 0 0 (MQ below (va_Qi (fun (r : Int32) (u : fm_M) => fm_I nb ad u ∧ fm_same [26000, 30000, 31000] M u ∧ True) (fun u t => fm_at D ad C nb u t.heap) (fm_A nb ad)) ([.ref (ad 0 0), .int p0, .int p1] : List Value).toArray s 0 0 (fm_A nb ad)) (F0 m 13 ls []) := by
      intro n_lp
      induction n_lp with
      | zero => intro lp_3 M_lp hm_lp b_lp_3 hI hE H locs hw hS ls hl; exact absurd hm_lp (Nat.not_lt_zero _)
      | succ n_lp ih_lp =>
        intro lp_3 M_lp hm_lp b_lp_3 hI hE H locs hw hS ls hl
        refine lv_iload_n hx hb dX11_first_13 rfl (lv_at hl 0 rfl) ?_
        refine lv_aload_n hx hb dX11_first_14 rfl (lv_at hl 1 rfl) ?_
        refine fm_getG (a := 0) (j := 4) (T := TX11) (N := 13) hx hb hts hinX11 hown hc hw kl_0 sh_0 rfl (by decide) rfl (hI.to kl_0 tg_0_4) (hts (.fieldLink RX11 39 "RedTent" "crew" "LRedTent$Crew;") (List.mem_cons_of_mem _ tw_2_99)) (fun _ h9 => h9) dX11_first_15 ?_
        refine fm_getI (a := 21) (j := 5) (T := TX2) (N := 6) hx hb hts hinX2 hown hc hw hI kl_21 sh_21 rfl (by decide) rfl bd_21_5 (hts (.fieldLink RX11 266 "RedTent$Crew" "men" "I") (List.mem_cons_of_mem _ tw_1_152)) (fun _ h9 => h9) dX11_first_18 (fun x2 ex2 bx2 => ?_)
        refine fx_icmp_ge (tgt := 44) hx hb dX11_first_21 (by decide) rfl rfl (fun c3 => ?_) (fun c3 => ?_)
        · refine lv_aload_n hx hb dX11_first_44 rfl (lv_at hl 1 rfl) ?_
          refine fm_getG (a := 0) (j := 4) (T := TX11) (N := 13) hx hb hts hinX11 hown hc hw kl_0 sh_0 rfl (by decide) rfl (hI.to kl_0 tg_0_4) (hts (.fieldLink RX11 39 "RedTent" "crew" "LRedTent$Crew;") (List.mem_cons_of_mem _ tw_2_99)) (fun _ h9 => h9) dX11_first_45 ?_
          refine lv_iload_n hx hb dX11_first_48 rfl (lv_at hl 2 rfl) ?_
          refine lv_iload_n hx hb dX11_first_49 rfl (lv_at hl 3 rfl) ?_
          refine vp_callSi (va_Run.run (va_runV (As := [.int p0, .int p1]) (rest := []) ⟨hx, hb, hml, hown, hts⟩ (fc_X2_inTurn l D ad C nb M_lp hI p0 p1) (cwV 2 hts gX11_first_X2_inTurn rfl rfl rfl (by decide +kernel) ⟨Nat.le_of_ble_eq_true rfl, Nat.le_of_ble_eq_true rfl⟩) (fm_preV hc hw hS kl_21 sh_21 rfl) rfl rfl hl.1 rfl (lv_room (Nat.le_of_ble_eq_true rfl)) dX11_first_50 ⟨by decide +kernel, by decide +kernel⟩)) (fun r4 hr4 => ?_)
          exact W.iret (v := r4) hx hb hr (fun t ht hW => ⟨⟨r4, M_lp, rfl, ⟨hI, hE, trivial⟩, by show fm_at D ad C nb _ t.heap; rw [ht]; exact hw⟩, hS.F ht⟩) hS.2.2 dX11_first_53
        · refine lv_aload_n hx hb dX11_first_24 rfl (lv_at hl 1 rfl) ?_
          refine fm_getG (a := 0) (j := 4) (T := TX11) (N := 13) hx hb hts hinX11 hown hc hw kl_0 sh_0 rfl (by decide) rfl (hI.to kl_0 tg_0_4) (hts (.fieldLink RX11 39 "RedTent" "crew" "LRedTent$Crew;") (List.mem_cons_of_mem _ tw_2_99)) (fun _ h9 => h9) dX11_first_25 ?_
          refine fm_getG (a := 21) (j := 4) (T := TX2) (N := 6) hx hb hts hinX2 hown hc hw kl_21 sh_21 rfl (by decide) rfl (hI.to kl_21 tg_21_4) (hts (.fieldLink RX11 296 "RedTent$Crew" "takes" "[I") (List.mem_cons_of_mem _ tw_1_150)) (fun _ h9 => h9) dX11_first_28 ?_
          refine lv_iload_n hx hb dX11_first_31 rfl (lv_at hl 0 rfl) ?_
          refine lv_aload_n hx hb dX11_first_32 rfl (lv_at hl 1 rfl) ?_
          refine lv_iload_n hx hb dX11_first_33 rfl (lv_at hl 0 rfl) ?_
          refine fm_ci (va_runV (As := [.int lp_3]) (rest := [.int lp_3, .ref (ad 26 0)]) ⟨hx, hb, hml, hown, hts⟩ (fc_X11_takeOf l D ad C nb M_lp hI lp_3) (cwV 1 hts gX11_first_X11_takeOf rfl rfl rfl (by decide +kernel) ⟨Nat.le_of_ble_eq_true rfl, Nat.le_of_ble_eq_true rfl⟩) (fm_preV hc hw hS kl_0 sh_0 rfl) rfl rfl hl.1 rfl (lv_room (Nat.le_of_ble_eq_true rfl)) dX11_first_34 ⟨by decide +kernel, by decide +kernel⟩) hS hc (fun r5 M6 H locs hr5 hw hS => ?_)
          obtain ⟨hI, hEM6, hr5⟩ := hr5
          have hE := hE.tr hEM6 (by decide)
          refine fm_iast (a := 26) hx hb hc hw hI hE hS kl_26 sh_26 ty_26 bd_26 (by omega) (zi_lt _) cd_26 (by decide) dX11_first_37 (fun M7 H locs eM7 hw hI hE hS => ?_)
          obtain ⟨y8, ey8⟩ : ∃ y : Int32, y = lp_3 + 1 := ⟨_, rfl⟩
          have ty8 : y8.toInt = lp_3.toInt + 1 := by rw [ey8, zi_add _ _ (by rw [zk_1]; omega) (by rw [zk_1]; omega), zk_1]
          refine lv_iinc (v := y8) (lv' := [(3, .int y8), (0, .ref (ad 0 0)), (1, .int p0), (2, .int p1)]) hx hb dX11_first_38 hl (k := 0) rfl (by rw [ey8]; rfl) (by decide) rfl (fun ls hl => ?_)
          refine lv_goto (tgt := 13) hx hb dX11_first_41 (by decide) ?_
          exact ih_lp y8 M7 (by omega) (by omega) hI hE _ _ hw hS ls (lv_sub hl [0, 1, 2, 3] rfl)
    exact lp _ 0 M (Nat.lt_succ_self _) (by decide) hI hE _ _ hw hS ls (lv_sub hl [0, 1, 2, 3] rfl)
set_option maxHeartbeats 400000 in
set_option maxRecDepth 20000 in
theorem fc_X11_story (l : Launch) (D : va_G) (ad : Nat → Nat → Nat) (C : Nat → Nat → ClassId) (nb : Nat) (M : fm_M) (hI : fm_I nb ad M) (p0 p1 p2 : Int32) : Met l yX11_story wsX11_story ({ frames := 1, cells := 0, slots := 0, locals := 23 }) (va_Pc [.ref (ad 0 0), .int p0, .int p1, .int p2] (fm_P D ad C nb M)) (va_Qi (fun (r : Int32) (u : fm_M) => fm_I nb ad u ∧ fm_same [38003, 39000, 40000, 41000] M u ∧ ((¬ (0 ≤ p0.toInt ∧ p0.toInt < nb ∧ 0 ≤ p1.toInt ∧ p1.toInt ≤ 63 ∧ (M.1 50 p0.toNatClampNeg 2).toInt ≤ p2.toInt ∧ p2.toInt ≤ (M.1 0 0 9).toInt) ∧ r.toInt = -2 ∧ (u.1 38 0 3).toInt = (M.1 38 0 3).toInt) ∨ ((0 ≤ p0.toInt ∧ p0.toInt < nb ∧ 0 ≤ p1.toInt ∧ p1.toInt ≤ 63 ∧ (M.1 50 p0.toNatClampNeg 2).toInt ≤ p2.toInt ∧ p2.toInt ≤ (M.1 0 0 9).toInt) ∧ 20 ≤ (M.1 38 0 3).toInt ∧ r.toInt = -4 ∧ (u.1 38 0 3).toInt = (M.1 38 0 3).toInt) ∨ ((0 ≤ p0.toInt ∧ p0.toInt < nb ∧ 0 ≤ p1.toInt ∧ p1.toInt ≤ 63 ∧ (M.1 50 p0.toNatClampNeg 2).toInt ≤ p2.toInt ∧ p2.toInt ≤ (M.1 0 0 9).toInt) ∧ (M.1 38 0 3).toInt < 20 ∧ r.toInt = (M.1 38 0 3).toInt ∧ (u.1 38 0 3).toInt = (M.1 38 0 3).toInt + 1))) (fun u t => fm_at D ad C nb u t.heap) (fm_A nb ad)) 0 0 (fm_A nb ad) := by
  refine Met.ofW (cc := cX11_story) (maxL := 5) (ret := (some .int)) (by decide) rfl ?_
  intro p e s m args below meth c s₁ B hml hv
  obtain ⟨rfl, hw, hc⟩ := hv
  have hx := B.exec
  have hb := B.bytes
  have hr := B.returns
  have hts := atoms_spec (ws := wsX11_story) B.pre
  have hown : s.vm.findClass RX11 = some m.cls := findClass_of_methodNamed B.named
  have hinX0 : ∀ w ∈ u_ws RX0 TX0 15, w ∈ wsX11_story := fun w h => List.mem_cons_of_mem _ (iT_X0 w h)
  have hinX11 : ∀ w ∈ u_ws RX11 TX11 13, w ∈ wsX11_story := fun w h => List.mem_cons_of_mem _ (iT_X11 w h)
  have hinX8 : ∀ w ∈ u_ws RX8 TX8 4, w ∈ wsX11_story := fun w h => List.mem_cons_of_mem _ (iT_X8 w h)
  have hS : va_S (fm_A nb ad) s.heap s.heap [] := va_S.rf
  have hE : fm_same [38003, 39000, 40000, 41000] M M := fm_same.rf
  have hl := lv_entry ([.ref (ad 0 0), .int p0, .int p1, .int p2]) (n := 5) (Nat.le_of_ble_eq_true rfl)
  rw [lg_entry_eq]
  generalize (lg_sl ([.ref (ad 0 0), .int p0, .int p1, .int p2]) ++ List.replicate (5 - (lg_sl ([.ref (ad 0 0), .int p0, .int p1, .int p2])).length) Slot.unset).toArray = ls at hl ⊢
  have hl : lv_has ls 5 [(0, .ref (ad 0 0)), (1, .int p0), (2, .int p1), (3, .int p2)] := hl
  refine lv_aload_n hx hb dX11_story_0 rfl (lv_at hl 0 rfl) ?_
  refine lv_iload_n hx hb dX11_story_1 rfl (lv_at hl 1 rfl) ?_
  refine va_csq (va_Run.run (va_runV (As := [.int p0]) (rest := []) ⟨hx, hb, hml, hown, hts⟩ (fc_X11_bodyAt l D ad C nb M hI p0) (cwV 1 hts gX11_story_X11_bodyAt rfl rfl rfl (by decide +kernel) ⟨Nat.le_of_ble_eq_true rfl, Nat.le_of_ble_eq_true rfl⟩) (fm_preV hc hw hS kl_0 sh_0 rfl) rfl rfl hl.1 rfl (lv_room (Nat.le_of_ble_eq_true rfl)) dX11_story_2 ⟨by decide +kernel, by decide +kernel⟩)) (fun r1 hr1 => ?_)
  rcases hr1 with ⟨rfl, hr1n⟩ | ⟨hr1l, hr1u, rfl⟩
  · refine lv_astoreN (lv' := [(4, .null), (0, .ref (ad 0 0)), (1, .int p0), (2, .int p1), (3, .int p2)]) hx hb dX11_story_5 hl (by decide) rfl (fun ls hl => ?_)
    refine lv_aloadN hx hb dX11_story_7 (lv_at hl 0 rfl) ?_
    refine lv_ifnullN (tgt := 36) hx hb dX11_story_9 (by decide) ?_
    refine lv_bipush (v := (-2)) hx hb dX11_story_36 (by decide) ?_
    exact W.iret (v := (-2)) hx hb hr (fun t ht hW => ⟨⟨(-2), M, rfl, ⟨hI, hE, Or.inl ⟨by omega, zk_m2, rfl⟩⟩, by show fm_at D ad C nb _ t.heap; rw [ht]; exact hw⟩, hS.F ht⟩) hS.2.2 dX11_story_38
  · have khr1 : p0.toNatClampNeg < nb := zi_cln ⟨hr1l, hr1u⟩
    have nhr1 : nb ≤ 12 := hI.2.2.2.2.2.2.2
    refine lv_astore (lv' := [(4, .ref (ad 50 p0.toNatClampNeg)), (0, .ref (ad 0 0)), (1, .int p0), (2, .int p1), (3, .int p2)]) hx hb dX11_story_5 hl (by decide) rfl (fun ls hl => ?_)
    refine lv_aload hx hb dX11_story_7 (lv_at hl 0 rfl) ?_
    refine lv_ifnull hx hb dX11_story_9 ?_
    refine lv_iload_n hx hb dX11_story_12 rfl (lv_at hl 3 rfl) ?_
    refine vp_callSi (va_Run.run (va_runS (As := [.int p1]) (rest := []) ⟨hx, hb, hml, hown, hts⟩ (fc_X11_isCell l p1) (va_cwS 1 hts gX11_story_X11_isCell rfl rfl rfl (by decide +kernel) ⟨Nat.le_of_ble_eq_true rfl, Nat.le_of_ble_eq_true rfl⟩) ⟨fun a U g mk q => q, fun U hU hW => ⟨rfl, trivial⟩⟩ rfl rfl hl.1 rfl (lv_room (Nat.le_of_ble_eq_true rfl)) dX11_story_13 ⟨by decide +kernel, by decide +kernel⟩)) (fun r2 hr2 => ?_)
    rcases hr2 with ⟨rfl, c3⟩ | ⟨rfl, c3⟩
    · refine fx_if_eq (tgt := 36) hx hb dX11_story_16 (by decide) zk_1 (fun c4 => by exfalso; omega) (fun c4 => ?_)
      refine lv_iload_n hx hb dX11_story_19 rfl (lv_at hl 4 rfl) ?_
      refine lv_aload hx hb dX11_story_20 (lv_at hl 0 rfl) ?_
      refine fm_getI (a := 50) (j := 2) (T := TX0) (N := 15) hx hb hts hinX0 hown hc hw hI (kl_50 khr1) sh_50 rfl (by decide) rfl bd_50_2 (hts (.fieldLink RX11 122 "RedTent$Body" "begin" "I") (List.mem_cons_of_mem _ tw_2_208)) (fun _ h9 => h9) dX11_story_22 (fun x5 ex5 bx5 => ?_)
      refine fx_icmp_lt (tgt := 36) hx hb dX11_story_25 (by decide) rfl rfl (fun c6 => ?_) (fun c6 => ?_)
      · refine lv_bipush (v := (-2)) hx hb dX11_story_36 (by decide) ?_
        have qx5 : x5.toInt = (M.1 50 p0.toNatClampNeg 2).toInt := by rw [ex5]
        exact W.iret (v := (-2)) hx hb hr (fun t ht hW => ⟨⟨(-2), M, rfl, ⟨hI, hE, Or.inl ⟨by omega, zk_m2, rfl⟩⟩, by show fm_at D ad C nb _ t.heap; rw [ht]; exact hw⟩, hS.F ht⟩) hS.2.2 dX11_story_38
      · refine lv_iload_n hx hb dX11_story_28 rfl (lv_at hl 4 rfl) ?_
        refine lv_aload_n hx hb dX11_story_29 rfl (lv_at hl 1 rfl) ?_
        refine fm_getI (a := 0) (j := 9) (T := TX11) (N := 13) hx hb hts hinX11 hown hc hw hI kl_0 sh_0 rfl (by decide) rfl bd_0_9 (hts (.fieldLink RX11 71 "RedTent" "now" "I") (List.mem_cons_of_mem _ tw_2_104)) (fun _ h9 => h9) dX11_story_30 (fun x7 ex7 bx7 => ?_)
        refine fx_icmp_le (tgt := 39) hx hb dX11_story_33 (by decide) rfl rfl (fun c8 => ?_) (fun c8 => ?_)
        · refine lv_aload_n hx hb dX11_story_39 rfl (lv_at hl 1 rfl) ?_
          refine fm_getG (a := 0) (j := 6) (T := TX11) (N := 13) hx hb hts hinX11 hown hc hw kl_0 sh_0 rfl (by decide) rfl (hI.to kl_0 tg_0_6) (hts (.fieldLink RX11 53 "RedTent" "stories" "LRedTent$Stories;") (List.mem_cons_of_mem _ tw_2_101)) (fun _ h9 => h9) dX11_story_40 ?_
          refine fm_getI (a := 38) (j := 3) (T := TX8) (N := 4) hx hb hts hinX8 hown hc hw hI kl_38 sh_38 rfl (by decide) rfl bd_38_3 (hts (.fieldLink RX11 302 "RedTent$Stories" "told" "I") (List.mem_cons_of_mem _ tw_2_42)) (fun _ h9 => h9) dX11_story_43 (fun x9 ex9 bx9 => ?_)
          refine lv_bipush (v := 20) hx hb dX11_story_46 (by decide) ?_
          refine fx_icmp_lt (tgt := 54) hx hb dX11_story_48 (by decide) rfl zk_20 (fun c10 => ?_) (fun c10 => ?_)
          · refine lv_aload_n hx hb dX11_story_54 rfl (lv_at hl 1 rfl) ?_
            refine fm_getG (a := 0) (j := 6) (T := TX11) (N := 13) hx hb hts hinX11 hown hc hw kl_0 sh_0 rfl (by decide) rfl (hI.to kl_0 tg_0_6) (hts (.fieldLink RX11 53 "RedTent" "stories" "LRedTent$Stories;") (List.mem_cons_of_mem _ tw_2_101)) (fun _ h9 => h9) dX11_story_55 ?_
            refine lv_iload_n hx hb dX11_story_58 rfl (lv_at hl 2 rfl) ?_
            refine lv_iload_n hx hb dX11_story_59 rfl (lv_at hl 3 rfl) ?_
            refine lv_iload_n hx hb dX11_story_60 rfl (lv_at hl 4 rfl) ?_
            refine fm_ci (va_runV (As := [.int p0, .int p1, .int p2]) (rest := []) ⟨hx, hb, hml, hown, hts⟩ (fc_X8_addStory l D ad C nb M hI p0 p1 p2 (by omega) (by omega) (by omega) (by rw [← ex9]; omega)) (cwV 3 hts gX11_story_X8_addStory rfl rfl rfl (by decide +kernel) ⟨Nat.le_of_ble_eq_true rfl, Nat.le_of_ble_eq_true rfl⟩) (fm_preV hc hw hS kl_38 sh_38 rfl) rfl rfl hl.1 rfl (lv_room (Nat.le_of_ble_eq_true rfl)) dX11_story_61 ⟨by decide +kernel, by decide +kernel⟩) hS hc (fun r11 M12 H locs hr11 hw hS => ?_)
            obtain ⟨hI, hEM12, hr11⟩ := hr11
            have hE := hE.tr hEM12 (by decide)
            have qx7 : x7.toInt = (M.1 0 0 9).toInt := by rw [ex7]
            have qx9 : x9.toInt = (M.1 38 0 3).toInt := by rw [ex9]
            have qx5 : x5.toInt = (M.1 50 p0.toNatClampNeg 2).toInt := by rw [ex5]
            exact W.iret (v := r11) hx hb hr (fun t ht hW => ⟨⟨r11, M12, rfl, ⟨hI, hE, Or.inr (Or.inr ⟨by omega, by omega, by omega, (by omega)⟩)⟩, by show fm_at D ad C nb _ t.heap; rw [ht]; exact hw⟩, hS.F ht⟩) hS.2.2 dX11_story_64
          · refine lv_bipush (v := (-4)) hx hb dX11_story_51 (by decide) ?_
            have qx7 : x7.toInt = (M.1 0 0 9).toInt := by rw [ex7]
            have qx9 : x9.toInt = (M.1 38 0 3).toInt := by rw [ex9]
            have qx5 : x5.toInt = (M.1 50 p0.toNatClampNeg 2).toInt := by rw [ex5]
            exact W.iret (v := (-4)) hx hb hr (fun t ht hW => ⟨⟨(-4), M, rfl, ⟨hI, hE, Or.inr (Or.inl ⟨by omega, by omega, zk_m4, rfl⟩)⟩, by show fm_at D ad C nb _ t.heap; rw [ht]; exact hw⟩, hS.F ht⟩) hS.2.2 dX11_story_53
        · refine lv_bipush (v := (-2)) hx hb dX11_story_36 (by decide) ?_
          have qx7 : x7.toInt = (M.1 0 0 9).toInt := by rw [ex7]
          have qx5 : x5.toInt = (M.1 50 p0.toNatClampNeg 2).toInt := by rw [ex5]
          exact W.iret (v := (-2)) hx hb hr (fun t ht hW => ⟨⟨(-2), M, rfl, ⟨hI, hE, Or.inl ⟨by omega, zk_m2, rfl⟩⟩, by show fm_at D ad C nb _ t.heap; rw [ht]; exact hw⟩, hS.F ht⟩) hS.2.2 dX11_story_38
    · refine fx_if_eq (tgt := 36) hx hb dX11_story_16 (by decide) zk_0 (fun c13 => ?_) (fun c13 => by exfalso; omega)
      refine lv_bipush (v := (-2)) hx hb dX11_story_36 (by decide) ?_
      exact W.iret (v := (-2)) hx hb hr (fun t ht hW => ⟨⟨(-2), M, rfl, ⟨hI, hE, Or.inl ⟨by omega, zk_m2, rfl⟩⟩, by show fm_at D ad C nb _ t.heap; rw [ht]; exact hw⟩, hS.F ht⟩) hS.2.2 dX11_story_38
set_option maxHeartbeats 400000 in
set_option maxRecDepth 20000 in
theorem fc_X11_unfit (l : Launch) (D : va_G) (ad : Nat → Nat → Nat) (C : Nat → Nat → ClassId) (nb : Nat) (M : fm_M) (hI : fm_I nb ad M) : Met l yX11_unfit wsX11_unfit ({ frames := 4, cells := 0, slots := 0, locals := 104 }) (va_Pc [.ref (ad 0 0)] (fm_P D ad C nb M)) (va_Qi (fun (r : Int32) (u : fm_M) => fm_I nb ad u ∧ fm_same [50014, 56000] M u ∧ True) (fun u t => fm_at D ad C nb u t.heap) (fm_A nb ad)) 0 0 (fm_A nb ad) := by
  refine Met.ofW (cc := cX11_unfit) (maxL := 4) (ret := (some .int)) (by decide) rfl ?_
  intro p e s m args below meth c s₁ B hml hv
  obtain ⟨rfl, hw, hc⟩ := hv
  have hx := B.exec
  have hb := B.bytes
  have hr := B.returns
  have hts := atoms_spec (ws := wsX11_unfit) B.pre
  have hown : s.vm.findClass RX11 = some m.cls := findClass_of_methodNamed B.named
  have hinX11 : ∀ w ∈ u_ws RX11 TX11 13, w ∈ wsX11_unfit := fun w h => List.mem_cons_of_mem _ (iT_X11 w h)
  have hinX8 : ∀ w ∈ u_ws RX8 TX8 4, w ∈ wsX11_unfit := fun w h => List.mem_cons_of_mem _ (iT_X8 w h)
  have hS : va_S (fm_A nb ad) s.heap s.heap [] := va_S.rf
  have hE : fm_same [50014, 56000] M M := fm_same.rf
  have hl := lv_entry ([.ref (ad 0 0)]) (n := 4) (Nat.le_of_ble_eq_true rfl)
  rw [lg_entry_eq]
  generalize (lg_sl ([.ref (ad 0 0)]) ++ List.replicate (4 - (lg_sl ([.ref (ad 0 0)])).length) Slot.unset).toArray = ls at hl ⊢
  have hl : lv_has ls 4 [(0, .ref (ad 0 0))] := hl
  refine lv_iconst (v := 0) hx hb dX11_unfit_0 (by decide) ?_
  refine lv_istore_n (lv' := [(1, .int 0), (0, .ref (ad 0 0))]) hx hb dX11_unfit_1 rfl hl (by decide) rfl (fun ls hl => ?_)
  refine lv_iconst (v := 0) hx hb dX11_unfit_2 (by decide) ?_
  refine lv_istore_n (lv' := [(2, .int 0), (1, .int 0), (0, .ref (ad 0 0))]) hx hb dX11_unfit_3 rfl hl (by decide) rfl (fun ls hl => ?_)
  have lp : ∀ (n_lp : Nat) (lp_2 : Int32) (lp_1 : Int32) (M_lp : fm_M), (20 - lp_2.toInt).toNat < n_lp → (0 ≤ lp_2.toInt ∧ lp_2.toInt ≤ 20) → fm_I nb ad M_lp → fm_same [50014, 56000] M M_lp → ∀ (H : Heap) (locs : List Loc), fm_at D ad C nb M_lp H → va_S (fm_A nb ad) s.heap H locs → ∀ (ls : Array Slot), lv_has ls 4 [(2, .int lp_2), (1, .int lp_1), (0, .ref (ad 0 0))] → W p l e (headSpec wsX11_unfit ({ frames := 4, cells := 0, slots := 0, locals := 104 })).room s m ([.ref (ad 0 0)] : List Value).toArray below meth c H locs 0 0 (MQ below (va_Qi (fun (r : Int32) (u : fm_M) => fm_I nb ad u ∧ fm_same [50014, 56000] M u ∧ True) (fun u t => fm_at D ad C nb u t.heap) (fm_A nb ad)) ([.ref (ad 0 0)] : List Value).toArray s 0 0 (fm_A nb ad)) (F0 m 4 ls []) := by
    intro n_lp
    induction n_lp with
    | zero => intro lp_2 lp_1 M_lp hm_lp b_lp_2 hI hE H locs hw hS ls hl; exact absurd hm_lp (Nat.not_lt_zero _)
    | succ n_lp ih_lp =>
      intro lp_2 lp_1 M_lp hm_lp b_lp_2 hI hE H locs hw hS ls hl
      refine lv_iload_n hx hb dX11_unfit_4 rfl (lv_at hl 0 rfl) ?_
      refine lv_aload_n hx hb dX11_unfit_5 rfl (lv_at hl 2 rfl) ?_
      refine fm_getG (a := 0) (j := 6) (T := TX11) (N := 13) hx hb hts hinX11 hown hc hw kl_0 sh_0 rfl (by decide) rfl (hI.to kl_0 tg_0_6) (hts (.fieldLink RX11 53 "RedTent" "stories" "LRedTent$Stories;") (List.mem_cons_of_mem _ tw_2_101)) (fun _ h9 => h9) dX11_unfit_6 ?_
      refine fm_getI (a := 38) (j := 3) (T := TX8) (N := 4) hx hb hts hinX8 hown hc hw hI kl_38 sh_38 rfl (by decide) rfl bd_38_3 (hts (.fieldLink RX11 302 "RedTent$Stories" "told" "I") (List.mem_cons_of_mem _ tw_2_42)) (fun _ h9 => h9) dX11_unfit_9 (fun x1 ex1 bx1 => ?_)
      refine fx_icmp_ge (tgt := 77) hx hb dX11_unfit_12 (by decide) rfl rfl (fun c2 => ?_) (fun c2 => ?_)
      · refine lv_iload_n hx hb dX11_unfit_77 rfl (lv_at hl 1 rfl) ?_
        exact W.iret (v := lp_1) hx hb hr (fun t ht hW => ⟨⟨lp_1, M_lp, rfl, ⟨hI, hE, trivial⟩, by show fm_at D ad C nb _ t.heap; rw [ht]; exact hw⟩, hS.F ht⟩) hS.2.2 dX11_unfit_78
      · refine lv_aload_n hx hb dX11_unfit_15 rfl (lv_at hl 2 rfl) ?_
        refine lv_aload_n hx hb dX11_unfit_16 rfl (lv_at hl 2 rfl) ?_
        refine fm_getG (a := 0) (j := 6) (T := TX11) (N := 13) hx hb hts hinX11 hown hc hw kl_0 sh_0 rfl (by decide) rfl (hI.to kl_0 tg_0_6) (hts (.fieldLink RX11 53 "RedTent" "stories" "LRedTent$Stories;") (List.mem_cons_of_mem _ tw_2_101)) (fun _ h9 => h9) dX11_unfit_17 ?_
        refine fm_getG (a := 38) (j := 0) (T := TX8) (N := 4) hx hb hts hinX8 hown hc hw kl_38 sh_38 rfl (by decide) rfl (hI.to kl_38 tg_38_0) (hts (.fieldLink RX11 308 "RedTent$Stories" "body" "[I") (List.mem_cons_of_mem _ tw_2_36)) (fun _ h9 => h9) dX11_unfit_20 ?_
        refine lv_iload_n hx hb dX11_unfit_23 rfl (lv_at hl 0 rfl) ?_
        refine fm_iald (a := 39) hx hb hc hw hI kl_39 sh_39 ty_39 bd_39 (by omega) dX11_unfit_24 (fun x3 ex3 bx3 => ?_)
        refine va_csq (va_Run.run (va_runV (As := [.int x3]) (rest := []) ⟨hx, hb, hml, hown, hts⟩ (fc_X11_bodyAt l D ad C nb M_lp hI x3) (cwV 1 hts gX11_unfit_X11_bodyAt rfl rfl rfl (by decide +kernel) ⟨Nat.le_of_ble_eq_true rfl, Nat.le_of_ble_eq_true rfl⟩) (fm_preV hc hw hS kl_0 sh_0 rfl) rfl rfl hl.1 rfl (lv_room (Nat.le_of_ble_eq_true rfl)) dX11_unfit_25 ⟨by decide +kernel, by decide +kernel⟩)) (fun r4 hr4 => ?_)
        rcases hr4 with ⟨rfl, hr4n⟩ | ⟨hr4l, hr4u, rfl⟩
        · refine lv_astore_nN (lv' := [(3, .null), (2, .int lp_2), (1, .int lp_1), (0, .ref (ad 0 0))]) hx hb dX11_unfit_28 rfl hl (by decide) rfl (fun ls hl => ?_)
          refine lv_aload_nN hx hb dX11_unfit_29 rfl (lv_at hl 0 rfl) ?_
          refine lv_ifnullN (tgt := 71) hx hb dX11_unfit_30 (by decide) ?_
          obtain ⟨y5, ey5⟩ : ∃ y : Int32, y = lp_2 + 1 := ⟨_, rfl⟩
          have ty5 : y5.toInt = lp_2.toInt + 1 := by rw [ey5, zi_add _ _ (by rw [zk_1]; omega) (by rw [zk_1]; omega), zk_1]
          refine lv_iinc (v := y5) (lv' := [(2, .int y5), (3, .null), (1, .int lp_1), (0, .ref (ad 0 0))]) hx hb dX11_unfit_71 hl (k := 1) rfl (by rw [ey5]; rfl) (by decide) rfl (fun ls hl => ?_)
          refine lv_goto (tgt := 4) hx hb dX11_unfit_74 (by decide) ?_
          exact ih_lp y5 lp_1 M_lp (by omega) (by omega) hI hE _ _ hw hS ls (lv_sub hl [0, 2, 3] rfl)
        · have khr4 : x3.toNatClampNeg < nb := zi_cln ⟨hr4l, hr4u⟩
          have nhr4 : nb ≤ 12 := hI.2.2.2.2.2.2.2
          refine lv_astore_n (lv' := [(3, .ref (ad 50 x3.toNatClampNeg)), (2, .int lp_2), (1, .int lp_1), (0, .ref (ad 0 0))]) hx hb dX11_unfit_28 rfl hl (by decide) rfl (fun ls hl => ?_)
          refine lv_aload_n hx hb dX11_unfit_29 rfl (lv_at hl 0 rfl) ?_
          refine lv_ifnull hx hb dX11_unfit_30 ?_
          refine lv_aload_n hx hb dX11_unfit_33 rfl (lv_at hl 0 rfl) ?_
          refine lv_aload_n hx hb dX11_unfit_34 rfl (lv_at hl 3 rfl) ?_
          refine fm_getG (a := 0) (j := 0) (T := TX11) (N := 13) hx hb hts hinX11 hown hc hw kl_0 sh_0 rfl (by decide) rfl (hI.to kl_0 tg_0_0) (hts (.fieldLink RX11 10 "RedTent" "weather" "LRedTent$Weather;") (List.mem_cons_of_mem _ tw_2_95)) (fun _ h9 => h9) dX11_unfit_35 ?_
          refine lv_aload_n hx hb dX11_unfit_38 rfl (lv_at hl 3 rfl) ?_
          refine fm_getG (a := 0) (j := 6) (T := TX11) (N := 13) hx hb hts hinX11 hown hc hw kl_0 sh_0 rfl (by decide) rfl (hI.to kl_0 tg_0_6) (hts (.fieldLink RX11 53 "RedTent" "stories" "LRedTent$Stories;") (List.mem_cons_of_mem _ tw_2_101)) (fun _ h9 => h9) dX11_unfit_39 ?_
          refine fm_getG (a := 38) (j := 2) (T := TX8) (N := 4) hx hb hts hinX8 hown hc hw kl_38 sh_38 rfl (by decide) rfl (hI.to kl_38 tg_38_2) (hts (.fieldLink RX11 311 "RedTent$Stories" "hour" "[I") (List.mem_cons_of_mem _ tw_2_40)) (fun _ h9 => h9) dX11_unfit_42 ?_
          refine lv_iload_n hx hb dX11_unfit_45 rfl (lv_at hl 1 rfl) ?_
          refine fm_iald (a := 41) hx hb hc hw hI kl_41 sh_41 ty_41 bd_41 (by omega) dX11_unfit_46 (fun x6 ex6 bx6 => ?_)
          refine fm_cl (va_runV (As := [.ref (ad 1 0), .int x6]) (rest := []) ⟨hx, hb, hml, hown, hts⟩ (fc_X0_placesNow l D ad C nb M_lp hI x3.toNatClampNeg khr4 x6) (cwV 2 hts gX11_unfit_X0_placesNow rfl rfl rfl (by decide +kernel) ⟨Nat.le_of_ble_eq_true rfl, Nat.le_of_ble_eq_true rfl⟩) (fm_preV hc hw hS (kl_50 khr4) sh_50 rfl) rfl rfl hl.1 rfl (lv_room (Nat.le_of_ble_eq_true rfl)) dX11_unfit_47 ⟨by decide +kernel, by decide +kernel⟩) hS hc (fun r7 M8 H locs hr7 hw hS => ?_)
          obtain ⟨hI, hEM8, hr7⟩ := hr7
          have hE := hE.tr hEM8 (by decide)
          refine lv_aload_n hx hb dX11_unfit_50 rfl (lv_at hl 3 rfl) ?_
          refine fm_getG (a := 0) (j := 6) (T := TX11) (N := 13) hx hb hts hinX11 hown hc hw kl_0 sh_0 rfl (by decide) rfl (hI.to kl_0 tg_0_6) (hts (.fieldLink RX11 53 "RedTent" "stories" "LRedTent$Stories;") (List.mem_cons_of_mem _ tw_2_101)) (fun _ h9 => h9) dX11_unfit_51 ?_
          refine fm_getG (a := 38) (j := 1) (T := TX8) (N := 4) hx hb hts hinX8 hown hc hw kl_38 sh_38 rfl (by decide) rfl (hI.to kl_38 tg_38_1) (hts (.fieldLink RX11 314 "RedTent$Stories" "cell" "[I") (List.mem_cons_of_mem _ tw_2_38)) (fun _ h9 => h9) dX11_unfit_54 ?_
          refine lv_iload_n hx hb dX11_unfit_57 rfl (lv_at hl 1 rfl) ?_
          refine fm_iald (a := 40) hx hb hc hw hI kl_40 sh_40 ty_40 bd_40 (by omega) dX11_unfit_58 (fun x9 ex9 bx9 => ?_)
          refine vp_callSi (va_Run.run (va_runS (As := [.long r7, .int x9]) (rest := []) ⟨hx, hb, hml, hown, hts⟩ (fc_X11_has l r7 x9) (va_cwS 2 hts gX11_unfit_X11_has rfl rfl rfl (by decide +kernel) ⟨Nat.le_of_ble_eq_true rfl, Nat.le_of_ble_eq_true rfl⟩) ⟨fun a U g mk q => q, fun U hU hW => ⟨rfl, trivial⟩⟩ rfl rfl hl.1 rfl (lv_room (Nat.le_of_ble_eq_true rfl)) dX11_unfit_59 ⟨by decide +kernel, by decide +kernel⟩)) (fun r10 hr10 => ?_)
          rcases hr10 with ⟨rfl, c11⟩ | ⟨rfl, c11⟩
          · refine fx_if_ne (tgt := 71) hx hb dX11_unfit_62 (by decide) zk_1 (fun c12 => ?_) (fun c12 => by exfalso; omega)
            obtain ⟨y13, ey13⟩ : ∃ y : Int32, y = lp_2 + 1 := ⟨_, rfl⟩
            have ty13 : y13.toInt = lp_2.toInt + 1 := by rw [ey13, zi_add _ _ (by rw [zk_1]; omega) (by rw [zk_1]; omega), zk_1]
            refine lv_iinc (v := y13) (lv' := [(2, .int y13), (3, .ref (ad 50 x3.toNatClampNeg)), (1, .int lp_1), (0, .ref (ad 0 0))]) hx hb dX11_unfit_71 hl (k := 1) rfl (by rw [ey13]; rfl) (by decide) rfl (fun ls hl => ?_)
            refine lv_goto (tgt := 4) hx hb dX11_unfit_74 (by decide) ?_
            exact ih_lp y13 lp_1 M8 (by omega) (by omega) hI hE _ _ hw hS ls (lv_sub hl [0, 2, 3] rfl)
          · refine fx_if_ne (tgt := 71) hx hb dX11_unfit_62 (by decide) zk_0 (fun c14 => by exfalso; omega) (fun c14 => ?_)
            refine lv_iload_n hx hb dX11_unfit_65 rfl (lv_at hl 2 rfl) ?_
            refine lv_iconst (v := 1) hx hb dX11_unfit_66 (by decide) ?_
            refine lv_iload_n hx hb dX11_unfit_67 rfl (lv_at hl 1 rfl) ?_
            refine lv_ishl hx hb dX11_unfit_68 ?_
            refine lv_topi (fun y15 ey15 => ?_)
            refine lv_ior hx hb dX11_unfit_69 ?_
            refine lv_topi (fun y16 ey16 => ?_)
            refine lv_istore_n (lv' := [(1, .int y16), (3, .ref (ad 50 x3.toNatClampNeg)), (2, .int lp_2), (0, .ref (ad 0 0))]) hx hb dX11_unfit_70 rfl hl (by decide) rfl (fun ls hl => ?_)
            obtain ⟨y17, ey17⟩ : ∃ y : Int32, y = lp_2 + 1 := ⟨_, rfl⟩
            have ty17 : y17.toInt = lp_2.toInt + 1 := by rw [ey17, zi_add _ _ (by rw [zk_1]; omega) (by rw [zk_1]; omega), zk_1]
            refine lv_iinc (v := y17) (lv' := [(2, .int y17), (1, .int y16), (3, .ref (ad 50 x3.toNatClampNeg)), (0, .ref (ad 0 0))]) hx hb dX11_unfit_71 hl (k := 2) rfl (by rw [ey17]; rfl) (by decide) rfl (fun ls hl => ?_)
            refine lv_goto (tgt := 4) hx hb dX11_unfit_74 (by decide) ?_
            exact ih_lp y17 y16 M8 (by omega) (by omega) hI hE _ _ hw hS ls (lv_sub hl [0, 1, 3] rfl)
  exact lp _ 0 0 M (Nat.lt_succ_self _) (by decide) hI hE _ _ hw hS ls (lv_sub hl [0, 1, 2] rfl)
set_option maxHeartbeats 400000 in
set_option maxRecDepth 20000 in
theorem fc_X11_clash (l : Launch) (D : va_G) (ad : Nat → Nat → Nat) (C : Nat → Nat → ClassId) (nb : Nat) (M : fm_M) (hI : fm_I nb ad M) (p0 p1 : Int32) : Met l yX11_clash wsX11_clash ({ frames := 3, cells := 0, slots := 0, locals := 79 }) (va_Pc [.ref (ad 0 0), .int p0, .int p1] (fm_P D ad C nb M)) (vp_Si (fun r : Int32 => True)) 0 0 (fun _ => False) := by
  refine Met.ofW (cc := cX11_clash) (maxL := 9) (ret := (some .int)) (by decide) rfl ?_
  intro p e s m args below meth c s₁ B hml hv
  obtain ⟨rfl, hw, hc⟩ := hv
  have hx := B.exec
  have hb := B.bytes
  have hr := B.returns
  have hts := atoms_spec (ws := wsX11_clash) B.pre
  have hown : s.vm.findClass RX11 = some m.cls := findClass_of_methodNamed B.named
  have hinX11 : ∀ w ∈ u_ws RX11 TX11 13, w ∈ wsX11_clash := fun w h => List.mem_cons_of_mem _ (iT_X11 w h)
  have hinX8 : ∀ w ∈ u_ws RX8 TX8 4, w ∈ wsX11_clash := fun w h => List.mem_cons_of_mem _ (iT_X8 w h)
  have hS : va_S (fm_A nb ad) s.heap s.heap [] := va_S.rf
  have hl := lv_entry ([.ref (ad 0 0), .int p0, .int p1]) (n := 9) (Nat.le_of_ble_eq_true rfl)
  rw [lg_entry_eq]
  generalize (lg_sl ([.ref (ad 0 0), .int p0, .int p1]) ++ List.replicate (9 - (lg_sl ([.ref (ad 0 0), .int p0, .int p1])).length) Slot.unset).toArray = ls at hl ⊢
  have hl : lv_has ls 9 [(0, .ref (ad 0 0)), (1, .int p0), (2, .int p1)] := hl
  refine lv_aload_n hx hb dX11_clash_0 rfl (lv_at hl 0 rfl) ?_
  refine fm_getG (a := 0) (j := 6) (T := TX11) (N := 13) hx hb hts hinX11 hown hc hw kl_0 sh_0 rfl (by decide) rfl (hI.to kl_0 tg_0_6) (hts (.fieldLink RX11 53 "RedTent" "stories" "LRedTent$Stories;") (List.mem_cons_of_mem _ tw_2_101)) (fun _ h9 => h9) dX11_clash_1 ?_
  refine lv_iload_n hx hb dX11_clash_4 rfl (lv_at hl 1 rfl) ?_
  refine vp_callSi (va_Run.run (va_runV (As := [.int p0]) (rest := []) ⟨hx, hb, hml, hown, hts⟩ (fc_X8_hasStory l D ad C nb M hI p0) (cwV 1 hts gX11_clash_X8_hasStory rfl rfl rfl (by decide +kernel) ⟨Nat.le_of_ble_eq_true rfl, Nat.le_of_ble_eq_true rfl⟩) (fm_preV hc hw hS kl_38 sh_38 rfl) rfl rfl hl.1 rfl (lv_room (Nat.le_of_ble_eq_true rfl)) dX11_clash_5 ⟨by decide +kernel, by decide +kernel⟩)) (fun r1 hr1 => ?_)
  have bqq2 := hI.bd (k := 0) bd_38_3
  rcases hr1 with ⟨rfl, c3⟩ | ⟨rfl, c3⟩
  · refine fx_if_eq (tgt := 48) hx hb dX11_clash_8 (by decide) zk_1 (fun c4 => by exfalso; omega) (fun c4 => ?_)
    refine lv_aload_n hx hb dX11_clash_11 rfl (lv_at hl 0 rfl) ?_
    refine fm_getG (a := 0) (j := 6) (T := TX11) (N := 13) hx hb hts hinX11 hown hc hw kl_0 sh_0 rfl (by decide) rfl (hI.to kl_0 tg_0_6) (hts (.fieldLink RX11 53 "RedTent" "stories" "LRedTent$Stories;") (List.mem_cons_of_mem _ tw_2_101)) (fun _ h9 => h9) dX11_clash_12 ?_
    refine lv_iload_n hx hb dX11_clash_15 rfl (lv_at hl 2 rfl) ?_
    refine vp_callSi (va_Run.run (va_runV (As := [.int p1]) (rest := []) ⟨hx, hb, hml, hown, hts⟩ (fc_X8_hasStory l D ad C nb M hI p1) (cwV 1 hts gX11_clash_X8_hasStory rfl rfl rfl (by decide +kernel) ⟨Nat.le_of_ble_eq_true rfl, Nat.le_of_ble_eq_true rfl⟩) (fm_preV hc hw hS kl_38 sh_38 rfl) rfl rfl hl.1 rfl (lv_room (Nat.le_of_ble_eq_true rfl)) dX11_clash_16 ⟨by decide +kernel, by decide +kernel⟩)) (fun r5 hr5 => ?_)
    have bqq6 := hI.bd (k := 0) bd_38_3
    rcases hr5 with ⟨rfl, c7⟩ | ⟨rfl, c7⟩
    · refine fx_if_eq (tgt := 48) hx hb dX11_clash_19 (by decide) zk_1 (fun c8 => by exfalso; omega) (fun c8 => ?_)
      refine lv_iload_n hx hb dX11_clash_22 rfl (lv_at hl 1 rfl) ?_
      refine lv_iload_n hx hb dX11_clash_23 rfl (lv_at hl 2 rfl) ?_
      refine fx_icmp_eq (tgt := 48) hx hb dX11_clash_24 (by decide) rfl rfl (fun c9 => ?_) (fun c9 => ?_)
      · refine lv_bipush (v := (-2)) hx hb dX11_clash_48 (by decide) ?_
        exact W.iret (v := (-2)) hx hb hr (fun t ht hW => ⟨(-2), rfl, trivial, ht⟩) (fun _ h => absurd h List.not_mem_nil) dX11_clash_50
      · refine lv_aload_n hx hb dX11_clash_27 rfl (lv_at hl 0 rfl) ?_
        refine fm_getG (a := 0) (j := 6) (T := TX11) (N := 13) hx hb hts hinX11 hown hc hw kl_0 sh_0 rfl (by decide) rfl (hI.to kl_0 tg_0_6) (hts (.fieldLink RX11 53 "RedTent" "stories" "LRedTent$Stories;") (List.mem_cons_of_mem _ tw_2_101)) (fun _ h9 => h9) dX11_clash_28 ?_
        refine fm_getG (a := 38) (j := 0) (T := TX8) (N := 4) hx hb hts hinX8 hown hc hw kl_38 sh_38 rfl (by decide) rfl (hI.to kl_38 tg_38_0) (hts (.fieldLink RX11 308 "RedTent$Stories" "body" "[I") (List.mem_cons_of_mem _ tw_2_36)) (fun _ h9 => h9) dX11_clash_31 ?_
        refine lv_iload_n hx hb dX11_clash_34 rfl (lv_at hl 1 rfl) ?_
        refine fm_iald (a := 39) hx hb hc hw hI kl_39 sh_39 ty_39 bd_39 (by omega) dX11_clash_35 (fun x10 ex10 bx10 => ?_)
        refine lv_aload_n hx hb dX11_clash_36 rfl (lv_at hl 0 rfl) ?_
        refine fm_getG (a := 0) (j := 6) (T := TX11) (N := 13) hx hb hts hinX11 hown hc hw kl_0 sh_0 rfl (by decide) rfl (hI.to kl_0 tg_0_6) (hts (.fieldLink RX11 53 "RedTent" "stories" "LRedTent$Stories;") (List.mem_cons_of_mem _ tw_2_101)) (fun _ h9 => h9) dX11_clash_37 ?_
        refine fm_getG (a := 38) (j := 0) (T := TX8) (N := 4) hx hb hts hinX8 hown hc hw kl_38 sh_38 rfl (by decide) rfl (hI.to kl_38 tg_38_0) (hts (.fieldLink RX11 308 "RedTent$Stories" "body" "[I") (List.mem_cons_of_mem _ tw_2_36)) (fun _ h9 => h9) dX11_clash_40 ?_
        refine lv_iload_n hx hb dX11_clash_43 rfl (lv_at hl 2 rfl) ?_
        refine fm_iald (a := 39) hx hb hc hw hI kl_39 sh_39 ty_39 bd_39 (by omega) dX11_clash_44 (fun x11 ex11 bx11 => ?_)
        refine fx_icmp_eq (tgt := 51) hx hb dX11_clash_45 (by decide) rfl rfl (fun c12 => ?_) (fun c12 => ?_)
        · refine lv_aload_n hx hb dX11_clash_51 rfl (lv_at hl 0 rfl) ?_
          refine lv_aload_n hx hb dX11_clash_52 rfl (lv_at hl 0 rfl) ?_
          refine fm_getG (a := 0) (j := 6) (T := TX11) (N := 13) hx hb hts hinX11 hown hc hw kl_0 sh_0 rfl (by decide) rfl (hI.to kl_0 tg_0_6) (hts (.fieldLink RX11 53 "RedTent" "stories" "LRedTent$Stories;") (List.mem_cons_of_mem _ tw_2_101)) (fun _ h9 => h9) dX11_clash_53 ?_
          refine fm_getG (a := 38) (j := 0) (T := TX8) (N := 4) hx hb hts hinX8 hown hc hw kl_38 sh_38 rfl (by decide) rfl (hI.to kl_38 tg_38_0) (hts (.fieldLink RX11 308 "RedTent$Stories" "body" "[I") (List.mem_cons_of_mem _ tw_2_36)) (fun _ h9 => h9) dX11_clash_56 ?_
          refine lv_iload_n hx hb dX11_clash_59 rfl (lv_at hl 1 rfl) ?_
          refine fm_iald (a := 39) hx hb hc hw hI kl_39 sh_39 ty_39 bd_39 (by omega) dX11_clash_60 (fun x13 ex13 bx13 => ?_)
          obtain rfl : x10 = x13 := by rw [ex13]; exact ex10
          refine va_csq (va_Run.run (va_runV (As := [.int x10]) (rest := []) ⟨hx, hb, hml, hown, hts⟩ (fc_X11_bodyAt l D ad C nb M hI x10) (cwV 1 hts gX11_clash_X11_bodyAt rfl rfl rfl (by decide +kernel) ⟨Nat.le_of_ble_eq_true rfl, Nat.le_of_ble_eq_true rfl⟩) (fm_preV hc hw hS kl_0 sh_0 rfl) rfl rfl hl.1 rfl (lv_room (Nat.le_of_ble_eq_true rfl)) dX11_clash_61 ⟨by decide +kernel, by decide +kernel⟩)) (fun r14 hr14 => ?_)
          rcases hr14 with ⟨rfl, hr14n⟩ | ⟨hr14l, hr14u, rfl⟩
          · refine lv_astore_nN (lv' := [(3, .null), (0, .ref (ad 0 0)), (1, .int p0), (2, .int p1)]) hx hb dX11_clash_64 rfl hl (by decide) rfl (fun ls hl => ?_)
            refine lv_aload_nN hx hb dX11_clash_65 rfl (lv_at hl 0 rfl) ?_
            refine lv_ifnonnullN hx hb dX11_clash_66 ?_
            refine lv_bipush (v := (-2)) hx hb dX11_clash_69 (by decide) ?_
            exact W.iret (v := (-2)) hx hb hr (fun t ht hW => ⟨(-2), rfl, trivial, ht⟩) (fun _ h => absurd h List.not_mem_nil) dX11_clash_71
          · have khr14 : x10.toNatClampNeg < nb := zi_cln ⟨hr14l, hr14u⟩
            have nhr14 : nb ≤ 12 := hI.2.2.2.2.2.2.2
            refine lv_astore_n (lv' := [(3, .ref (ad 50 x10.toNatClampNeg)), (0, .ref (ad 0 0)), (1, .int p0), (2, .int p1)]) hx hb dX11_clash_64 rfl hl (by decide) rfl (fun ls hl => ?_)
            refine lv_aload_n hx hb dX11_clash_65 rfl (lv_at hl 0 rfl) ?_
            refine lv_ifnonnull (tgt := 72) hx hb dX11_clash_66 (by decide) ?_
            have j1 : ∀ (j1_4 : Int32), (0 ≤ j1_4.toInt ∧ j1_4.toInt ≤ 19) → ∀ (ls : Array Slot), lv_has ls 9 [(3, .ref (ad 50 x10.toNatClampNeg)), (0, .ref (ad 0 0)), (1, .int p0), (2, .int p1), (4, .int j1_4)] → W p l e (headSpec wsX11_clash ({ frames := 3, cells := 0, slots := 0, locals := 79 })).room s m ([.ref (ad 0 0), .int p0, .int p1] : List Value).toArray below meth c s.heap [] 0 0 (MQ below (vp_Si (fun r : Int32 => True)) ([.ref (ad 0 0), .int p0, .int p1] : List Value).toArray s 0 0 (fun _ => False)) (F0 m 100 ls []) := by
              intro j1_4 b_j1_4 ls hl
              have j2 : ∀ (j2_5 : Int32), (0 ≤ j2_5.toInt ∧ j2_5.toInt ≤ 19) → ∀ (ls : Array Slot), lv_has ls 9 [(3, .ref (ad 50 x10.toNatClampNeg)), (0, .ref (ad 0 0)), (1, .int p0), (2, .int p1), (4, .int j1_4), (5, .int j2_5)] → W p l e (headSpec wsX11_clash ({ frames := 3, cells := 0, slots := 0, locals := 79 })).room s m ([.ref (ad 0 0), .int p0, .int p1] : List Value).toArray below meth c s.heap [] 0 0 (MQ below (vp_Si (fun r : Int32 => True)) ([.ref (ad 0 0), .int p0, .int p1] : List Value).toArray s 0 0 (fun _ => False)) (F0 m 113 ls []) := by
                intro j2_5 b_j2_5 ls hl
                refine lv_lconst (v := 1) hx hb dX11_clash_113 (by decide) ?_
                refine lv_aload_n hx hb dX11_clash_114 rfl (lv_at hl 1 rfl) ?_
                refine fm_getG (a := 0) (j := 6) (T := TX11) (N := 13) hx hb hts hinX11 hown hc hw kl_0 sh_0 rfl (by decide) rfl (hI.to kl_0 tg_0_6) (hts (.fieldLink RX11 53 "RedTent" "stories" "LRedTent$Stories;") (List.mem_cons_of_mem _ tw_2_101)) (fun _ h9 => h9) dX11_clash_115 ?_
                refine fm_getG (a := 38) (j := 1) (T := TX8) (N := 4) hx hb hts hinX8 hown hc hw kl_38 sh_38 rfl (by decide) rfl (hI.to kl_38 tg_38_1) (hts (.fieldLink RX11 314 "RedTent$Stories" "cell" "[I") (List.mem_cons_of_mem _ tw_2_38)) (fun _ h9 => h9) dX11_clash_118 ?_
                refine lv_iload hx hb dX11_clash_121 (lv_at hl 4 rfl) ?_
                refine fm_iald (a := 40) hx hb hc hw hI kl_40 sh_40 ty_40 bd_40 (by omega) dX11_clash_123 (fun x15 ex15 bx15 => ?_)
                refine lv_lshl (v := (1 : Int64) <<< (x15.toInt64 &&& 63)) hx hb dX11_clash_124 rfl ?_
                refine lv_topl (fun y16 ey16 => ?_)
                refine lv_lstore (lv' := [(6, .long y16), (3, .ref (ad 50 x10.toNatClampNeg)), (0, .ref (ad 0 0)), (1, .int p0), (2, .int p1), (4, .int j1_4), (5, .int j2_5)]) hx hb dX11_clash_125 hl (by decide) rfl (fun ls hl => ?_)
                refine lv_aload_n hx hb dX11_clash_127 rfl (lv_at hl 2 rfl) ?_
                refine fm_getG (a := 0) (j := 6) (T := TX11) (N := 13) hx hb hts hinX11 hown hc hw kl_0 sh_0 rfl (by decide) rfl (hI.to kl_0 tg_0_6) (hts (.fieldLink RX11 53 "RedTent" "stories" "LRedTent$Stories;") (List.mem_cons_of_mem _ tw_2_101)) (fun _ h9 => h9) dX11_clash_128 ?_
                refine fm_getG (a := 38) (j := 2) (T := TX8) (N := 4) hx hb hts hinX8 hown hc hw kl_38 sh_38 rfl (by decide) rfl (hI.to kl_38 tg_38_2) (hts (.fieldLink RX11 311 "RedTent$Stories" "hour" "[I") (List.mem_cons_of_mem _ tw_2_40)) (fun _ h9 => h9) dX11_clash_131 ?_
                refine lv_iload hx hb dX11_clash_134 (lv_at hl 5 rfl) ?_
                refine fm_iald (a := 41) hx hb hc hw hI kl_41 sh_41 ty_41 bd_41 (by omega) dX11_clash_136 (fun x17 ex17 bx17 => ?_)
                refine lv_istore (lv' := [(8, .int x17), (6, .long y16), (3, .ref (ad 50 x10.toNatClampNeg)), (0, .ref (ad 0 0)), (1, .int p0), (2, .int p1), (4, .int j1_4), (5, .int j2_5)]) hx hb dX11_clash_137 hl (by decide) rfl (fun ls hl => ?_)
                have lp : ∀ (n_lp : Nat) (lp_8 : Int32) (lp_6 : Int64), (239 - lp_8.toInt).toNat < n_lp → (0 ≤ lp_8.toInt ∧ lp_8.toInt ≤ 239) → ∀ (ls : Array Slot), lv_has ls 9 [(8, .int lp_8), (6, .long lp_6), (3, .ref (ad 50 x10.toNatClampNeg)), (0, .ref (ad 0 0)), (1, .int p0), (2, .int p1), (4, .int j1_4), (5, .int j2_5)] → W p l e (headSpec wsX11_clash ({ frames := 3, cells := 0, slots := 0, locals := 79 })).room s m ([.ref (ad 0 0), .int p0, .int p1] : List Value).toArray below meth c s.heap [] 0 0 (MQ below (vp_Si (fun r : Int32 => True)) ([.ref (ad 0 0), .int p0, .int p1] : List Value).toArray s 0 0 (fun _ => False)) (F0 m 139 ls []) := by
                  intro n_lp
                  induction n_lp with
                  | zero => intro lp_8 lp_6 hm_lp b_lp_8 ls hl; exact absurd hm_lp (Nat.not_lt_zero _)
                  | succ n_lp ih_lp =>
                    intro lp_8 lp_6 hm_lp b_lp_8 ls hl
                    refine lv_iload hx hb dX11_clash_139 (lv_at hl 0 rfl) ?_
                    refine lv_aload_n hx hb dX11_clash_141 rfl (lv_at hl 3 rfl) ?_
                    refine fm_getG (a := 0) (j := 6) (T := TX11) (N := 13) hx hb hts hinX11 hown hc hw kl_0 sh_0 rfl (by decide) rfl (hI.to kl_0 tg_0_6) (hts (.fieldLink RX11 53 "RedTent" "stories" "LRedTent$Stories;") (List.mem_cons_of_mem _ tw_2_101)) (fun _ h9 => h9) dX11_clash_142 ?_
                    refine fm_getG (a := 38) (j := 2) (T := TX8) (N := 4) hx hb hts hinX8 hown hc hw kl_38 sh_38 rfl (by decide) rfl (hI.to kl_38 tg_38_2) (hts (.fieldLink RX11 311 "RedTent$Stories" "hour" "[I") (List.mem_cons_of_mem _ tw_2_40)) (fun _ h9 => h9) dX11_clash_145 ?_
                    refine lv_iload hx hb dX11_clash_148 (lv_at hl 7 rfl) ?_
                    refine fm_iald (a := 41) hx hb hc hw hI kl_41 sh_41 ty_41 bd_41 (by omega) dX11_clash_150 (fun x18 ex18 bx18 => ?_)
                    refine fx_icmp_ge (tgt := 174) hx hb dX11_clash_151 (by decide) rfl rfl (fun c19 => ?_) (fun c19 => ?_)
                    · refine lv_lload hx hb dX11_clash_174 (lv_at hl 1 rfl) ?_
                      refine lv_aload_n hx hb dX11_clash_176 rfl (lv_at hl 3 rfl) ?_
                      refine fm_getG (a := 0) (j := 6) (T := TX11) (N := 13) hx hb hts hinX11 hown hc hw kl_0 sh_0 rfl (by decide) rfl (hI.to kl_0 tg_0_6) (hts (.fieldLink RX11 53 "RedTent" "stories" "LRedTent$Stories;") (List.mem_cons_of_mem _ tw_2_101)) (fun _ h9 => h9) dX11_clash_177 ?_
                      refine fm_getG (a := 38) (j := 1) (T := TX8) (N := 4) hx hb hts hinX8 hown hc hw kl_38 sh_38 rfl (by decide) rfl (hI.to kl_38 tg_38_1) (hts (.fieldLink RX11 314 "RedTent$Stories" "cell" "[I") (List.mem_cons_of_mem _ tw_2_38)) (fun _ h9 => h9) dX11_clash_180 ?_
                      refine lv_iload hx hb dX11_clash_183 (lv_at hl 7 rfl) ?_
                      refine fm_iald (a := 40) hx hb hc hw hI kl_40 sh_40 ty_40 bd_40 (by omega) dX11_clash_185 (fun x20 ex20 bx20 => ?_)
                      refine vp_callSi (va_Run.run (va_runS (As := [.long lp_6, .int x20]) (rest := []) ⟨hx, hb, hml, hown, hts⟩ (fc_X11_has l lp_6 x20) (va_cwS 2 hts gX11_clash_X11_has rfl rfl rfl (by decide +kernel) ⟨Nat.le_of_ble_eq_true rfl, Nat.le_of_ble_eq_true rfl⟩) ⟨fun a U g mk q => q, fun U hU hW => ⟨rfl, trivial⟩⟩ rfl rfl hl.1 rfl (lv_room (Nat.le_of_ble_eq_true rfl)) dX11_clash_186 ⟨by decide +kernel, by decide +kernel⟩)) (fun r21 hr21 => ?_)
                      rcases hr21 with ⟨rfl, c22⟩ | ⟨rfl, c22⟩
                      · refine fx_if_eq (tgt := 196) hx hb dX11_clash_189 (by decide) zk_1 (fun c23 => by exfalso; omega) (fun c23 => ?_)
                        refine lv_iconst (v := 0) hx hb dX11_clash_192 (by decide) ?_
                        refine lv_goto (tgt := 197) hx hb dX11_clash_193 (by decide) ?_
                        exact W.iret (v := 0) hx hb hr (fun t ht hW => ⟨0, rfl, trivial, ht⟩) (fun _ h => absurd h List.not_mem_nil) dX11_clash_197
                      · refine fx_if_eq (tgt := 196) hx hb dX11_clash_189 (by decide) zk_0 (fun c24 => ?_) (fun c24 => by exfalso; omega)
                        refine lv_iconst (v := 1) hx hb dX11_clash_196 (by decide) ?_
                        exact W.iret (v := 1) hx hb hr (fun t ht hW => ⟨1, rfl, trivial, ht⟩) (fun _ h => absurd h List.not_mem_nil) dX11_clash_197
                    · refine lv_aload_n hx hb dX11_clash_154 rfl (lv_at hl 2 rfl) ?_
                      refine lv_aload_n hx hb dX11_clash_155 rfl (lv_at hl 3 rfl) ?_
                      refine fm_getG (a := 0) (j := 0) (T := TX11) (N := 13) hx hb hts hinX11 hown hc hw kl_0 sh_0 rfl (by decide) rfl (hI.to kl_0 tg_0_0) (hts (.fieldLink RX11 10 "RedTent" "weather" "LRedTent$Weather;") (List.mem_cons_of_mem _ tw_2_95)) (fun _ h9 => h9) dX11_clash_156 ?_
                      refine lv_iload hx hb dX11_clash_159 (lv_at hl 0 rfl) ?_
                      refine lv_lload hx hb dX11_clash_161 (lv_at hl 1 rfl) ?_
                      refine vp_callSl (va_Run.run (va_runV (As := [.ref (ad 1 0), .int lp_8, .long lp_6]) (rest := []) ⟨hx, hb, hml, hown, hts⟩ (fc_X0_driftIn l D ad C nb M hI x10.toNatClampNeg khr14 lp_8 lp_6 (by omega)) (cwV 3 hts gX11_clash_X0_driftIn rfl rfl rfl (by decide +kernel) ⟨Nat.le_of_ble_eq_true rfl, Nat.le_of_ble_eq_true rfl⟩) (fm_preV hc hw hS (kl_50 khr14) sh_50 rfl) rfl rfl hl.1 rfl (lv_room (Nat.le_of_ble_eq_true rfl)) dX11_clash_163 ⟨by decide +kernel, by decide +kernel⟩)) (fun r25 hr25 => ?_)
                      refine lv_lstore (lv' := [(6, .long r25), (8, .int lp_8), (3, .ref (ad 50 x10.toNatClampNeg)), (0, .ref (ad 0 0)), (1, .int p0), (2, .int p1), (4, .int j1_4), (5, .int j2_5)]) hx hb dX11_clash_166 hl (by decide) rfl (fun ls hl => ?_)
                      obtain ⟨y26, ey26⟩ : ∃ y : Int32, y = lp_8 + 1 := ⟨_, rfl⟩
                      have ty26 : y26.toInt = lp_8.toInt + 1 := by rw [ey26, zi_add _ _ (by rw [zk_1]; omega) (by rw [zk_1]; omega), zk_1]
                      refine lv_iinc (v := y26) (lv' := [(8, .int y26), (6, .long r25), (3, .ref (ad 50 x10.toNatClampNeg)), (0, .ref (ad 0 0)), (1, .int p0), (2, .int p1), (4, .int j1_4), (5, .int j2_5)]) hx hb dX11_clash_168 hl (k := 1) rfl (by rw [ey26]; rfl) (by decide) rfl (fun ls hl => ?_)
                      refine lv_goto (tgt := 139) hx hb dX11_clash_171 (by decide) ?_
                      exact ih_lp y26 r25 (by omega) (by omega) ls (lv_sub hl [0, 1, 2, 3, 4, 5, 6, 7] rfl)
                exact lp _ x17 y16 (Nat.lt_succ_self _) (by omega) ls (lv_sub hl [0, 1, 2, 3, 4, 5, 6, 7] rfl)
              refine lv_iload hx hb dX11_clash_100 (lv_at hl 4 rfl) ?_
              refine lv_iload_n hx hb dX11_clash_102 rfl (lv_at hl 2 rfl) ?_
              refine fx_icmp_ne (tgt := 110) hx hb dX11_clash_103 (by decide) rfl rfl (fun c27 => ?_) (fun c27 => ?_)
              · refine lv_iload_n hx hb dX11_clash_110 rfl (lv_at hl 2 rfl) ?_
                refine lv_istore (lv' := [(5, .int p0), (3, .ref (ad 50 x10.toNatClampNeg)), (0, .ref (ad 0 0)), (1, .int p0), (2, .int p1), (4, .int j1_4)]) hx hb dX11_clash_111 hl (by decide) rfl (fun ls hl => ?_)
                exact j2 p0 (by omega) ls (lv_sub hl [1, 2, 3, 4, 5, 0] rfl)
              · refine lv_iload_n hx hb dX11_clash_106 rfl (lv_at hl 3 rfl) ?_
                refine lv_goto (tgt := 111) hx hb dX11_clash_107 (by decide) ?_
                refine lv_istore (lv' := [(5, .int p1), (3, .ref (ad 50 x10.toNatClampNeg)), (0, .ref (ad 0 0)), (1, .int p0), (2, .int p1), (4, .int j1_4)]) hx hb dX11_clash_111 hl (by decide) rfl (fun ls hl => ?_)
                exact j2 p1 (by omega) ls (lv_sub hl [1, 2, 3, 4, 5, 0] rfl)
            refine lv_aload_n hx hb dX11_clash_72 rfl (lv_at hl 1 rfl) ?_
            refine fm_getG (a := 0) (j := 6) (T := TX11) (N := 13) hx hb hts hinX11 hown hc hw kl_0 sh_0 rfl (by decide) rfl (hI.to kl_0 tg_0_6) (hts (.fieldLink RX11 53 "RedTent" "stories" "LRedTent$Stories;") (List.mem_cons_of_mem _ tw_2_101)) (fun _ h9 => h9) dX11_clash_73 ?_
            refine fm_getG (a := 38) (j := 2) (T := TX8) (N := 4) hx hb hts hinX8 hown hc hw kl_38 sh_38 rfl (by decide) rfl (hI.to kl_38 tg_38_2) (hts (.fieldLink RX11 311 "RedTent$Stories" "hour" "[I") (List.mem_cons_of_mem _ tw_2_40)) (fun _ h9 => h9) dX11_clash_76 ?_
            refine lv_iload_n hx hb dX11_clash_79 rfl (lv_at hl 2 rfl) ?_
            refine fm_iald (a := 41) hx hb hc hw hI kl_41 sh_41 ty_41 bd_41 (by omega) dX11_clash_80 (fun x28 ex28 bx28 => ?_)
            refine lv_aload_n hx hb dX11_clash_81 rfl (lv_at hl 1 rfl) ?_
            refine fm_getG (a := 0) (j := 6) (T := TX11) (N := 13) hx hb hts hinX11 hown hc hw kl_0 sh_0 rfl (by decide) rfl (hI.to kl_0 tg_0_6) (hts (.fieldLink RX11 53 "RedTent" "stories" "LRedTent$Stories;") (List.mem_cons_of_mem _ tw_2_101)) (fun _ h9 => h9) dX11_clash_82 ?_
            refine fm_getG (a := 38) (j := 2) (T := TX8) (N := 4) hx hb hts hinX8 hown hc hw kl_38 sh_38 rfl (by decide) rfl (hI.to kl_38 tg_38_2) (hts (.fieldLink RX11 311 "RedTent$Stories" "hour" "[I") (List.mem_cons_of_mem _ tw_2_40)) (fun _ h9 => h9) dX11_clash_85 ?_
            refine lv_iload_n hx hb dX11_clash_88 rfl (lv_at hl 3 rfl) ?_
            refine fm_iald (a := 41) hx hb hc hw hI kl_41 sh_41 ty_41 bd_41 (by omega) dX11_clash_89 (fun x29 ex29 bx29 => ?_)
            refine fx_icmp_gt (tgt := 97) hx hb dX11_clash_90 (by decide) rfl rfl (fun c30 => ?_) (fun c30 => ?_)
            · refine lv_iload_n hx hb dX11_clash_97 rfl (lv_at hl 3 rfl) ?_
              refine lv_istore (lv' := [(4, .int p1), (3, .ref (ad 50 x10.toNatClampNeg)), (0, .ref (ad 0 0)), (1, .int p0), (2, .int p1)]) hx hb dX11_clash_98 hl (by decide) rfl (fun ls hl => ?_)
              exact j1 p1 (by omega) ls (lv_sub hl [1, 2, 3, 4, 0] rfl)
            · refine lv_iload_n hx hb dX11_clash_93 rfl (lv_at hl 2 rfl) ?_
              refine lv_goto (tgt := 98) hx hb dX11_clash_94 (by decide) ?_
              refine lv_istore (lv' := [(4, .int p0), (3, .ref (ad 50 x10.toNatClampNeg)), (0, .ref (ad 0 0)), (1, .int p0), (2, .int p1)]) hx hb dX11_clash_98 hl (by decide) rfl (fun ls hl => ?_)
              exact j1 p0 (by omega) ls (lv_sub hl [1, 2, 3, 4, 0] rfl)
        · refine lv_bipush (v := (-2)) hx hb dX11_clash_48 (by decide) ?_
          exact W.iret (v := (-2)) hx hb hr (fun t ht hW => ⟨(-2), rfl, trivial, ht⟩) (fun _ h => absurd h List.not_mem_nil) dX11_clash_50
    · refine fx_if_eq (tgt := 48) hx hb dX11_clash_19 (by decide) zk_0 (fun c31 => ?_) (fun c31 => by exfalso; omega)
      refine lv_bipush (v := (-2)) hx hb dX11_clash_48 (by decide) ?_
      exact W.iret (v := (-2)) hx hb hr (fun t ht hW => ⟨(-2), rfl, trivial, ht⟩) (fun _ h => absurd h List.not_mem_nil) dX11_clash_50
  · refine fx_if_eq (tgt := 48) hx hb dX11_clash_8 (by decide) zk_0 (fun c32 => ?_) (fun c32 => by exfalso; omega)
    refine lv_bipush (v := (-2)) hx hb dX11_clash_48 (by decide) ?_
    exact W.iret (v := (-2)) hx hb hr (fun t ht hW => ⟨(-2), rfl, trivial, ht⟩) (fun _ h => absurd h List.not_mem_nil) dX11_clash_50
set_option maxHeartbeats 400000 in
set_option maxRecDepth 20000 in
theorem fc_X11_row (l : Launch) (D : va_G) (ad : Nat → Nat → Nat) (C : Nat → Nat → ClassId) (nb : Nat) (M : fm_M) (hI : fm_I nb ad M) (p0 : Int64) : Met l yX11_row wsX11_row ({ frames := 1, cells := 0, slots := 0, locals := 25 }) (va_Pc [.ref (ad 0 0), .long p0] (fm_P D ad C nb M)) (va_Qi (fun (r : Int32) (u : fm_M) => fm_I nb ad u ∧ fm_same [42001, 44000] M u ∧ ((¬ (0 ≤ p0.toInt ∧ p0.toInt ≤ 999999999999999) ∧ r.toInt = -2 ∧ (u.1 42 0 1).toInt = (M.1 42 0 1).toInt) ∨ ((0 ≤ p0.toInt ∧ p0.toInt ≤ 999999999999999) ∧ 4 ≤ (M.1 42 0 1).toInt ∧ r.toInt = -4 ∧ (u.1 42 0 1).toInt = (M.1 42 0 1).toInt) ∨ ((0 ≤ p0.toInt ∧ p0.toInt ≤ 999999999999999) ∧ (M.1 42 0 1).toInt < 4 ∧ r.toInt = (M.1 42 0 1).toInt ∧ (u.1 42 0 1).toInt = (M.1 42 0 1).toInt + 1))) (fun u t => fm_at D ad C nb u t.heap) (fm_A nb ad)) 0 0 (fm_A nb ad) := by
  refine Met.ofW (cc := cX11_row) (maxL := 3) (ret := (some .int)) (by decide) rfl ?_
  intro p e s m args below meth c s₁ B hml hv
  obtain ⟨rfl, hw, hc⟩ := hv
  have hx := B.exec
  have hb := B.bytes
  have hr := B.returns
  have hts := atoms_spec (ws := wsX11_row) B.pre
  have hown : s.vm.findClass RX11 = some m.cls := findClass_of_methodNamed B.named
  have hinX1 : ∀ w ∈ u_ws RX1 TX1 4, w ∈ wsX11_row := fun w h => List.mem_cons_of_mem _ (iT_X1 w h)
  have hinX11 : ∀ w ∈ u_ws RX11 TX11 13, w ∈ wsX11_row := fun w h => List.mem_cons_of_mem _ (iT_X11 w h)
  have hS : va_S (fm_A nb ad) s.heap s.heap [] := va_S.rf
  have hE : fm_same [42001, 44000] M M := fm_same.rf
  have hl := lv_entry ([.ref (ad 0 0), .long p0]) (n := 3) (Nat.le_of_ble_eq_true rfl)
  rw [lg_entry_eq]
  generalize (lg_sl ([.ref (ad 0 0), .long p0]) ++ List.replicate (3 - (lg_sl ([.ref (ad 0 0), .long p0])).length) Slot.unset).toArray = ls at hl ⊢
  have hl : lv_has ls 3 [(0, .ref (ad 0 0)), (1, .long p0)] := hl
  refine lv_lload_n hx hb dX11_row_0 rfl (lv_at hl 1 rfl) ?_
  refine lv_lconst (v := 0) hx hb dX11_row_1 (by decide) ?_
  refine W.lcmp hx hb dX11_row_2 ?_
  have zz1 : (0 : Int64).toInt = 0 := rfl
  refine fx_lif_lt (tgt := 14) hx hb dX11_row_3 (by decide) (fun c2 => ?_) (fun c2 => ?_)
  · refine lv_bipush (v := (-2)) hx hb dX11_row_14 (by decide) ?_
    exact W.iret (v := (-2)) hx hb hr (fun t ht hW => ⟨⟨(-2), M, rfl, ⟨hI, hE, Or.inl ⟨by omega, zk_m2, rfl⟩⟩, by show fm_at D ad C nb _ t.heap; rw [ht]; exact hw⟩, hS.F ht⟩) hS.2.2 dX11_row_16
  · refine lv_lload_n hx hb dX11_row_6 rfl (lv_at hl 1 rfl) ?_
    refine lv_ldc2 (v := 999999999999999) hx hb hown (hts (.constantLong RX11 328 (999999999999999)) (List.mem_cons_of_mem _ tw_5_35)) dX11_row_7 ?_
    refine W.lcmp hx hb dX11_row_10 ?_
    have zz3 : (999999999999999 : Int64).toInt = 999999999999999 := rfl
    refine fx_lif_le (tgt := 17) hx hb dX11_row_11 (by decide) (fun c4 => ?_) (fun c4 => ?_)
    · refine lv_aload_n hx hb dX11_row_17 rfl (lv_at hl 0 rfl) ?_
      refine fm_getG (a := 0) (j := 7) (T := TX11) (N := 13) hx hb hts hinX11 hown hc hw kl_0 sh_0 rfl (by decide) rfl (hI.to kl_0 tg_0_7) (hts (.fieldLink RX11 60 "RedTent" "breaker" "LRedTent$Breaker;") (List.mem_cons_of_mem _ tw_2_102)) (fun _ h9 => h9) dX11_row_18 ?_
      refine fm_getI (a := 42) (j := 1) (T := TX1) (N := 4) hx hb hts hinX1 hown hc hw hI kl_42 sh_42 rfl (by decide) rfl bd_42_1 (hts (.fieldLink RX11 330 "RedTent$Breaker" "rowCount" "I") (List.mem_cons_of_mem _ tw_2_62)) (fun _ h9 => h9) dX11_row_21 (fun x5 ex5 bx5 => ?_)
      refine lv_iconst (v := 4) hx hb dX11_row_24 (by decide) ?_
      refine fx_icmp_lt (tgt := 31) hx hb dX11_row_25 (by decide) rfl zk_4 (fun c6 => ?_) (fun c6 => ?_)
      · refine lv_aload_n hx hb dX11_row_31 rfl (lv_at hl 0 rfl) ?_
        refine fm_getG (a := 0) (j := 7) (T := TX11) (N := 13) hx hb hts hinX11 hown hc hw kl_0 sh_0 rfl (by decide) rfl (hI.to kl_0 tg_0_7) (hts (.fieldLink RX11 60 "RedTent" "breaker" "LRedTent$Breaker;") (List.mem_cons_of_mem _ tw_2_102)) (fun _ h9 => h9) dX11_row_32 ?_
        refine lv_lload_n hx hb dX11_row_35 rfl (lv_at hl 1 rfl) ?_
        refine fm_ci (va_runV (As := [.long p0]) (rest := []) ⟨hx, hb, hml, hown, hts⟩ (fc_X1_addRow l D ad C nb M hI p0 (by rw [← ex5]; omega)) (cwV 1 hts gX11_row_X1_addRow rfl rfl rfl (by decide +kernel) ⟨Nat.le_of_ble_eq_true rfl, Nat.le_of_ble_eq_true rfl⟩) (fm_preV hc hw hS kl_42 sh_42 rfl) rfl rfl hl.1 rfl (lv_room (Nat.le_of_ble_eq_true rfl)) dX11_row_36 ⟨by decide +kernel, by decide +kernel⟩) hS hc (fun r7 M8 H locs hr7 hw hS => ?_)
        obtain ⟨hI, hEM8, hr7⟩ := hr7
        have hE := hE.tr hEM8 (by decide)
        have qx5 : x5.toInt = (M.1 42 0 1).toInt := by rw [ex5]
        exact W.iret (v := r7) hx hb hr (fun t ht hW => ⟨⟨r7, M8, rfl, ⟨hI, hE, Or.inr (Or.inr ⟨by omega, by omega, by omega, (by omega)⟩)⟩, by show fm_at D ad C nb _ t.heap; rw [ht]; exact hw⟩, hS.F ht⟩) hS.2.2 dX11_row_39
      · refine lv_bipush (v := (-4)) hx hb dX11_row_28 (by decide) ?_
        have qx5 : x5.toInt = (M.1 42 0 1).toInt := by rw [ex5]
        exact W.iret (v := (-4)) hx hb hr (fun t ht hW => ⟨⟨(-4), M, rfl, ⟨hI, hE, Or.inr (Or.inl ⟨by omega, by omega, zk_m4, rfl⟩)⟩, by show fm_at D ad C nb _ t.heap; rw [ht]; exact hw⟩, hS.F ht⟩) hS.2.2 dX11_row_30
    · refine lv_bipush (v := (-2)) hx hb dX11_row_14 (by decide) ?_
      exact W.iret (v := (-2)) hx hb hr (fun t ht hW => ⟨⟨(-2), M, rfl, ⟨hI, hE, Or.inl ⟨by omega, zk_m2, rfl⟩⟩, by show fm_at D ad C nb _ t.heap; rw [ht]; exact hw⟩, hS.F ht⟩) hS.2.2 dX11_row_16
set_option maxHeartbeats 400000 in
set_option maxRecDepth 20000 in
theorem fc_X11_days (l : Launch) (D : va_G) (ad : Nat → Nat → Nat) (C : Nat → Nat → ClassId) (nb : Nat) (M : fm_M) (hI : fm_I nb ad M) (p0 p1 p2 : Int32) : Met l yX11_days wsX11_days ({ frames := 4, cells := 0, slots := 0, locals := 100 }) (va_Pc [.ref (ad 0 0), .int p0, .int p1, .int p2] (fm_P D ad C nb M)) (va_Qi (fun (r : Int32) (u : fm_M) => fm_I nb ad u ∧ fm_same [42002, 42003] M u ∧ True) (fun u t => fm_at D ad C nb u t.heap) (fm_A nb ad)) 0 0 (fm_A nb ad) := by
  refine Met.ofW (cc := cX11_days) (maxL := 4) (ret := (some .int)) (by decide) rfl ?_
  intro p e s m args below meth c s₁ B hml hv
  obtain ⟨rfl, hw, hc⟩ := hv
  have hx := B.exec
  have hb := B.bytes
  have hr := B.returns
  have hts := atoms_spec (ws := wsX11_days) B.pre
  have hown : s.vm.findClass RX11 = some m.cls := findClass_of_methodNamed B.named
  have hinX1 : ∀ w ∈ u_ws RX1 TX1 4, w ∈ wsX11_days := fun w h => List.mem_cons_of_mem _ (iT_X1 w h)
  have hinX11 : ∀ w ∈ u_ws RX11 TX11 13, w ∈ wsX11_days := fun w h => List.mem_cons_of_mem _ (iT_X11 w h)
  have hS : va_S (fm_A nb ad) s.heap s.heap [] := va_S.rf
  have hE : fm_same [42002, 42003] M M := fm_same.rf
  have hl := lv_entry ([.ref (ad 0 0), .int p0, .int p1, .int p2]) (n := 4) (Nat.le_of_ble_eq_true rfl)
  rw [lg_entry_eq]
  generalize (lg_sl ([.ref (ad 0 0), .int p0, .int p1, .int p2]) ++ List.replicate (4 - (lg_sl ([.ref (ad 0 0), .int p0, .int p1, .int p2])).length) Slot.unset).toArray = ls at hl ⊢
  have hl : lv_has ls 4 [(0, .ref (ad 0 0)), (1, .int p0), (2, .int p1), (3, .int p2)] := hl
  refine lv_iload_n hx hb dX11_days_0 rfl (lv_at hl 1 rfl) ?_
  refine lv_iconst (v := 1) hx hb dX11_days_1 (by decide) ?_
  refine fx_icmp_lt (tgt := 20) hx hb dX11_days_2 (by decide) rfl zk_1 (fun c1 => ?_) (fun c1 => ?_)
  · refine lv_bipush (v := (-2)) hx hb dX11_days_20 (by decide) ?_
    exact W.iret (v := (-2)) hx hb hr (fun t ht hW => ⟨⟨(-2), M, rfl, ⟨hI, hE, trivial⟩, by show fm_at D ad C nb _ t.heap; rw [ht]; exact hw⟩, hS.F ht⟩) hS.2.2 dX11_days_22
  · refine lv_iload_n hx hb dX11_days_5 rfl (lv_at hl 1 rfl) ?_
    refine lv_iconst (v := 5) hx hb dX11_days_6 (by decide) ?_
    refine fx_icmp_gt (tgt := 20) hx hb dX11_days_7 (by decide) rfl zk_5 (fun c2 => ?_) (fun c2 => ?_)
    · refine lv_bipush (v := (-2)) hx hb dX11_days_20 (by decide) ?_
      exact W.iret (v := (-2)) hx hb hr (fun t ht hW => ⟨⟨(-2), M, rfl, ⟨hI, hE, trivial⟩, by show fm_at D ad C nb _ t.heap; rw [ht]; exact hw⟩, hS.F ht⟩) hS.2.2 dX11_days_22
    · refine lv_iload_n hx hb dX11_days_10 rfl (lv_at hl 2 rfl) ?_
      refine fx_if_lt (tgt := 20) hx hb dX11_days_11 (by decide) rfl (fun c3 => ?_) (fun c3 => ?_)
      · refine lv_bipush (v := (-2)) hx hb dX11_days_20 (by decide) ?_
        exact W.iret (v := (-2)) hx hb hr (fun t ht hW => ⟨⟨(-2), M, rfl, ⟨hI, hE, trivial⟩, by show fm_at D ad C nb _ t.heap; rw [ht]; exact hw⟩, hS.F ht⟩) hS.2.2 dX11_days_22
      · refine lv_iload_n hx hb dX11_days_14 rfl (lv_at hl 2 rfl) ?_
        refine lv_bipush (v := 99) hx hb dX11_days_15 (by decide) ?_
        refine fx_icmp_le (tgt := 23) hx hb dX11_days_17 (by decide) rfl zk_99 (fun c4 => ?_) (fun c4 => ?_)
        · refine lv_iload_n hx hb dX11_days_23 rfl (lv_at hl 3 rfl) ?_
          refine lv_iconst (v := (-1)) hx hb dX11_days_24 (by decide) ?_
          refine fx_icmp_lt (tgt := 33) hx hb dX11_days_25 (by decide) rfl zk_m1 (fun c5 => ?_) (fun c5 => ?_)
          · refine lv_iconst (v := (-1)) hx hb dX11_days_33 (by decide) ?_
            exact W.iret (v := (-1)) hx hb hr (fun t ht hW => ⟨⟨(-1), M, rfl, ⟨hI, hE, trivial⟩, by show fm_at D ad C nb _ t.heap; rw [ht]; exact hw⟩, hS.F ht⟩) hS.2.2 dX11_days_34
          · refine lv_iload_n hx hb dX11_days_28 rfl (lv_at hl 3 rfl) ?_
            refine lv_iload_n hx hb dX11_days_29 rfl (lv_at hl 1 rfl) ?_
            refine fx_icmp_lt (tgt := 35) hx hb dX11_days_30 (by decide) rfl rfl (fun c6 => ?_) (fun c6 => ?_)
            · refine lv_aload_n hx hb dX11_days_35 rfl (lv_at hl 0 rfl) ?_
              refine fm_getG (a := 0) (j := 7) (T := TX11) (N := 13) hx hb hts hinX11 hown hc hw kl_0 sh_0 rfl (by decide) rfl (hI.to kl_0 tg_0_7) (hts (.fieldLink RX11 60 "RedTent" "breaker" "LRedTent$Breaker;") (List.mem_cons_of_mem _ tw_2_102)) (fun _ h9 => h9) dX11_days_36 ?_
              refine lv_iload_n hx hb dX11_days_39 rfl (lv_at hl 1 rfl) ?_
              refine lv_iload_n hx hb dX11_days_40 rfl (lv_at hl 2 rfl) ?_
              refine fm_cv (va_runV (As := [.int p0, .int p1]) (rest := []) ⟨hx, hb, hml, hown, hts⟩ (fc_X1_plan l D ad C nb M hI p0 p1 (by omega)) (cwV 2 hts gX11_days_X1_plan rfl rfl rfl (by decide +kernel) ⟨Nat.le_of_ble_eq_true rfl, Nat.le_of_ble_eq_true rfl⟩) (fm_preV hc hw hS kl_42 sh_42 rfl) rfl rfl hl.1 rfl (lv_room (Nat.le_of_ble_eq_true rfl)) dX11_days_41 ⟨by decide +kernel, by decide +kernel⟩) hS hc (fun M8 H locs hr7 hw hS => ?_)
              obtain ⟨hI, hEM8, hr7⟩ := hr7
              have hE := hE.tr hEM8 (by decide)
              refine lv_iload_n hx hb dX11_days_44 rfl (lv_at hl 3 rfl) ?_
              refine lv_iconst (v := (-1)) hx hb dX11_days_45 (by decide) ?_
              refine fx_icmp_ne (tgt := 59) hx hb dX11_days_46 (by decide) rfl zk_m1 (fun c9 => ?_) (fun c9 => ?_)
              · refine lv_aload_n hx hb dX11_days_59 rfl (lv_at hl 0 rfl) ?_
                refine fm_getG (a := 0) (j := 7) (T := TX11) (N := 13) hx hb hts hinX11 hown hc hw kl_0 sh_0 rfl (by decide) rfl (hI.to kl_0 tg_0_7) (hts (.fieldLink RX11 60 "RedTent" "breaker" "LRedTent$Breaker;") (List.mem_cons_of_mem _ tw_2_102)) (fun _ h9 => h9) dX11_days_60 ?_
                refine lv_iload_n hx hb dX11_days_63 rfl (lv_at hl 3 rfl) ?_
                refine lv_iload_n hx hb dX11_days_64 rfl (lv_at hl 1 rfl) ?_
                refine lv_aload_n hx hb dX11_days_65 rfl (lv_at hl 0 rfl) ?_
                refine fm_getG (a := 0) (j := 7) (T := TX11) (N := 13) hx hb hts hinX11 hown hc hw kl_0 sh_0 rfl (by decide) rfl (hI.to kl_0 tg_0_7) (hts (.fieldLink RX11 60 "RedTent" "breaker" "LRedTent$Breaker;") (List.mem_cons_of_mem _ tw_2_102)) (fun _ h9 => h9) dX11_days_66 ?_
                refine fm_getI (a := 42) (j := 3) (T := TX1) (N := 4) hx hb hts hinX1 hown hc hw hI kl_42 sh_42 rfl (by decide) rfl bd_42_3 (hts (.fieldLink RX11 342 "RedTent$Breaker" "bestWays" "I") (List.mem_cons_of_mem _ tw_2_66)) (fun _ h9 => h9) dX11_days_69 (fun x10 ex10 bx10 => ?_)
                refine vp_callSi (va_Run.run (va_runV (As := [.int p2, .int p0, .int x10]) (rest := []) ⟨hx, hb, hml, hown, hts⟩ (fc_X1_wayOn l D ad C nb M8 hI p2 p0 x10 (by omega) (by omega) (by omega) (by omega)) (cwV 3 hts gX11_days_X1_wayOn rfl rfl rfl (by decide +kernel) ⟨Nat.le_of_ble_eq_true rfl, Nat.le_of_ble_eq_true rfl⟩) (fm_preV hc hw hS kl_42 sh_42 rfl) rfl rfl hl.1 rfl (lv_room (Nat.le_of_ble_eq_true rfl)) dX11_days_72 ⟨by decide +kernel, by decide +kernel⟩)) (fun r11 hr11 => ?_)
                exact W.iret (v := r11) hx hb hr (fun t ht hW => ⟨⟨r11, M8, rfl, ⟨hI, hE, trivial⟩, by show fm_at D ad C nb _ t.heap; rw [ht]; exact hw⟩, hS.F ht⟩) hS.2.2 dX11_days_75
              · refine lv_aload_n hx hb dX11_days_49 rfl (lv_at hl 0 rfl) ?_
                refine fm_getG (a := 0) (j := 7) (T := TX11) (N := 13) hx hb hts hinX11 hown hc hw kl_0 sh_0 rfl (by decide) rfl (hI.to kl_0 tg_0_7) (hts (.fieldLink RX11 60 "RedTent" "breaker" "LRedTent$Breaker;") (List.mem_cons_of_mem _ tw_2_102)) (fun _ h9 => h9) dX11_days_50 ?_
                refine fm_getI (a := 42) (j := 2) (T := TX1) (N := 4) hx hb hts hinX1 hown hc hw hI kl_42 sh_42 rfl (by decide) rfl bd_42_2 (hts (.fieldLink RX11 339 "RedTent$Breaker" "bestCells" "I") (List.mem_cons_of_mem _ tw_2_64)) (fun _ h9 => h9) dX11_days_53 (fun x12 ex12 bx12 => ?_)
                refine lv_goto (tgt := 75) hx hb dX11_days_56 (by decide) ?_
                exact W.iret (v := x12) hx hb hr (fun t ht hW => ⟨⟨x12, M8, rfl, ⟨hI, hE, trivial⟩, by show fm_at D ad C nb _ t.heap; rw [ht]; exact hw⟩, hS.F ht⟩) hS.2.2 dX11_days_75
            · refine lv_iconst (v := (-1)) hx hb dX11_days_33 (by decide) ?_
              exact W.iret (v := (-1)) hx hb hr (fun t ht hW => ⟨⟨(-1), M, rfl, ⟨hI, hE, trivial⟩, by show fm_at D ad C nb _ t.heap; rw [ht]; exact hw⟩, hS.F ht⟩) hS.2.2 dX11_days_34
        · refine lv_bipush (v := (-2)) hx hb dX11_days_20 (by decide) ?_
          exact W.iret (v := (-2)) hx hb hr (fun t ht hW => ⟨⟨(-2), M, rfl, ⟨hI, hE, trivial⟩, by show fm_at D ad C nb _ t.heap; rw [ht]; exact hw⟩, hS.F ht⟩) hS.2.2 dX11_days_22
set_option maxHeartbeats 400000 in
set_option maxRecDepth 20000 in
theorem fc_X11_count (l : Launch) (D : va_G) (ad : Nat → Nat → Nat) (C : Nat → Nat → ClassId) (nb : Nat) (M : fm_M) (hI : fm_I nb ad M) (p0 : Int32) : Met l yX11_count wsX11_count ({ frames := 0, cells := 0, slots := 0, locals := 0 }) (va_Pc [.ref (ad 0 0), .int p0] (fm_P D ad C nb M)) (vp_Si (fun r : Int32 => True)) 0 0 (fun _ => False) := by
  refine Met.ofW (cc := cX11_count) (maxL := 2) (ret := (some .int)) (by decide) rfl ?_
  intro p e s m args below meth c s₁ B hml hv
  obtain ⟨rfl, hw, hc⟩ := hv
  have hx := B.exec
  have hb := B.bytes
  have hr := B.returns
  have hts := atoms_spec (ws := wsX11_count) B.pre
  have hown : s.vm.findClass RX11 = some m.cls := findClass_of_methodNamed B.named
  have hinX1 : ∀ w ∈ u_ws RX1 TX1 4, w ∈ wsX11_count := fun w h => List.mem_cons_of_mem _ (iT_X1 w h)
  have hinX10 : ∀ w ∈ u_ws RX10 TX10 4, w ∈ wsX11_count := fun w h => List.mem_cons_of_mem _ (iT_X10 w h)
  have hinX11 : ∀ w ∈ u_ws RX11 TX11 13, w ∈ wsX11_count := fun w h => List.mem_cons_of_mem _ (iT_X11 w h)
  have hinX2 : ∀ w ∈ u_ws RX2 TX2 6, w ∈ wsX11_count := fun w h => List.mem_cons_of_mem _ (iT_X2 w h)
  have hinX3 : ∀ w ∈ u_ws RX3 TX3 8, w ∈ wsX11_count := fun w h => List.mem_cons_of_mem _ (iT_X3 w h)
  have hinX4 : ∀ w ∈ u_ws RX4 TX4 13, w ∈ wsX11_count := fun w h => List.mem_cons_of_mem _ (iT_X4 w h)
  have hinX6 : ∀ w ∈ u_ws RX6 TX6 7, w ∈ wsX11_count := fun w h => List.mem_cons_of_mem _ (iT_X6 w h)
  have hinX8 : ∀ w ∈ u_ws RX8 TX8 4, w ∈ wsX11_count := fun w h => List.mem_cons_of_mem _ (iT_X8 w h)
  have hS : va_S (fm_A nb ad) s.heap s.heap [] := va_S.rf
  have hl := lv_entry ([.ref (ad 0 0), .int p0]) (n := 2) (Nat.le_of_ble_eq_true rfl)
  rw [lg_entry_eq]
  generalize (lg_sl ([.ref (ad 0 0), .int p0]) ++ List.replicate (2 - (lg_sl ([.ref (ad 0 0), .int p0])).length) Slot.unset).toArray = ls at hl ⊢
  have hl : lv_has ls 2 [(0, .ref (ad 0 0)), (1, .int p0)] := hl
  refine lv_iload_n hx hb dX11_count_0 rfl (lv_at hl 1 rfl) ?_
  rcases (show p0.toInt < 0 ∨ 14 < p0.toInt ∨ p0 = 0 ∨ p0 = 1 ∨ p0 = 2 ∨ p0 = 3 ∨ p0 = 4 ∨ p0 = 5 ∨ p0 = 6 ∨ p0 = 7 ∨ p0 = 8 ∨ p0 = 9 ∨ p0 = 10 ∨ p0 = 11 ∨ p0 = 12 ∨ p0 = 13 ∨ p0 = 14 by simp only [fa_eq, Int32.reduceToInt]; omega) with c1 | c1 | c1 | c1 | c1 | c1 | c1 | c1 | c1 | c1 | c1 | c1 | c1 | c1 | c1 | c1 | c1
  · refine lv_tableOut (tgt := 184) hx hb dX11_count_1 (Or.inl c1) (by decide) ?_
    refine lv_bipush (v := (-2)) hx hb dX11_count_184 (by decide) ?_
    exact W.iret (v := (-2)) hx hb hr (fun t ht hW => ⟨(-2), rfl, trivial, ht⟩) (fun _ h => absurd h List.not_mem_nil) dX11_count_186
  · refine lv_tableOut (tgt := 184) hx hb dX11_count_1 (Or.inr c1) (by decide) ?_
    refine lv_bipush (v := (-2)) hx hb dX11_count_184 (by decide) ?_
    exact W.iret (v := (-2)) hx hb hr (fun t ht hW => ⟨(-2), rfl, trivial, ht⟩) (fun _ h => absurd h List.not_mem_nil) dX11_count_186
  · refine lv_tableIn (off := 75) (tgt := 76) hx hb dX11_count_1 (by rw [c1]; decide) (by rw [c1]; decide) (by rw [c1]; decide) (by decide) ?_
    have zc1 : p0.toInt = 0 := by rw [c1]; rfl
    refine lv_aload_n hx hb dX11_count_76 rfl (lv_at hl 0 rfl) ?_
    refine fm_getI (a := 0) (j := 9) (T := TX11) (N := 13) hx hb hts hinX11 hown hc hw hI kl_0 sh_0 rfl (by decide) rfl bd_0_9 (hts (.fieldLink RX11 71 "RedTent" "now" "I") (List.mem_cons_of_mem _ tw_2_104)) (fun _ h9 => h9) dX11_count_77 (fun x2 ex2 bx2 => ?_)
    exact W.iret (v := x2) hx hb hr (fun t ht hW => ⟨x2, rfl, trivial, ht⟩) (fun _ h => absurd h List.not_mem_nil) dX11_count_80
  · refine lv_tableIn (off := 80) (tgt := 81) hx hb dX11_count_1 (by rw [c1]; decide) (by rw [c1]; decide) (by rw [c1]; decide) (by decide) ?_
    have zc1 : p0.toInt = 1 := by rw [c1]; rfl
    refine lv_aload_n hx hb dX11_count_81 rfl (lv_at hl 0 rfl) ?_
    refine fm_getI (a := 0) (j := 10) (T := TX11) (N := 13) hx hb hts hinX11 hown hc hw hI kl_0 sh_0 rfl (by decide) rfl bd_0_10 (hts (.fieldLink RX11 75 "RedTent" "bodyCount" "I") (List.mem_cons_of_mem _ tw_2_105)) (fun _ h9 => h9) dX11_count_82 (fun x3 ex3 bx3 => ?_)
    have nx3 : x3.toInt = nb := by rw [ex3]; exact hI.2.2.2.2.2.2.1
    have nnx3 : nb ≤ 12 := hI.2.2.2.2.2.2.2
    exact W.iret (v := x3) hx hb hr (fun t ht hW => ⟨x3, rfl, trivial, ht⟩) (fun _ h => absurd h List.not_mem_nil) dX11_count_85
  · refine lv_tableIn (off := 85) (tgt := 86) hx hb dX11_count_1 (by rw [c1]; decide) (by rw [c1]; decide) (by rw [c1]; decide) (by decide) ?_
    have zc1 : p0.toInt = 2 := by rw [c1]; rfl
    refine lv_aload_n hx hb dX11_count_86 rfl (lv_at hl 0 rfl) ?_
    refine fm_getG (a := 0) (j := 0) (T := TX11) (N := 13) hx hb hts hinX11 hown hc hw kl_0 sh_0 rfl (by decide) rfl (hI.to kl_0 tg_0_0) (hts (.fieldLink RX11 10 "RedTent" "weather" "LRedTent$Weather;") (List.mem_cons_of_mem _ tw_2_95)) (fun _ h9 => h9) dX11_count_87 ?_
    refine fm_getI (a := 1) (j := 2) (T := TX10) (N := 4) hx hb hts hinX10 hown hc hw hI kl_1 sh_1 rfl (by decide) rfl bd_1_2 (hts (.fieldLink RX11 94 "RedTent$Weather" "windCount" "I") (List.mem_cons_of_mem _ tw_1_38)) (fun _ h9 => h9) dX11_count_90 (fun x4 ex4 bx4 => ?_)
    exact W.iret (v := x4) hx hb hr (fun t ht hW => ⟨x4, rfl, trivial, ht⟩) (fun _ h => absurd h List.not_mem_nil) dX11_count_93
  · refine lv_tableIn (off := 93) (tgt := 94) hx hb dX11_count_1 (by rw [c1]; decide) (by rw [c1]; decide) (by rw [c1]; decide) (by decide) ?_
    have zc1 : p0.toInt = 3 := by rw [c1]; rfl
    refine lv_aload_n hx hb dX11_count_94 rfl (lv_at hl 0 rfl) ?_
    refine fm_getI (a := 0) (j := 11) (T := TX11) (N := 13) hx hb hts hinX11 hown hc hw hI kl_0 sh_0 rfl (by decide) rfl bd_0_11 (hts (.fieldLink RX11 154 "RedTent" "fixCount" "I") (List.mem_cons_of_mem _ tw_2_106)) (fun _ h9 => h9) dX11_count_95 (fun x5 ex5 bx5 => ?_)
    exact W.iret (v := x5) hx hb hr (fun t ht hW => ⟨x5, rfl, trivial, ht⟩) (fun _ h => absurd h List.not_mem_nil) dX11_count_98
  · refine lv_tableIn (off := 98) (tgt := 99) hx hb dX11_count_1 (by rw [c1]; decide) (by rw [c1]; decide) (by rw [c1]; decide) (by decide) ?_
    have zc1 : p0.toInt = 4 := by rw [c1]; rfl
    refine lv_aload_n hx hb dX11_count_99 rfl (lv_at hl 0 rfl) ?_
    refine fm_getG (a := 0) (j := 2) (T := TX11) (N := 13) hx hb hts hinX11 hown hc hw kl_0 sh_0 rfl (by decide) rfl (hI.to kl_0 tg_0_2) (hts (.fieldLink RX11 25 "RedTent" "radio" "LRedTent$Radio;") (List.mem_cons_of_mem _ tw_2_97)) (fun _ h9 => h9) dX11_count_100 ?_
    refine fm_getI (a := 5) (j := 1) (T := TX4) (N := 13) hx hb hts hinX4 hown hc hw hI kl_5 sh_5 rfl (by decide) rfl bd_5_1 (hts (.fieldLink RX11 161 "RedTent$Radio" "hearers" "I") (List.mem_cons_of_mem _ tw_1_61)) (fun _ h9 => h9) dX11_count_103 (fun x6 ex6 bx6 => ?_)
    exact W.iret (v := x6) hx hb hr (fun t ht hW => ⟨x6, rfl, trivial, ht⟩) (fun _ h => absurd h List.not_mem_nil) dX11_count_106
  · refine lv_tableIn (off := 106) (tgt := 107) hx hb dX11_count_1 (by rw [c1]; decide) (by rw [c1]; decide) (by rw [c1]; decide) (by decide) ?_
    have zc1 : p0.toInt = 5 := by rw [c1]; rfl
    refine lv_aload_n hx hb dX11_count_107 rfl (lv_at hl 0 rfl) ?_
    refine fm_getG (a := 0) (j := 2) (T := TX11) (N := 13) hx hb hts hinX11 hown hc hw kl_0 sh_0 rfl (by decide) rfl (hI.to kl_0 tg_0_2) (hts (.fieldLink RX11 25 "RedTent" "radio" "LRedTent$Radio;") (List.mem_cons_of_mem _ tw_2_97)) (fun _ h9 => h9) dX11_count_108 ?_
    refine fm_getI (a := 5) (j := 8) (T := TX4) (N := 13) hx hb hts hinX4 hown hc hw hI kl_5 sh_5 rfl (by decide) rfl bd_5_8 (hts (.fieldLink RX11 171 "RedTent$Radio" "calls" "I") (List.mem_cons_of_mem _ tw_1_71)) (fun _ h9 => h9) dX11_count_111 (fun x7 ex7 bx7 => ?_)
    exact W.iret (v := x7) hx hb hr (fun t ht hW => ⟨x7, rfl, trivial, ht⟩) (fun _ h => absurd h List.not_mem_nil) dX11_count_114
  · refine lv_tableIn (off := 114) (tgt := 115) hx hb dX11_count_1 (by rw [c1]; decide) (by rw [c1]; decide) (by rw [c1]; decide) (by decide) ?_
    have zc1 : p0.toInt = 6 := by rw [c1]; rfl
    refine lv_aload_n hx hb dX11_count_115 rfl (lv_at hl 0 rfl) ?_
    refine fm_getG (a := 0) (j := 2) (T := TX11) (N := 13) hx hb hts hinX11 hown hc hw kl_0 sh_0 rfl (by decide) rfl (hI.to kl_0 tg_0_2) (hts (.fieldLink RX11 25 "RedTent" "radio" "LRedTent$Radio;") (List.mem_cons_of_mem _ tw_2_97)) (fun _ h9 => h9) dX11_count_116 ?_
    refine fm_getI (a := 5) (j := 12) (T := TX4) (N := 13) hx hb hts hinX4 hown hc hw hI kl_5 sh_5 rfl (by decide) rfl bd_5_12 (hts (.fieldLink RX11 193 "RedTent$Radio" "parts" "I") (List.mem_cons_of_mem _ tw_1_76)) (fun _ h9 => h9) dX11_count_119 (fun x8 ex8 bx8 => ?_)
    exact W.iret (v := x8) hx hb hr (fun t ht hW => ⟨x8, rfl, trivial, ht⟩) (fun _ h => absurd h List.not_mem_nil) dX11_count_122
  · refine lv_tableIn (off := 122) (tgt := 123) hx hb dX11_count_1 (by rw [c1]; decide) (by rw [c1]; decide) (by rw [c1]; decide) (by decide) ?_
    have zc1 : p0.toInt = 7 := by rw [c1]; rfl
    refine lv_aload_n hx hb dX11_count_123 rfl (lv_at hl 0 rfl) ?_
    refine fm_getG (a := 0) (j := 3) (T := TX11) (N := 13) hx hb hts hinX11 hown hc hw kl_0 sh_0 rfl (by decide) rfl (hI.to kl_0 tg_0_3) (hts (.fieldLink RX11 32 "RedTent" "search" "LRedTent$Search;") (List.mem_cons_of_mem _ tw_2_98)) (fun _ h9 => h9) dX11_count_124 ?_
    refine fm_getI (a := 16) (j := 1) (T := TX6) (N := 7) hx hb hts hinX6 hown hc hw hI kl_16 sh_16 rfl (by decide) rfl bd_16_1 (hts (.fieldLink RX11 207 "RedTent$Search" "laneCount" "I") (List.mem_cons_of_mem _ tw_1_113)) (fun _ h9 => h9) dX11_count_127 (fun x9 ex9 bx9 => ?_)
    exact W.iret (v := x9) hx hb hr (fun t ht hW => ⟨x9, rfl, trivial, ht⟩) (fun _ h => absurd h List.not_mem_nil) dX11_count_130
  · refine lv_tableIn (off := 130) (tgt := 131) hx hb dX11_count_1 (by rw [c1]; decide) (by rw [c1]; decide) (by rw [c1]; decide) (by decide) ?_
    have zc1 : p0.toInt = 8 := by rw [c1]; rfl
    refine lv_aload_n hx hb dX11_count_131 rfl (lv_at hl 0 rfl) ?_
    refine fm_getG (a := 0) (j := 4) (T := TX11) (N := 13) hx hb hts hinX11 hown hc hw kl_0 sh_0 rfl (by decide) rfl (hI.to kl_0 tg_0_4) (hts (.fieldLink RX11 39 "RedTent" "crew" "LRedTent$Crew;") (List.mem_cons_of_mem _ tw_2_99)) (fun _ h9 => h9) dX11_count_132 ?_
    refine fm_getI (a := 21) (j := 5) (T := TX2) (N := 6) hx hb hts hinX2 hown hc hw hI kl_21 sh_21 rfl (by decide) rfl bd_21_5 (hts (.fieldLink RX11 266 "RedTent$Crew" "men" "I") (List.mem_cons_of_mem _ tw_1_152)) (fun _ h9 => h9) dX11_count_135 (fun x10 ex10 bx10 => ?_)
    exact W.iret (v := x10) hx hb hr (fun t ht hW => ⟨x10, rfl, trivial, ht⟩) (fun _ h => absurd h List.not_mem_nil) dX11_count_138
  · refine lv_tableIn (off := 138) (tgt := 139) hx hb dX11_count_1 (by rw [c1]; decide) (by rw [c1]; decide) (by rw [c1]; decide) (by decide) ?_
    have zc1 : p0.toInt = 9 := by rw [c1]; rfl
    refine lv_aload_n hx hb dX11_count_139 rfl (lv_at hl 0 rfl) ?_
    refine fm_getG (a := 0) (j := 6) (T := TX11) (N := 13) hx hb hts hinX11 hown hc hw kl_0 sh_0 rfl (by decide) rfl (hI.to kl_0 tg_0_6) (hts (.fieldLink RX11 53 "RedTent" "stories" "LRedTent$Stories;") (List.mem_cons_of_mem _ tw_2_101)) (fun _ h9 => h9) dX11_count_140 ?_
    refine fm_getI (a := 38) (j := 3) (T := TX8) (N := 4) hx hb hts hinX8 hown hc hw hI kl_38 sh_38 rfl (by decide) rfl bd_38_3 (hts (.fieldLink RX11 302 "RedTent$Stories" "told" "I") (List.mem_cons_of_mem _ tw_2_42)) (fun _ h9 => h9) dX11_count_143 (fun x11 ex11 bx11 => ?_)
    exact W.iret (v := x11) hx hb hr (fun t ht hW => ⟨x11, rfl, trivial, ht⟩) (fun _ h => absurd h List.not_mem_nil) dX11_count_146
  · refine lv_tableIn (off := 146) (tgt := 147) hx hb dX11_count_1 (by rw [c1]; decide) (by rw [c1]; decide) (by rw [c1]; decide) (by decide) ?_
    have zc1 : p0.toInt = 10 := by rw [c1]; rfl
    refine lv_aload_n hx hb dX11_count_147 rfl (lv_at hl 0 rfl) ?_
    refine fm_getG (a := 0) (j := 7) (T := TX11) (N := 13) hx hb hts hinX11 hown hc hw kl_0 sh_0 rfl (by decide) rfl (hI.to kl_0 tg_0_7) (hts (.fieldLink RX11 60 "RedTent" "breaker" "LRedTent$Breaker;") (List.mem_cons_of_mem _ tw_2_102)) (fun _ h9 => h9) dX11_count_148 ?_
    refine fm_getI (a := 42) (j := 1) (T := TX1) (N := 4) hx hb hts hinX1 hown hc hw hI kl_42 sh_42 rfl (by decide) rfl bd_42_1 (hts (.fieldLink RX11 330 "RedTent$Breaker" "rowCount" "I") (List.mem_cons_of_mem _ tw_2_62)) (fun _ h9 => h9) dX11_count_151 (fun x12 ex12 bx12 => ?_)
    exact W.iret (v := x12) hx hb hr (fun t ht hW => ⟨x12, rfl, trivial, ht⟩) (fun _ h => absurd h List.not_mem_nil) dX11_count_154
  · refine lv_tableIn (off := 154) (tgt := 155) hx hb dX11_count_1 (by rw [c1]; decide) (by rw [c1]; decide) (by rw [c1]; decide) (by decide) ?_
    have zc1 : p0.toInt = 11 := by rw [c1]; rfl
    refine lv_aload_n hx hb dX11_count_155 rfl (lv_at hl 0 rfl) ?_
    refine fm_getG (a := 0) (j := 5) (T := TX11) (N := 13) hx hb hts hinX11 hown hc hw kl_0 sh_0 rfl (by decide) rfl (hI.to kl_0 tg_0_5) (hts (.fieldLink RX11 46 "RedTent" "orders" "LRedTent$Orders;") (List.mem_cons_of_mem _ tw_2_100)) (fun _ h9 => h9) dX11_count_156 ?_
    refine fm_getI (a := 27) (j := 3) (T := TX3) (N := 8) hx hb hts hinX3 hown hc hw hI kl_27 sh_27 rfl (by decide) rfl bd_27_3 (hts (.fieldLink RX11 280 "RedTent$Orders" "textCount" "I") (List.mem_cons_of_mem _ tw_2_6)) (fun _ h9 => h9) dX11_count_159 (fun x13 ex13 bx13 => ?_)
    exact W.iret (v := x13) hx hb hr (fun t ht hW => ⟨x13, rfl, trivial, ht⟩) (fun _ h => absurd h List.not_mem_nil) dX11_count_162
  · refine lv_tableIn (off := 162) (tgt := 163) hx hb dX11_count_1 (by rw [c1]; decide) (by rw [c1]; decide) (by rw [c1]; decide) (by decide) ?_
    have zc1 : p0.toInt = 12 := by rw [c1]; rfl
    refine lv_aload_n hx hb dX11_count_163 rfl (lv_at hl 0 rfl) ?_
    refine fm_getG (a := 0) (j := 5) (T := TX11) (N := 13) hx hb hts hinX11 hown hc hw kl_0 sh_0 rfl (by decide) rfl (hI.to kl_0 tg_0_5) (hts (.fieldLink RX11 46 "RedTent" "orders" "LRedTent$Orders;") (List.mem_cons_of_mem _ tw_2_100)) (fun _ h9 => h9) dX11_count_164 ?_
    refine fm_getI (a := 27) (j := 1) (T := TX3) (N := 8) hx hb hts hinX3 hown hc hw hI kl_27 sh_27 rfl (by decide) rfl bd_27_1 (hts (.fieldLink RX11 271 "RedTent$Orders" "tapeSize" "I") (List.mem_cons_of_mem _ tw_2_3)) (fun _ h9 => h9) dX11_count_167 (fun x14 ex14 bx14 => ?_)
    exact W.iret (v := x14) hx hb hr (fun t ht hW => ⟨x14, rfl, trivial, ht⟩) (fun _ h => absurd h List.not_mem_nil) dX11_count_170
  · refine lv_tableIn (off := 170) (tgt := 171) hx hb dX11_count_1 (by rw [c1]; decide) (by rw [c1]; decide) (by rw [c1]; decide) (by decide) ?_
    have zc1 : p0.toInt = 13 := by rw [c1]; rfl
    refine lv_aload_n hx hb dX11_count_171 rfl (lv_at hl 0 rfl) ?_
    refine fm_getG (a := 0) (j := 5) (T := TX11) (N := 13) hx hb hts hinX11 hown hc hw kl_0 sh_0 rfl (by decide) rfl (hI.to kl_0 tg_0_5) (hts (.fieldLink RX11 46 "RedTent" "orders" "LRedTent$Orders;") (List.mem_cons_of_mem _ tw_2_100)) (fun _ h9 => h9) dX11_count_172 ?_
    refine fm_getI (a := 27) (j := 4) (T := TX3) (N := 8) hx hb hts hinX3 hown hc hw hI kl_27 sh_27 rfl (by decide) rfl bd_27_4 (hts (.fieldLink RX11 283 "RedTent$Orders" "inForce" "I") (List.mem_cons_of_mem _ tw_2_8)) (fun _ h9 => h9) dX11_count_175 (fun x15 ex15 bx15 => ?_)
    exact W.iret (v := x15) hx hb hr (fun t ht hW => ⟨x15, rfl, trivial, ht⟩) (fun _ h => absurd h List.not_mem_nil) dX11_count_178
  · refine lv_tableIn (off := 178) (tgt := 179) hx hb dX11_count_1 (by rw [c1]; decide) (by rw [c1]; decide) (by rw [c1]; decide) (by decide) ?_
    have zc1 : p0.toInt = 14 := by rw [c1]; rfl
    refine lv_aload_n hx hb dX11_count_179 rfl (lv_at hl 0 rfl) ?_
    refine fm_getI (a := 0) (j := 12) (T := TX11) (N := 13) hx hb hts hinX11 hown hc hw hI kl_0 sh_0 rfl (by decide) rfl bd_0_12 (hts (.fieldLink RX11 253 "RedTent" "stayHours" "I") (List.mem_cons_of_mem _ tw_2_107)) (fun _ h9 => h9) dX11_count_180 (fun x16 ex16 bx16 => ?_)
    exact W.iret (v := x16) hx hb hr (fun t ht hW => ⟨x16, rfl, trivial, ht⟩) (fun _ h => absurd h List.not_mem_nil) dX11_count_183
set_option maxHeartbeats 400000 in
set_option maxRecDepth 20000 in
theorem fc_X11_sheet (l : Launch) (D : va_G) (ad : Nat → Nat → Nat) (C : Nat → Nat → ClassId) (nb : Nat) (M : fm_M) (hI : fm_I nb ad M) (p0 p1 p2 : Int32) : Met l yX11_sheet wsX11_sheet ({ frames := 1, cells := 0, slots := 0, locals := 23 }) (va_Pc [.ref (ad 0 0), .int p0, .int p1, .int p2] (fm_P D ad C nb M)) (va_Qi (fun (r : Int32) (u : fm_M) => fm_I nb ad u ∧ fm_same [46001, 46002, 47000] M u ∧ (((¬ (0 ≤ p0.toInt ∧ p0.toInt ≤ 3 ∧ -1 ≤ p1.toInt ∧ p1.toInt ≤ 2) ∨ (0 ≤ p1.toInt ∧ 40 < p2.toInt)) ∧ r.toInt = -2 ∧ (∀ j : Nat, u.1 46 j 1 = M.1 46 j 1) ∧ (∀ j : Nat, u.1 46 j 2 = M.1 46 j 2)) ∨ ((0 ≤ p0.toInt ∧ p0.toInt ≤ 3 ∧ 0 ≤ p1.toInt ∧ p1.toInt ≤ 2 ∧ p2.toInt < 0) ∧ r.toInt = -14 ∧ (∀ j : Nat, u.1 46 j 1 = M.1 46 j 1) ∧ (∀ j : Nat, u.1 46 j 2 = M.1 46 j 2)) ∨ ((0 ≤ p0.toInt ∧ p0.toInt ≤ 3 ∧ -1 ≤ p1.toInt ∧ p1.toInt ≤ 2 ∧ (p1.toInt = -1 ∨ (0 ≤ p2.toInt ∧ p2.toInt ≤ 40))) ∧ r.toInt = 1 ∧ (∀ j : Nat, u.1 46 j 1 = if j = p0.toNatClampNeg then p1 else M.1 46 j 1) ∧ (∀ j : Nat, u.1 46 j 2 = if j = p0.toNatClampNeg then (if p1.toInt < 0 then 0 else p2) else M.1 46 j 2)))) (fun u t => fm_at D ad C nb u t.heap) (fm_A nb ad)) 0 0 (fm_A nb ad) := by
  refine Met.ofW (cc := cX11_sheet) (maxL := 5) (ret := (some .int)) (by decide) rfl ?_
  intro p e s m args below meth c s₁ B hml hv
  obtain ⟨rfl, hw, hc⟩ := hv
  have hx := B.exec
  have hb := B.bytes
  have hr := B.returns
  have hts := atoms_spec (ws := wsX11_sheet) B.pre
  have hown : s.vm.findClass RX11 = some m.cls := findClass_of_methodNamed B.named
  have hS : va_S (fm_A nb ad) s.heap s.heap [] := va_S.rf
  have hE : fm_same [46001, 46002, 47000] M M := fm_same.rf
  have hl := lv_entry ([.ref (ad 0 0), .int p0, .int p1, .int p2]) (n := 5) (Nat.le_of_ble_eq_true rfl)
  rw [lg_entry_eq]
  generalize (lg_sl ([.ref (ad 0 0), .int p0, .int p1, .int p2]) ++ List.replicate (5 - (lg_sl ([.ref (ad 0 0), .int p0, .int p1, .int p2])).length) Slot.unset).toArray = ls at hl ⊢
  have hl : lv_has ls 5 [(0, .ref (ad 0 0)), (1, .int p0), (2, .int p1), (3, .int p2)] := hl
  refine lv_aload_n hx hb dX11_sheet_0 rfl (lv_at hl 0 rfl) ?_
  refine lv_iload_n hx hb dX11_sheet_1 rfl (lv_at hl 1 rfl) ?_
  refine va_csq (va_Run.run (va_runV (As := [.int p0]) (rest := []) ⟨hx, hb, hml, hown, hts⟩ (fc_X11_sheetAt l D ad C nb M hI p0) (cwV 1 hts gX11_sheet_X11_sheetAt rfl rfl rfl (by decide +kernel) ⟨Nat.le_of_ble_eq_true rfl, Nat.le_of_ble_eq_true rfl⟩) (fm_preV hc hw hS kl_0 sh_0 rfl) rfl rfl hl.1 rfl (lv_room (Nat.le_of_ble_eq_true rfl)) dX11_sheet_2 ⟨by decide +kernel, by decide +kernel⟩)) (fun r1 hr1 => ?_)
  rcases hr1 with ⟨rfl, hr1n⟩ | ⟨hr1l, hr1u, rfl⟩
  · refine lv_astoreN (lv' := [(4, .null), (0, .ref (ad 0 0)), (1, .int p0), (2, .int p1), (3, .int p2)]) hx hb dX11_sheet_5 hl (by decide) rfl (fun ls hl => ?_)
    refine lv_aloadN hx hb dX11_sheet_7 (lv_at hl 0 rfl) ?_
    refine lv_ifnullN (tgt := 22) hx hb dX11_sheet_9 (by decide) ?_
    refine lv_bipush (v := (-2)) hx hb dX11_sheet_22 (by decide) ?_
    exact W.iret (v := (-2)) hx hb hr (fun t ht hW => ⟨⟨(-2), M, rfl, ⟨hI, hE, Or.inl ⟨by omega, zk_m2, fun _ => rfl, fun _ => rfl⟩⟩, by show fm_at D ad C nb _ t.heap; rw [ht]; exact hw⟩, hS.F ht⟩) hS.2.2 dX11_sheet_24
  · have khr1 : p0.toNatClampNeg < 4 := zi_cln ⟨hr1l, hr1u⟩
    refine lv_astore (lv' := [(4, .ref (ad 46 p0.toNatClampNeg)), (0, .ref (ad 0 0)), (1, .int p0), (2, .int p1), (3, .int p2)]) hx hb dX11_sheet_5 hl (by decide) rfl (fun ls hl => ?_)
    refine lv_aload hx hb dX11_sheet_7 (lv_at hl 0 rfl) ?_
    refine lv_ifnull hx hb dX11_sheet_9 ?_
    refine lv_iload_n hx hb dX11_sheet_12 rfl (lv_at hl 3 rfl) ?_
    refine lv_iconst (v := (-1)) hx hb dX11_sheet_13 (by decide) ?_
    refine fx_icmp_lt (tgt := 22) hx hb dX11_sheet_14 (by decide) rfl zk_m1 (fun c2 => ?_) (fun c2 => ?_)
    · refine lv_bipush (v := (-2)) hx hb dX11_sheet_22 (by decide) ?_
      exact W.iret (v := (-2)) hx hb hr (fun t ht hW => ⟨⟨(-2), M, rfl, ⟨hI, hE, Or.inl ⟨by omega, zk_m2, fun _ => rfl, fun _ => rfl⟩⟩, by show fm_at D ad C nb _ t.heap; rw [ht]; exact hw⟩, hS.F ht⟩) hS.2.2 dX11_sheet_24
    · refine lv_iload_n hx hb dX11_sheet_17 rfl (lv_at hl 3 rfl) ?_
      refine lv_iconst (v := 3) hx hb dX11_sheet_18 (by decide) ?_
      refine fx_icmp_lt (tgt := 25) hx hb dX11_sheet_19 (by decide) rfl zk_3 (fun c3 => ?_) (fun c3 => ?_)
      · refine lv_iload_n hx hb dX11_sheet_25 rfl (lv_at hl 3 rfl) ?_
        refine lv_iconst (v := (-1)) hx hb dX11_sheet_26 (by decide) ?_
        refine fx_icmp_ne (tgt := 39) hx hb dX11_sheet_27 (by decide) rfl zk_m1 (fun c4 => ?_) (fun c4 => ?_)
        · refine lv_iload_n hx hb dX11_sheet_39 rfl (lv_at hl 4 rfl) ?_
          refine lv_bipush (v := 40) hx hb dX11_sheet_40 (by decide) ?_
          refine fx_icmp_le (tgt := 48) hx hb dX11_sheet_42 (by decide) rfl zk_40 (fun c5 => ?_) (fun c5 => ?_)
          · refine lv_iload_n hx hb dX11_sheet_48 rfl (lv_at hl 4 rfl) ?_
            refine fx_if_ge (tgt := 55) hx hb dX11_sheet_49 (by decide) rfl (fun c6 => ?_) (fun c6 => ?_)
            · refine lv_aload hx hb dX11_sheet_55 (lv_at hl 0 rfl) ?_
              refine lv_iload_n hx hb dX11_sheet_57 rfl (lv_at hl 3 rfl) ?_
              refine lv_iload_n hx hb dX11_sheet_58 rfl (lv_at hl 4 rfl) ?_
              refine fm_cv (va_runV (As := [.int p1, .int p2]) (rest := []) ⟨hx, hb, hml, hown, hts⟩ (fc_X7_become l D ad C nb M hI p0.toNatClampNeg khr1 p1 p2 (by omega) (by omega)) (cwV 2 hts gX11_sheet_X7_become rfl rfl rfl (by decide +kernel) ⟨Nat.le_of_ble_eq_true rfl, Nat.le_of_ble_eq_true rfl⟩) (fm_preV hc hw hS (kl_46 khr1) sh_46 rfl) rfl rfl hl.1 rfl (lv_room (Nat.le_of_ble_eq_true rfl)) dX11_sheet_59 ⟨by decide +kernel, by decide +kernel⟩) hS hc (fun M8 H locs hr7 hw hS => ?_)
              obtain ⟨hI, hEM8, hr7⟩ := hr7
              have hE := hE.tr hEM8 (by decide)
              refine lv_iconst (v := 1) hx hb dX11_sheet_62 (by decide) ?_
              exact W.iret (v := 1) hx hb hr (fun t ht hW => ⟨⟨1, M8, rfl, ⟨hI, hE, Or.inr (Or.inr ⟨by omega, zk_1, hr7.1, fun j => by rw [hr7.2 j, if_neg (show ¬ p1.toInt < 0 by omega)]⟩)⟩, by show fm_at D ad C nb _ t.heap; rw [ht]; exact hw⟩, hS.F ht⟩) hS.2.2 dX11_sheet_63
            · refine lv_bipush (v := (-14)) hx hb dX11_sheet_52 (by decide) ?_
              exact W.iret (v := (-14)) hx hb hr (fun t ht hW => ⟨⟨(-14), M, rfl, ⟨hI, hE, Or.inr (Or.inl ⟨by omega, zk_m14, fun _ => rfl, fun _ => rfl⟩)⟩, by show fm_at D ad C nb _ t.heap; rw [ht]; exact hw⟩, hS.F ht⟩) hS.2.2 dX11_sheet_54
          · refine lv_bipush (v := (-2)) hx hb dX11_sheet_45 (by decide) ?_
            exact W.iret (v := (-2)) hx hb hr (fun t ht hW => ⟨⟨(-2), M, rfl, ⟨hI, hE, Or.inl ⟨by omega, zk_m2, fun _ => rfl, fun _ => rfl⟩⟩, by show fm_at D ad C nb _ t.heap; rw [ht]; exact hw⟩, hS.F ht⟩) hS.2.2 dX11_sheet_47
        · refine lv_aload hx hb dX11_sheet_30 (lv_at hl 0 rfl) ?_
          refine lv_iload_n hx hb dX11_sheet_32 rfl (lv_at hl 3 rfl) ?_
          refine lv_iconst (v := 0) hx hb dX11_sheet_33 (by decide) ?_
          have zz9 := zk_0
          refine fm_cv (va_runV (As := [.int p1, .int 0]) (rest := []) ⟨hx, hb, hml, hown, hts⟩ (fc_X7_become l D ad C nb M hI p0.toNatClampNeg khr1 p1 0 (by omega) (by decide)) (cwV 2 hts gX11_sheet_X7_become rfl rfl rfl (by decide +kernel) ⟨Nat.le_of_ble_eq_true rfl, Nat.le_of_ble_eq_true rfl⟩) (fm_preV hc hw hS (kl_46 khr1) sh_46 rfl) rfl rfl hl.1 rfl (lv_room (Nat.le_of_ble_eq_true rfl)) dX11_sheet_34 ⟨by decide +kernel, by decide +kernel⟩) hS hc (fun M11 H locs hr10 hw hS => ?_)
          obtain ⟨hI, hEM11, hr10⟩ := hr10
          have hE := hE.tr hEM11 (by decide)
          refine lv_iconst (v := 1) hx hb dX11_sheet_37 (by decide) ?_
          exact W.iret (v := 1) hx hb hr (fun t ht hW => ⟨⟨1, M11, rfl, ⟨hI, hE, Or.inr (Or.inr ⟨by omega, zk_1, hr10.1, fun j => by rw [hr10.2 j, if_pos (show p1.toInt < 0 by omega)]⟩)⟩, by show fm_at D ad C nb _ t.heap; rw [ht]; exact hw⟩, hS.F ht⟩) hS.2.2 dX11_sheet_38
      · refine lv_bipush (v := (-2)) hx hb dX11_sheet_22 (by decide) ?_
        exact W.iret (v := (-2)) hx hb hr (fun t ht hW => ⟨⟨(-2), M, rfl, ⟨hI, hE, Or.inl ⟨by omega, zk_m2, fun _ => rfl, fun _ => rfl⟩⟩, by show fm_at D ad C nb _ t.heap; rw [ht]; exact hw⟩, hS.F ht⟩) hS.2.2 dX11_sheet_24
set_option maxHeartbeats 400000 in
set_option maxRecDepth 20000 in
theorem fc_X11_cell (l : Launch) (D : va_G) (ad : Nat → Nat → Nat) (C : Nat → Nat → ClassId) (nb : Nat) (M : fm_M) (hI : fm_I nb ad M) (p0 p1 p2 : Int32) : Met l yX11_cell wsX11_cell ({ frames := 1, cells := 0, slots := 0, locals := 22 }) (va_Pc [.ref (ad 0 0), .int p0, .int p1, .int p2] (fm_P D ad C nb M)) (va_Qi (fun (r : Int32) (u : fm_M) => fm_I nb ad u ∧ fm_same [47000] M u ∧ ((¬ (0 ≤ p0.toInt ∧ p0.toInt ≤ 3) ∧ r.toInt = -2) ∨ ((0 ≤ p0.toInt ∧ p0.toInt ≤ 3) ∧ (M.1 46 p0.toNatClampNeg 1).toInt < 0 ∧ r.toInt = -11) ∨ ((0 ≤ p0.toInt ∧ p0.toInt ≤ 3) ∧ 0 ≤ (M.1 46 p0.toNatClampNeg 1).toInt ∧ ¬ (0 ≤ p1.toInt ∧ p1.toInt < (M.1 46 p0.toNatClampNeg 2).toInt) ∧ r.toInt = -12) ∨ ((0 ≤ p0.toInt ∧ p0.toInt ≤ 3) ∧ 0 ≤ (M.1 46 p0.toNatClampNeg 1).toInt ∧ (0 ≤ p1.toInt ∧ p1.toInt < (M.1 46 p0.toNatClampNeg 2).toInt) ∧ r.toInt = 1))) (fun u t => fm_at D ad C nb u t.heap) (fm_A nb ad)) 0 0 (fm_A nb ad) := by
  refine Met.ofW (cc := cX11_cell) (maxL := 5) (ret := (some .int)) (by decide) rfl ?_
  intro p e s m args below meth c s₁ B hml hv
  obtain ⟨rfl, hw, hc⟩ := hv
  have hx := B.exec
  have hb := B.bytes
  have hr := B.returns
  have hts := atoms_spec (ws := wsX11_cell) B.pre
  have hown : s.vm.findClass RX11 = some m.cls := findClass_of_methodNamed B.named
  have hinX7 : ∀ w ∈ u_ws RX7 TX7 3, w ∈ wsX11_cell := fun w h => List.mem_cons_of_mem _ (iT_X7 w h)
  have hS : va_S (fm_A nb ad) s.heap s.heap [] := va_S.rf
  have hE : fm_same [47000] M M := fm_same.rf
  have hl := lv_entry ([.ref (ad 0 0), .int p0, .int p1, .int p2]) (n := 5) (Nat.le_of_ble_eq_true rfl)
  rw [lg_entry_eq]
  generalize (lg_sl ([.ref (ad 0 0), .int p0, .int p1, .int p2]) ++ List.replicate (5 - (lg_sl ([.ref (ad 0 0), .int p0, .int p1, .int p2])).length) Slot.unset).toArray = ls at hl ⊢
  have hl : lv_has ls 5 [(0, .ref (ad 0 0)), (1, .int p0), (2, .int p1), (3, .int p2)] := hl
  refine lv_aload_n hx hb dX11_cell_0 rfl (lv_at hl 0 rfl) ?_
  refine lv_iload_n hx hb dX11_cell_1 rfl (lv_at hl 1 rfl) ?_
  refine va_csq (va_Run.run (va_runV (As := [.int p0]) (rest := []) ⟨hx, hb, hml, hown, hts⟩ (fc_X11_sheetAt l D ad C nb M hI p0) (cwV 1 hts gX11_cell_X11_sheetAt rfl rfl rfl (by decide +kernel) ⟨Nat.le_of_ble_eq_true rfl, Nat.le_of_ble_eq_true rfl⟩) (fm_preV hc hw hS kl_0 sh_0 rfl) rfl rfl hl.1 rfl (lv_room (Nat.le_of_ble_eq_true rfl)) dX11_cell_2 ⟨by decide +kernel, by decide +kernel⟩)) (fun r1 hr1 => ?_)
  rcases hr1 with ⟨rfl, hr1n⟩ | ⟨hr1l, hr1u, rfl⟩
  · refine lv_astoreN (lv' := [(4, .null), (0, .ref (ad 0 0)), (1, .int p0), (2, .int p1), (3, .int p2)]) hx hb dX11_cell_5 hl (by decide) rfl (fun ls hl => ?_)
    refine lv_aloadN hx hb dX11_cell_7 (lv_at hl 0 rfl) ?_
    refine lv_ifnonnullN hx hb dX11_cell_9 ?_
    refine lv_bipush (v := (-2)) hx hb dX11_cell_12 (by decide) ?_
    exact W.iret (v := (-2)) hx hb hr (fun t ht hW => ⟨⟨(-2), M, rfl, ⟨hI, hE, Or.inl ⟨by omega, zk_m2⟩⟩, by show fm_at D ad C nb _ t.heap; rw [ht]; exact hw⟩, hS.F ht⟩) hS.2.2 dX11_cell_14
  · have khr1 : p0.toNatClampNeg < 4 := zi_cln ⟨hr1l, hr1u⟩
    refine lv_astore (lv' := [(4, .ref (ad 46 p0.toNatClampNeg)), (0, .ref (ad 0 0)), (1, .int p0), (2, .int p1), (3, .int p2)]) hx hb dX11_cell_5 hl (by decide) rfl (fun ls hl => ?_)
    refine lv_aload hx hb dX11_cell_7 (lv_at hl 0 rfl) ?_
    refine lv_ifnonnull (tgt := 15) hx hb dX11_cell_9 (by decide) ?_
    refine lv_aload hx hb dX11_cell_15 (lv_at hl 0 rfl) ?_
    refine fm_getI (a := 46) (j := 1) (T := TX7) (N := 3) hx hb hts hinX7 hown hc hw hI (kl_46 khr1) sh_46 rfl (by decide) rfl bd_46_1 (hts (.fieldLink RX11 355 "RedTent$Sheet" "sort" "I") (List.mem_cons_of_mem _ tw_2_86)) (fun _ h9 => h9) dX11_cell_17 (fun x2 ex2 bx2 => ?_)
    refine lv_iconst (v := (-1)) hx hb dX11_cell_20 (by decide) ?_
    refine fx_icmp_ne (tgt := 27) hx hb dX11_cell_21 (by decide) rfl zk_m1 (fun c3 => ?_) (fun c3 => ?_)
    · refine lv_aload hx hb dX11_cell_27 (lv_at hl 0 rfl) ?_
      refine lv_iload_n hx hb dX11_cell_29 rfl (lv_at hl 3 rfl) ?_
      refine vp_callSi (va_Run.run (va_runV (As := [.int p1]) (rest := []) ⟨hx, hb, hml, hown, hts⟩ (fc_X7_hasItem l D ad C nb M hI p0.toNatClampNeg khr1 p1) (cwV 1 hts gX11_cell_X7_hasItem rfl rfl rfl (by decide +kernel) ⟨Nat.le_of_ble_eq_true rfl, Nat.le_of_ble_eq_true rfl⟩) (fm_preV hc hw hS (kl_46 khr1) sh_46 rfl) rfl rfl hl.1 rfl (lv_room (Nat.le_of_ble_eq_true rfl)) dX11_cell_30 ⟨by decide +kernel, by decide +kernel⟩)) (fun r4 hr4 => ?_)
      have bqq5 := hI.bd (k := p0.toNatClampNeg) bd_46_2
      rcases hr4 with ⟨rfl, c6⟩ | ⟨rfl, c6⟩
      · refine fx_if_ne (tgt := 39) hx hb dX11_cell_33 (by decide) zk_1 (fun c7 => ?_) (fun c7 => by exfalso; omega)
        refine lv_aload hx hb dX11_cell_39 (lv_at hl 0 rfl) ?_
        refine lv_iload_n hx hb dX11_cell_41 rfl (lv_at hl 3 rfl) ?_
        refine lv_iload_n hx hb dX11_cell_42 rfl (lv_at hl 4 rfl) ?_
        refine fm_cv (va_runV (As := [.int p1, .int p2]) (rest := []) ⟨hx, hb, hml, hown, hts⟩ (fc_X7_put l D ad C nb M hI p0.toNatClampNeg khr1 p1 p2 (by omega)) (cwV 2 hts gX11_cell_X7_put rfl rfl rfl (by decide +kernel) ⟨Nat.le_of_ble_eq_true rfl, Nat.le_of_ble_eq_true rfl⟩) (fm_preV hc hw hS (kl_46 khr1) sh_46 rfl) rfl rfl hl.1 rfl (lv_room (Nat.le_of_ble_eq_true rfl)) dX11_cell_43 ⟨by decide +kernel, by decide +kernel⟩) hS hc (fun M9 H locs hr8 hw hS => ?_)
        obtain ⟨hI, hEM9, hr8⟩ := hr8
        have hE := hE.tr hEM9 (by decide)
        refine lv_iconst (v := 1) hx hb dX11_cell_46 (by decide) ?_
        have qx2 : x2.toInt = (M.1 46 p0.toNatClampNeg 1).toInt := by rw [ex2]
        exact W.iret (v := 1) hx hb hr (fun t ht hW => ⟨⟨1, M9, rfl, ⟨hI, hE, Or.inr (Or.inr (Or.inr (⟨by omega, by omega, by omega, zk_1⟩)))⟩, by show fm_at D ad C nb _ t.heap; rw [ht]; exact hw⟩, hS.F ht⟩) hS.2.2 dX11_cell_47
      · refine fx_if_ne (tgt := 39) hx hb dX11_cell_33 (by decide) zk_0 (fun c10 => by exfalso; omega) (fun c10 => ?_)
        refine lv_bipush (v := (-12)) hx hb dX11_cell_36 (by decide) ?_
        have qx2 : x2.toInt = (M.1 46 p0.toNatClampNeg 1).toInt := by rw [ex2]
        exact W.iret (v := (-12)) hx hb hr (fun t ht hW => ⟨⟨(-12), M, rfl, ⟨hI, hE, Or.inr (Or.inr (Or.inl ⟨by omega, by omega, by omega, zk_m12⟩))⟩, by show fm_at D ad C nb _ t.heap; rw [ht]; exact hw⟩, hS.F ht⟩) hS.2.2 dX11_cell_38
    · refine lv_bipush (v := (-11)) hx hb dX11_cell_24 (by decide) ?_
      have qx2 : x2.toInt = (M.1 46 p0.toNatClampNeg 1).toInt := by rw [ex2]
      exact W.iret (v := (-11)) hx hb hr (fun t ht hW => ⟨⟨(-11), M, rfl, ⟨hI, hE, Or.inr (Or.inl ⟨by omega, by omega, zk_m11⟩)⟩, by show fm_at D ad C nb _ t.heap; rw [ht]; exact hw⟩, hS.F ht⟩) hS.2.2 dX11_cell_26
set_option maxHeartbeats 400000 in
set_option maxRecDepth 20000 in
theorem fc_X11_copy (l : Launch) (D : va_G) (ad : Nat → Nat → Nat) (C : Nat → Nat → ClassId) (nb : Nat) (M : fm_M) (hI : fm_I nb ad M) (p0 p1 p2 p3 p4 : Int32) : Met l yX11_copy wsX11_copy ({ frames := 1, cells := 0, slots := 0, locals := 40 }) (va_Pc [.ref (ad 0 0), .int p0, .int p1, .int p2, .int p3, .int p4] (fm_P D ad C nb M)) (va_Qi (fun (r : Int32) (u : fm_M) => fm_I nb ad u ∧ fm_same [47000] M u ∧ ((¬ (0 ≤ p0.toInt ∧ p0.toInt ≤ 3 ∧ 0 ≤ p2.toInt ∧ p2.toInt ≤ 3) ∧ r.toInt = -2) ∨ ((0 ≤ p0.toInt ∧ p0.toInt ≤ 3 ∧ 0 ≤ p2.toInt ∧ p2.toInt ≤ 3) ∧ ((M.1 46 p0.toNatClampNeg 1).toInt < 0 ∨ (M.1 46 p2.toNatClampNeg 1).toInt < 0) ∧ r.toInt = -11) ∨ ((0 ≤ p0.toInt ∧ p0.toInt ≤ 3 ∧ 0 ≤ p2.toInt ∧ p2.toInt ≤ 3) ∧ 0 ≤ (M.1 46 p0.toNatClampNeg 1).toInt ∧ 0 ≤ (M.1 46 p2.toNatClampNeg 1).toInt ∧ ¬ (M.1 46 p0.toNatClampNeg 1).toInt = (M.1 46 p2.toNatClampNeg 1).toInt ∧ r.toInt = -13) ∨ ((0 ≤ p0.toInt ∧ p0.toInt ≤ 3 ∧ 0 ≤ p2.toInt ∧ p2.toInt ≤ 3) ∧ 0 ≤ (M.1 46 p0.toNatClampNeg 1).toInt ∧ (M.1 46 p0.toNatClampNeg 1).toInt = (M.1 46 p2.toNatClampNeg 1).toInt ∧ ¬ (0 ≤ p4.toInt ∧ 0 ≤ p1.toInt ∧ 0 ≤ p3.toInt ∧ p1.toInt + p4.toInt ≤ (M.1 46 p0.toNatClampNeg 2).toInt ∧ p3.toInt + p4.toInt ≤ (M.1 46 p2.toNatClampNeg 2).toInt) ∧ r.toInt = -12) ∨ ((0 ≤ p0.toInt ∧ p0.toInt ≤ 3 ∧ 0 ≤ p2.toInt ∧ p2.toInt ≤ 3) ∧ 0 ≤ (M.1 46 p0.toNatClampNeg 1).toInt ∧ (M.1 46 p0.toNatClampNeg 1).toInt = (M.1 46 p2.toNatClampNeg 1).toInt ∧ (0 ≤ p4.toInt ∧ 0 ≤ p1.toInt ∧ 0 ≤ p3.toInt ∧ p1.toInt + p4.toInt ≤ (M.1 46 p0.toNatClampNeg 2).toInt ∧ p3.toInt + p4.toInt ≤ (M.1 46 p2.toNatClampNeg 2).toInt) ∧ r.toInt = p4.toInt))) (fun u t => fm_at D ad C nb u t.heap) (fm_A nb ad)) 0 0 (fm_A nb ad) := by
  refine Met.ofW (cc := cX11_copy) (maxL := 8) (ret := (some .int)) (by decide) rfl ?_
  intro p e s m args below meth c s₁ B hml hv
  obtain ⟨rfl, hw, hc⟩ := hv
  have hx := B.exec
  have hb := B.bytes
  have hr := B.returns
  have hts := atoms_spec (ws := wsX11_copy) B.pre
  have hown : s.vm.findClass RX11 = some m.cls := findClass_of_methodNamed B.named
  have hinX7 : ∀ w ∈ u_ws RX7 TX7 3, w ∈ wsX11_copy := fun w h => List.mem_cons_of_mem _ (iT_X7 w h)
  have hS : va_S (fm_A nb ad) s.heap s.heap [] := va_S.rf
  have hE : fm_same [47000] M M := fm_same.rf
  have hl := lv_entry ([.ref (ad 0 0), .int p0, .int p1, .int p2, .int p3, .int p4]) (n := 8) (Nat.le_of_ble_eq_true rfl)
  rw [lg_entry_eq]
  generalize (lg_sl ([.ref (ad 0 0), .int p0, .int p1, .int p2, .int p3, .int p4]) ++ List.replicate (8 - (lg_sl ([.ref (ad 0 0), .int p0, .int p1, .int p2, .int p3, .int p4])).length) Slot.unset).toArray = ls at hl ⊢
  have hl : lv_has ls 8 [(0, .ref (ad 0 0)), (1, .int p0), (2, .int p1), (3, .int p2), (4, .int p3), (5, .int p4)] := hl
  refine lv_aload_n hx hb dX11_copy_0 rfl (lv_at hl 0 rfl) ?_
  refine lv_iload_n hx hb dX11_copy_1 rfl (lv_at hl 1 rfl) ?_
  refine va_csq (va_Run.run (va_runV (As := [.int p0]) (rest := []) ⟨hx, hb, hml, hown, hts⟩ (fc_X11_sheetAt l D ad C nb M hI p0) (cwV 1 hts gX11_copy_X11_sheetAt rfl rfl rfl (by decide +kernel) ⟨Nat.le_of_ble_eq_true rfl, Nat.le_of_ble_eq_true rfl⟩) (fm_preV hc hw hS kl_0 sh_0 rfl) rfl rfl hl.1 rfl (lv_room (Nat.le_of_ble_eq_true rfl)) dX11_copy_2 ⟨by decide +kernel, by decide +kernel⟩)) (fun r1 hr1 => ?_)
  rcases hr1 with ⟨rfl, hr1n⟩ | ⟨hr1l, hr1u, rfl⟩
  · refine lv_astoreN (lv' := [(6, .null), (0, .ref (ad 0 0)), (1, .int p0), (2, .int p1), (3, .int p2), (4, .int p3), (5, .int p4)]) hx hb dX11_copy_5 hl (by decide) rfl (fun ls hl => ?_)
    refine lv_aload_n hx hb dX11_copy_7 rfl (lv_at hl 1 rfl) ?_
    refine lv_iload_n hx hb dX11_copy_8 rfl (lv_at hl 4 rfl) ?_
    refine va_csq (va_Run.run (va_runV (As := [.int p2]) (rest := []) ⟨hx, hb, hml, hown, hts⟩ (fc_X11_sheetAt l D ad C nb M hI p2) (cwV 1 hts gX11_copy_X11_sheetAt rfl rfl rfl (by decide +kernel) ⟨Nat.le_of_ble_eq_true rfl, Nat.le_of_ble_eq_true rfl⟩) (fm_preV hc hw hS kl_0 sh_0 rfl) rfl rfl hl.1 rfl (lv_room (Nat.le_of_ble_eq_true rfl)) dX11_copy_9 ⟨by decide +kernel, by decide +kernel⟩)) (fun r2 hr2 => ?_)
    rcases hr2 with ⟨rfl, hr2n⟩ | ⟨hr2l, hr2u, rfl⟩
    · refine lv_astoreN (lv' := [(7, .null), (6, .null), (0, .ref (ad 0 0)), (1, .int p0), (2, .int p1), (3, .int p2), (4, .int p3), (5, .int p4)]) hx hb dX11_copy_12 hl (by decide) rfl (fun ls hl => ?_)
      refine lv_aloadN hx hb dX11_copy_14 (lv_at hl 1 rfl) ?_
      refine lv_ifnullN (tgt := 24) hx hb dX11_copy_16 (by decide) ?_
      refine lv_bipush (v := (-2)) hx hb dX11_copy_24 (by decide) ?_
      exact W.iret (v := (-2)) hx hb hr (fun t ht hW => ⟨⟨(-2), M, rfl, ⟨hI, hE, Or.inl ⟨by omega, zk_m2⟩⟩, by show fm_at D ad C nb _ t.heap; rw [ht]; exact hw⟩, hS.F ht⟩) hS.2.2 dX11_copy_26
    · have khr2 : p2.toNatClampNeg < 4 := zi_cln ⟨hr2l, hr2u⟩
      refine lv_astore (lv' := [(7, .ref (ad 46 p2.toNatClampNeg)), (6, .null), (0, .ref (ad 0 0)), (1, .int p0), (2, .int p1), (3, .int p2), (4, .int p3), (5, .int p4)]) hx hb dX11_copy_12 hl (by decide) rfl (fun ls hl => ?_)
      refine lv_aloadN hx hb dX11_copy_14 (lv_at hl 1 rfl) ?_
      refine lv_ifnullN (tgt := 24) hx hb dX11_copy_16 (by decide) ?_
      refine lv_bipush (v := (-2)) hx hb dX11_copy_24 (by decide) ?_
      exact W.iret (v := (-2)) hx hb hr (fun t ht hW => ⟨⟨(-2), M, rfl, ⟨hI, hE, Or.inl ⟨by omega, zk_m2⟩⟩, by show fm_at D ad C nb _ t.heap; rw [ht]; exact hw⟩, hS.F ht⟩) hS.2.2 dX11_copy_26
  · have khr1 : p0.toNatClampNeg < 4 := zi_cln ⟨hr1l, hr1u⟩
    refine lv_astore (lv' := [(6, .ref (ad 46 p0.toNatClampNeg)), (0, .ref (ad 0 0)), (1, .int p0), (2, .int p1), (3, .int p2), (4, .int p3), (5, .int p4)]) hx hb dX11_copy_5 hl (by decide) rfl (fun ls hl => ?_)
    refine lv_aload_n hx hb dX11_copy_7 rfl (lv_at hl 1 rfl) ?_
    refine lv_iload_n hx hb dX11_copy_8 rfl (lv_at hl 4 rfl) ?_
    refine va_csq (va_Run.run (va_runV (As := [.int p2]) (rest := []) ⟨hx, hb, hml, hown, hts⟩ (fc_X11_sheetAt l D ad C nb M hI p2) (cwV 1 hts gX11_copy_X11_sheetAt rfl rfl rfl (by decide +kernel) ⟨Nat.le_of_ble_eq_true rfl, Nat.le_of_ble_eq_true rfl⟩) (fm_preV hc hw hS kl_0 sh_0 rfl) rfl rfl hl.1 rfl (lv_room (Nat.le_of_ble_eq_true rfl)) dX11_copy_9 ⟨by decide +kernel, by decide +kernel⟩)) (fun r3 hr3 => ?_)
    rcases hr3 with ⟨rfl, hr3n⟩ | ⟨hr3l, hr3u, rfl⟩
    · refine lv_astoreN (lv' := [(7, .null), (6, .ref (ad 46 p0.toNatClampNeg)), (0, .ref (ad 0 0)), (1, .int p0), (2, .int p1), (3, .int p2), (4, .int p3), (5, .int p4)]) hx hb dX11_copy_12 hl (by decide) rfl (fun ls hl => ?_)
      refine lv_aload hx hb dX11_copy_14 (lv_at hl 1 rfl) ?_
      refine lv_ifnull hx hb dX11_copy_16 ?_
      refine lv_aloadN hx hb dX11_copy_19 (lv_at hl 0 rfl) ?_
      refine lv_ifnonnullN hx hb dX11_copy_21 ?_
      refine lv_bipush (v := (-2)) hx hb dX11_copy_24 (by decide) ?_
      exact W.iret (v := (-2)) hx hb hr (fun t ht hW => ⟨⟨(-2), M, rfl, ⟨hI, hE, Or.inl ⟨by omega, zk_m2⟩⟩, by show fm_at D ad C nb _ t.heap; rw [ht]; exact hw⟩, hS.F ht⟩) hS.2.2 dX11_copy_26
    · have khr3 : p2.toNatClampNeg < 4 := zi_cln ⟨hr3l, hr3u⟩
      refine lv_astore (lv' := [(7, .ref (ad 46 p2.toNatClampNeg)), (6, .ref (ad 46 p0.toNatClampNeg)), (0, .ref (ad 0 0)), (1, .int p0), (2, .int p1), (3, .int p2), (4, .int p3), (5, .int p4)]) hx hb dX11_copy_12 hl (by decide) rfl (fun ls hl => ?_)
      refine lv_aload hx hb dX11_copy_14 (lv_at hl 1 rfl) ?_
      refine lv_ifnull hx hb dX11_copy_16 ?_
      refine lv_aload hx hb dX11_copy_19 (lv_at hl 0 rfl) ?_
      refine lv_ifnonnull (tgt := 27) hx hb dX11_copy_21 (by decide) ?_
      refine lv_aload hx hb dX11_copy_27 (lv_at hl 1 rfl) ?_
      refine fm_getI (a := 46) (j := 1) (T := TX7) (N := 3) hx hb hts hinX7 hown hc hw hI (kl_46 khr1) sh_46 rfl (by decide) rfl bd_46_1 (hts (.fieldLink RX11 355 "RedTent$Sheet" "sort" "I") (List.mem_cons_of_mem _ tw_2_86)) (fun _ h9 => h9) dX11_copy_29 (fun x4 ex4 bx4 => ?_)
      refine lv_iconst (v := (-1)) hx hb dX11_copy_32 (by decide) ?_
      refine fx_icmp_eq (tgt := 45) hx hb dX11_copy_33 (by decide) rfl zk_m1 (fun c5 => ?_) (fun c5 => ?_)
      · refine lv_bipush (v := (-11)) hx hb dX11_copy_45 (by decide) ?_
        have qx4 : x4.toInt = (M.1 46 p0.toNatClampNeg 1).toInt := by rw [ex4]
        exact W.iret (v := (-11)) hx hb hr (fun t ht hW => ⟨⟨(-11), M, rfl, ⟨hI, hE, Or.inr (Or.inl ⟨by omega, by omega, zk_m11⟩)⟩, by show fm_at D ad C nb _ t.heap; rw [ht]; exact hw⟩, hS.F ht⟩) hS.2.2 dX11_copy_47
      · refine lv_aload hx hb dX11_copy_36 (lv_at hl 0 rfl) ?_
        refine fm_getI (a := 46) (j := 1) (T := TX7) (N := 3) hx hb hts hinX7 hown hc hw hI (kl_46 khr3) sh_46 rfl (by decide) rfl bd_46_1 (hts (.fieldLink RX11 355 "RedTent$Sheet" "sort" "I") (List.mem_cons_of_mem _ tw_2_86)) (fun _ h9 => h9) dX11_copy_38 (fun x6 ex6 bx6 => ?_)
        refine lv_iconst (v := (-1)) hx hb dX11_copy_41 (by decide) ?_
        refine fx_icmp_ne (tgt := 48) hx hb dX11_copy_42 (by decide) rfl zk_m1 (fun c7 => ?_) (fun c7 => ?_)
        · refine lv_aload hx hb dX11_copy_48 (lv_at hl 1 rfl) ?_
          refine fm_getI (a := 46) (j := 1) (T := TX7) (N := 3) hx hb hts hinX7 hown hc hw hI (kl_46 khr1) sh_46 rfl (by decide) rfl bd_46_1 (hts (.fieldLink RX11 355 "RedTent$Sheet" "sort" "I") (List.mem_cons_of_mem _ tw_2_86)) (fun _ h9 => h9) dX11_copy_50 (fun x8 ex8 bx8 => ?_)
          obtain rfl : x4 = x8 := by rw [ex8]; exact ex4
          refine lv_aload hx hb dX11_copy_53 (lv_at hl 0 rfl) ?_
          refine fm_getI (a := 46) (j := 1) (T := TX7) (N := 3) hx hb hts hinX7 hown hc hw hI (kl_46 khr3) sh_46 rfl (by decide) rfl bd_46_1 (hts (.fieldLink RX11 355 "RedTent$Sheet" "sort" "I") (List.mem_cons_of_mem _ tw_2_86)) (fun _ h9 => h9) dX11_copy_55 (fun x9 ex9 bx9 => ?_)
          obtain rfl : x6 = x9 := by rw [ex9]; exact ex6
          refine fx_icmp_eq (tgt := 64) hx hb dX11_copy_58 (by decide) rfl rfl (fun c10 => ?_) (fun c10 => ?_)
          · refine lv_aload hx hb dX11_copy_64 (lv_at hl 1 rfl) ?_
            refine lv_iload_n hx hb dX11_copy_66 rfl (lv_at hl 4 rfl) ?_
            refine lv_iload hx hb dX11_copy_67 (lv_at hl 7 rfl) ?_
            refine vp_callSi (va_Run.run (va_runV (As := [.int p1, .int p4]) (rest := []) ⟨hx, hb, hml, hown, hts⟩ (fc_X7_hasStretch l D ad C nb M hI p0.toNatClampNeg khr1 p1 p4) (cwV 2 hts gX11_copy_X7_hasStretch rfl rfl rfl (by decide +kernel) ⟨Nat.le_of_ble_eq_true rfl, Nat.le_of_ble_eq_true rfl⟩) (fm_preV hc hw hS (kl_46 khr1) sh_46 rfl) rfl rfl hl.1 rfl (lv_room (Nat.le_of_ble_eq_true rfl)) dX11_copy_69 ⟨by decide +kernel, by decide +kernel⟩)) (fun r11 hr11 => ?_)
            have bqq12 := hI.bd (k := p0.toNatClampNeg) bd_46_2
            rcases hr11 with ⟨rfl, c13⟩ | ⟨rfl, c13⟩
            · refine fx_if_eq (tgt := 87) hx hb dX11_copy_72 (by decide) zk_1 (fun c14 => by exfalso; omega) (fun c14 => ?_)
              refine lv_aload hx hb dX11_copy_75 (lv_at hl 0 rfl) ?_
              refine lv_iload hx hb dX11_copy_77 (lv_at hl 6 rfl) ?_
              refine lv_iload hx hb dX11_copy_79 (lv_at hl 7 rfl) ?_
              refine vp_callSi (va_Run.run (va_runV (As := [.int p3, .int p4]) (rest := []) ⟨hx, hb, hml, hown, hts⟩ (fc_X7_hasStretch l D ad C nb M hI p2.toNatClampNeg khr3 p3 p4) (cwV 2 hts gX11_copy_X7_hasStretch rfl rfl rfl (by decide +kernel) ⟨Nat.le_of_ble_eq_true rfl, Nat.le_of_ble_eq_true rfl⟩) (fm_preV hc hw hS (kl_46 khr3) sh_46 rfl) rfl rfl hl.1 rfl (lv_room (Nat.le_of_ble_eq_true rfl)) dX11_copy_81 ⟨by decide +kernel, by decide +kernel⟩)) (fun r15 hr15 => ?_)
              have bqq16 := hI.bd (k := p2.toNatClampNeg) bd_46_2
              rcases hr15 with ⟨rfl, c17⟩ | ⟨rfl, c17⟩
              · refine fx_if_ne (tgt := 90) hx hb dX11_copy_84 (by decide) zk_1 (fun c18 => ?_) (fun c18 => by exfalso; omega)
                refine lv_aload hx hb dX11_copy_90 (lv_at hl 1 rfl) ?_
                refine fm_getG (a := 46) (j := 0) (T := TX7) (N := 3) hx hb hts hinX7 hown hc hw (kl_46 khr1) sh_46 rfl (by decide) rfl (hI.to (kl_46 khr1) tg_46_0) (hts (.fieldLink RX11 367 "RedTent$Sheet" "items" "[I") (List.mem_cons_of_mem _ tw_2_84)) (fun _ h9 => h9) dX11_copy_92 ?_
                refine lv_iload_n hx hb dX11_copy_95 rfl (lv_at hl 4 rfl) ?_
                refine lv_aload hx hb dX11_copy_96 (lv_at hl 0 rfl) ?_
                refine fm_getG (a := 46) (j := 0) (T := TX7) (N := 3) hx hb hts hinX7 hown hc hw (kl_46 khr3) sh_46 rfl (by decide) rfl (hI.to (kl_46 khr3) tg_46_0) (hts (.fieldLink RX11 367 "RedTent$Sheet" "items" "[I") (List.mem_cons_of_mem _ tw_2_84)) (fun _ h9 => h9) dX11_copy_98 ?_
                refine lv_iload hx hb dX11_copy_101 (lv_at hl 6 rfl) ?_
                refine lv_iload hx hb dX11_copy_103 (lv_at hl 7 rfl) ?_
                refine fm_copy (a := 47) (b := 47) hx hb (by rw [hml]; exact hl.1.symm) hown (hts (.methodLink RX11 370 arraycopyName) (List.mem_cons_of_mem _ tw_5_101)) (hts (.native arraycopyName) (List.mem_cons_of_mem _ tw_3_238)) (hts (.static arraycopyName) (List.mem_cons_of_mem _ tw_3_237)) (hts (.initialized "java/lang/System") (List.mem_cons_of_mem _ tw_1_20)) hc hw hI hE hS (kl_47 khr1) sh_47 ty_47 bd_47 (kl_47 khr3) sh_47 ty_47 bd_47 rfl rfl rfl (by omega) (Nat.le_of_ble_eq_true rfl) (by decide) cd_47 (by decide) dX11_copy_105 (fun M19 H locs eM19 hw hI hE hS => ?_)
                refine lv_iload hx hb dX11_copy_108 (lv_at hl 7 rfl) ?_
                have qx4 : x4.toInt = (M.1 46 p0.toNatClampNeg 1).toInt := by rw [ex4]
                have qx6 : x6.toInt = (M.1 46 p2.toNatClampNeg 1).toInt := by rw [ex6]
                exact W.iret (v := p4) hx hb hr (fun t ht hW => ⟨⟨p4, M19, rfl, ⟨hI, hE, Or.inr (Or.inr (Or.inr (Or.inr (⟨by omega, by omega, by omega, by omega, rfl⟩))))⟩, by show fm_at D ad C nb _ t.heap; rw [ht]; exact hw⟩, hS.F ht⟩) hS.2.2 dX11_copy_110
              · refine fx_if_ne (tgt := 90) hx hb dX11_copy_84 (by decide) zk_0 (fun c20 => by exfalso; omega) (fun c20 => ?_)
                refine lv_bipush (v := (-12)) hx hb dX11_copy_87 (by decide) ?_
                have qx4 : x4.toInt = (M.1 46 p0.toNatClampNeg 1).toInt := by rw [ex4]
                have qx6 : x6.toInt = (M.1 46 p2.toNatClampNeg 1).toInt := by rw [ex6]
                exact W.iret (v := (-12)) hx hb hr (fun t ht hW => ⟨⟨(-12), M, rfl, ⟨hI, hE, Or.inr (Or.inr (Or.inr (Or.inl ⟨by omega, by omega, by omega, by omega, zk_m12⟩)))⟩, by show fm_at D ad C nb _ t.heap; rw [ht]; exact hw⟩, hS.F ht⟩) hS.2.2 dX11_copy_89
            · refine fx_if_eq (tgt := 87) hx hb dX11_copy_72 (by decide) zk_0 (fun c21 => ?_) (fun c21 => by exfalso; omega)
              refine lv_bipush (v := (-12)) hx hb dX11_copy_87 (by decide) ?_
              have qx4 : x4.toInt = (M.1 46 p0.toNatClampNeg 1).toInt := by rw [ex4]
              have qx6 : x6.toInt = (M.1 46 p2.toNatClampNeg 1).toInt := by rw [ex6]
              exact W.iret (v := (-12)) hx hb hr (fun t ht hW => ⟨⟨(-12), M, rfl, ⟨hI, hE, Or.inr (Or.inr (Or.inr (Or.inl ⟨by omega, by omega, by omega, by omega, zk_m12⟩)))⟩, by show fm_at D ad C nb _ t.heap; rw [ht]; exact hw⟩, hS.F ht⟩) hS.2.2 dX11_copy_89
          · refine lv_bipush (v := (-13)) hx hb dX11_copy_61 (by decide) ?_
            have qx4 : x4.toInt = (M.1 46 p0.toNatClampNeg 1).toInt := by rw [ex4]
            have qx6 : x6.toInt = (M.1 46 p2.toNatClampNeg 1).toInt := by rw [ex6]
            exact W.iret (v := (-13)) hx hb hr (fun t ht hW => ⟨⟨(-13), M, rfl, ⟨hI, hE, Or.inr (Or.inr (Or.inl ⟨by omega, by omega, by omega, by omega, zk_m13⟩))⟩, by show fm_at D ad C nb _ t.heap; rw [ht]; exact hw⟩, hS.F ht⟩) hS.2.2 dX11_copy_63
        · refine lv_bipush (v := (-11)) hx hb dX11_copy_45 (by decide) ?_
          have qx4 : x4.toInt = (M.1 46 p0.toNatClampNeg 1).toInt := by rw [ex4]
          have qx6 : x6.toInt = (M.1 46 p2.toNatClampNeg 1).toInt := by rw [ex6]
          exact W.iret (v := (-11)) hx hb hr (fun t ht hW => ⟨⟨(-11), M, rfl, ⟨hI, hE, Or.inr (Or.inl ⟨by omega, by omega, zk_m11⟩)⟩, by show fm_at D ad C nb _ t.heap; rw [ht]; exact hw⟩, hS.F ht⟩) hS.2.2 dX11_copy_47
set_option maxHeartbeats 400000 in
set_option maxRecDepth 20000 in
theorem fc_X11_fixes (l : Launch) (D : va_G) (ad : Nat → Nat → Nat) (C : Nat → Nat → ClassId) (nb : Nat) (M : fm_M) (hI : fm_I nb ad M) (p0 p1 p2 p3 p4 : Int32) : Met l yX11_fixes wsX11_fixes ({ frames := 4, cells := 0, slots := 0, locals := 85 }) (va_Pc [.ref (ad 0 0), .int p0, .int p1, .int p2, .int p3, .int p4] (fm_P D ad C nb M)) (va_Qi (fun (r : Int32) (u : fm_M) => fm_I nb ad u ∧ fm_same [11, 50009, 50014, 51000, 52000, 53000] M u ∧ True) (fun u t => fm_at D ad C nb u t.heap) (fm_A nb ad)) 0 0 (fm_A nb ad) := by
  refine Met.ofW (cc := cX11_fixes) (maxL := 12) (ret := (some .int)) (by decide) rfl ?_
  intro p e s m args below meth c s₁ B hml hv
  obtain ⟨rfl, hw, hc⟩ := hv
  have hx := B.exec
  have hb := B.bytes
  have hr := B.returns
  have hts := atoms_spec (ws := wsX11_fixes) B.pre
  have hown : s.vm.findClass RX11 = some m.cls := findClass_of_methodNamed B.named
  have hinX7 : ∀ w ∈ u_ws RX7 TX7 3, w ∈ wsX11_fixes := fun w h => List.mem_cons_of_mem _ (iT_X7 w h)
  have hS : va_S (fm_A nb ad) s.heap s.heap [] := va_S.rf
  have hE : fm_same [11, 50009, 50014, 51000, 52000, 53000] M M := fm_same.rf
  have hl := lv_entry ([.ref (ad 0 0), .int p0, .int p1, .int p2, .int p3, .int p4]) (n := 12) (Nat.le_of_ble_eq_true rfl)
  rw [lg_entry_eq]
  generalize (lg_sl ([.ref (ad 0 0), .int p0, .int p1, .int p2, .int p3, .int p4]) ++ List.replicate (12 - (lg_sl ([.ref (ad 0 0), .int p0, .int p1, .int p2, .int p3, .int p4])).length) Slot.unset).toArray = ls at hl ⊢
  have hl : lv_has ls 12 [(0, .ref (ad 0 0)), (1, .int p0), (2, .int p1), (3, .int p2), (4, .int p3), (5, .int p4)] := hl
  refine lv_aload_n hx hb dX11_fixes_0 rfl (lv_at hl 0 rfl) ?_
  refine lv_iload_n hx hb dX11_fixes_1 rfl (lv_at hl 1 rfl) ?_
  refine va_csq (va_Run.run (va_runV (As := [.int p0]) (rest := []) ⟨hx, hb, hml, hown, hts⟩ (fc_X11_bodyAt l D ad C nb M hI p0) (cwV 1 hts gX11_fixes_X11_bodyAt rfl rfl rfl (by decide +kernel) ⟨Nat.le_of_ble_eq_true rfl, Nat.le_of_ble_eq_true rfl⟩) (fm_preV hc hw hS kl_0 sh_0 rfl) rfl rfl hl.1 rfl (lv_room (Nat.le_of_ble_eq_true rfl)) dX11_fixes_2 ⟨by decide +kernel, by decide +kernel⟩)) (fun r1 hr1 => ?_)
  rcases hr1 with ⟨rfl, hr1n⟩ | ⟨hr1l, hr1u, rfl⟩
  · refine lv_astoreN (lv' := [(6, .null), (0, .ref (ad 0 0)), (1, .int p0), (2, .int p1), (3, .int p2), (4, .int p3), (5, .int p4)]) hx hb dX11_fixes_5 hl (by decide) rfl (fun ls hl => ?_)
    refine lv_aload_n hx hb dX11_fixes_7 rfl (lv_at hl 1 rfl) ?_
    refine lv_iload_n hx hb dX11_fixes_8 rfl (lv_at hl 3 rfl) ?_
    refine va_csq (va_Run.run (va_runV (As := [.int p1]) (rest := []) ⟨hx, hb, hml, hown, hts⟩ (fc_X11_sheetAt l D ad C nb M hI p1) (cwV 1 hts gX11_fixes_X11_sheetAt rfl rfl rfl (by decide +kernel) ⟨Nat.le_of_ble_eq_true rfl, Nat.le_of_ble_eq_true rfl⟩) (fm_preV hc hw hS kl_0 sh_0 rfl) rfl rfl hl.1 rfl (lv_room (Nat.le_of_ble_eq_true rfl)) dX11_fixes_9 ⟨by decide +kernel, by decide +kernel⟩)) (fun r2 hr2 => ?_)
    rcases hr2 with ⟨rfl, hr2n⟩ | ⟨hr2l, hr2u, rfl⟩
    · refine lv_astoreN (lv' := [(7, .null), (6, .null), (0, .ref (ad 0 0)), (1, .int p0), (2, .int p1), (3, .int p2), (4, .int p3), (5, .int p4)]) hx hb dX11_fixes_12 hl (by decide) rfl (fun ls hl => ?_)
      refine lv_aloadN hx hb dX11_fixes_14 (lv_at hl 1 rfl) ?_
      refine lv_ifnullN (tgt := 45) hx hb dX11_fixes_16 (by decide) ?_
      refine lv_bipush (v := (-2)) hx hb dX11_fixes_45 (by decide) ?_
      exact W.iret (v := (-2)) hx hb hr (fun t ht hW => ⟨⟨(-2), M, rfl, ⟨hI, hE, trivial⟩, by show fm_at D ad C nb _ t.heap; rw [ht]; exact hw⟩, hS.F ht⟩) hS.2.2 dX11_fixes_47
    · have khr2 : p1.toNatClampNeg < 4 := zi_cln ⟨hr2l, hr2u⟩
      refine lv_astore (lv' := [(7, .ref (ad 46 p1.toNatClampNeg)), (6, .null), (0, .ref (ad 0 0)), (1, .int p0), (2, .int p1), (3, .int p2), (4, .int p3), (5, .int p4)]) hx hb dX11_fixes_12 hl (by decide) rfl (fun ls hl => ?_)
      refine lv_aloadN hx hb dX11_fixes_14 (lv_at hl 1 rfl) ?_
      refine lv_ifnullN (tgt := 45) hx hb dX11_fixes_16 (by decide) ?_
      refine lv_bipush (v := (-2)) hx hb dX11_fixes_45 (by decide) ?_
      exact W.iret (v := (-2)) hx hb hr (fun t ht hW => ⟨⟨(-2), M, rfl, ⟨hI, hE, trivial⟩, by show fm_at D ad C nb _ t.heap; rw [ht]; exact hw⟩, hS.F ht⟩) hS.2.2 dX11_fixes_47
  · have khr1 : p0.toNatClampNeg < nb := zi_cln ⟨hr1l, hr1u⟩
    have nhr1 : nb ≤ 12 := hI.2.2.2.2.2.2.2
    refine lv_astore (lv' := [(6, .ref (ad 50 p0.toNatClampNeg)), (0, .ref (ad 0 0)), (1, .int p0), (2, .int p1), (3, .int p2), (4, .int p3), (5, .int p4)]) hx hb dX11_fixes_5 hl (by decide) rfl (fun ls hl => ?_)
    refine lv_aload_n hx hb dX11_fixes_7 rfl (lv_at hl 1 rfl) ?_
    refine lv_iload_n hx hb dX11_fixes_8 rfl (lv_at hl 3 rfl) ?_
    refine va_csq (va_Run.run (va_runV (As := [.int p1]) (rest := []) ⟨hx, hb, hml, hown, hts⟩ (fc_X11_sheetAt l D ad C nb M hI p1) (cwV 1 hts gX11_fixes_X11_sheetAt rfl rfl rfl (by decide +kernel) ⟨Nat.le_of_ble_eq_true rfl, Nat.le_of_ble_eq_true rfl⟩) (fm_preV hc hw hS kl_0 sh_0 rfl) rfl rfl hl.1 rfl (lv_room (Nat.le_of_ble_eq_true rfl)) dX11_fixes_9 ⟨by decide +kernel, by decide +kernel⟩)) (fun r3 hr3 => ?_)
    rcases hr3 with ⟨rfl, hr3n⟩ | ⟨hr3l, hr3u, rfl⟩
    · refine lv_astoreN (lv' := [(7, .null), (6, .ref (ad 50 p0.toNatClampNeg)), (0, .ref (ad 0 0)), (1, .int p0), (2, .int p1), (3, .int p2), (4, .int p3), (5, .int p4)]) hx hb dX11_fixes_12 hl (by decide) rfl (fun ls hl => ?_)
      refine lv_aload hx hb dX11_fixes_14 (lv_at hl 1 rfl) ?_
      refine lv_ifnull hx hb dX11_fixes_16 ?_
      refine lv_aloadN hx hb dX11_fixes_19 (lv_at hl 0 rfl) ?_
      refine lv_ifnullN (tgt := 45) hx hb dX11_fixes_21 (by decide) ?_
      refine lv_bipush (v := (-2)) hx hb dX11_fixes_45 (by decide) ?_
      exact W.iret (v := (-2)) hx hb hr (fun t ht hW => ⟨⟨(-2), M, rfl, ⟨hI, hE, trivial⟩, by show fm_at D ad C nb _ t.heap; rw [ht]; exact hw⟩, hS.F ht⟩) hS.2.2 dX11_fixes_47
    · have khr3 : p1.toNatClampNeg < 4 := zi_cln ⟨hr3l, hr3u⟩
      refine lv_astore (lv' := [(7, .ref (ad 46 p1.toNatClampNeg)), (6, .ref (ad 50 p0.toNatClampNeg)), (0, .ref (ad 0 0)), (1, .int p0), (2, .int p1), (3, .int p2), (4, .int p3), (5, .int p4)]) hx hb dX11_fixes_12 hl (by decide) rfl (fun ls hl => ?_)
      refine lv_aload hx hb dX11_fixes_14 (lv_at hl 1 rfl) ?_
      refine lv_ifnull hx hb dX11_fixes_16 ?_
      refine lv_aload hx hb dX11_fixes_19 (lv_at hl 0 rfl) ?_
      refine lv_ifnull hx hb dX11_fixes_21 ?_
      refine lv_iload_n hx hb dX11_fixes_24 rfl (lv_at hl 5 rfl) ?_
      refine fx_if_lt (tgt := 45) hx hb dX11_fixes_25 (by decide) rfl (fun c4 => ?_) (fun c4 => ?_)
      · refine lv_bipush (v := (-2)) hx hb dX11_fixes_45 (by decide) ?_
        exact W.iret (v := (-2)) hx hb hr (fun t ht hW => ⟨⟨(-2), M, rfl, ⟨hI, hE, trivial⟩, by show fm_at D ad C nb _ t.heap; rw [ht]; exact hw⟩, hS.F ht⟩) hS.2.2 dX11_fixes_47
      · refine lv_iload_n hx hb dX11_fixes_28 rfl (lv_at hl 5 rfl) ?_
        refine lv_iconst (v := 3) hx hb dX11_fixes_29 (by decide) ?_
        refine fx_icmp_ge (tgt := 45) hx hb dX11_fixes_30 (by decide) rfl zk_3 (fun c5 => ?_) (fun c5 => ?_)
        · refine lv_bipush (v := (-2)) hx hb dX11_fixes_45 (by decide) ?_
          exact W.iret (v := (-2)) hx hb hr (fun t ht hW => ⟨⟨(-2), M, rfl, ⟨hI, hE, trivial⟩, by show fm_at D ad C nb _ t.heap; rw [ht]; exact hw⟩, hS.F ht⟩) hS.2.2 dX11_fixes_47
        · refine lv_iload hx hb dX11_fixes_33 (lv_at hl 7 rfl) ?_
          refine fx_if_lt (tgt := 45) hx hb dX11_fixes_35 (by decide) rfl (fun c6 => ?_) (fun c6 => ?_)
          · refine lv_bipush (v := (-2)) hx hb dX11_fixes_45 (by decide) ?_
            exact W.iret (v := (-2)) hx hb hr (fun t ht hW => ⟨⟨(-2), M, rfl, ⟨hI, hE, trivial⟩, by show fm_at D ad C nb _ t.heap; rw [ht]; exact hw⟩, hS.F ht⟩) hS.2.2 dX11_fixes_47
          · refine lv_iload hx hb dX11_fixes_38 (lv_at hl 7 rfl) ?_
            refine lv_bipush (v := 20) hx hb dX11_fixes_40 (by decide) ?_
            refine fx_icmp_le (tgt := 48) hx hb dX11_fixes_42 (by decide) rfl zk_20 (fun c7 => ?_) (fun c7 => ?_)
            · have jt : ∀  (M_jt : fm_M), fm_I nb ad M_jt → fm_same [11, 50009, 50014, 51000, 52000, 53000] M M_jt → ∀ (H : Heap) (locs : List Loc), fm_at D ad C nb M_jt H → va_S (fm_A nb ad) s.heap H locs → ∀ (ls : Array Slot), lv_has ls 12 [(7, .ref (ad 46 p1.toNatClampNeg)), (6, .ref (ad 50 p0.toNatClampNeg)), (0, .ref (ad 0 0)), (1, .int p0), (2, .int p1), (3, .int p2), (4, .int p3), (5, .int p4)] → W p l e (headSpec wsX11_fixes ({ frames := 4, cells := 0, slots := 0, locals := 85 })).room s m ([.ref (ad 0 0), .int p0, .int p1, .int p2, .int p3, .int p4] : List Value).toArray below meth c H locs 0 0 (MQ below (va_Qi (fun (r : Int32) (u : fm_M) => fm_I nb ad u ∧ fm_same [11, 50009, 50014, 51000, 52000, 53000] M u ∧ True) (fun u t => fm_at D ad C nb u t.heap) (fm_A nb ad)) ([.ref (ad 0 0), .int p0, .int p1, .int p2, .int p3, .int p4] : List Value).toArray s 0 0 (fm_A nb ad)) (F0 m 69 ls []) := by
                intro  M_jt hI hE H locs hw hS ls hl
                refine lv_aload hx hb dX11_fixes_69 (lv_at hl 0 rfl) ?_
                refine fm_getI (a := 46) (j := 1) (T := TX7) (N := 3) hx hb hts hinX7 hown hc hw hI (kl_46 khr3) sh_46 rfl (by decide) rfl bd_46_1 (hts (.fieldLink RX11 355 "RedTent$Sheet" "sort" "I") (List.mem_cons_of_mem _ tw_2_86)) (fun _ h9 => h9) dX11_fixes_71 (fun x8 ex8 bx8 => ?_)
                refine lv_iconst (v := (-1)) hx hb dX11_fixes_74 (by decide) ?_
                refine fx_icmp_ne (tgt := 81) hx hb dX11_fixes_75 (by decide) rfl zk_m1 (fun c9 => ?_) (fun c9 => ?_)
                · refine lv_iconst (v := 0) hx hb dX11_fixes_81 (by decide) ?_
                  refine lv_istore (lv' := [(8, .int 0), (7, .ref (ad 46 p1.toNatClampNeg)), (6, .ref (ad 50 p0.toNatClampNeg)), (0, .ref (ad 0 0)), (1, .int p0), (2, .int p1), (3, .int p2), (4, .int p3), (5, .int p4)]) hx hb dX11_fixes_82 hl (by decide) rfl (fun ls hl => ?_)
                  refine lv_iload hx hb dX11_fixes_84 (lv_at hl 7 rfl) ?_
                  refine lv_istore (lv' := [(9, .int p3), (8, .int 0), (7, .ref (ad 46 p1.toNatClampNeg)), (6, .ref (ad 50 p0.toNatClampNeg)), (0, .ref (ad 0 0)), (1, .int p0), (2, .int p1), (3, .int p2), (4, .int p3), (5, .int p4)]) hx hb dX11_fixes_86 hl (by decide) rfl (fun ls hl => ?_)
                  refine lv_iconst (v := 0) hx hb dX11_fixes_88 (by decide) ?_
                  refine lv_istore (lv' := [(10, .int 0), (9, .int p3), (8, .int 0), (7, .ref (ad 46 p1.toNatClampNeg)), (6, .ref (ad 50 p0.toNatClampNeg)), (0, .ref (ad 0 0)), (1, .int p0), (2, .int p1), (3, .int p2), (4, .int p3), (5, .int p4)]) hx hb dX11_fixes_89 hl (by decide) rfl (fun ls hl => ?_)
                  have lp : ∀ (n_lp : Nat) (lp_10 : Int32) (lp_9 : Int32) (lp_8 : Int32) (M_lp : fm_M), (20 - lp_10.toInt).toNat < n_lp → (0 ≤ lp_10.toInt ∧ lp_10.toInt ≤ 20) → (0 ≤ lp_8.toInt ∧ lp_8.toInt ≤ 20) → (lp_8.toInt ≤ lp_10.toInt) → fm_I nb ad M_lp → fm_same [11, 50009, 50014, 51000, 52000, 53000] M M_lp → ∀ (H : Heap) (locs : List Loc), fm_at D ad C nb M_lp H → va_S (fm_A nb ad) s.heap H locs → ∀ (ls : Array Slot), lv_has ls 12 [(10, .int lp_10), (9, .int lp_9), (8, .int lp_8), (7, .ref (ad 46 p1.toNatClampNeg)), (6, .ref (ad 50 p0.toNatClampNeg)), (0, .ref (ad 0 0)), (1, .int p0), (2, .int p1), (3, .int p2), (4, .int p3), (5, .int p4)] → W p l e (headSpec wsX11_fixes ({ frames := 4, cells := 0, slots := 0, locals := 85 })).room s m ([.ref (ad 0 0), .int p0, .int p1, .int p2, .int p3, .int p4] : List Value).toArray below meth c H locs 0 0 (MQ below (va_Qi (fun (r : Int32) (u : fm_M) => fm_I nb ad u ∧ fm_same [11, 50009, 50014, 51000, 52000, 53000] M u ∧ True) (fun u t => fm_at D ad C nb u t.heap) (fm_A nb ad)) ([.ref (ad 0 0), .int p0, .int p1, .int p2, .int p3, .int p4] : List Value).toArray s 0 0 (fm_A nb ad)) (F0 m 91 ls []) := by
                    intro n_lp
                    induction n_lp with
                    | zero => intro lp_10 lp_9 lp_8 M_lp hm_lp b_lp_10 b_lp_8 h8 hI hE H locs hw hS ls hl; exact absurd hm_lp (Nat.not_lt_zero _)
                    | succ n_lp ih_lp =>
                      intro lp_10 lp_9 lp_8 M_lp hm_lp b_lp_10 b_lp_8 h8 hI hE H locs hw hS ls hl
                      refine lv_iload hx hb dX11_fixes_91 (lv_at hl 0 rfl) ?_
                      refine lv_iload hx hb dX11_fixes_93 (lv_at hl 10 rfl) ?_
                      refine fx_icmp_ge (tgt := 164) hx hb dX11_fixes_95 (by decide) rfl rfl (fun c10 => ?_) (fun c10 => ?_)
                      · refine lv_iload hx hb dX11_fixes_164 (lv_at hl 2 rfl) ?_
                        exact W.iret (v := lp_8) hx hb hr (fun t ht hW => ⟨⟨lp_8, M_lp, rfl, ⟨hI, hE, trivial⟩, by show fm_at D ad C nb _ t.heap; rw [ht]; exact hw⟩, hS.F ht⟩) hS.2.2 dX11_fixes_166
                      · refine lv_aload hx hb dX11_fixes_98 (lv_at hl 3 rfl) ?_
                        refine lv_iload hx hb dX11_fixes_100 (lv_at hl 1 rfl) ?_
                        refine lv_iconst (v := 2) hx hb dX11_fixes_102 (by decide) ?_
                        have zz11 := zk_2
                        refine vp_callSi (va_Run.run (va_runV (As := [.int lp_9, .int 2]) (rest := []) ⟨hx, hb, hml, hown, hts⟩ (fc_X7_hasStretch l D ad C nb M_lp hI p1.toNatClampNeg khr3 lp_9 2) (cwV 2 hts gX11_fixes_X7_hasStretch rfl rfl rfl (by decide +kernel) ⟨Nat.le_of_ble_eq_true rfl, Nat.le_of_ble_eq_true rfl⟩) (fm_preV hc hw hS (kl_46 khr3) sh_46 rfl) rfl rfl hl.1 rfl (lv_room (Nat.le_of_ble_eq_true rfl)) dX11_fixes_103 ⟨by decide +kernel, by decide +kernel⟩)) (fun r12 hr12 => ?_)
                        have bqq13 := hI.bd (k := p1.toNatClampNeg) bd_46_2
                        rcases hr12 with ⟨rfl, c14⟩ | ⟨rfl, c14⟩
                        · refine fx_if_ne (tgt := 112) hx hb dX11_fixes_106 (by decide) zk_1 (fun c15 => ?_) (fun c15 => by exfalso; omega)
                          refine lv_aload hx hb dX11_fixes_112 (lv_at hl 3 rfl) ?_
                          refine fm_getG (a := 46) (j := 0) (T := TX7) (N := 3) hx hb hts hinX7 hown hc hw (kl_46 khr3) sh_46 rfl (by decide) rfl (hI.to (kl_46 khr3) tg_46_0) (hts (.fieldLink RX11 367 "RedTent$Sheet" "items" "[I") (List.mem_cons_of_mem _ tw_2_84)) (fun _ h9 => h9) dX11_fixes_114 ?_
                          refine lv_iload hx hb dX11_fixes_117 (lv_at hl 1 rfl) ?_
                          refine lv_iconst (v := 1) hx hb dX11_fixes_119 (by decide) ?_
                          refine fx_iadd hx hb dX11_fixes_120 rfl zk_1 (by omega) (fun y16 ey16 ty16 => ?_)
                          refine fm_iald (a := 47) hx hb hc hw hI (kl_47 khr3) sh_47 ty_47 bd_47 (by omega) dX11_fixes_121 (fun x17 ex17 bx17 => ?_)
                          refine lv_istore (lv' := [(11, .int x17), (10, .int lp_10), (9, .int lp_9), (8, .int lp_8), (7, .ref (ad 46 p1.toNatClampNeg)), (6, .ref (ad 50 p0.toNatClampNeg)), (0, .ref (ad 0 0)), (1, .int p0), (2, .int p1), (3, .int p2), (4, .int p3), (5, .int p4)]) hx hb dX11_fixes_122 hl (by decide) rfl (fun ls hl => ?_)
                          refine lv_iload hx hb dX11_fixes_124 (lv_at hl 0 rfl) ?_
                          refine vp_callSi (va_Run.run (va_runS (As := [.int x17]) (rest := []) ⟨hx, hb, hml, hown, hts⟩ (fc_X11_isCell l x17) (va_cwS 1 hts gX11_fixes_X11_isCell rfl rfl rfl (by decide +kernel) ⟨Nat.le_of_ble_eq_true rfl, Nat.le_of_ble_eq_true rfl⟩) ⟨fun a U g mk q => q, fun U hU hW => ⟨rfl, trivial⟩⟩ rfl rfl hl.1 rfl (lv_room (Nat.le_of_ble_eq_true rfl)) dX11_fixes_126 ⟨by decide +kernel, by decide +kernel⟩)) (fun r18 hr18 => ?_)
                          rcases hr18 with ⟨rfl, c19⟩ | ⟨rfl, c19⟩
                          · refine fx_if_eq (tgt := 155) hx hb dX11_fixes_129 (by decide) zk_1 (fun c20 => by exfalso; omega) (fun c20 => ?_)
                            refine lv_aload_n hx hb dX11_fixes_132 rfl (lv_at hl 6 rfl) ?_
                            refine lv_iload_n hx hb dX11_fixes_133 rfl (lv_at hl 7 rfl) ?_
                            refine lv_aload hx hb dX11_fixes_134 (lv_at hl 4 rfl) ?_
                            refine fm_getG (a := 46) (j := 0) (T := TX7) (N := 3) hx hb hts hinX7 hown hc hw (kl_46 khr3) sh_46 rfl (by decide) rfl (hI.to (kl_46 khr3) tg_46_0) (hts (.fieldLink RX11 367 "RedTent$Sheet" "items" "[I") (List.mem_cons_of_mem _ tw_2_84)) (fun _ h9 => h9) dX11_fixes_136 ?_
                            refine lv_iload hx hb dX11_fixes_139 (lv_at hl 2 rfl) ?_
                            refine fm_iald (a := 47) hx hb hc hw hI (kl_47 khr3) sh_47 ty_47 bd_47 (by omega) dX11_fixes_141 (fun x21 ex21 bx21 => ?_)
                            refine lv_lconst (v := 1) hx hb dX11_fixes_142 (by decide) ?_
                            refine lv_iload hx hb dX11_fixes_143 (lv_at hl 0 rfl) ?_
                            refine lv_lshl (v := (1 : Int64) <<< (x17.toInt64 &&& 63)) hx hb dX11_fixes_145 rfl ?_
                            refine lv_topl (fun y22 ey22 => ?_)
                            refine fm_ci (va_runV (As := [.int p0, .int x21, .long y22]) (rest := []) ⟨hx, hb, hml, hown, hts⟩ (fc_X11_fix l D ad C nb M_lp hI p0 x21 y22) (cwV 3 hts gX11_fixes_X11_fix rfl rfl rfl (by decide +kernel) ⟨Nat.le_of_ble_eq_true rfl, Nat.le_of_ble_eq_true rfl⟩) (fm_preV hc hw hS kl_0 sh_0 rfl) rfl rfl hl.1 rfl (lv_room (Nat.le_of_ble_eq_true rfl)) dX11_fixes_146 ⟨by decide +kernel, by decide +kernel⟩) hS hc (fun r23 M24 H locs hr23 hw hS => ?_)
                            obtain ⟨hI, hEM24, hr23⟩ := hr23
                            have hE := hE.tr hEM24 (by decide)
                            refine fx_if_le (tgt := 155) hx hb dX11_fixes_149 (by decide) rfl (fun c25 => ?_) (fun c25 => ?_)
                            · obtain ⟨y26, ey26⟩ : ∃ y : Int32, y = lp_9 + 2 := ⟨_, rfl⟩
                              have ty26 : y26.toInt = lp_9.toInt + 2 := by rw [ey26, zi_add _ _ (by rw [zk_2]; omega) (by rw [zk_2]; omega), zk_2]
                              refine lv_iinc (v := y26) (lv' := [(9, .int y26), (11, .int x17), (10, .int lp_10), (8, .int lp_8), (7, .ref (ad 46 p1.toNatClampNeg)), (6, .ref (ad 50 p0.toNatClampNeg)), (0, .ref (ad 0 0)), (1, .int p0), (2, .int p1), (3, .int p2), (4, .int p3), (5, .int p4)]) hx hb dX11_fixes_155 hl (k := 2) rfl (by rw [ey26]; rfl) (by decide) rfl (fun ls hl => ?_)
                              obtain ⟨y27, ey27⟩ : ∃ y : Int32, y = lp_10 + 1 := ⟨_, rfl⟩
                              have ty27 : y27.toInt = lp_10.toInt + 1 := by rw [ey27, zi_add _ _ (by rw [zk_1]; omega) (by rw [zk_1]; omega), zk_1]
                              refine lv_iinc (v := y27) (lv' := [(10, .int y27), (9, .int y26), (11, .int x17), (8, .int lp_8), (7, .ref (ad 46 p1.toNatClampNeg)), (6, .ref (ad 50 p0.toNatClampNeg)), (0, .ref (ad 0 0)), (1, .int p0), (2, .int p1), (3, .int p2), (4, .int p3), (5, .int p4)]) hx hb dX11_fixes_158 hl (k := 2) rfl (by rw [ey27]; rfl) (by decide) rfl (fun ls hl => ?_)
                              refine lv_goto (tgt := 91) hx hb dX11_fixes_161 (by decide) ?_
                              exact ih_lp y27 y26 lp_8 M24 (by omega) (by omega) (by omega) (by omega) hI hE _ _ hw hS ls (lv_sub hl [0, 1, 3, 4, 5, 6, 7, 8, 9, 10, 11] rfl)
                            · obtain ⟨y28, ey28⟩ : ∃ y : Int32, y = lp_8 + 1 := ⟨_, rfl⟩
                              have ty28 : y28.toInt = lp_8.toInt + 1 := by rw [ey28, zi_add _ _ (by rw [zk_1]; omega) (by rw [zk_1]; omega), zk_1]
                              refine lv_iinc (v := y28) (lv' := [(8, .int y28), (11, .int x17), (10, .int lp_10), (9, .int lp_9), (7, .ref (ad 46 p1.toNatClampNeg)), (6, .ref (ad 50 p0.toNatClampNeg)), (0, .ref (ad 0 0)), (1, .int p0), (2, .int p1), (3, .int p2), (4, .int p3), (5, .int p4)]) hx hb dX11_fixes_152 hl (k := 3) rfl (by rw [ey28]; rfl) (by decide) rfl (fun ls hl => ?_)
                              obtain ⟨y29, ey29⟩ : ∃ y : Int32, y = lp_9 + 2 := ⟨_, rfl⟩
                              have ty29 : y29.toInt = lp_9.toInt + 2 := by rw [ey29, zi_add _ _ (by rw [zk_2]; omega) (by rw [zk_2]; omega), zk_2]
                              refine lv_iinc (v := y29) (lv' := [(9, .int y29), (8, .int y28), (11, .int x17), (10, .int lp_10), (7, .ref (ad 46 p1.toNatClampNeg)), (6, .ref (ad 50 p0.toNatClampNeg)), (0, .ref (ad 0 0)), (1, .int p0), (2, .int p1), (3, .int p2), (4, .int p3), (5, .int p4)]) hx hb dX11_fixes_155 hl (k := 3) rfl (by rw [ey29]; rfl) (by decide) rfl (fun ls hl => ?_)
                              obtain ⟨y30, ey30⟩ : ∃ y : Int32, y = lp_10 + 1 := ⟨_, rfl⟩
                              have ty30 : y30.toInt = lp_10.toInt + 1 := by rw [ey30, zi_add _ _ (by rw [zk_1]; omega) (by rw [zk_1]; omega), zk_1]
                              refine lv_iinc (v := y30) (lv' := [(10, .int y30), (9, .int y29), (8, .int y28), (11, .int x17), (7, .ref (ad 46 p1.toNatClampNeg)), (6, .ref (ad 50 p0.toNatClampNeg)), (0, .ref (ad 0 0)), (1, .int p0), (2, .int p1), (3, .int p2), (4, .int p3), (5, .int p4)]) hx hb dX11_fixes_158 hl (k := 3) rfl (by rw [ey30]; rfl) (by decide) rfl (fun ls hl => ?_)
                              refine lv_goto (tgt := 91) hx hb dX11_fixes_161 (by decide) ?_
                              exact ih_lp y30 y29 y28 M24 (by omega) (by omega) (by omega) (by omega) hI hE _ _ hw hS ls (lv_sub hl [0, 1, 2, 4, 5, 6, 7, 8, 9, 10, 11] rfl)
                          · refine fx_if_eq (tgt := 155) hx hb dX11_fixes_129 (by decide) zk_0 (fun c31 => ?_) (fun c31 => by exfalso; omega)
                            obtain ⟨y32, ey32⟩ : ∃ y : Int32, y = lp_9 + 2 := ⟨_, rfl⟩
                            have ty32 : y32.toInt = lp_9.toInt + 2 := by rw [ey32, zi_add _ _ (by rw [zk_2]; omega) (by rw [zk_2]; omega), zk_2]
                            refine lv_iinc (v := y32) (lv' := [(9, .int y32), (11, .int x17), (10, .int lp_10), (8, .int lp_8), (7, .ref (ad 46 p1.toNatClampNeg)), (6, .ref (ad 50 p0.toNatClampNeg)), (0, .ref (ad 0 0)), (1, .int p0), (2, .int p1), (3, .int p2), (4, .int p3), (5, .int p4)]) hx hb dX11_fixes_155 hl (k := 2) rfl (by rw [ey32]; rfl) (by decide) rfl (fun ls hl => ?_)
                            obtain ⟨y33, ey33⟩ : ∃ y : Int32, y = lp_10 + 1 := ⟨_, rfl⟩
                            have ty33 : y33.toInt = lp_10.toInt + 1 := by rw [ey33, zi_add _ _ (by rw [zk_1]; omega) (by rw [zk_1]; omega), zk_1]
                            refine lv_iinc (v := y33) (lv' := [(10, .int y33), (9, .int y32), (11, .int x17), (8, .int lp_8), (7, .ref (ad 46 p1.toNatClampNeg)), (6, .ref (ad 50 p0.toNatClampNeg)), (0, .ref (ad 0 0)), (1, .int p0), (2, .int p1), (3, .int p2), (4, .int p3), (5, .int p4)]) hx hb dX11_fixes_158 hl (k := 2) rfl (by rw [ey33]; rfl) (by decide) rfl (fun ls hl => ?_)
                            refine lv_goto (tgt := 91) hx hb dX11_fixes_161 (by decide) ?_
                            exact ih_lp y33 y32 lp_8 M_lp (by omega) (by omega) (by omega) (by omega) hI hE _ _ hw hS ls (lv_sub hl [0, 1, 3, 4, 5, 6, 7, 8, 9, 10, 11] rfl)
                        · refine fx_if_ne (tgt := 112) hx hb dX11_fixes_106 (by decide) zk_0 (fun c34 => by exfalso; omega) (fun c34 => ?_)
                          refine lv_bipush (v := (-12)) hx hb dX11_fixes_109 (by decide) ?_
                          exact W.iret (v := (-12)) hx hb hr (fun t ht hW => ⟨⟨(-12), M_lp, rfl, ⟨hI, hE, trivial⟩, by show fm_at D ad C nb _ t.heap; rw [ht]; exact hw⟩, hS.F ht⟩) hS.2.2 dX11_fixes_111
                  exact lp _ 0 p3 0 M_jt (Nat.lt_succ_self _) (by decide) (by decide) (by have zlp_10 := zk_0; have zlp_8 := zk_0; omega) hI hE _ _ hw hS ls (lv_sub hl [0, 1, 2, 3, 4, 5, 6, 7, 8, 9, 10] rfl)
                · refine lv_bipush (v := (-11)) hx hb dX11_fixes_78 (by decide) ?_
                  exact W.iret (v := (-11)) hx hb hr (fun t ht hW => ⟨⟨(-11), M_jt, rfl, ⟨hI, hE, trivial⟩, by show fm_at D ad C nb _ t.heap; rw [ht]; exact hw⟩, hS.F ht⟩) hS.2.2 dX11_fixes_80
              refine lv_aload hx hb dX11_fixes_48 (lv_at hl 0 rfl) ?_
              refine fm_getI (a := 46) (j := 1) (T := TX7) (N := 3) hx hb hts hinX7 hown hc hw hI (kl_46 khr3) sh_46 rfl (by decide) rfl bd_46_1 (hts (.fieldLink RX11 355 "RedTent$Sheet" "sort" "I") (List.mem_cons_of_mem _ tw_2_86)) (fun _ h9 => h9) dX11_fixes_50 (fun x35 ex35 bx35 => ?_)
              refine lv_iconst (v := (-1)) hx hb dX11_fixes_53 (by decide) ?_
              refine fx_icmp_eq (tgt := 69) hx hb dX11_fixes_54 (by decide) rfl zk_m1 (fun c36 => ?_) (fun c36 => ?_)
              · exact jt M hI hE _ _ hw hS ls (lv_sub hl [0, 1, 2, 3, 4, 5, 6, 7] rfl)
              · refine lv_aload hx hb dX11_fixes_57 (lv_at hl 0 rfl) ?_
                refine fm_getI (a := 46) (j := 1) (T := TX7) (N := 3) hx hb hts hinX7 hown hc hw hI (kl_46 khr3) sh_46 rfl (by decide) rfl bd_46_1 (hts (.fieldLink RX11 355 "RedTent$Sheet" "sort" "I") (List.mem_cons_of_mem _ tw_2_86)) (fun _ h9 => h9) dX11_fixes_59 (fun x37 ex37 bx37 => ?_)
                obtain rfl : x35 = x37 := by rw [ex37]; exact ex35
                refine lv_iload_n hx hb dX11_fixes_62 rfl (lv_at hl 5 rfl) ?_
                refine fx_icmp_eq (tgt := 69) hx hb dX11_fixes_63 (by decide) rfl rfl (fun c38 => ?_) (fun c38 => ?_)
                · exact jt M hI hE _ _ hw hS ls (lv_sub hl [0, 1, 2, 3, 4, 5, 6, 7] rfl)
                · refine lv_bipush (v := (-13)) hx hb dX11_fixes_66 (by decide) ?_
                  exact W.iret (v := (-13)) hx hb hr (fun t ht hW => ⟨⟨(-13), M, rfl, ⟨hI, hE, trivial⟩, by show fm_at D ad C nb _ t.heap; rw [ht]; exact hw⟩, hS.F ht⟩) hS.2.2 dX11_fixes_68
            · refine lv_bipush (v := (-2)) hx hb dX11_fixes_45 (by decide) ?_
              exact W.iret (v := (-2)) hx hb hr (fun t ht hW => ⟨⟨(-2), M, rfl, ⟨hI, hE, trivial⟩, by show fm_at D ad C nb _ t.heap; rw [ht]; exact hw⟩, hS.F ht⟩) hS.2.2 dX11_fixes_47
set_option maxHeartbeats 400000 in
set_option maxRecDepth 20000 in
theorem fc_X11_taken (l : Launch) (D : va_G) (ad : Nat → Nat → Nat) (C : Nat → Nat → ClassId) (nb : Nat) (M : fm_M) (hI : fm_I nb ad M) (p0 p1 : Int32) : Met l yX11_taken wsX11_taken ({ frames := 1, cells := 0, slots := 0, locals := 23 }) (va_Pc [.ref (ad 0 0), .int p0, .int p1] (fm_P D ad C nb M)) (vp_Si (fun r : Int32 => ((¬ (0 ≤ p1.toInt ∧ p1.toInt ≤ 5) ∧ r.toInt = -2) ∨ ((0 ≤ p1.toInt ∧ p1.toInt ≤ 5) ∧ ¬ (0 ≤ p0.toInt ∧ p0.toInt < nb) ∧ r.toInt = -11) ∨ ((0 ≤ p1.toInt ∧ p1.toInt ≤ 5) ∧ (0 ≤ p0.toInt ∧ p0.toInt < nb) ∧ (p1.toInt = 0 ∨ (M.1 50 p0.toNatClampNeg 0).toInt = p1.toInt ∨ ((M.1 50 p0.toNatClampNeg 0).toInt = 5 ∧ p1.toInt = 2) ∨ (((M.1 50 p0.toNatClampNeg 0).toInt = 3 ∨ (M.1 50 p0.toNatClampNeg 0).toInt = 4) ∧ p1.toInt = 1)) ∧ r.toInt = (M.1 50 p0.toNatClampNeg 3).toInt) ∨ ((0 ≤ p1.toInt ∧ p1.toInt ≤ 5) ∧ (0 ≤ p0.toInt ∧ p0.toInt < nb) ∧ ¬ (p1.toInt = 0 ∨ (M.1 50 p0.toNatClampNeg 0).toInt = p1.toInt ∨ ((M.1 50 p0.toNatClampNeg 0).toInt = 5 ∧ p1.toInt = 2) ∨ (((M.1 50 p0.toNatClampNeg 0).toInt = 3 ∨ (M.1 50 p0.toNatClampNeg 0).toInt = 4) ∧ p1.toInt = 1)) ∧ r.toInt = -13)))) 0 0 (fun _ => False) := by
  refine Met.ofW (cc := cX11_taken) (maxL := 4) (ret := (some .int)) (by decide) rfl ?_
  intro p e s m args below meth c s₁ B hml hv
  obtain ⟨rfl, hw, hc⟩ := hv
  have hx := B.exec
  have hb := B.bytes
  have hr := B.returns
  have hts := atoms_spec (ws := wsX11_taken) B.pre
  have hown : s.vm.findClass RX11 = some m.cls := findClass_of_methodNamed B.named
  have hinX0 : ∀ w ∈ u_ws RX0 TX0 15, w ∈ wsX11_taken := fun w h => List.mem_cons_of_mem _ (iT_X0 w h)
  have hS : va_S (fm_A nb ad) s.heap s.heap [] := va_S.rf
  have hl := lv_entry ([.ref (ad 0 0), .int p0, .int p1]) (n := 4) (Nat.le_of_ble_eq_true rfl)
  rw [lg_entry_eq]
  generalize (lg_sl ([.ref (ad 0 0), .int p0, .int p1]) ++ List.replicate (4 - (lg_sl ([.ref (ad 0 0), .int p0, .int p1])).length) Slot.unset).toArray = ls at hl ⊢
  have hl : lv_has ls 4 [(0, .ref (ad 0 0)), (1, .int p0), (2, .int p1)] := hl
  refine lv_iload_n hx hb dX11_taken_0 rfl (lv_at hl 2 rfl) ?_
  refine fx_if_lt (tgt := 10) hx hb dX11_taken_1 (by decide) rfl (fun c1 => ?_) (fun c1 => ?_)
  · refine lv_bipush (v := (-2)) hx hb dX11_taken_10 (by decide) ?_
    exact W.iret (v := (-2)) hx hb hr (fun t ht hW => ⟨(-2), rfl, Or.inl ⟨by omega, zk_m2⟩, ht⟩) (fun _ h => absurd h List.not_mem_nil) dX11_taken_12
  · refine lv_iload_n hx hb dX11_taken_4 rfl (lv_at hl 2 rfl) ?_
    refine lv_bipush (v := 6) hx hb dX11_taken_5 (by decide) ?_
    refine fx_icmp_lt (tgt := 13) hx hb dX11_taken_7 (by decide) rfl zk_6 (fun c2 => ?_) (fun c2 => ?_)
    · refine lv_aload_n hx hb dX11_taken_13 rfl (lv_at hl 0 rfl) ?_
      refine lv_iload_n hx hb dX11_taken_14 rfl (lv_at hl 1 rfl) ?_
      refine va_csq (va_Run.run (va_runV (As := [.int p0]) (rest := []) ⟨hx, hb, hml, hown, hts⟩ (fc_X11_bodyAt l D ad C nb M hI p0) (cwV 1 hts gX11_taken_X11_bodyAt rfl rfl rfl (by decide +kernel) ⟨Nat.le_of_ble_eq_true rfl, Nat.le_of_ble_eq_true rfl⟩) (fm_preV hc hw hS kl_0 sh_0 rfl) rfl rfl hl.1 rfl (lv_room (Nat.le_of_ble_eq_true rfl)) dX11_taken_15 ⟨by decide +kernel, by decide +kernel⟩)) (fun r3 hr3 => ?_)
      rcases hr3 with ⟨rfl, hr3n⟩ | ⟨hr3l, hr3u, rfl⟩
      · refine lv_astore_nN (lv' := [(3, .null), (0, .ref (ad 0 0)), (1, .int p0), (2, .int p1)]) hx hb dX11_taken_18 rfl hl (by decide) rfl (fun ls hl => ?_)
        refine lv_aload_nN hx hb dX11_taken_19 rfl (lv_at hl 0 rfl) ?_
        refine lv_ifnonnullN hx hb dX11_taken_20 ?_
        refine lv_bipush (v := (-11)) hx hb dX11_taken_23 (by decide) ?_
        exact W.iret (v := (-11)) hx hb hr (fun t ht hW => ⟨(-11), rfl, Or.inr (Or.inl ⟨by omega, by omega, zk_m11⟩), ht⟩) (fun _ h => absurd h List.not_mem_nil) dX11_taken_25
      · have khr3 : p0.toNatClampNeg < nb := zi_cln ⟨hr3l, hr3u⟩
        have nhr3 : nb ≤ 12 := hI.2.2.2.2.2.2.2
        refine lv_astore_n (lv' := [(3, .ref (ad 50 p0.toNatClampNeg)), (0, .ref (ad 0 0)), (1, .int p0), (2, .int p1)]) hx hb dX11_taken_18 rfl hl (by decide) rfl (fun ls hl => ?_)
        refine lv_aload_n hx hb dX11_taken_19 rfl (lv_at hl 0 rfl) ?_
        refine lv_ifnonnull (tgt := 26) hx hb dX11_taken_20 (by decide) ?_
        refine lv_aload_n hx hb dX11_taken_26 rfl (lv_at hl 0 rfl) ?_
        refine lv_iload_n hx hb dX11_taken_27 rfl (lv_at hl 3 rfl) ?_
        refine vp_callSi (va_Run.run (va_runV (As := [.int p1]) (rest := []) ⟨hx, hb, hml, hown, hts⟩ (fc_X0_isUnder l D ad C nb M hI p0.toNatClampNeg khr3 p1) (cwV 1 hts gX11_taken_X0_isUnder rfl rfl rfl (by decide +kernel) ⟨Nat.le_of_ble_eq_true rfl, Nat.le_of_ble_eq_true rfl⟩) (fm_preV hc hw hS (kl_50 khr3) sh_50 rfl) rfl rfl hl.1 rfl (lv_room (Nat.le_of_ble_eq_true rfl)) dX11_taken_28 ⟨by decide +kernel, by decide +kernel⟩)) (fun r4 hr4 => ?_)
        have bqq5 := hI.bd (k := p0.toNatClampNeg) bd_50_0
        rcases hr4 with ⟨rfl, c6⟩ | ⟨rfl, c6⟩
        · refine fx_if_eq (tgt := 41) hx hb dX11_taken_31 (by decide) zk_1 (fun c7 => by exfalso; omega) (fun c7 => ?_)
          refine lv_aload_n hx hb dX11_taken_34 rfl (lv_at hl 0 rfl) ?_
          refine fm_getI (a := 50) (j := 3) (T := TX0) (N := 15) hx hb hts hinX0 hown hc hw hI (kl_50 khr3) sh_50 rfl (by decide) rfl bd_50_3 (hts (.fieldLink RX11 125 "RedTent$Body" "men" "I") (List.mem_cons_of_mem _ tw_2_210)) (fun _ h9 => h9) dX11_taken_35 (fun x8 ex8 bx8 => ?_)
          refine lv_goto (tgt := 43) hx hb dX11_taken_38 (by decide) ?_
          have qx8 : x8.toInt = (M.1 50 p0.toNatClampNeg 3).toInt := by rw [ex8]
          exact W.iret (v := x8) hx hb hr (fun t ht hW => ⟨x8, rfl, Or.inr (Or.inr (Or.inl ⟨by omega, by omega, by first | assumption | omega, by omega⟩)), ht⟩) (fun _ h => absurd h List.not_mem_nil) dX11_taken_43
        · refine fx_if_eq (tgt := 41) hx hb dX11_taken_31 (by decide) zk_0 (fun c9 => ?_) (fun c9 => by exfalso; omega)
          refine lv_bipush (v := (-13)) hx hb dX11_taken_41 (by decide) ?_
          exact W.iret (v := (-13)) hx hb hr (fun t ht hW => ⟨(-13), rfl, Or.inr (Or.inr (Or.inr (⟨by omega, by omega, by first | assumption | omega, zk_m13⟩))), ht⟩) (fun _ h => absurd h List.not_mem_nil) dX11_taken_43
    · refine lv_bipush (v := (-2)) hx hb dX11_taken_10 (by decide) ?_
      exact W.iret (v := (-2)) hx hb hr (fun t ht hW => ⟨(-2), rfl, Or.inl ⟨by omega, zk_m2⟩, ht⟩) (fun _ h => absurd h List.not_mem_nil) dX11_taken_12

theorem zb_X12_stays_0 : (decode cX12_stays 0 = .ok (.iload_n 1, 1)) ∧ (decode cX12_stays 1 = .ok (.iconst 0, 1)) ∧ (decode cX12_stays 2 = .ok (.bipush 9, 2)) ∧ (decode cX12_stays 4 = .ok (.invokestatic 186, 3)) ∧ (decode cX12_stays 7 = .ok (.ifCond .ne 6, 3)) ∧ (decode cX12_stays 13 = .ok (.aload_n 0, 1)) ∧ (decode cX12_stays 14 = .ok (.getfield 307, 3)) ∧ (decode cX12_stays 17 = .ok (.istore_n 2, 1)) := by decide +kernel
theorem dX12_stays_0 : decode cX12_stays 0 = .ok (.iload_n 1, 1) := zb_X12_stays_0.1
theorem dX12_stays_1 : decode cX12_stays 1 = .ok (.iconst 0, 1) := zb_X12_stays_0.2.1
theorem dX12_stays_2 : decode cX12_stays 2 = .ok (.bipush 9, 2) := zb_X12_stays_0.2.2.1
theorem dX12_stays_4 : decode cX12_stays 4 = .ok (.invokestatic 186, 3) := zb_X12_stays_0.2.2.2.1
theorem dX12_stays_7 : decode cX12_stays 7 = .ok (.ifCond .ne 6, 3) := zb_X12_stays_0.2.2.2.2.1
theorem dX12_stays_13 : decode cX12_stays 13 = .ok (.aload_n 0, 1) := zb_X12_stays_0.2.2.2.2.2.1
theorem dX12_stays_14 : decode cX12_stays 14 = .ok (.getfield 307, 3) := zb_X12_stays_0.2.2.2.2.2.2.1
theorem dX12_stays_17 : decode cX12_stays 17 = .ok (.istore_n 2, 1) := zb_X12_stays_0.2.2.2.2.2.2.2
theorem zb_X12_stays_18 : (decode cX12_stays 18 = .ok (.aload_n 0, 1)) ∧ (decode cX12_stays 19 = .ok (.iload_n 1, 1)) ∧ (decode cX12_stays 20 = .ok (.putfield 307, 3)) ∧ (decode cX12_stays 23 = .ok (.iload_n 2, 1)) ∧ (decode cX12_stays 24 = .ok (.ireturn, 1)) ∧ (decode cX12_stays 10 = .ok (.bipush (-2), 2)) ∧ (decode cX12_stays 12 = .ok (.ireturn, 1)) := by decide +kernel
theorem dX12_stays_18 : decode cX12_stays 18 = .ok (.aload_n 0, 1) := zb_X12_stays_18.1
theorem dX12_stays_19 : decode cX12_stays 19 = .ok (.iload_n 1, 1) := zb_X12_stays_18.2.1
theorem dX12_stays_20 : decode cX12_stays 20 = .ok (.putfield 307, 3) := zb_X12_stays_18.2.2.1
theorem dX12_stays_23 : decode cX12_stays 23 = .ok (.iload_n 2, 1) := zb_X12_stays_18.2.2.2.1
theorem dX12_stays_24 : decode cX12_stays 24 = .ok (.ireturn, 1) := zb_X12_stays_18.2.2.2.2.1
theorem dX12_stays_10 : decode cX12_stays 10 = .ok (.bipush (-2), 2) := zb_X12_stays_18.2.2.2.2.2.1
theorem dX12_stays_12 : decode cX12_stays 12 = .ok (.ireturn, 1) := zb_X12_stays_18.2.2.2.2.2.2
theorem zb_X12_comesBack_0 : (decode cX12_comesBack 0 = .ok (.iload_n 2, 1)) ∧ (decode cX12_comesBack 1 = .ok (.iload_n 3, 1)) ∧ (decode cX12_comesBack 2 = .ok (.invokestatic 258, 3)) ∧ (decode cX12_comesBack 5 = .ok (.istore 5, 2)) ∧ (decode cX12_comesBack 7 = .ok (.aload_n 0, 1)) ∧ (decode cX12_comesBack 8 = .ok (.iload_n 1, 1)) ∧ (decode cX12_comesBack 9 = .ok (.invokevirtual 220, 3)) ∧ (decode cX12_comesBack 12 = .ok (.iconst 2, 1)) ∧ (decode cX12_comesBack 13 = .ok (.imul, 1)) ∧ (decode cX12_comesBack 14 = .ok (.iload 5, 2)) := by decide +kernel
theorem dX12_comesBack_0 : decode cX12_comesBack 0 = .ok (.iload_n 2, 1) := zb_X12_comesBack_0.1
theorem dX12_comesBack_1 : decode cX12_comesBack 1 = .ok (.iload_n 3, 1) := zb_X12_comesBack_0.2.1
theorem dX12_comesBack_2 : decode cX12_comesBack 2 = .ok (.invokestatic 258, 3) := zb_X12_comesBack_0.2.2.1
theorem dX12_comesBack_5 : decode cX12_comesBack 5 = .ok (.istore 5, 2) := zb_X12_comesBack_0.2.2.2.1
theorem dX12_comesBack_7 : decode cX12_comesBack 7 = .ok (.aload_n 0, 1) := zb_X12_comesBack_0.2.2.2.2.1
theorem dX12_comesBack_8 : decode cX12_comesBack 8 = .ok (.iload_n 1, 1) := zb_X12_comesBack_0.2.2.2.2.2.1
theorem dX12_comesBack_9 : decode cX12_comesBack 9 = .ok (.invokevirtual 220, 3) := zb_X12_comesBack_0.2.2.2.2.2.2.1
theorem dX12_comesBack_12 : decode cX12_comesBack 12 = .ok (.iconst 2, 1) := zb_X12_comesBack_0.2.2.2.2.2.2.2.1
theorem dX12_comesBack_13 : decode cX12_comesBack 13 = .ok (.imul, 1) := zb_X12_comesBack_0.2.2.2.2.2.2.2.2.1
theorem dX12_comesBack_14 : decode cX12_comesBack 14 = .ok (.iload 5, 2) := zb_X12_comesBack_0.2.2.2.2.2.2.2.2.2
theorem zb_X12_comesBack_16 : (decode cX12_comesBack 16 = .ok (.imul, 1)) ∧ (decode cX12_comesBack 17 = .ok (.aload_n 0, 1)) ∧ (decode cX12_comesBack 18 = .ok (.getfield 43, 3)) ∧ (decode cX12_comesBack 21 = .ok (.iload_n 1, 1)) ∧ (decode cX12_comesBack 22 = .ok (.iaload, 1)) ∧ (decode cX12_comesBack 23 = .ok (.if_icmp .gt 14, 3)) ∧ (decode cX12_comesBack 37 = .ok (.iconst (-1), 1)) ∧ (decode cX12_comesBack 38 = .ok (.ireturn, 1)) ∧ (decode cX12_comesBack 26 = .ok (.aload_n 0, 1)) ∧ (decode cX12_comesBack 27 = .ok (.iload 4, 2)) := by decide +kernel
theorem dX12_comesBack_16 : decode cX12_comesBack 16 = .ok (.imul, 1) := zb_X12_comesBack_16.1
theorem dX12_comesBack_17 : decode cX12_comesBack 17 = .ok (.aload_n 0, 1) := zb_X12_comesBack_16.2.1
theorem dX12_comesBack_18 : decode cX12_comesBack 18 = .ok (.getfield 43, 3) := zb_X12_comesBack_16.2.2.1
theorem dX12_comesBack_21 : decode cX12_comesBack 21 = .ok (.iload_n 1, 1) := zb_X12_comesBack_16.2.2.2.1
theorem dX12_comesBack_22 : decode cX12_comesBack 22 = .ok (.iaload, 1) := zb_X12_comesBack_16.2.2.2.2.1
theorem dX12_comesBack_23 : decode cX12_comesBack 23 = .ok (.if_icmp .gt 14, 3) := zb_X12_comesBack_16.2.2.2.2.2.1
theorem dX12_comesBack_37 : decode cX12_comesBack 37 = .ok (.iconst (-1), 1) := zb_X12_comesBack_16.2.2.2.2.2.2.1
theorem dX12_comesBack_38 : decode cX12_comesBack 38 = .ok (.ireturn, 1) := zb_X12_comesBack_16.2.2.2.2.2.2.2.1
theorem dX12_comesBack_26 : decode cX12_comesBack 26 = .ok (.aload_n 0, 1) := zb_X12_comesBack_16.2.2.2.2.2.2.2.2.1
theorem dX12_comesBack_27 : decode cX12_comesBack 27 = .ok (.iload 4, 2) := zb_X12_comesBack_16.2.2.2.2.2.2.2.2.2
theorem zb_X12_comesBack_29 : (decode cX12_comesBack 29 = .ok (.iload 5, 2)) ∧ (decode cX12_comesBack 31 = .ok (.invokevirtual 310, 3)) ∧ (decode cX12_comesBack 34 = .ok (.ifCond .ne 5, 3)) ∧ (decode cX12_comesBack 39 = .ok (.iconst 0, 1)) ∧ (decode cX12_comesBack 40 = .ok (.istore 6, 2)) ∧ (decode cX12_comesBack 42 = .ok (.iload 6, 2)) ∧ (decode cX12_comesBack 44 = .ok (.aload_n 0, 1)) ∧ (decode cX12_comesBack 45 = .ok (.getfield 307, 3)) ∧ (decode cX12_comesBack 48 = .ok (.if_icmp .gt 37, 3)) ∧ (decode cX12_comesBack 85 = .ok (.iconst (-1), 1)) := by decide +kernel
theorem dX12_comesBack_29 : decode cX12_comesBack 29 = .ok (.iload 5, 2) := zb_X12_comesBack_29.1
theorem dX12_comesBack_31 : decode cX12_comesBack 31 = .ok (.invokevirtual 310, 3) := zb_X12_comesBack_29.2.1
theorem dX12_comesBack_34 : decode cX12_comesBack 34 = .ok (.ifCond .ne 5, 3) := zb_X12_comesBack_29.2.2.1
theorem dX12_comesBack_39 : decode cX12_comesBack 39 = .ok (.iconst 0, 1) := zb_X12_comesBack_29.2.2.2.1
theorem dX12_comesBack_40 : decode cX12_comesBack 40 = .ok (.istore 6, 2) := zb_X12_comesBack_29.2.2.2.2.1
theorem dX12_comesBack_42 : decode cX12_comesBack 42 = .ok (.iload 6, 2) := zb_X12_comesBack_29.2.2.2.2.2.1
theorem dX12_comesBack_44 : decode cX12_comesBack 44 = .ok (.aload_n 0, 1) := zb_X12_comesBack_29.2.2.2.2.2.2.1
theorem dX12_comesBack_45 : decode cX12_comesBack 45 = .ok (.getfield 307, 3) := zb_X12_comesBack_29.2.2.2.2.2.2.2.1
theorem dX12_comesBack_48 : decode cX12_comesBack 48 = .ok (.if_icmp .gt 37, 3) := zb_X12_comesBack_29.2.2.2.2.2.2.2.2.1
theorem dX12_comesBack_85 : decode cX12_comesBack 85 = .ok (.iconst (-1), 1) := zb_X12_comesBack_29.2.2.2.2.2.2.2.2.2
theorem zb_X12_comesBack_86 : (decode cX12_comesBack 86 = .ok (.ireturn, 1)) ∧ (decode cX12_comesBack 51 = .ok (.aload_n 0, 1)) ∧ (decode cX12_comesBack 52 = .ok (.iload 4, 2)) ∧ (decode cX12_comesBack 54 = .ok (.iload 5, 2)) ∧ (decode cX12_comesBack 56 = .ok (.iadd, 1)) ∧ (decode cX12_comesBack 57 = .ok (.iload 6, 2)) ∧ (decode cX12_comesBack 59 = .ok (.iadd, 1)) ∧ (decode cX12_comesBack 60 = .ok (.iload 5, 2)) ∧ (decode cX12_comesBack 62 = .ok (.invokevirtual 310, 3)) ∧ (decode cX12_comesBack 65 = .ok (.ifCond .eq 14, 3)) := by decide +kernel
theorem dX12_comesBack_86 : decode cX12_comesBack 86 = .ok (.ireturn, 1) := zb_X12_comesBack_86.1
theorem dX12_comesBack_51 : decode cX12_comesBack 51 = .ok (.aload_n 0, 1) := zb_X12_comesBack_86.2.1
theorem dX12_comesBack_52 : decode cX12_comesBack 52 = .ok (.iload 4, 2) := zb_X12_comesBack_86.2.2.1
theorem dX12_comesBack_54 : decode cX12_comesBack 54 = .ok (.iload 5, 2) := zb_X12_comesBack_86.2.2.2.1
theorem dX12_comesBack_56 : decode cX12_comesBack 56 = .ok (.iadd, 1) := zb_X12_comesBack_86.2.2.2.2.1
theorem dX12_comesBack_57 : decode cX12_comesBack 57 = .ok (.iload 6, 2) := zb_X12_comesBack_86.2.2.2.2.2.1
theorem dX12_comesBack_59 : decode cX12_comesBack 59 = .ok (.iadd, 1) := zb_X12_comesBack_86.2.2.2.2.2.2.1
theorem dX12_comesBack_60 : decode cX12_comesBack 60 = .ok (.iload 5, 2) := zb_X12_comesBack_86.2.2.2.2.2.2.2.1
theorem dX12_comesBack_62 : decode cX12_comesBack 62 = .ok (.invokevirtual 310, 3) := zb_X12_comesBack_86.2.2.2.2.2.2.2.2.1
theorem dX12_comesBack_65 : decode cX12_comesBack 65 = .ok (.ifCond .eq 14, 3) := zb_X12_comesBack_86.2.2.2.2.2.2.2.2.2
theorem zb_X12_comesBack_79 : (decode cX12_comesBack 79 = .ok (.iinc 6 1, 3)) ∧ (decode cX12_comesBack 82 = .ok (.goto (-40), 3)) ∧ (decode cX12_comesBack 68 = .ok (.iload 4, 2)) ∧ (decode cX12_comesBack 70 = .ok (.iconst 2, 1)) ∧ (decode cX12_comesBack 71 = .ok (.iload 5, 2)) ∧ (decode cX12_comesBack 73 = .ok (.imul, 1)) ∧ (decode cX12_comesBack 74 = .ok (.iadd, 1)) ∧ (decode cX12_comesBack 75 = .ok (.iload 6, 2)) ∧ (decode cX12_comesBack 77 = .ok (.iadd, 1)) ∧ (decode cX12_comesBack 78 = .ok (.ireturn, 1)) := by decide +kernel
theorem dX12_comesBack_79 : decode cX12_comesBack 79 = .ok (.iinc 6 1, 3) := zb_X12_comesBack_79.1
theorem dX12_comesBack_82 : decode cX12_comesBack 82 = .ok (.goto (-40), 3) := zb_X12_comesBack_79.2.1
theorem dX12_comesBack_68 : decode cX12_comesBack 68 = .ok (.iload 4, 2) := zb_X12_comesBack_79.2.2.1
theorem dX12_comesBack_70 : decode cX12_comesBack 70 = .ok (.iconst 2, 1) := zb_X12_comesBack_79.2.2.2.1
theorem dX12_comesBack_71 : decode cX12_comesBack 71 = .ok (.iload 5, 2) := zb_X12_comesBack_79.2.2.2.2.1
theorem dX12_comesBack_73 : decode cX12_comesBack 73 = .ok (.imul, 1) := zb_X12_comesBack_79.2.2.2.2.2.1
theorem dX12_comesBack_74 : decode cX12_comesBack 74 = .ok (.iadd, 1) := zb_X12_comesBack_79.2.2.2.2.2.2.1
theorem dX12_comesBack_75 : decode cX12_comesBack 75 = .ok (.iload 6, 2) := zb_X12_comesBack_79.2.2.2.2.2.2.2.1
theorem dX12_comesBack_77 : decode cX12_comesBack 77 = .ok (.iadd, 1) := zb_X12_comesBack_79.2.2.2.2.2.2.2.2.1
theorem dX12_comesBack_78 : decode cX12_comesBack 78 = .ok (.ireturn, 1) := zb_X12_comesBack_79.2.2.2.2.2.2.2.2.2
theorem zb_X12_comes_0 : (decode cX12_comes 0 = .ok (.aload_n 0, 1)) ∧ (decode cX12_comes 1 = .ok (.iload_n 1, 1)) ∧ (decode cX12_comes 2 = .ok (.invokevirtual 275, 3)) ∧ (decode cX12_comes 5 = .ok (.ifCond .eq 37, 3)) ∧ (decode cX12_comes 8 = .ok (.iload_n 2, 1)) ∧ (decode cX12_comes 9 = .ok (.invokestatic 217, 3)) ∧ (decode cX12_comes 12 = .ok (.ifCond .eq 30, 3)) ∧ (decode cX12_comes 15 = .ok (.iload_n 3, 1)) ∧ (decode cX12_comes 16 = .ok (.invokestatic 217, 3)) ∧ (decode cX12_comes 19 = .ok (.ifCond .eq 23, 3)) ∧ (decode cX12_comes 22 = .ok (.iload 4, 2)) := by decide +kernel
theorem dX12_comes_0 : decode cX12_comes 0 = .ok (.aload_n 0, 1) := zb_X12_comes_0.1
theorem dX12_comes_1 : decode cX12_comes 1 = .ok (.iload_n 1, 1) := zb_X12_comes_0.2.1
theorem dX12_comes_2 : decode cX12_comes 2 = .ok (.invokevirtual 275, 3) := zb_X12_comes_0.2.2.1
theorem dX12_comes_5 : decode cX12_comes 5 = .ok (.ifCond .eq 37, 3) := zb_X12_comes_0.2.2.2.1
theorem dX12_comes_8 : decode cX12_comes 8 = .ok (.iload_n 2, 1) := zb_X12_comes_0.2.2.2.2.1
theorem dX12_comes_9 : decode cX12_comes 9 = .ok (.invokestatic 217, 3) := zb_X12_comes_0.2.2.2.2.2.1
theorem dX12_comes_12 : decode cX12_comes 12 = .ok (.ifCond .eq 30, 3) := zb_X12_comes_0.2.2.2.2.2.2.1
theorem dX12_comes_15 : decode cX12_comes 15 = .ok (.iload_n 3, 1) := zb_X12_comes_0.2.2.2.2.2.2.2.1
theorem dX12_comes_16 : decode cX12_comes 16 = .ok (.invokestatic 217, 3) := zb_X12_comes_0.2.2.2.2.2.2.2.2.1
theorem dX12_comes_19 : decode cX12_comes 19 = .ok (.ifCond .eq 23, 3) := zb_X12_comes_0.2.2.2.2.2.2.2.2.2.1
theorem dX12_comes_22 : decode cX12_comes 22 = .ok (.iload 4, 2) := zb_X12_comes_0.2.2.2.2.2.2.2.2.2.2
theorem zb_X12_comes_24 : (decode cX12_comes 24 = .ok (.invokestatic 313, 3)) ∧ (decode cX12_comes 27 = .ok (.ifCond .eq 15, 3)) ∧ (decode cX12_comes 30 = .ok (.aload_n 0, 1)) ∧ (decode cX12_comes 31 = .ok (.iload_n 1, 1)) ∧ (decode cX12_comes 32 = .ok (.iload_n 2, 1)) ∧ (decode cX12_comes 33 = .ok (.iload_n 3, 1)) ∧ (decode cX12_comes 34 = .ok (.iload 4, 2)) ∧ (decode cX12_comes 36 = .ok (.invokevirtual 316, 3)) ∧ (decode cX12_comes 39 = .ok (.goto 5, 3)) ∧ (decode cX12_comes 44 = .ok (.ireturn, 1)) ∧ (decode cX12_comes 42 = .ok (.bipush (-2), 2)) := by decide +kernel
theorem dX12_comes_24 : decode cX12_comes 24 = .ok (.invokestatic 313, 3) := zb_X12_comes_24.1
theorem dX12_comes_27 : decode cX12_comes 27 = .ok (.ifCond .eq 15, 3) := zb_X12_comes_24.2.1
theorem dX12_comes_30 : decode cX12_comes 30 = .ok (.aload_n 0, 1) := zb_X12_comes_24.2.2.1
theorem dX12_comes_31 : decode cX12_comes 31 = .ok (.iload_n 1, 1) := zb_X12_comes_24.2.2.2.1
theorem dX12_comes_32 : decode cX12_comes 32 = .ok (.iload_n 2, 1) := zb_X12_comes_24.2.2.2.2.1
theorem dX12_comes_33 : decode cX12_comes 33 = .ok (.iload_n 3, 1) := zb_X12_comes_24.2.2.2.2.2.1
theorem dX12_comes_34 : decode cX12_comes 34 = .ok (.iload 4, 2) := zb_X12_comes_24.2.2.2.2.2.2.1
theorem dX12_comes_36 : decode cX12_comes 36 = .ok (.invokevirtual 316, 3) := zb_X12_comes_24.2.2.2.2.2.2.2.1
theorem dX12_comes_39 : decode cX12_comes 39 = .ok (.goto 5, 3) := zb_X12_comes_24.2.2.2.2.2.2.2.2.1
theorem dX12_comes_44 : decode cX12_comes 44 = .ok (.ireturn, 1) := zb_X12_comes_24.2.2.2.2.2.2.2.2.2.1
theorem dX12_comes_42 : decode cX12_comes 42 = .ok (.bipush (-2), 2) := zb_X12_comes_24.2.2.2.2.2.2.2.2.2.2
theorem zb_X12_last_0 : (decode cX12_last 0 = .ok (.aload_n 0, 1)) ∧ (decode cX12_last 1 = .ok (.iload_n 1, 1)) ∧ (decode cX12_last 2 = .ok (.invokevirtual 275, 3)) ∧ (decode cX12_last 5 = .ok (.ifCond .eq 17, 3)) ∧ (decode cX12_last 8 = .ok (.iload_n 2, 1)) ∧ (decode cX12_last 9 = .ok (.invokestatic 217, 3)) ∧ (decode cX12_last 12 = .ok (.ifCond .eq 10, 3)) ∧ (decode cX12_last 15 = .ok (.iload_n 3, 1)) ∧ (decode cX12_last 16 = .ok (.invokestatic 217, 3)) := by decide +kernel
theorem dX12_last_0 : decode cX12_last 0 = .ok (.aload_n 0, 1) := zb_X12_last_0.1
theorem dX12_last_1 : decode cX12_last 1 = .ok (.iload_n 1, 1) := zb_X12_last_0.2.1
theorem dX12_last_2 : decode cX12_last 2 = .ok (.invokevirtual 275, 3) := zb_X12_last_0.2.2.1
theorem dX12_last_5 : decode cX12_last 5 = .ok (.ifCond .eq 17, 3) := zb_X12_last_0.2.2.2.1
theorem dX12_last_8 : decode cX12_last 8 = .ok (.iload_n 2, 1) := zb_X12_last_0.2.2.2.2.1
theorem dX12_last_9 : decode cX12_last 9 = .ok (.invokestatic 217, 3) := zb_X12_last_0.2.2.2.2.2.1
theorem dX12_last_12 : decode cX12_last 12 = .ok (.ifCond .eq 10, 3) := zb_X12_last_0.2.2.2.2.2.2.1
theorem dX12_last_15 : decode cX12_last 15 = .ok (.iload_n 3, 1) := zb_X12_last_0.2.2.2.2.2.2.2.1
theorem dX12_last_16 : decode cX12_last 16 = .ok (.invokestatic 217, 3) := zb_X12_last_0.2.2.2.2.2.2.2.2
theorem zb_X12_last_19 : (decode cX12_last 19 = .ok (.ifCond .ne 6, 3)) ∧ (decode cX12_last 25 = .ok (.sipush 239, 3)) ∧ (decode cX12_last 28 = .ok (.istore 4, 2)) ∧ (decode cX12_last 30 = .ok (.iload 4, 2)) ∧ (decode cX12_last 32 = .ok (.ifCond .lt 21, 3)) ∧ (decode cX12_last 53 = .ok (.iload 4, 2)) ∧ (decode cX12_last 55 = .ok (.ireturn, 1)) ∧ (decode cX12_last 35 = .ok (.aload_n 0, 1)) ∧ (decode cX12_last 36 = .ok (.iload_n 1, 1)) := by decide +kernel
theorem dX12_last_19 : decode cX12_last 19 = .ok (.ifCond .ne 6, 3) := zb_X12_last_19.1
theorem dX12_last_25 : decode cX12_last 25 = .ok (.sipush 239, 3) := zb_X12_last_19.2.1
theorem dX12_last_28 : decode cX12_last 28 = .ok (.istore 4, 2) := zb_X12_last_19.2.2.1
theorem dX12_last_30 : decode cX12_last 30 = .ok (.iload 4, 2) := zb_X12_last_19.2.2.2.1
theorem dX12_last_32 : decode cX12_last 32 = .ok (.ifCond .lt 21, 3) := zb_X12_last_19.2.2.2.2.1
theorem dX12_last_53 : decode cX12_last 53 = .ok (.iload 4, 2) := zb_X12_last_19.2.2.2.2.2.1
theorem dX12_last_55 : decode cX12_last 55 = .ok (.ireturn, 1) := zb_X12_last_19.2.2.2.2.2.2.1
theorem dX12_last_35 : decode cX12_last 35 = .ok (.aload_n 0, 1) := zb_X12_last_19.2.2.2.2.2.2.2.1
theorem dX12_last_36 : decode cX12_last 36 = .ok (.iload_n 1, 1) := zb_X12_last_19.2.2.2.2.2.2.2.2
theorem zb_X12_last_37 : (decode cX12_last 37 = .ok (.iload_n 2, 1)) ∧ (decode cX12_last 38 = .ok (.iload_n 3, 1)) ∧ (decode cX12_last 39 = .ok (.iload 4, 2)) ∧ (decode cX12_last 41 = .ok (.invokevirtual 316, 3)) ∧ (decode cX12_last 44 = .ok (.ifCond .ge 9, 3)) ∧ (decode cX12_last 47 = .ok (.iinc 4 (-1), 3)) ∧ (decode cX12_last 50 = .ok (.goto (-20), 3)) ∧ (decode cX12_last 22 = .ok (.bipush (-2), 2)) ∧ (decode cX12_last 24 = .ok (.ireturn, 1)) := by decide +kernel
theorem dX12_last_37 : decode cX12_last 37 = .ok (.iload_n 2, 1) := zb_X12_last_37.1
theorem dX12_last_38 : decode cX12_last 38 = .ok (.iload_n 3, 1) := zb_X12_last_37.2.1
theorem dX12_last_39 : decode cX12_last 39 = .ok (.iload 4, 2) := zb_X12_last_37.2.2.1
theorem dX12_last_41 : decode cX12_last 41 = .ok (.invokevirtual 316, 3) := zb_X12_last_37.2.2.2.1
theorem dX12_last_44 : decode cX12_last 44 = .ok (.ifCond .ge 9, 3) := zb_X12_last_37.2.2.2.2.1
theorem dX12_last_47 : decode cX12_last 47 = .ok (.iinc 4 (-1), 3) := zb_X12_last_37.2.2.2.2.2.1
theorem dX12_last_50 : decode cX12_last 50 = .ok (.goto (-20), 3) := zb_X12_last_37.2.2.2.2.2.2.1
theorem dX12_last_22 : decode cX12_last 22 = .ok (.bipush (-2), 2) := zb_X12_last_37.2.2.2.2.2.2.2.1
theorem dX12_last_24 : decode cX12_last 24 = .ok (.ireturn, 1) := zb_X12_last_37.2.2.2.2.2.2.2.2
theorem zb_X12_man_0 : (decode cX12_man 0 = .ok (.aload_n 0, 1)) ∧ (decode cX12_man 1 = .ok (.iload_n 1, 1)) ∧ (decode cX12_man 2 = .ok (.invokevirtual 193, 3)) ∧ (decode cX12_man 5 = .ok (.ifCond .eq 34, 3)) ∧ (decode cX12_man 8 = .ok (.iload_n 2, 1)) ∧ (decode cX12_man 9 = .ok (.iconst 0, 1)) ∧ (decode cX12_man 10 = .ok (.bipush 99, 2)) ∧ (decode cX12_man 12 = .ok (.invokestatic 186, 3)) ∧ (decode cX12_man 15 = .ok (.ifCond .eq 24, 3)) ∧ (decode cX12_man 18 = .ok (.iload_n 3, 1)) ∧ (decode cX12_man 19 = .ok (.iconst 0, 1)) := by decide +kernel
theorem dX12_man_0 : decode cX12_man 0 = .ok (.aload_n 0, 1) := zb_X12_man_0.1
theorem dX12_man_1 : decode cX12_man 1 = .ok (.iload_n 1, 1) := zb_X12_man_0.2.1
theorem dX12_man_2 : decode cX12_man 2 = .ok (.invokevirtual 193, 3) := zb_X12_man_0.2.2.1
theorem dX12_man_5 : decode cX12_man 5 = .ok (.ifCond .eq 34, 3) := zb_X12_man_0.2.2.2.1
theorem dX12_man_8 : decode cX12_man 8 = .ok (.iload_n 2, 1) := zb_X12_man_0.2.2.2.2.1
theorem dX12_man_9 : decode cX12_man 9 = .ok (.iconst 0, 1) := zb_X12_man_0.2.2.2.2.2.1
theorem dX12_man_10 : decode cX12_man 10 = .ok (.bipush 99, 2) := zb_X12_man_0.2.2.2.2.2.2.1
theorem dX12_man_12 : decode cX12_man 12 = .ok (.invokestatic 186, 3) := zb_X12_man_0.2.2.2.2.2.2.2.1
theorem dX12_man_15 : decode cX12_man 15 = .ok (.ifCond .eq 24, 3) := zb_X12_man_0.2.2.2.2.2.2.2.2.1
theorem dX12_man_18 : decode cX12_man 18 = .ok (.iload_n 3, 1) := zb_X12_man_0.2.2.2.2.2.2.2.2.2.1
theorem dX12_man_19 : decode cX12_man 19 = .ok (.iconst 0, 1) := zb_X12_man_0.2.2.2.2.2.2.2.2.2.2
theorem zb_X12_man_20 : (decode cX12_man 20 = .ok (.bipush 99, 2)) ∧ (decode cX12_man 22 = .ok (.invokestatic 186, 3)) ∧ (decode cX12_man 25 = .ok (.ifCond .eq 14, 3)) ∧ (decode cX12_man 28 = .ok (.iload 4, 2)) ∧ (decode cX12_man 30 = .ok (.iconst 0, 1)) ∧ (decode cX12_man 31 = .ok (.bipush 99, 2)) ∧ (decode cX12_man 33 = .ok (.invokestatic 186, 3)) ∧ (decode cX12_man 36 = .ok (.ifCond .ne 6, 3)) ∧ (decode cX12_man 42 = .ok (.aload_n 0, 1)) ∧ (decode cX12_man 43 = .ok (.getfield 320, 3)) ∧ (decode cX12_man 46 = .ok (.bipush 16, 2)) := by decide +kernel
theorem dX12_man_20 : decode cX12_man 20 = .ok (.bipush 99, 2) := zb_X12_man_20.1
theorem dX12_man_22 : decode cX12_man 22 = .ok (.invokestatic 186, 3) := zb_X12_man_20.2.1
theorem dX12_man_25 : decode cX12_man 25 = .ok (.ifCond .eq 14, 3) := zb_X12_man_20.2.2.1
theorem dX12_man_28 : decode cX12_man 28 = .ok (.iload 4, 2) := zb_X12_man_20.2.2.2.1
theorem dX12_man_30 : decode cX12_man 30 = .ok (.iconst 0, 1) := zb_X12_man_20.2.2.2.2.1
theorem dX12_man_31 : decode cX12_man 31 = .ok (.bipush 99, 2) := zb_X12_man_20.2.2.2.2.2.1
theorem dX12_man_33 : decode cX12_man 33 = .ok (.invokestatic 186, 3) := zb_X12_man_20.2.2.2.2.2.2.1
theorem dX12_man_36 : decode cX12_man 36 = .ok (.ifCond .ne 6, 3) := zb_X12_man_20.2.2.2.2.2.2.2.1
theorem dX12_man_42 : decode cX12_man 42 = .ok (.aload_n 0, 1) := zb_X12_man_20.2.2.2.2.2.2.2.2.1
theorem dX12_man_43 : decode cX12_man 43 = .ok (.getfield 320, 3) := zb_X12_man_20.2.2.2.2.2.2.2.2.2.1
theorem dX12_man_46 : decode cX12_man 46 = .ok (.bipush 16, 2) := zb_X12_man_20.2.2.2.2.2.2.2.2.2.2
theorem zb_X12_man_48 : (decode cX12_man 48 = .ok (.if_icmp .ne 6, 3)) ∧ (decode cX12_man 54 = .ok (.aload_n 0, 1)) ∧ (decode cX12_man 55 = .ok (.getfield 101, 3)) ∧ (decode cX12_man 58 = .ok (.aload_n 0, 1)) ∧ (decode cX12_man 59 = .ok (.getfield 320, 3)) ∧ (decode cX12_man 62 = .ok (.iload_n 1, 1)) ∧ (decode cX12_man 63 = .ok (.iastore, 1)) ∧ (decode cX12_man 64 = .ok (.aload_n 0, 1)) ∧ (decode cX12_man 65 = .ok (.getfield 104, 3)) ∧ (decode cX12_man 68 = .ok (.aload_n 0, 1)) ∧ (decode cX12_man 69 = .ok (.getfield 320, 3)) := by decide +kernel
theorem dX12_man_48 : decode cX12_man 48 = .ok (.if_icmp .ne 6, 3) := zb_X12_man_48.1
theorem dX12_man_54 : decode cX12_man 54 = .ok (.aload_n 0, 1) := zb_X12_man_48.2.1
theorem dX12_man_55 : decode cX12_man 55 = .ok (.getfield 101, 3) := zb_X12_man_48.2.2.1
theorem dX12_man_58 : decode cX12_man 58 = .ok (.aload_n 0, 1) := zb_X12_man_48.2.2.2.1
theorem dX12_man_59 : decode cX12_man 59 = .ok (.getfield 320, 3) := zb_X12_man_48.2.2.2.2.1
theorem dX12_man_62 : decode cX12_man 62 = .ok (.iload_n 1, 1) := zb_X12_man_48.2.2.2.2.2.1
theorem dX12_man_63 : decode cX12_man 63 = .ok (.iastore, 1) := zb_X12_man_48.2.2.2.2.2.2.1
theorem dX12_man_64 : decode cX12_man 64 = .ok (.aload_n 0, 1) := zb_X12_man_48.2.2.2.2.2.2.2.1
theorem dX12_man_65 : decode cX12_man 65 = .ok (.getfield 104, 3) := zb_X12_man_48.2.2.2.2.2.2.2.2.1
theorem dX12_man_68 : decode cX12_man 68 = .ok (.aload_n 0, 1) := zb_X12_man_48.2.2.2.2.2.2.2.2.2.1
theorem dX12_man_69 : decode cX12_man 69 = .ok (.getfield 320, 3) := zb_X12_man_48.2.2.2.2.2.2.2.2.2.2
theorem zb_X12_man_72 : (decode cX12_man 72 = .ok (.iload_n 2, 1)) ∧ (decode cX12_man 73 = .ok (.iastore, 1)) ∧ (decode cX12_man 74 = .ok (.aload_n 0, 1)) ∧ (decode cX12_man 75 = .ok (.getfield 107, 3)) ∧ (decode cX12_man 78 = .ok (.aload_n 0, 1)) ∧ (decode cX12_man 79 = .ok (.getfield 320, 3)) ∧ (decode cX12_man 82 = .ok (.iload_n 3, 1)) ∧ (decode cX12_man 83 = .ok (.iastore, 1)) ∧ (decode cX12_man 84 = .ok (.aload_n 0, 1)) ∧ (decode cX12_man 85 = .ok (.getfield 110, 3)) ∧ (decode cX12_man 88 = .ok (.aload_n 0, 1)) := by decide +kernel
theorem dX12_man_72 : decode cX12_man 72 = .ok (.iload_n 2, 1) := zb_X12_man_72.1
theorem dX12_man_73 : decode cX12_man 73 = .ok (.iastore, 1) := zb_X12_man_72.2.1
theorem dX12_man_74 : decode cX12_man 74 = .ok (.aload_n 0, 1) := zb_X12_man_72.2.2.1
theorem dX12_man_75 : decode cX12_man 75 = .ok (.getfield 107, 3) := zb_X12_man_72.2.2.2.1
theorem dX12_man_78 : decode cX12_man 78 = .ok (.aload_n 0, 1) := zb_X12_man_72.2.2.2.2.1
theorem dX12_man_79 : decode cX12_man 79 = .ok (.getfield 320, 3) := zb_X12_man_72.2.2.2.2.2.1
theorem dX12_man_82 : decode cX12_man 82 = .ok (.iload_n 3, 1) := zb_X12_man_72.2.2.2.2.2.2.1
theorem dX12_man_83 : decode cX12_man 83 = .ok (.iastore, 1) := zb_X12_man_72.2.2.2.2.2.2.2.1
theorem dX12_man_84 : decode cX12_man 84 = .ok (.aload_n 0, 1) := zb_X12_man_72.2.2.2.2.2.2.2.2.1
theorem dX12_man_85 : decode cX12_man 85 = .ok (.getfield 110, 3) := zb_X12_man_72.2.2.2.2.2.2.2.2.2.1
theorem dX12_man_88 : decode cX12_man 88 = .ok (.aload_n 0, 1) := zb_X12_man_72.2.2.2.2.2.2.2.2.2.2
theorem zb_X12_man_89 : (decode cX12_man 89 = .ok (.getfield 320, 3)) ∧ (decode cX12_man 92 = .ok (.iload 4, 2)) ∧ (decode cX12_man 94 = .ok (.iastore, 1)) ∧ (decode cX12_man 95 = .ok (.aload_n 0, 1)) ∧ (decode cX12_man 96 = .ok (.dup, 1)) ∧ (decode cX12_man 97 = .ok (.getfield 320, 3)) ∧ (decode cX12_man 100 = .ok (.iconst 1, 1)) ∧ (decode cX12_man 101 = .ok (.iadd, 1)) ∧ (decode cX12_man 102 = .ok (.putfield 320, 3)) ∧ (decode cX12_man 105 = .ok (.aload_n 0, 1)) ∧ (decode cX12_man 106 = .ok (.getfield 320, 3)) := by decide +kernel
theorem dX12_man_89 : decode cX12_man 89 = .ok (.getfield 320, 3) := zb_X12_man_89.1
theorem dX12_man_92 : decode cX12_man 92 = .ok (.iload 4, 2) := zb_X12_man_89.2.1
theorem dX12_man_94 : decode cX12_man 94 = .ok (.iastore, 1) := zb_X12_man_89.2.2.1
theorem dX12_man_95 : decode cX12_man 95 = .ok (.aload_n 0, 1) := zb_X12_man_89.2.2.2.1
theorem dX12_man_96 : decode cX12_man 96 = .ok (.dup, 1) := zb_X12_man_89.2.2.2.2.1
theorem dX12_man_97 : decode cX12_man 97 = .ok (.getfield 320, 3) := zb_X12_man_89.2.2.2.2.2.1
theorem dX12_man_100 : decode cX12_man 100 = .ok (.iconst 1, 1) := zb_X12_man_89.2.2.2.2.2.2.1
theorem dX12_man_101 : decode cX12_man 101 = .ok (.iadd, 1) := zb_X12_man_89.2.2.2.2.2.2.2.1
theorem dX12_man_102 : decode cX12_man 102 = .ok (.putfield 320, 3) := zb_X12_man_89.2.2.2.2.2.2.2.2.1
theorem dX12_man_105 : decode cX12_man 105 = .ok (.aload_n 0, 1) := zb_X12_man_89.2.2.2.2.2.2.2.2.2.1
theorem dX12_man_106 : decode cX12_man 106 = .ok (.getfield 320, 3) := zb_X12_man_89.2.2.2.2.2.2.2.2.2.2
theorem zb_X12_man_109 : (decode cX12_man 109 = .ok (.iconst 1, 1)) ∧ (decode cX12_man 110 = .ok (.isub, 1)) ∧ (decode cX12_man 111 = .ok (.ireturn, 1)) ∧ (decode cX12_man 51 = .ok (.bipush (-4), 2)) ∧ (decode cX12_man 53 = .ok (.ireturn, 1)) ∧ (decode cX12_man 39 = .ok (.bipush (-2), 2)) ∧ (decode cX12_man 41 = .ok (.ireturn, 1)) := by decide +kernel
theorem dX12_man_109 : decode cX12_man 109 = .ok (.iconst 1, 1) := zb_X12_man_109.1
theorem dX12_man_110 : decode cX12_man 110 = .ok (.isub, 1) := zb_X12_man_109.2.1
theorem dX12_man_111 : decode cX12_man 111 = .ok (.ireturn, 1) := zb_X12_man_109.2.2.1
theorem dX12_man_51 : decode cX12_man 51 = .ok (.bipush (-4), 2) := zb_X12_man_109.2.2.2.1
theorem dX12_man_53 : decode cX12_man 53 = .ok (.ireturn, 1) := zb_X12_man_109.2.2.2.2.1
theorem dX12_man_39 : decode cX12_man 39 = .ok (.bipush (-2), 2) := zb_X12_man_109.2.2.2.2.2.1
theorem dX12_man_41 : decode cX12_man 41 = .ok (.ireturn, 1) := zb_X12_man_109.2.2.2.2.2.2
theorem zb_X12_feed_0 : (decode cX12_feed 0 = .ok (.iload_n 1, 1)) ∧ (decode cX12_feed 1 = .ok (.iconst 1, 1)) ∧ (decode cX12_feed 2 = .ok (.bipush 8, 2)) ∧ (decode cX12_feed 4 = .ok (.invokestatic 186, 3)) ∧ (decode cX12_feed 7 = .ok (.ifCond .ne 6, 3)) ∧ (decode cX12_feed 13 = .ok (.aload_n 0, 1)) ∧ (decode cX12_feed 14 = .ok (.getfield 323, 3)) ∧ (decode cX12_feed 17 = .ok (.iload_n 1, 1)) ∧ (decode cX12_feed 18 = .ok (.iadd, 1)) ∧ (decode cX12_feed 19 = .ok (.sipush 160, 3)) ∧ (decode cX12_feed 22 = .ok (.if_icmp .le 6, 3)) := by decide +kernel
theorem dX12_feed_0 : decode cX12_feed 0 = .ok (.iload_n 1, 1) := zb_X12_feed_0.1
theorem dX12_feed_1 : decode cX12_feed 1 = .ok (.iconst 1, 1) := zb_X12_feed_0.2.1
theorem dX12_feed_2 : decode cX12_feed 2 = .ok (.bipush 8, 2) := zb_X12_feed_0.2.2.1
theorem dX12_feed_4 : decode cX12_feed 4 = .ok (.invokestatic 186, 3) := zb_X12_feed_0.2.2.2.1
theorem dX12_feed_7 : decode cX12_feed 7 = .ok (.ifCond .ne 6, 3) := zb_X12_feed_0.2.2.2.2.1
theorem dX12_feed_13 : decode cX12_feed 13 = .ok (.aload_n 0, 1) := zb_X12_feed_0.2.2.2.2.2.1
theorem dX12_feed_14 : decode cX12_feed 14 = .ok (.getfield 323, 3) := zb_X12_feed_0.2.2.2.2.2.2.1
theorem dX12_feed_17 : decode cX12_feed 17 = .ok (.iload_n 1, 1) := zb_X12_feed_0.2.2.2.2.2.2.2.1
theorem dX12_feed_18 : decode cX12_feed 18 = .ok (.iadd, 1) := zb_X12_feed_0.2.2.2.2.2.2.2.2.1
theorem dX12_feed_19 : decode cX12_feed 19 = .ok (.sipush 160, 3) := zb_X12_feed_0.2.2.2.2.2.2.2.2.2.1
theorem dX12_feed_22 : decode cX12_feed 22 = .ok (.if_icmp .le 6, 3) := zb_X12_feed_0.2.2.2.2.2.2.2.2.2.2
theorem zb_X12_feed_28 : (decode cX12_feed 28 = .ok (.iconst 0, 1)) ∧ (decode cX12_feed 29 = .ok (.istore 4, 2)) ∧ (decode cX12_feed 31 = .ok (.iload 4, 2)) ∧ (decode cX12_feed 33 = .ok (.iload_n 1, 1)) ∧ (decode cX12_feed 34 = .ok (.if_icmp .ge 40, 3)) ∧ (decode cX12_feed 74 = .ok (.aload_n 0, 1)) ∧ (decode cX12_feed 75 = .ok (.getfield 323, 3)) ∧ (decode cX12_feed 78 = .ok (.ireturn, 1)) ∧ (decode cX12_feed 37 = .ok (.aload_n 0, 1)) ∧ (decode cX12_feed 38 = .ok (.getfield 125, 3)) ∧ (decode cX12_feed 41 = .ok (.aload_n 0, 1)) := by decide +kernel
theorem dX12_feed_28 : decode cX12_feed 28 = .ok (.iconst 0, 1) := zb_X12_feed_28.1
theorem dX12_feed_29 : decode cX12_feed 29 = .ok (.istore 4, 2) := zb_X12_feed_28.2.1
theorem dX12_feed_31 : decode cX12_feed 31 = .ok (.iload 4, 2) := zb_X12_feed_28.2.2.1
theorem dX12_feed_33 : decode cX12_feed 33 = .ok (.iload_n 1, 1) := zb_X12_feed_28.2.2.2.1
theorem dX12_feed_34 : decode cX12_feed 34 = .ok (.if_icmp .ge 40, 3) := zb_X12_feed_28.2.2.2.2.1
theorem dX12_feed_74 : decode cX12_feed 74 = .ok (.aload_n 0, 1) := zb_X12_feed_28.2.2.2.2.2.1
theorem dX12_feed_75 : decode cX12_feed 75 = .ok (.getfield 323, 3) := zb_X12_feed_28.2.2.2.2.2.2.1
theorem dX12_feed_78 : decode cX12_feed 78 = .ok (.ireturn, 1) := zb_X12_feed_28.2.2.2.2.2.2.2.1
theorem dX12_feed_37 : decode cX12_feed 37 = .ok (.aload_n 0, 1) := zb_X12_feed_28.2.2.2.2.2.2.2.2.1
theorem dX12_feed_38 : decode cX12_feed 38 = .ok (.getfield 125, 3) := zb_X12_feed_28.2.2.2.2.2.2.2.2.2.1
theorem dX12_feed_41 : decode cX12_feed 41 = .ok (.aload_n 0, 1) := zb_X12_feed_28.2.2.2.2.2.2.2.2.2.2
theorem zb_X12_feed_42 : (decode cX12_feed 42 = .ok (.getfield 323, 3)) ∧ (decode cX12_feed 45 = .ok (.lload_n 2, 1)) ∧ (decode cX12_feed 46 = .ok (.bipush 8, 2)) ∧ (decode cX12_feed 48 = .ok (.iload 4, 2)) ∧ (decode cX12_feed 50 = .ok (.imul, 1)) ∧ (decode cX12_feed 51 = .ok (.lushr, 1)) ∧ (decode cX12_feed 52 = .ok (.ldc2_w 326, 3)) ∧ (decode cX12_feed 55 = .ok (.land, 1)) ∧ (decode cX12_feed 56 = .ok (.l2i, 1)) ∧ (decode cX12_feed 57 = .ok (.iastore, 1)) ∧ (decode cX12_feed 58 = .ok (.aload_n 0, 1)) := by decide +kernel
theorem dX12_feed_42 : decode cX12_feed 42 = .ok (.getfield 323, 3) := zb_X12_feed_42.1
theorem dX12_feed_45 : decode cX12_feed 45 = .ok (.lload_n 2, 1) := zb_X12_feed_42.2.1
theorem dX12_feed_46 : decode cX12_feed 46 = .ok (.bipush 8, 2) := zb_X12_feed_42.2.2.1
theorem dX12_feed_48 : decode cX12_feed 48 = .ok (.iload 4, 2) := zb_X12_feed_42.2.2.2.1
theorem dX12_feed_50 : decode cX12_feed 50 = .ok (.imul, 1) := zb_X12_feed_42.2.2.2.2.1
theorem dX12_feed_51 : decode cX12_feed 51 = .ok (.lushr, 1) := zb_X12_feed_42.2.2.2.2.2.1
theorem dX12_feed_52 : decode cX12_feed 52 = .ok (.ldc2_w 326, 3) := zb_X12_feed_42.2.2.2.2.2.2.1
theorem dX12_feed_55 : decode cX12_feed 55 = .ok (.land, 1) := zb_X12_feed_42.2.2.2.2.2.2.2.1
theorem dX12_feed_56 : decode cX12_feed 56 = .ok (.l2i, 1) := zb_X12_feed_42.2.2.2.2.2.2.2.2.1
theorem dX12_feed_57 : decode cX12_feed 57 = .ok (.iastore, 1) := zb_X12_feed_42.2.2.2.2.2.2.2.2.2.1
theorem dX12_feed_58 : decode cX12_feed 58 = .ok (.aload_n 0, 1) := zb_X12_feed_42.2.2.2.2.2.2.2.2.2.2
theorem zb_X12_feed_59 : (decode cX12_feed 59 = .ok (.dup, 1)) ∧ (decode cX12_feed 60 = .ok (.getfield 323, 3)) ∧ (decode cX12_feed 63 = .ok (.iconst 1, 1)) ∧ (decode cX12_feed 64 = .ok (.iadd, 1)) ∧ (decode cX12_feed 65 = .ok (.putfield 323, 3)) ∧ (decode cX12_feed 68 = .ok (.iinc 4 1, 3)) ∧ (decode cX12_feed 71 = .ok (.goto (-40), 3)) ∧ (decode cX12_feed 25 = .ok (.bipush (-4), 2)) ∧ (decode cX12_feed 27 = .ok (.ireturn, 1)) ∧ (decode cX12_feed 10 = .ok (.bipush (-2), 2)) ∧ (decode cX12_feed 12 = .ok (.ireturn, 1)) := by decide +kernel
theorem dX12_feed_59 : decode cX12_feed 59 = .ok (.dup, 1) := zb_X12_feed_59.1
theorem dX12_feed_60 : decode cX12_feed 60 = .ok (.getfield 323, 3) := zb_X12_feed_59.2.1
theorem dX12_feed_63 : decode cX12_feed 63 = .ok (.iconst 1, 1) := zb_X12_feed_59.2.2.1
theorem dX12_feed_64 : decode cX12_feed 64 = .ok (.iadd, 1) := zb_X12_feed_59.2.2.2.1
theorem dX12_feed_65 : decode cX12_feed 65 = .ok (.putfield 323, 3) := zb_X12_feed_59.2.2.2.2.1
theorem dX12_feed_68 : decode cX12_feed 68 = .ok (.iinc 4 1, 3) := zb_X12_feed_59.2.2.2.2.2.1
theorem dX12_feed_71 : decode cX12_feed 71 = .ok (.goto (-40), 3) := zb_X12_feed_59.2.2.2.2.2.2.1
theorem dX12_feed_25 : decode cX12_feed 25 = .ok (.bipush (-4), 2) := zb_X12_feed_59.2.2.2.2.2.2.2.1
theorem dX12_feed_27 : decode cX12_feed 27 = .ok (.ireturn, 1) := zb_X12_feed_59.2.2.2.2.2.2.2.2.1
theorem dX12_feed_10 : decode cX12_feed 10 = .ok (.bipush (-2), 2) := zb_X12_feed_59.2.2.2.2.2.2.2.2.2.1
theorem dX12_feed_12 : decode cX12_feed 12 = .ok (.ireturn, 1) := zb_X12_feed_59.2.2.2.2.2.2.2.2.2.2
theorem zb_X12_force_0 : (decode cX12_force 0 = .ok (.iload_n 1, 1)) ∧ (decode cX12_force 1 = .ok (.ifCond .lt 11, 3)) ∧ (decode cX12_force 12 = .ok (.bipush (-2), 2)) ∧ (decode cX12_force 14 = .ok (.ireturn, 1)) ∧ (decode cX12_force 4 = .ok (.iload_n 1, 1)) ∧ (decode cX12_force 5 = .ok (.aload_n 0, 1)) ∧ (decode cX12_force 6 = .ok (.getfield 182, 3)) ∧ (decode cX12_force 9 = .ok (.if_icmp .lt 6, 3)) := by decide +kernel
theorem dX12_force_0 : decode cX12_force 0 = .ok (.iload_n 1, 1) := zb_X12_force_0.1
theorem dX12_force_1 : decode cX12_force 1 = .ok (.ifCond .lt 11, 3) := zb_X12_force_0.2.1
theorem dX12_force_12 : decode cX12_force 12 = .ok (.bipush (-2), 2) := zb_X12_force_0.2.2.1
theorem dX12_force_14 : decode cX12_force 14 = .ok (.ireturn, 1) := zb_X12_force_0.2.2.2.1
theorem dX12_force_4 : decode cX12_force 4 = .ok (.iload_n 1, 1) := zb_X12_force_0.2.2.2.2.1
theorem dX12_force_5 : decode cX12_force 5 = .ok (.aload_n 0, 1) := zb_X12_force_0.2.2.2.2.2.1
theorem dX12_force_6 : decode cX12_force 6 = .ok (.getfield 182, 3) := zb_X12_force_0.2.2.2.2.2.2.1
theorem dX12_force_9 : decode cX12_force 9 = .ok (.if_icmp .lt 6, 3) := zb_X12_force_0.2.2.2.2.2.2.2
theorem zb_X12_force_15 : (decode cX12_force 15 = .ok (.aload_n 0, 1)) ∧ (decode cX12_force 16 = .ok (.getfield 431, 3)) ∧ (decode cX12_force 19 = .ok (.istore_n 2, 1)) ∧ (decode cX12_force 20 = .ok (.aload_n 0, 1)) ∧ (decode cX12_force 21 = .ok (.iload_n 1, 1)) ∧ (decode cX12_force 22 = .ok (.putfield 431, 3)) ∧ (decode cX12_force 25 = .ok (.iload_n 2, 1)) ∧ (decode cX12_force 26 = .ok (.ireturn, 1)) := by decide +kernel
theorem dX12_force_15 : decode cX12_force 15 = .ok (.aload_n 0, 1) := zb_X12_force_15.1
theorem dX12_force_16 : decode cX12_force 16 = .ok (.getfield 431, 3) := zb_X12_force_15.2.1
theorem dX12_force_19 : decode cX12_force 19 = .ok (.istore_n 2, 1) := zb_X12_force_15.2.2.1
theorem dX12_force_20 : decode cX12_force 20 = .ok (.aload_n 0, 1) := zb_X12_force_15.2.2.2.1
theorem dX12_force_21 : decode cX12_force 21 = .ok (.iload_n 1, 1) := zb_X12_force_15.2.2.2.2.1
theorem dX12_force_22 : decode cX12_force 22 = .ok (.putfield 431, 3) := zb_X12_force_15.2.2.2.2.2.1
theorem dX12_force_25 : decode cX12_force 25 = .ok (.iload_n 2, 1) := zb_X12_force_15.2.2.2.2.2.2.1
theorem dX12_force_26 : decode cX12_force 26 = .ok (.ireturn, 1) := zb_X12_force_15.2.2.2.2.2.2.2
theorem zb_X12_story_0 : (decode cX12_story 0 = .ok (.aload_n 0, 1)) ∧ (decode cX12_story 1 = .ok (.iload_n 1, 1)) ∧ (decode cX12_story 2 = .ok (.invokevirtual 193, 3)) ∧ (decode cX12_story 5 = .ok (.ifCond .eq 27, 3)) ∧ (decode cX12_story 8 = .ok (.iload_n 2, 1)) ∧ (decode cX12_story 9 = .ok (.invokestatic 217, 3)) ∧ (decode cX12_story 12 = .ok (.ifCond .eq 20, 3)) ∧ (decode cX12_story 15 = .ok (.iload_n 3, 1)) ∧ (decode cX12_story 16 = .ok (.aload_n 0, 1)) ∧ (decode cX12_story 17 = .ok (.getfield 31, 3)) ∧ (decode cX12_story 20 = .ok (.iload_n 1, 1)) := by decide +kernel
theorem dX12_story_0 : decode cX12_story 0 = .ok (.aload_n 0, 1) := zb_X12_story_0.1
theorem dX12_story_1 : decode cX12_story 1 = .ok (.iload_n 1, 1) := zb_X12_story_0.2.1
theorem dX12_story_2 : decode cX12_story 2 = .ok (.invokevirtual 193, 3) := zb_X12_story_0.2.2.1
theorem dX12_story_5 : decode cX12_story 5 = .ok (.ifCond .eq 27, 3) := zb_X12_story_0.2.2.2.1
theorem dX12_story_8 : decode cX12_story 8 = .ok (.iload_n 2, 1) := zb_X12_story_0.2.2.2.2.1
theorem dX12_story_9 : decode cX12_story 9 = .ok (.invokestatic 217, 3) := zb_X12_story_0.2.2.2.2.2.1
theorem dX12_story_12 : decode cX12_story 12 = .ok (.ifCond .eq 20, 3) := zb_X12_story_0.2.2.2.2.2.2.1
theorem dX12_story_15 : decode cX12_story 15 = .ok (.iload_n 3, 1) := zb_X12_story_0.2.2.2.2.2.2.2.1
theorem dX12_story_16 : decode cX12_story 16 = .ok (.aload_n 0, 1) := zb_X12_story_0.2.2.2.2.2.2.2.2.1
theorem dX12_story_17 : decode cX12_story 17 = .ok (.getfield 31, 3) := zb_X12_story_0.2.2.2.2.2.2.2.2.2.1
theorem dX12_story_20 : decode cX12_story 20 = .ok (.iload_n 1, 1) := zb_X12_story_0.2.2.2.2.2.2.2.2.2.2
theorem zb_X12_story_21 : (decode cX12_story 21 = .ok (.iaload, 1)) ∧ (decode cX12_story 22 = .ok (.aload_n 0, 1)) ∧ (decode cX12_story 23 = .ok (.getfield 201, 3)) ∧ (decode cX12_story 26 = .ok (.invokestatic 186, 3)) ∧ (decode cX12_story 29 = .ok (.ifCond .ne 6, 3)) ∧ (decode cX12_story 35 = .ok (.aload_n 0, 1)) ∧ (decode cX12_story 36 = .ok (.getfield 440, 3)) ∧ (decode cX12_story 39 = .ok (.bipush 20, 2)) ∧ (decode cX12_story 41 = .ok (.if_icmp .ne 6, 3)) ∧ (decode cX12_story 47 = .ok (.aload_n 0, 1)) ∧ (decode cX12_story 48 = .ok (.getfield 113, 3)) := by decide +kernel
theorem dX12_story_21 : decode cX12_story 21 = .ok (.iaload, 1) := zb_X12_story_21.1
theorem dX12_story_22 : decode cX12_story 22 = .ok (.aload_n 0, 1) := zb_X12_story_21.2.1
theorem dX12_story_23 : decode cX12_story 23 = .ok (.getfield 201, 3) := zb_X12_story_21.2.2.1
theorem dX12_story_26 : decode cX12_story 26 = .ok (.invokestatic 186, 3) := zb_X12_story_21.2.2.2.1
theorem dX12_story_29 : decode cX12_story 29 = .ok (.ifCond .ne 6, 3) := zb_X12_story_21.2.2.2.2.1
theorem dX12_story_35 : decode cX12_story 35 = .ok (.aload_n 0, 1) := zb_X12_story_21.2.2.2.2.2.1
theorem dX12_story_36 : decode cX12_story 36 = .ok (.getfield 440, 3) := zb_X12_story_21.2.2.2.2.2.2.1
theorem dX12_story_39 : decode cX12_story 39 = .ok (.bipush 20, 2) := zb_X12_story_21.2.2.2.2.2.2.2.1
theorem dX12_story_41 : decode cX12_story 41 = .ok (.if_icmp .ne 6, 3) := zb_X12_story_21.2.2.2.2.2.2.2.2.1
theorem dX12_story_47 : decode cX12_story 47 = .ok (.aload_n 0, 1) := zb_X12_story_21.2.2.2.2.2.2.2.2.2.1
theorem dX12_story_48 : decode cX12_story 48 = .ok (.getfield 113, 3) := zb_X12_story_21.2.2.2.2.2.2.2.2.2.2
theorem zb_X12_story_51 : (decode cX12_story 51 = .ok (.aload_n 0, 1)) ∧ (decode cX12_story 52 = .ok (.getfield 440, 3)) ∧ (decode cX12_story 55 = .ok (.iload_n 1, 1)) ∧ (decode cX12_story 56 = .ok (.iastore, 1)) ∧ (decode cX12_story 57 = .ok (.aload_n 0, 1)) ∧ (decode cX12_story 58 = .ok (.getfield 116, 3)) ∧ (decode cX12_story 61 = .ok (.aload_n 0, 1)) ∧ (decode cX12_story 62 = .ok (.getfield 440, 3)) ∧ (decode cX12_story 65 = .ok (.iload_n 2, 1)) ∧ (decode cX12_story 66 = .ok (.iastore, 1)) ∧ (decode cX12_story 67 = .ok (.aload_n 0, 1)) := by decide +kernel
theorem dX12_story_51 : decode cX12_story 51 = .ok (.aload_n 0, 1) := zb_X12_story_51.1
theorem dX12_story_52 : decode cX12_story 52 = .ok (.getfield 440, 3) := zb_X12_story_51.2.1
theorem dX12_story_55 : decode cX12_story 55 = .ok (.iload_n 1, 1) := zb_X12_story_51.2.2.1
theorem dX12_story_56 : decode cX12_story 56 = .ok (.iastore, 1) := zb_X12_story_51.2.2.2.1
theorem dX12_story_57 : decode cX12_story 57 = .ok (.aload_n 0, 1) := zb_X12_story_51.2.2.2.2.1
theorem dX12_story_58 : decode cX12_story 58 = .ok (.getfield 116, 3) := zb_X12_story_51.2.2.2.2.2.1
theorem dX12_story_61 : decode cX12_story 61 = .ok (.aload_n 0, 1) := zb_X12_story_51.2.2.2.2.2.2.1
theorem dX12_story_62 : decode cX12_story 62 = .ok (.getfield 440, 3) := zb_X12_story_51.2.2.2.2.2.2.2.1
theorem dX12_story_65 : decode cX12_story 65 = .ok (.iload_n 2, 1) := zb_X12_story_51.2.2.2.2.2.2.2.2.1
theorem dX12_story_66 : decode cX12_story 66 = .ok (.iastore, 1) := zb_X12_story_51.2.2.2.2.2.2.2.2.2.1
theorem dX12_story_67 : decode cX12_story 67 = .ok (.aload_n 0, 1) := zb_X12_story_51.2.2.2.2.2.2.2.2.2.2
theorem zb_X12_story_68 : (decode cX12_story 68 = .ok (.getfield 119, 3)) ∧ (decode cX12_story 71 = .ok (.aload_n 0, 1)) ∧ (decode cX12_story 72 = .ok (.getfield 440, 3)) ∧ (decode cX12_story 75 = .ok (.iload_n 3, 1)) ∧ (decode cX12_story 76 = .ok (.iastore, 1)) ∧ (decode cX12_story 77 = .ok (.aload_n 0, 1)) ∧ (decode cX12_story 78 = .ok (.dup, 1)) ∧ (decode cX12_story 79 = .ok (.getfield 440, 3)) ∧ (decode cX12_story 82 = .ok (.iconst 1, 1)) ∧ (decode cX12_story 83 = .ok (.iadd, 1)) ∧ (decode cX12_story 84 = .ok (.putfield 440, 3)) := by decide +kernel
theorem dX12_story_68 : decode cX12_story 68 = .ok (.getfield 119, 3) := zb_X12_story_68.1
theorem dX12_story_71 : decode cX12_story 71 = .ok (.aload_n 0, 1) := zb_X12_story_68.2.1
theorem dX12_story_72 : decode cX12_story 72 = .ok (.getfield 440, 3) := zb_X12_story_68.2.2.1
theorem dX12_story_75 : decode cX12_story 75 = .ok (.iload_n 3, 1) := zb_X12_story_68.2.2.2.1
theorem dX12_story_76 : decode cX12_story 76 = .ok (.iastore, 1) := zb_X12_story_68.2.2.2.2.1
theorem dX12_story_77 : decode cX12_story 77 = .ok (.aload_n 0, 1) := zb_X12_story_68.2.2.2.2.2.1
theorem dX12_story_78 : decode cX12_story 78 = .ok (.dup, 1) := zb_X12_story_68.2.2.2.2.2.2.1
theorem dX12_story_79 : decode cX12_story 79 = .ok (.getfield 440, 3) := zb_X12_story_68.2.2.2.2.2.2.2.1
theorem dX12_story_82 : decode cX12_story 82 = .ok (.iconst 1, 1) := zb_X12_story_68.2.2.2.2.2.2.2.2.1
theorem dX12_story_83 : decode cX12_story 83 = .ok (.iadd, 1) := zb_X12_story_68.2.2.2.2.2.2.2.2.2.1
theorem dX12_story_84 : decode cX12_story 84 = .ok (.putfield 440, 3) := zb_X12_story_68.2.2.2.2.2.2.2.2.2.2
theorem zb_X12_story_87 : (decode cX12_story 87 = .ok (.aload_n 0, 1)) ∧ (decode cX12_story 88 = .ok (.getfield 440, 3)) ∧ (decode cX12_story 91 = .ok (.iconst 1, 1)) ∧ (decode cX12_story 92 = .ok (.isub, 1)) ∧ (decode cX12_story 93 = .ok (.ireturn, 1)) ∧ (decode cX12_story 44 = .ok (.bipush (-4), 2)) ∧ (decode cX12_story 46 = .ok (.ireturn, 1)) ∧ (decode cX12_story 32 = .ok (.bipush (-2), 2)) ∧ (decode cX12_story 34 = .ok (.ireturn, 1)) := by decide +kernel
theorem dX12_story_87 : decode cX12_story 87 = .ok (.aload_n 0, 1) := zb_X12_story_87.1
theorem dX12_story_88 : decode cX12_story 88 = .ok (.getfield 440, 3) := zb_X12_story_87.2.1
theorem dX12_story_91 : decode cX12_story 91 = .ok (.iconst 1, 1) := zb_X12_story_87.2.2.1
theorem dX12_story_92 : decode cX12_story 92 = .ok (.isub, 1) := zb_X12_story_87.2.2.2.1
theorem dX12_story_93 : decode cX12_story 93 = .ok (.ireturn, 1) := zb_X12_story_87.2.2.2.2.1
theorem dX12_story_44 : decode cX12_story 44 = .ok (.bipush (-4), 2) := zb_X12_story_87.2.2.2.2.2.1
theorem dX12_story_46 : decode cX12_story 46 = .ok (.ireturn, 1) := zb_X12_story_87.2.2.2.2.2.2.1
theorem dX12_story_32 : decode cX12_story 32 = .ok (.bipush (-2), 2) := zb_X12_story_87.2.2.2.2.2.2.2.1
theorem dX12_story_34 : decode cX12_story 34 = .ok (.ireturn, 1) := zb_X12_story_87.2.2.2.2.2.2.2.2
theorem zb_X12_unfit_0 : (decode cX12_unfit 0 = .ok (.iconst 0, 1)) ∧ (decode cX12_unfit 1 = .ok (.istore_n 1, 1)) ∧ (decode cX12_unfit 2 = .ok (.iconst 0, 1)) ∧ (decode cX12_unfit 3 = .ok (.istore_n 2, 1)) ∧ (decode cX12_unfit 4 = .ok (.iload_n 2, 1)) ∧ (decode cX12_unfit 5 = .ok (.aload_n 0, 1)) ∧ (decode cX12_unfit 6 = .ok (.getfield 440, 3)) ∧ (decode cX12_unfit 9 = .ok (.if_icmp .ge 55, 3)) ∧ (decode cX12_unfit 64 = .ok (.iload_n 1, 1)) ∧ (decode cX12_unfit 65 = .ok (.ireturn, 1)) ∧ (decode cX12_unfit 12 = .ok (.aload_n 0, 1)) := by decide +kernel
theorem dX12_unfit_0 : decode cX12_unfit 0 = .ok (.iconst 0, 1) := zb_X12_unfit_0.1
theorem dX12_unfit_1 : decode cX12_unfit 1 = .ok (.istore_n 1, 1) := zb_X12_unfit_0.2.1
theorem dX12_unfit_2 : decode cX12_unfit 2 = .ok (.iconst 0, 1) := zb_X12_unfit_0.2.2.1
theorem dX12_unfit_3 : decode cX12_unfit 3 = .ok (.istore_n 2, 1) := zb_X12_unfit_0.2.2.2.1
theorem dX12_unfit_4 : decode cX12_unfit 4 = .ok (.iload_n 2, 1) := zb_X12_unfit_0.2.2.2.2.1
theorem dX12_unfit_5 : decode cX12_unfit 5 = .ok (.aload_n 0, 1) := zb_X12_unfit_0.2.2.2.2.2.1
theorem dX12_unfit_6 : decode cX12_unfit 6 = .ok (.getfield 440, 3) := zb_X12_unfit_0.2.2.2.2.2.2.1
theorem dX12_unfit_9 : decode cX12_unfit 9 = .ok (.if_icmp .ge 55, 3) := zb_X12_unfit_0.2.2.2.2.2.2.2.1
theorem dX12_unfit_64 : decode cX12_unfit 64 = .ok (.iload_n 1, 1) := zb_X12_unfit_0.2.2.2.2.2.2.2.2.1
theorem dX12_unfit_65 : decode cX12_unfit 65 = .ok (.ireturn, 1) := zb_X12_unfit_0.2.2.2.2.2.2.2.2.2.1
theorem dX12_unfit_12 : decode cX12_unfit 12 = .ok (.aload_n 0, 1) := zb_X12_unfit_0.2.2.2.2.2.2.2.2.2.2
theorem zb_X12_unfit_13 : (decode cX12_unfit 13 = .ok (.aload_n 0, 1)) ∧ (decode cX12_unfit 14 = .ok (.getfield 113, 3)) ∧ (decode cX12_unfit 17 = .ok (.iload_n 2, 1)) ∧ (decode cX12_unfit 18 = .ok (.iaload, 1)) ∧ (decode cX12_unfit 19 = .ok (.aload_n 0, 1)) ∧ (decode cX12_unfit 20 = .ok (.getfield 119, 3)) ∧ (decode cX12_unfit 23 = .ok (.iload_n 2, 1)) ∧ (decode cX12_unfit 24 = .ok (.iaload, 1)) ∧ (decode cX12_unfit 25 = .ok (.aload_n 0, 1)) ∧ (decode cX12_unfit 26 = .ok (.getfield 201, 3)) ∧ (decode cX12_unfit 29 = .ok (.invokevirtual 238, 3)) := by decide +kernel
theorem dX12_unfit_13 : decode cX12_unfit 13 = .ok (.aload_n 0, 1) := zb_X12_unfit_13.1
theorem dX12_unfit_14 : decode cX12_unfit 14 = .ok (.getfield 113, 3) := zb_X12_unfit_13.2.1
theorem dX12_unfit_17 : decode cX12_unfit 17 = .ok (.iload_n 2, 1) := zb_X12_unfit_13.2.2.1
theorem dX12_unfit_18 : decode cX12_unfit 18 = .ok (.iaload, 1) := zb_X12_unfit_13.2.2.2.1
theorem dX12_unfit_19 : decode cX12_unfit 19 = .ok (.aload_n 0, 1) := zb_X12_unfit_13.2.2.2.2.1
theorem dX12_unfit_20 : decode cX12_unfit 20 = .ok (.getfield 119, 3) := zb_X12_unfit_13.2.2.2.2.2.1
theorem dX12_unfit_23 : decode cX12_unfit 23 = .ok (.iload_n 2, 1) := zb_X12_unfit_13.2.2.2.2.2.2.1
theorem dX12_unfit_24 : decode cX12_unfit 24 = .ok (.iaload, 1) := zb_X12_unfit_13.2.2.2.2.2.2.2.1
theorem dX12_unfit_25 : decode cX12_unfit 25 = .ok (.aload_n 0, 1) := zb_X12_unfit_13.2.2.2.2.2.2.2.2.1
theorem dX12_unfit_26 : decode cX12_unfit 26 = .ok (.getfield 201, 3) := zb_X12_unfit_13.2.2.2.2.2.2.2.2.2.1
theorem dX12_unfit_29 : decode cX12_unfit 29 = .ok (.invokevirtual 238, 3) := zb_X12_unfit_13.2.2.2.2.2.2.2.2.2.2
theorem zb_X12_unfit_32 : (decode cX12_unfit 32 = .ok (.lstore_n 3, 1)) ∧ (decode cX12_unfit 33 = .ok (.iload_n 1, 1)) ∧ (decode cX12_unfit 34 = .ok (.lload_n 3, 1)) ∧ (decode cX12_unfit 35 = .ok (.aload_n 0, 1)) ∧ (decode cX12_unfit 36 = .ok (.getfield 116, 3)) ∧ (decode cX12_unfit 39 = .ok (.iload_n 2, 1)) ∧ (decode cX12_unfit 40 = .ok (.iaload, 1)) ∧ (decode cX12_unfit 41 = .ok (.lushr, 1)) ∧ (decode cX12_unfit 42 = .ok (.lconst 1, 1)) ∧ (decode cX12_unfit 43 = .ok (.land, 1)) ∧ (decode cX12_unfit 44 = .ok (.lconst 1, 1)) := by decide +kernel
theorem dX12_unfit_32 : decode cX12_unfit 32 = .ok (.lstore_n 3, 1) := zb_X12_unfit_32.1
theorem dX12_unfit_33 : decode cX12_unfit 33 = .ok (.iload_n 1, 1) := zb_X12_unfit_32.2.1
theorem dX12_unfit_34 : decode cX12_unfit 34 = .ok (.lload_n 3, 1) := zb_X12_unfit_32.2.2.1
theorem dX12_unfit_35 : decode cX12_unfit 35 = .ok (.aload_n 0, 1) := zb_X12_unfit_32.2.2.2.1
theorem dX12_unfit_36 : decode cX12_unfit 36 = .ok (.getfield 116, 3) := zb_X12_unfit_32.2.2.2.2.1
theorem dX12_unfit_39 : decode cX12_unfit 39 = .ok (.iload_n 2, 1) := zb_X12_unfit_32.2.2.2.2.2.1
theorem dX12_unfit_40 : decode cX12_unfit 40 = .ok (.iaload, 1) := zb_X12_unfit_32.2.2.2.2.2.2.1
theorem dX12_unfit_41 : decode cX12_unfit 41 = .ok (.lushr, 1) := zb_X12_unfit_32.2.2.2.2.2.2.2.1
theorem dX12_unfit_42 : decode cX12_unfit 42 = .ok (.lconst 1, 1) := zb_X12_unfit_32.2.2.2.2.2.2.2.2.1
theorem dX12_unfit_43 : decode cX12_unfit 43 = .ok (.land, 1) := zb_X12_unfit_32.2.2.2.2.2.2.2.2.2.1
theorem dX12_unfit_44 : decode cX12_unfit 44 = .ok (.lconst 1, 1) := zb_X12_unfit_32.2.2.2.2.2.2.2.2.2.2
theorem zb_X12_unfit_45 : (decode cX12_unfit 45 = .ok (.lcmp, 1)) ∧ (decode cX12_unfit 46 = .ok (.ifCond .ne 7, 3)) ∧ (decode cX12_unfit 53 = .ok (.iconst 1, 1)) ∧ (decode cX12_unfit 54 = .ok (.iload_n 2, 1)) ∧ (decode cX12_unfit 55 = .ok (.ishl, 1)) ∧ (decode cX12_unfit 56 = .ok (.ior, 1)) ∧ (decode cX12_unfit 57 = .ok (.istore_n 1, 1)) ∧ (decode cX12_unfit 58 = .ok (.iinc 2 1, 3)) ∧ (decode cX12_unfit 61 = .ok (.goto (-57), 3)) ∧ (decode cX12_unfit 49 = .ok (.iconst 0, 1)) ∧ (decode cX12_unfit 50 = .ok (.goto 6, 3)) := by decide +kernel
theorem dX12_unfit_45 : decode cX12_unfit 45 = .ok (.lcmp, 1) := zb_X12_unfit_45.1
theorem dX12_unfit_46 : decode cX12_unfit 46 = .ok (.ifCond .ne 7, 3) := zb_X12_unfit_45.2.1
theorem dX12_unfit_53 : decode cX12_unfit 53 = .ok (.iconst 1, 1) := zb_X12_unfit_45.2.2.1
theorem dX12_unfit_54 : decode cX12_unfit 54 = .ok (.iload_n 2, 1) := zb_X12_unfit_45.2.2.2.1
theorem dX12_unfit_55 : decode cX12_unfit 55 = .ok (.ishl, 1) := zb_X12_unfit_45.2.2.2.2.1
theorem dX12_unfit_56 : decode cX12_unfit 56 = .ok (.ior, 1) := zb_X12_unfit_45.2.2.2.2.2.1
theorem dX12_unfit_57 : decode cX12_unfit 57 = .ok (.istore_n 1, 1) := zb_X12_unfit_45.2.2.2.2.2.2.1
theorem dX12_unfit_58 : decode cX12_unfit 58 = .ok (.iinc 2 1, 3) := zb_X12_unfit_45.2.2.2.2.2.2.2.1
theorem dX12_unfit_61 : decode cX12_unfit 61 = .ok (.goto (-57), 3) := zb_X12_unfit_45.2.2.2.2.2.2.2.2.1
theorem dX12_unfit_49 : decode cX12_unfit 49 = .ok (.iconst 0, 1) := zb_X12_unfit_45.2.2.2.2.2.2.2.2.2.1
theorem dX12_unfit_50 : decode cX12_unfit 50 = .ok (.goto 6, 3) := zb_X12_unfit_45.2.2.2.2.2.2.2.2.2.2
theorem zb_X12_clash_80 : (decode cX12_clash 80 = .ok (.lstore 5, 2)) ∧ (decode cX12_clash 88 = .ok (.istore 7, 2)) ∧ (decode cX12_clash 90 = .ok (.iload 7, 2)) ∧ (decode cX12_clash 96 = .ok (.iload 4, 2)) ∧ (decode cX12_clash 124 = .ok (.lload 5, 2)) ∧ (decode cX12_clash 130 = .ok (.iload 4, 2)) ∧ (decode cX12_clash 133 = .ok (.lushr, 1)) ∧ (decode cX12_clash 109 = .ok (.iload 7, 2)) ∧ (decode cX12_clash 111 = .ok (.lload 5, 2)) ∧ (decode cX12_clash 116 = .ok (.lstore 5, 2)) ∧ (decode cX12_clash 118 = .ok (.iinc 7 1, 3)) ∧ (decode cX12_clash 70 = .ok (.istore 4, 2)) := by decide +kernel
theorem dX12_clash_80 : decode cX12_clash 80 = .ok (.lstore 5, 2) := zb_X12_clash_80.1
theorem dX12_clash_88 : decode cX12_clash 88 = .ok (.istore 7, 2) := zb_X12_clash_80.2.1
theorem dX12_clash_90 : decode cX12_clash 90 = .ok (.iload 7, 2) := zb_X12_clash_80.2.2.1
theorem dX12_clash_96 : decode cX12_clash 96 = .ok (.iload 4, 2) := zb_X12_clash_80.2.2.2.1
theorem dX12_clash_124 : decode cX12_clash 124 = .ok (.lload 5, 2) := zb_X12_clash_80.2.2.2.2.1
theorem dX12_clash_130 : decode cX12_clash 130 = .ok (.iload 4, 2) := zb_X12_clash_80.2.2.2.2.2.1
theorem dX12_clash_133 : decode cX12_clash 133 = .ok (.lushr, 1) := zb_X12_clash_80.2.2.2.2.2.2.1
theorem dX12_clash_109 : decode cX12_clash 109 = .ok (.iload 7, 2) := zb_X12_clash_80.2.2.2.2.2.2.2.1
theorem dX12_clash_111 : decode cX12_clash 111 = .ok (.lload 5, 2) := zb_X12_clash_80.2.2.2.2.2.2.2.2.1
theorem dX12_clash_116 : decode cX12_clash 116 = .ok (.lstore 5, 2) := zb_X12_clash_80.2.2.2.2.2.2.2.2.2.1
theorem dX12_clash_118 : decode cX12_clash 118 = .ok (.iinc 7 1, 3) := zb_X12_clash_80.2.2.2.2.2.2.2.2.2.2.1
theorem dX12_clash_70 : decode cX12_clash 70 = .ok (.istore 4, 2) := zb_X12_clash_80.2.2.2.2.2.2.2.2.2.2.2
theorem zb_X12_row_0 : (decode cX12_row 0 = .ok (.lload_n 1, 1)) ∧ (decode cX12_row 1 = .ok (.lconst 0, 1)) ∧ (decode cX12_row 2 = .ok (.lcmp, 1)) ∧ (decode cX12_row 3 = .ok (.ifCond .lt 11, 3)) ∧ (decode cX12_row 14 = .ok (.bipush (-2), 2)) ∧ (decode cX12_row 16 = .ok (.ireturn, 1)) ∧ (decode cX12_row 6 = .ok (.lload_n 1, 1)) ∧ (decode cX12_row 7 = .ok (.ldc2_w 446, 3)) ∧ (decode cX12_row 10 = .ok (.lcmp, 1)) ∧ (decode cX12_row 11 = .ok (.ifCond .le 6, 3)) ∧ (decode cX12_row 17 = .ok (.aload_n 0, 1)) := by decide +kernel
theorem dX12_row_0 : decode cX12_row 0 = .ok (.lload_n 1, 1) := zb_X12_row_0.1
theorem dX12_row_1 : decode cX12_row 1 = .ok (.lconst 0, 1) := zb_X12_row_0.2.1
theorem dX12_row_2 : decode cX12_row 2 = .ok (.lcmp, 1) := zb_X12_row_0.2.2.1
theorem dX12_row_3 : decode cX12_row 3 = .ok (.ifCond .lt 11, 3) := zb_X12_row_0.2.2.2.1
theorem dX12_row_14 : decode cX12_row 14 = .ok (.bipush (-2), 2) := zb_X12_row_0.2.2.2.2.1
theorem dX12_row_16 : decode cX12_row 16 = .ok (.ireturn, 1) := zb_X12_row_0.2.2.2.2.2.1
theorem dX12_row_6 : decode cX12_row 6 = .ok (.lload_n 1, 1) := zb_X12_row_0.2.2.2.2.2.2.1
theorem dX12_row_7 : decode cX12_row 7 = .ok (.ldc2_w 446, 3) := zb_X12_row_0.2.2.2.2.2.2.2.1
theorem dX12_row_10 : decode cX12_row 10 = .ok (.lcmp, 1) := zb_X12_row_0.2.2.2.2.2.2.2.2.1
theorem dX12_row_11 : decode cX12_row 11 = .ok (.ifCond .le 6, 3) := zb_X12_row_0.2.2.2.2.2.2.2.2.2.1
theorem dX12_row_17 : decode cX12_row 17 = .ok (.aload_n 0, 1) := zb_X12_row_0.2.2.2.2.2.2.2.2.2.2
theorem zb_X12_row_18 : (decode cX12_row 18 = .ok (.getfield 448, 3)) ∧ (decode cX12_row 21 = .ok (.iconst 4, 1)) ∧ (decode cX12_row 22 = .ok (.if_icmp .ne 6, 3)) ∧ (decode cX12_row 28 = .ok (.lload_n 1, 1)) ∧ (decode cX12_row 29 = .ok (.lstore_n 3, 1)) ∧ (decode cX12_row 30 = .ok (.iconst 0, 1)) ∧ (decode cX12_row 31 = .ok (.istore 5, 2)) ∧ (decode cX12_row 33 = .ok (.iload 5, 2)) ∧ (decode cX12_row 35 = .ok (.bipush 15, 2)) ∧ (decode cX12_row 37 = .ok (.if_icmp .ge 36, 3)) ∧ (decode cX12_row 73 = .ok (.aload_n 0, 1)) := by decide +kernel
theorem dX12_row_18 : decode cX12_row 18 = .ok (.getfield 448, 3) := zb_X12_row_18.1
theorem dX12_row_21 : decode cX12_row 21 = .ok (.iconst 4, 1) := zb_X12_row_18.2.1
theorem dX12_row_22 : decode cX12_row 22 = .ok (.if_icmp .ne 6, 3) := zb_X12_row_18.2.2.1
theorem dX12_row_28 : decode cX12_row 28 = .ok (.lload_n 1, 1) := zb_X12_row_18.2.2.2.1
theorem dX12_row_29 : decode cX12_row 29 = .ok (.lstore_n 3, 1) := zb_X12_row_18.2.2.2.2.1
theorem dX12_row_30 : decode cX12_row 30 = .ok (.iconst 0, 1) := zb_X12_row_18.2.2.2.2.2.1
theorem dX12_row_31 : decode cX12_row 31 = .ok (.istore 5, 2) := zb_X12_row_18.2.2.2.2.2.2.1
theorem dX12_row_33 : decode cX12_row 33 = .ok (.iload 5, 2) := zb_X12_row_18.2.2.2.2.2.2.2.1
theorem dX12_row_35 : decode cX12_row 35 = .ok (.bipush 15, 2) := zb_X12_row_18.2.2.2.2.2.2.2.2.1
theorem dX12_row_37 : decode cX12_row 37 = .ok (.if_icmp .ge 36, 3) := zb_X12_row_18.2.2.2.2.2.2.2.2.2.1
theorem dX12_row_73 : decode cX12_row 73 = .ok (.aload_n 0, 1) := zb_X12_row_18.2.2.2.2.2.2.2.2.2.2
theorem zb_X12_row_74 : (decode cX12_row 74 = .ok (.dup, 1)) ∧ (decode cX12_row 75 = .ok (.getfield 448, 3)) ∧ (decode cX12_row 78 = .ok (.iconst 1, 1)) ∧ (decode cX12_row 79 = .ok (.iadd, 1)) ∧ (decode cX12_row 80 = .ok (.putfield 448, 3)) ∧ (decode cX12_row 83 = .ok (.aload_n 0, 1)) ∧ (decode cX12_row 84 = .ok (.getfield 448, 3)) ∧ (decode cX12_row 87 = .ok (.iconst 1, 1)) ∧ (decode cX12_row 88 = .ok (.isub, 1)) ∧ (decode cX12_row 89 = .ok (.ireturn, 1)) ∧ (decode cX12_row 40 = .ok (.aload_n 0, 1)) := by decide +kernel
theorem dX12_row_74 : decode cX12_row 74 = .ok (.dup, 1) := zb_X12_row_74.1
theorem dX12_row_75 : decode cX12_row 75 = .ok (.getfield 448, 3) := zb_X12_row_74.2.1
theorem dX12_row_78 : decode cX12_row 78 = .ok (.iconst 1, 1) := zb_X12_row_74.2.2.1
theorem dX12_row_79 : decode cX12_row 79 = .ok (.iadd, 1) := zb_X12_row_74.2.2.2.1
theorem dX12_row_80 : decode cX12_row 80 = .ok (.putfield 448, 3) := zb_X12_row_74.2.2.2.2.1
theorem dX12_row_83 : decode cX12_row 83 = .ok (.aload_n 0, 1) := zb_X12_row_74.2.2.2.2.2.1
theorem dX12_row_84 : decode cX12_row 84 = .ok (.getfield 448, 3) := zb_X12_row_74.2.2.2.2.2.2.1
theorem dX12_row_87 : decode cX12_row 87 = .ok (.iconst 1, 1) := zb_X12_row_74.2.2.2.2.2.2.2.1
theorem dX12_row_88 : decode cX12_row 88 = .ok (.isub, 1) := zb_X12_row_74.2.2.2.2.2.2.2.2.1
theorem dX12_row_89 : decode cX12_row 89 = .ok (.ireturn, 1) := zb_X12_row_74.2.2.2.2.2.2.2.2.2.1
theorem dX12_row_40 : decode cX12_row 40 = .ok (.aload_n 0, 1) := zb_X12_row_74.2.2.2.2.2.2.2.2.2.2
theorem zb_X12_row_41 : (decode cX12_row 41 = .ok (.getfield 122, 3)) ∧ (decode cX12_row 44 = .ok (.bipush 15, 2)) ∧ (decode cX12_row 46 = .ok (.aload_n 0, 1)) ∧ (decode cX12_row 47 = .ok (.getfield 448, 3)) ∧ (decode cX12_row 50 = .ok (.imul, 1)) ∧ (decode cX12_row 51 = .ok (.iload 5, 2)) ∧ (decode cX12_row 53 = .ok (.iadd, 1)) ∧ (decode cX12_row 54 = .ok (.lload_n 3, 1)) ∧ (decode cX12_row 55 = .ok (.ldc2_w 451, 3)) ∧ (decode cX12_row 58 = .ok (.lrem, 1)) ∧ (decode cX12_row 59 = .ok (.l2i, 1)) := by decide +kernel
theorem dX12_row_41 : decode cX12_row 41 = .ok (.getfield 122, 3) := zb_X12_row_41.1
theorem dX12_row_44 : decode cX12_row 44 = .ok (.bipush 15, 2) := zb_X12_row_41.2.1
theorem dX12_row_46 : decode cX12_row 46 = .ok (.aload_n 0, 1) := zb_X12_row_41.2.2.1
theorem dX12_row_47 : decode cX12_row 47 = .ok (.getfield 448, 3) := zb_X12_row_41.2.2.2.1
theorem dX12_row_50 : decode cX12_row 50 = .ok (.imul, 1) := zb_X12_row_41.2.2.2.2.1
theorem dX12_row_51 : decode cX12_row 51 = .ok (.iload 5, 2) := zb_X12_row_41.2.2.2.2.2.1
theorem dX12_row_53 : decode cX12_row 53 = .ok (.iadd, 1) := zb_X12_row_41.2.2.2.2.2.2.1
theorem dX12_row_54 : decode cX12_row 54 = .ok (.lload_n 3, 1) := zb_X12_row_41.2.2.2.2.2.2.2.1
theorem dX12_row_55 : decode cX12_row 55 = .ok (.ldc2_w 451, 3) := zb_X12_row_41.2.2.2.2.2.2.2.2.1
theorem dX12_row_58 : decode cX12_row 58 = .ok (.lrem, 1) := zb_X12_row_41.2.2.2.2.2.2.2.2.2.1
theorem dX12_row_59 : decode cX12_row 59 = .ok (.l2i, 1) := zb_X12_row_41.2.2.2.2.2.2.2.2.2.2
theorem zb_X12_row_60 : (decode cX12_row 60 = .ok (.iastore, 1)) ∧ (decode cX12_row 61 = .ok (.lload_n 3, 1)) ∧ (decode cX12_row 62 = .ok (.ldc2_w 451, 3)) ∧ (decode cX12_row 65 = .ok (.ldiv, 1)) ∧ (decode cX12_row 66 = .ok (.lstore_n 3, 1)) ∧ (decode cX12_row 67 = .ok (.iinc 5 1, 3)) ∧ (decode cX12_row 70 = .ok (.goto (-37), 3)) ∧ (decode cX12_row 25 = .ok (.bipush (-4), 2)) ∧ (decode cX12_row 27 = .ok (.ireturn, 1)) := by decide +kernel
theorem dX12_row_60 : decode cX12_row 60 = .ok (.iastore, 1) := zb_X12_row_60.1
theorem dX12_row_61 : decode cX12_row 61 = .ok (.lload_n 3, 1) := zb_X12_row_60.2.1
theorem dX12_row_62 : decode cX12_row 62 = .ok (.ldc2_w 451, 3) := zb_X12_row_60.2.2.1
theorem dX12_row_65 : decode cX12_row 65 = .ok (.ldiv, 1) := zb_X12_row_60.2.2.2.1
theorem dX12_row_66 : decode cX12_row 66 = .ok (.lstore_n 3, 1) := zb_X12_row_60.2.2.2.2.1
theorem dX12_row_67 : decode cX12_row 67 = .ok (.iinc 5 1, 3) := zb_X12_row_60.2.2.2.2.2.1
theorem dX12_row_70 : decode cX12_row 70 = .ok (.goto (-37), 3) := zb_X12_row_60.2.2.2.2.2.2.1
theorem dX12_row_25 : decode cX12_row 25 = .ok (.bipush (-4), 2) := zb_X12_row_60.2.2.2.2.2.2.2.1
theorem dX12_row_27 : decode cX12_row 27 = .ok (.ireturn, 1) := zb_X12_row_60.2.2.2.2.2.2.2.2
theorem zb_X12_days_36 : (decode cX12_days 36 = .ok (.istore 4, 2)) ∧ (decode cX12_days 39 = .ok (.istore 5, 2)) ∧ (decode cX12_days 41 = .ok (.iload 5, 2)) ∧ (decode cX12_days 60 = .ok (.istore 5, 2)) ∧ (decode cX12_days 63 = .ok (.istore 6, 2)) ∧ (decode cX12_days 65 = .ok (.iload 6, 2)) ∧ (decode cX12_days 67 = .ok (.iload 4, 2)) ∧ (decode cX12_days 219 = .ok (.iload 5, 2)) ∧ (decode cX12_days 72 = .ok (.iload 6, 2)) ∧ (decode cX12_days 74 = .ok (.istore 7, 2)) ∧ (decode cX12_days 79 = .ok (.istore 8, 2)) := by decide +kernel
theorem dX12_days_36 : decode cX12_days 36 = .ok (.istore 4, 2) := zb_X12_days_36.1
theorem dX12_days_39 : decode cX12_days 39 = .ok (.istore 5, 2) := zb_X12_days_36.2.1
theorem dX12_days_41 : decode cX12_days 41 = .ok (.iload 5, 2) := zb_X12_days_36.2.2.1
theorem dX12_days_60 : decode cX12_days 60 = .ok (.istore 5, 2) := zb_X12_days_36.2.2.2.1
theorem dX12_days_63 : decode cX12_days 63 = .ok (.istore 6, 2) := zb_X12_days_36.2.2.2.2.1
theorem dX12_days_65 : decode cX12_days 65 = .ok (.iload 6, 2) := zb_X12_days_36.2.2.2.2.2.1
theorem dX12_days_67 : decode cX12_days 67 = .ok (.iload 4, 2) := zb_X12_days_36.2.2.2.2.2.2.1
theorem dX12_days_219 : decode cX12_days 219 = .ok (.iload 5, 2) := zb_X12_days_36.2.2.2.2.2.2.2.1
theorem dX12_days_72 : decode cX12_days 72 = .ok (.iload 6, 2) := zb_X12_days_36.2.2.2.2.2.2.2.2.1
theorem dX12_days_74 : decode cX12_days 74 = .ok (.istore 7, 2) := zb_X12_days_36.2.2.2.2.2.2.2.2.2.1
theorem dX12_days_79 : decode cX12_days 79 = .ok (.istore 8, 2) := zb_X12_days_36.2.2.2.2.2.2.2.2.2.2
theorem zb_X12_days_81 : (decode cX12_days 81 = .ok (.iload 8, 2)) ∧ (decode cX12_days 126 = .ok (.istore 9, 2)) ∧ (decode cX12_days 128 = .ok (.iload 9, 2)) ∧ (decode cX12_days 169 = .ok (.iload 8, 2)) ∧ (decode cX12_days 171 = .ok (.iload 5, 2)) ∧ (decode cX12_days 209 = .ok (.iinc 6 1, 3)) ∧ (decode cX12_days 176 = .ok (.iload 8, 2)) ∧ (decode cX12_days 178 = .ok (.istore 5, 2)) ∧ (decode cX12_days 181 = .ok (.istore 9, 2)) ∧ (decode cX12_days 183 = .ok (.iload 9, 2)) ∧ (decode cX12_days 193 = .ok (.iload 9, 2)) := by decide +kernel
theorem dX12_days_81 : decode cX12_days 81 = .ok (.iload 8, 2) := zb_X12_days_81.1
theorem dX12_days_126 : decode cX12_days 126 = .ok (.istore 9, 2) := zb_X12_days_81.2.1
theorem dX12_days_128 : decode cX12_days 128 = .ok (.iload 9, 2) := zb_X12_days_81.2.2.1
theorem dX12_days_169 : decode cX12_days 169 = .ok (.iload 8, 2) := zb_X12_days_81.2.2.2.1
theorem dX12_days_171 : decode cX12_days 171 = .ok (.iload 5, 2) := zb_X12_days_81.2.2.2.2.1
theorem dX12_days_209 : decode cX12_days 209 = .ok (.iinc 6 1, 3) := zb_X12_days_81.2.2.2.2.2.1
theorem dX12_days_176 : decode cX12_days 176 = .ok (.iload 8, 2) := zb_X12_days_81.2.2.2.2.2.2.1
theorem dX12_days_178 : decode cX12_days 178 = .ok (.istore 5, 2) := zb_X12_days_81.2.2.2.2.2.2.2.1
theorem dX12_days_181 : decode cX12_days 181 = .ok (.istore 9, 2) := zb_X12_days_81.2.2.2.2.2.2.2.2.1
theorem dX12_days_183 : decode cX12_days 183 = .ok (.iload 9, 2) := zb_X12_days_81.2.2.2.2.2.2.2.2.2.1
theorem dX12_days_193 : decode cX12_days 193 = .ok (.iload 9, 2) := zb_X12_days_81.2.2.2.2.2.2.2.2.2.2
theorem zb_X12_days_199 : (decode cX12_days 199 = .ok (.iload 9, 2)) ∧ (decode cX12_days 203 = .ok (.iinc 9 1, 3)) ∧ (decode cX12_days 138 = .ok (.iload 9, 2)) ∧ (decode cX12_days 145 = .ok (.istore 10, 2)) ∧ (decode cX12_days 147 = .ok (.iload 10, 2)) ∧ (decode cX12_days 149 = .ok (.iload 8, 2)) ∧ (decode cX12_days 159 = .ok (.iload 8, 2)) ∧ (decode cX12_days 161 = .ok (.istore 8, 2)) ∧ (decode cX12_days 163 = .ok (.iinc 9 1, 3)) ∧ (decode cX12_days 154 = .ok (.iload 10, 2)) ∧ (decode cX12_days 123 = .ok (.istore 8, 2)) := by decide +kernel
theorem dX12_days_199 : decode cX12_days 199 = .ok (.iload 9, 2) := zb_X12_days_199.1
theorem dX12_days_203 : decode cX12_days 203 = .ok (.iinc 9 1, 3) := zb_X12_days_199.2.1
theorem dX12_days_138 : decode cX12_days 138 = .ok (.iload 9, 2) := zb_X12_days_199.2.2.1
theorem dX12_days_145 : decode cX12_days 145 = .ok (.istore 10, 2) := zb_X12_days_199.2.2.2.1
theorem dX12_days_147 : decode cX12_days 147 = .ok (.iload 10, 2) := zb_X12_days_199.2.2.2.2.1
theorem dX12_days_149 : decode cX12_days 149 = .ok (.iload 8, 2) := zb_X12_days_199.2.2.2.2.2.1
theorem dX12_days_159 : decode cX12_days 159 = .ok (.iload 8, 2) := zb_X12_days_199.2.2.2.2.2.2.1
theorem dX12_days_161 : decode cX12_days 161 = .ok (.istore 8, 2) := zb_X12_days_199.2.2.2.2.2.2.2.1
theorem dX12_days_163 : decode cX12_days 163 = .ok (.iinc 9 1, 3) := zb_X12_days_199.2.2.2.2.2.2.2.2.1
theorem dX12_days_154 : decode cX12_days 154 = .ok (.iload 10, 2) := zb_X12_days_199.2.2.2.2.2.2.2.2.2.1
theorem dX12_days_123 : decode cX12_days 123 = .ok (.istore 8, 2) := zb_X12_days_199.2.2.2.2.2.2.2.2.2.2
theorem zb_X12_days_90 : (decode cX12_days 90 = .ok (.iload 8, 2)) ∧ (decode cX12_days 92 = .ok (.iload 7, 2)) ∧ (decode cX12_days 95 = .ok (.irem, 1)) ∧ (decode cX12_days 97 = .ok (.iload 7, 2)) ∧ (decode cX12_days 100 = .ok (.idiv, 1)) ∧ (decode cX12_days 101 = .ok (.istore 7, 2)) ∧ (decode cX12_days 103 = .ok (.iinc 8 (-1), 3)) ∧ (decode cX12_days 47 = .ok (.iload 4, 2)) ∧ (decode cX12_days 50 = .ok (.imul, 1)) ∧ (decode cX12_days 51 = .ok (.istore 4, 2)) ∧ (decode cX12_days 53 = .ok (.iinc 5 1, 3)) := by decide +kernel
theorem dX12_days_90 : decode cX12_days 90 = .ok (.iload 8, 2) := zb_X12_days_90.1
theorem dX12_days_92 : decode cX12_days 92 = .ok (.iload 7, 2) := zb_X12_days_90.2.1
theorem dX12_days_95 : decode cX12_days 95 = .ok (.irem, 1) := zb_X12_days_90.2.2.1
theorem dX12_days_97 : decode cX12_days 97 = .ok (.iload 7, 2) := zb_X12_days_90.2.2.2.1
theorem dX12_days_100 : decode cX12_days 100 = .ok (.idiv, 1) := zb_X12_days_90.2.2.2.2.1
theorem dX12_days_101 : decode cX12_days 101 = .ok (.istore 7, 2) := zb_X12_days_90.2.2.2.2.2.1
theorem dX12_days_103 : decode cX12_days 103 = .ok (.iinc 8 (-1), 3) := zb_X12_days_90.2.2.2.2.2.2.1
theorem dX12_days_47 : decode cX12_days 47 = .ok (.iload 4, 2) := zb_X12_days_90.2.2.2.2.2.2.2.1
theorem dX12_days_50 : decode cX12_days 50 = .ok (.imul, 1) := zb_X12_days_90.2.2.2.2.2.2.2.2.1
theorem dX12_days_51 : decode cX12_days 51 = .ok (.istore 4, 2) := zb_X12_days_90.2.2.2.2.2.2.2.2.2.1
theorem dX12_days_53 : decode cX12_days 53 = .ok (.iinc 5 1, 3) := zb_X12_days_90.2.2.2.2.2.2.2.2.2.2
theorem zb_X12_sheet_0 : (decode cX12_sheet 0 = .ok (.iload_n 1, 1)) ∧ (decode cX12_sheet 1 = .ok (.invokestatic 457, 3)) ∧ (decode cX12_sheet 4 = .ok (.ifCond .eq 22, 3)) ∧ (decode cX12_sheet 7 = .ok (.iload_n 2, 1)) ∧ (decode cX12_sheet 8 = .ok (.iconst (-1), 1)) ∧ (decode cX12_sheet 9 = .ok (.iconst 2, 1)) ∧ (decode cX12_sheet 10 = .ok (.invokestatic 186, 3)) ∧ (decode cX12_sheet 13 = .ok (.ifCond .eq 13, 3)) ∧ (decode cX12_sheet 16 = .ok (.iload_n 2, 1)) ∧ (decode cX12_sheet 17 = .ok (.ifCond .lt 12, 3)) ∧ (decode cX12_sheet 29 = .ok (.iload_n 2, 1)) := by decide +kernel
theorem dX12_sheet_0 : decode cX12_sheet 0 = .ok (.iload_n 1, 1) := zb_X12_sheet_0.1
theorem dX12_sheet_1 : decode cX12_sheet 1 = .ok (.invokestatic 457, 3) := zb_X12_sheet_0.2.1
theorem dX12_sheet_4 : decode cX12_sheet 4 = .ok (.ifCond .eq 22, 3) := zb_X12_sheet_0.2.2.1
theorem dX12_sheet_7 : decode cX12_sheet 7 = .ok (.iload_n 2, 1) := zb_X12_sheet_0.2.2.2.1
theorem dX12_sheet_8 : decode cX12_sheet 8 = .ok (.iconst (-1), 1) := zb_X12_sheet_0.2.2.2.2.1
theorem dX12_sheet_9 : decode cX12_sheet 9 = .ok (.iconst 2, 1) := zb_X12_sheet_0.2.2.2.2.2.1
theorem dX12_sheet_10 : decode cX12_sheet 10 = .ok (.invokestatic 186, 3) := zb_X12_sheet_0.2.2.2.2.2.2.1
theorem dX12_sheet_13 : decode cX12_sheet 13 = .ok (.ifCond .eq 13, 3) := zb_X12_sheet_0.2.2.2.2.2.2.2.1
theorem dX12_sheet_16 : decode cX12_sheet 16 = .ok (.iload_n 2, 1) := zb_X12_sheet_0.2.2.2.2.2.2.2.2.1
theorem dX12_sheet_17 : decode cX12_sheet 17 = .ok (.ifCond .lt 12, 3) := zb_X12_sheet_0.2.2.2.2.2.2.2.2.2.1
theorem dX12_sheet_29 : decode cX12_sheet 29 = .ok (.iload_n 2, 1) := zb_X12_sheet_0.2.2.2.2.2.2.2.2.2.2
theorem zb_X12_sheet_30 : (decode cX12_sheet 30 = .ok (.ifCond .lt 10, 3)) ∧ (decode cX12_sheet 40 = .ok (.aload_n 0, 1)) ∧ (decode cX12_sheet 41 = .ok (.getfield 158, 3)) ∧ (decode cX12_sheet 44 = .ok (.iload_n 1, 1)) ∧ (decode cX12_sheet 45 = .ok (.iload_n 2, 1)) ∧ (decode cX12_sheet 46 = .ok (.iastore, 1)) ∧ (decode cX12_sheet 47 = .ok (.aload_n 0, 1)) ∧ (decode cX12_sheet 48 = .ok (.getfield 161, 3)) ∧ (decode cX12_sheet 51 = .ok (.iload_n 1, 1)) ∧ (decode cX12_sheet 52 = .ok (.iload_n 2, 1)) ∧ (decode cX12_sheet 53 = .ok (.ifCond .ge 7, 3)) := by decide +kernel
theorem dX12_sheet_30 : decode cX12_sheet 30 = .ok (.ifCond .lt 10, 3) := zb_X12_sheet_30.1
theorem dX12_sheet_40 : decode cX12_sheet 40 = .ok (.aload_n 0, 1) := zb_X12_sheet_30.2.1
theorem dX12_sheet_41 : decode cX12_sheet 41 = .ok (.getfield 158, 3) := zb_X12_sheet_30.2.2.1
theorem dX12_sheet_44 : decode cX12_sheet 44 = .ok (.iload_n 1, 1) := zb_X12_sheet_30.2.2.2.1
theorem dX12_sheet_45 : decode cX12_sheet 45 = .ok (.iload_n 2, 1) := zb_X12_sheet_30.2.2.2.2.1
theorem dX12_sheet_46 : decode cX12_sheet 46 = .ok (.iastore, 1) := zb_X12_sheet_30.2.2.2.2.2.1
theorem dX12_sheet_47 : decode cX12_sheet 47 = .ok (.aload_n 0, 1) := zb_X12_sheet_30.2.2.2.2.2.2.1
theorem dX12_sheet_48 : decode cX12_sheet 48 = .ok (.getfield 161, 3) := zb_X12_sheet_30.2.2.2.2.2.2.2.1
theorem dX12_sheet_51 : decode cX12_sheet 51 = .ok (.iload_n 1, 1) := zb_X12_sheet_30.2.2.2.2.2.2.2.2.1
theorem dX12_sheet_52 : decode cX12_sheet 52 = .ok (.iload_n 2, 1) := zb_X12_sheet_30.2.2.2.2.2.2.2.2.2.1
theorem dX12_sheet_53 : decode cX12_sheet 53 = .ok (.ifCond .ge 7, 3) := zb_X12_sheet_30.2.2.2.2.2.2.2.2.2.2
theorem zb_X12_sheet_56 : (decode cX12_sheet 56 = .ok (.iconst 0, 1)) ∧ (decode cX12_sheet 57 = .ok (.goto 4, 3)) ∧ (decode cX12_sheet 61 = .ok (.iastore, 1)) ∧ (decode cX12_sheet 62 = .ok (.bipush 40, 2)) ∧ (decode cX12_sheet 64 = .ok (.iload_n 1, 1)) ∧ (decode cX12_sheet 65 = .ok (.imul, 1)) ∧ (decode cX12_sheet 66 = .ok (.istore 4, 2)) ∧ (decode cX12_sheet 68 = .ok (.iload 4, 2)) ∧ (decode cX12_sheet 70 = .ok (.bipush 40, 2)) ∧ (decode cX12_sheet 72 = .ok (.iload_n 1, 1)) ∧ (decode cX12_sheet 73 = .ok (.imul, 1)) := by decide +kernel
theorem dX12_sheet_56 : decode cX12_sheet 56 = .ok (.iconst 0, 1) := zb_X12_sheet_56.1
theorem dX12_sheet_57 : decode cX12_sheet 57 = .ok (.goto 4, 3) := zb_X12_sheet_56.2.1
theorem dX12_sheet_61 : decode cX12_sheet 61 = .ok (.iastore, 1) := zb_X12_sheet_56.2.2.1
theorem dX12_sheet_62 : decode cX12_sheet 62 = .ok (.bipush 40, 2) := zb_X12_sheet_56.2.2.2.1
theorem dX12_sheet_64 : decode cX12_sheet 64 = .ok (.iload_n 1, 1) := zb_X12_sheet_56.2.2.2.2.1
theorem dX12_sheet_65 : decode cX12_sheet 65 = .ok (.imul, 1) := zb_X12_sheet_56.2.2.2.2.2.1
theorem dX12_sheet_66 : decode cX12_sheet 66 = .ok (.istore 4, 2) := zb_X12_sheet_56.2.2.2.2.2.2.1
theorem dX12_sheet_68 : decode cX12_sheet 68 = .ok (.iload 4, 2) := zb_X12_sheet_56.2.2.2.2.2.2.2.1
theorem dX12_sheet_70 : decode cX12_sheet 70 = .ok (.bipush 40, 2) := zb_X12_sheet_56.2.2.2.2.2.2.2.2.1
theorem dX12_sheet_72 : decode cX12_sheet 72 = .ok (.iload_n 1, 1) := zb_X12_sheet_56.2.2.2.2.2.2.2.2.2.1
theorem dX12_sheet_73 : decode cX12_sheet 73 = .ok (.imul, 1) := zb_X12_sheet_56.2.2.2.2.2.2.2.2.2.2
theorem zb_X12_sheet_74 : (decode cX12_sheet 74 = .ok (.bipush 40, 2)) ∧ (decode cX12_sheet 76 = .ok (.iadd, 1)) ∧ (decode cX12_sheet 77 = .ok (.if_icmp .ge 17, 3)) ∧ (decode cX12_sheet 94 = .ok (.iconst 1, 1)) ∧ (decode cX12_sheet 95 = .ok (.ireturn, 1)) ∧ (decode cX12_sheet 80 = .ok (.aload_n 0, 1)) ∧ (decode cX12_sheet 81 = .ok (.getfield 164, 3)) ∧ (decode cX12_sheet 84 = .ok (.iload 4, 2)) ∧ (decode cX12_sheet 86 = .ok (.iconst 0, 1)) ∧ (decode cX12_sheet 87 = .ok (.iastore, 1)) ∧ (decode cX12_sheet 88 = .ok (.iinc 4 1, 3)) := by decide +kernel
theorem dX12_sheet_74 : decode cX12_sheet 74 = .ok (.bipush 40, 2) := zb_X12_sheet_74.1
theorem dX12_sheet_76 : decode cX12_sheet 76 = .ok (.iadd, 1) := zb_X12_sheet_74.2.1
theorem dX12_sheet_77 : decode cX12_sheet 77 = .ok (.if_icmp .ge 17, 3) := zb_X12_sheet_74.2.2.1
theorem dX12_sheet_94 : decode cX12_sheet 94 = .ok (.iconst 1, 1) := zb_X12_sheet_74.2.2.2.1
theorem dX12_sheet_95 : decode cX12_sheet 95 = .ok (.ireturn, 1) := zb_X12_sheet_74.2.2.2.2.1
theorem dX12_sheet_80 : decode cX12_sheet 80 = .ok (.aload_n 0, 1) := zb_X12_sheet_74.2.2.2.2.2.1
theorem dX12_sheet_81 : decode cX12_sheet 81 = .ok (.getfield 164, 3) := zb_X12_sheet_74.2.2.2.2.2.2.1
theorem dX12_sheet_84 : decode cX12_sheet 84 = .ok (.iload 4, 2) := zb_X12_sheet_74.2.2.2.2.2.2.2.1
theorem dX12_sheet_86 : decode cX12_sheet 86 = .ok (.iconst 0, 1) := zb_X12_sheet_74.2.2.2.2.2.2.2.2.1
theorem dX12_sheet_87 : decode cX12_sheet 87 = .ok (.iastore, 1) := zb_X12_sheet_74.2.2.2.2.2.2.2.2.2.1
theorem dX12_sheet_88 : decode cX12_sheet 88 = .ok (.iinc 4 1, 3) := zb_X12_sheet_74.2.2.2.2.2.2.2.2.2.2
theorem zb_X12_sheet_91 : (decode cX12_sheet 91 = .ok (.goto (-23), 3)) ∧ (decode cX12_sheet 20 = .ok (.iload_n 3, 1)) ∧ (decode cX12_sheet 21 = .ok (.bipush 40, 2)) ∧ (decode cX12_sheet 23 = .ok (.if_icmp .le 6, 3)) ∧ (decode cX12_sheet 33 = .ok (.iload_n 3, 1)) ∧ (decode cX12_sheet 34 = .ok (.ifCond .ge 6, 3)) ∧ (decode cX12_sheet 60 = .ok (.iload_n 3, 1)) ∧ (decode cX12_sheet 37 = .ok (.bipush (-14), 2)) ∧ (decode cX12_sheet 39 = .ok (.ireturn, 1)) ∧ (decode cX12_sheet 26 = .ok (.bipush (-2), 2)) ∧ (decode cX12_sheet 28 = .ok (.ireturn, 1)) := by decide +kernel
theorem dX12_sheet_91 : decode cX12_sheet 91 = .ok (.goto (-23), 3) := zb_X12_sheet_91.1
theorem dX12_sheet_20 : decode cX12_sheet 20 = .ok (.iload_n 3, 1) := zb_X12_sheet_91.2.1
theorem dX12_sheet_21 : decode cX12_sheet 21 = .ok (.bipush 40, 2) := zb_X12_sheet_91.2.2.1
theorem dX12_sheet_23 : decode cX12_sheet 23 = .ok (.if_icmp .le 6, 3) := zb_X12_sheet_91.2.2.2.1
theorem dX12_sheet_33 : decode cX12_sheet 33 = .ok (.iload_n 3, 1) := zb_X12_sheet_91.2.2.2.2.1
theorem dX12_sheet_34 : decode cX12_sheet 34 = .ok (.ifCond .ge 6, 3) := zb_X12_sheet_91.2.2.2.2.2.1
theorem dX12_sheet_60 : decode cX12_sheet 60 = .ok (.iload_n 3, 1) := zb_X12_sheet_91.2.2.2.2.2.2.1
theorem dX12_sheet_37 : decode cX12_sheet 37 = .ok (.bipush (-14), 2) := zb_X12_sheet_91.2.2.2.2.2.2.2.1
theorem dX12_sheet_39 : decode cX12_sheet 39 = .ok (.ireturn, 1) := zb_X12_sheet_91.2.2.2.2.2.2.2.2.1
theorem dX12_sheet_26 : decode cX12_sheet 26 = .ok (.bipush (-2), 2) := zb_X12_sheet_91.2.2.2.2.2.2.2.2.2.1
theorem dX12_sheet_28 : decode cX12_sheet 28 = .ok (.ireturn, 1) := zb_X12_sheet_91.2.2.2.2.2.2.2.2.2.2
theorem zb_X12_cell_0 : (decode cX12_cell 0 = .ok (.iload_n 1, 1)) ∧ (decode cX12_cell 1 = .ok (.invokestatic 457, 3)) ∧ (decode cX12_cell 4 = .ok (.ifCond .ne 6, 3)) ∧ (decode cX12_cell 10 = .ok (.aload_n 0, 1)) ∧ (decode cX12_cell 11 = .ok (.getfield 158, 3)) ∧ (decode cX12_cell 14 = .ok (.iload_n 1, 1)) ∧ (decode cX12_cell 15 = .ok (.iaload, 1)) ∧ (decode cX12_cell 16 = .ok (.ifCond .ge 6, 3)) ∧ (decode cX12_cell 22 = .ok (.aload_n 0, 1)) ∧ (decode cX12_cell 23 = .ok (.iload_n 1, 1)) ∧ (decode cX12_cell 24 = .ok (.iload_n 2, 1)) ∧ (decode cX12_cell 25 = .ok (.i2l, 1)) := by decide +kernel
theorem dX12_cell_0 : decode cX12_cell 0 = .ok (.iload_n 1, 1) := zb_X12_cell_0.1
theorem dX12_cell_1 : decode cX12_cell 1 = .ok (.invokestatic 457, 3) := zb_X12_cell_0.2.1
theorem dX12_cell_4 : decode cX12_cell 4 = .ok (.ifCond .ne 6, 3) := zb_X12_cell_0.2.2.1
theorem dX12_cell_10 : decode cX12_cell 10 = .ok (.aload_n 0, 1) := zb_X12_cell_0.2.2.2.1
theorem dX12_cell_11 : decode cX12_cell 11 = .ok (.getfield 158, 3) := zb_X12_cell_0.2.2.2.2.1
theorem dX12_cell_14 : decode cX12_cell 14 = .ok (.iload_n 1, 1) := zb_X12_cell_0.2.2.2.2.2.1
theorem dX12_cell_15 : decode cX12_cell 15 = .ok (.iaload, 1) := zb_X12_cell_0.2.2.2.2.2.2.1
theorem dX12_cell_16 : decode cX12_cell 16 = .ok (.ifCond .ge 6, 3) := zb_X12_cell_0.2.2.2.2.2.2.2.1
theorem dX12_cell_22 : decode cX12_cell 22 = .ok (.aload_n 0, 1) := zb_X12_cell_0.2.2.2.2.2.2.2.2.1
theorem dX12_cell_23 : decode cX12_cell 23 = .ok (.iload_n 1, 1) := zb_X12_cell_0.2.2.2.2.2.2.2.2.2.1
theorem dX12_cell_24 : decode cX12_cell 24 = .ok (.iload_n 2, 1) := zb_X12_cell_0.2.2.2.2.2.2.2.2.2.2.1
theorem dX12_cell_25 : decode cX12_cell 25 = .ok (.i2l, 1) := zb_X12_cell_0.2.2.2.2.2.2.2.2.2.2.2
theorem zb_X12_cell_26 : (decode cX12_cell 26 = .ok (.invokevirtual 460, 3)) ∧ (decode cX12_cell 29 = .ok (.ifCond .ne 6, 3)) ∧ (decode cX12_cell 35 = .ok (.aload_n 0, 1)) ∧ (decode cX12_cell 36 = .ok (.getfield 164, 3)) ∧ (decode cX12_cell 39 = .ok (.bipush 40, 2)) ∧ (decode cX12_cell 41 = .ok (.iload_n 1, 1)) ∧ (decode cX12_cell 42 = .ok (.imul, 1)) ∧ (decode cX12_cell 43 = .ok (.iload_n 2, 1)) ∧ (decode cX12_cell 44 = .ok (.iadd, 1)) ∧ (decode cX12_cell 45 = .ok (.aload_n 0, 1)) ∧ (decode cX12_cell 46 = .ok (.getfield 158, 3)) ∧ (decode cX12_cell 49 = .ok (.iload_n 1, 1)) := by decide +kernel
theorem dX12_cell_26 : decode cX12_cell 26 = .ok (.invokevirtual 460, 3) := zb_X12_cell_26.1
theorem dX12_cell_29 : decode cX12_cell 29 = .ok (.ifCond .ne 6, 3) := zb_X12_cell_26.2.1
theorem dX12_cell_35 : decode cX12_cell 35 = .ok (.aload_n 0, 1) := zb_X12_cell_26.2.2.1
theorem dX12_cell_36 : decode cX12_cell 36 = .ok (.getfield 164, 3) := zb_X12_cell_26.2.2.2.1
theorem dX12_cell_39 : decode cX12_cell 39 = .ok (.bipush 40, 2) := zb_X12_cell_26.2.2.2.2.1
theorem dX12_cell_41 : decode cX12_cell 41 = .ok (.iload_n 1, 1) := zb_X12_cell_26.2.2.2.2.2.1
theorem dX12_cell_42 : decode cX12_cell 42 = .ok (.imul, 1) := zb_X12_cell_26.2.2.2.2.2.2.1
theorem dX12_cell_43 : decode cX12_cell 43 = .ok (.iload_n 2, 1) := zb_X12_cell_26.2.2.2.2.2.2.2.1
theorem dX12_cell_44 : decode cX12_cell 44 = .ok (.iadd, 1) := zb_X12_cell_26.2.2.2.2.2.2.2.2.1
theorem dX12_cell_45 : decode cX12_cell 45 = .ok (.aload_n 0, 1) := zb_X12_cell_26.2.2.2.2.2.2.2.2.2.1
theorem dX12_cell_46 : decode cX12_cell 46 = .ok (.getfield 158, 3) := zb_X12_cell_26.2.2.2.2.2.2.2.2.2.2.1
theorem dX12_cell_49 : decode cX12_cell 49 = .ok (.iload_n 1, 1) := zb_X12_cell_26.2.2.2.2.2.2.2.2.2.2.2
theorem zb_X12_cell_50 : (decode cX12_cell 50 = .ok (.iaload, 1)) ∧ (decode cX12_cell 51 = .ok (.ifCond .ne 8, 3)) ∧ (decode cX12_cell 59 = .ok (.aload_n 0, 1)) ∧ (decode cX12_cell 60 = .ok (.getfield 158, 3)) ∧ (decode cX12_cell 63 = .ok (.iload_n 1, 1)) ∧ (decode cX12_cell 64 = .ok (.iaload, 1)) ∧ (decode cX12_cell 65 = .ok (.iconst 1, 1)) ∧ (decode cX12_cell 66 = .ok (.if_icmp .ne 8, 3)) ∧ (decode cX12_cell 74 = .ok (.iload_n 3, 1)) ∧ (decode cX12_cell 75 = .ok (.iastore, 1)) ∧ (decode cX12_cell 76 = .ok (.iconst 1, 1)) ∧ (decode cX12_cell 77 = .ok (.ireturn, 1)) := by decide +kernel
theorem dX12_cell_50 : decode cX12_cell 50 = .ok (.iaload, 1) := zb_X12_cell_50.1
theorem dX12_cell_51 : decode cX12_cell 51 = .ok (.ifCond .ne 8, 3) := zb_X12_cell_50.2.1
theorem dX12_cell_59 : decode cX12_cell 59 = .ok (.aload_n 0, 1) := zb_X12_cell_50.2.2.1
theorem dX12_cell_60 : decode cX12_cell 60 = .ok (.getfield 158, 3) := zb_X12_cell_50.2.2.2.1
theorem dX12_cell_63 : decode cX12_cell 63 = .ok (.iload_n 1, 1) := zb_X12_cell_50.2.2.2.2.1
theorem dX12_cell_64 : decode cX12_cell 64 = .ok (.iaload, 1) := zb_X12_cell_50.2.2.2.2.2.1
theorem dX12_cell_65 : decode cX12_cell 65 = .ok (.iconst 1, 1) := zb_X12_cell_50.2.2.2.2.2.2.1
theorem dX12_cell_66 : decode cX12_cell 66 = .ok (.if_icmp .ne 8, 3) := zb_X12_cell_50.2.2.2.2.2.2.2.1
theorem dX12_cell_74 : decode cX12_cell 74 = .ok (.iload_n 3, 1) := zb_X12_cell_50.2.2.2.2.2.2.2.2.1
theorem dX12_cell_75 : decode cX12_cell 75 = .ok (.iastore, 1) := zb_X12_cell_50.2.2.2.2.2.2.2.2.2.1
theorem dX12_cell_76 : decode cX12_cell 76 = .ok (.iconst 1, 1) := zb_X12_cell_50.2.2.2.2.2.2.2.2.2.2.1
theorem dX12_cell_77 : decode cX12_cell 77 = .ok (.ireturn, 1) := zb_X12_cell_50.2.2.2.2.2.2.2.2.2.2.2
theorem zb_X12_cell_69 : (decode cX12_cell 69 = .ok (.iload_n 3, 1)) ∧ (decode cX12_cell 70 = .ok (.i2s, 1)) ∧ (decode cX12_cell 71 = .ok (.goto 4, 3)) ∧ (decode cX12_cell 54 = .ok (.iload_n 3, 1)) ∧ (decode cX12_cell 55 = .ok (.i2b, 1)) ∧ (decode cX12_cell 56 = .ok (.goto 19, 3)) ∧ (decode cX12_cell 32 = .ok (.bipush (-12), 2)) ∧ (decode cX12_cell 34 = .ok (.ireturn, 1)) ∧ (decode cX12_cell 19 = .ok (.bipush (-11), 2)) ∧ (decode cX12_cell 21 = .ok (.ireturn, 1)) ∧ (decode cX12_cell 7 = .ok (.bipush (-2), 2)) ∧ (decode cX12_cell 9 = .ok (.ireturn, 1)) := by decide +kernel
theorem dX12_cell_69 : decode cX12_cell 69 = .ok (.iload_n 3, 1) := zb_X12_cell_69.1
theorem dX12_cell_70 : decode cX12_cell 70 = .ok (.i2s, 1) := zb_X12_cell_69.2.1
theorem dX12_cell_71 : decode cX12_cell 71 = .ok (.goto 4, 3) := zb_X12_cell_69.2.2.1
theorem dX12_cell_54 : decode cX12_cell 54 = .ok (.iload_n 3, 1) := zb_X12_cell_69.2.2.2.1
theorem dX12_cell_55 : decode cX12_cell 55 = .ok (.i2b, 1) := zb_X12_cell_69.2.2.2.2.1
theorem dX12_cell_56 : decode cX12_cell 56 = .ok (.goto 19, 3) := zb_X12_cell_69.2.2.2.2.2.1
theorem dX12_cell_32 : decode cX12_cell 32 = .ok (.bipush (-12), 2) := zb_X12_cell_69.2.2.2.2.2.2.1
theorem dX12_cell_34 : decode cX12_cell 34 = .ok (.ireturn, 1) := zb_X12_cell_69.2.2.2.2.2.2.2.1
theorem dX12_cell_19 : decode cX12_cell 19 = .ok (.bipush (-11), 2) := zb_X12_cell_69.2.2.2.2.2.2.2.2.1
theorem dX12_cell_21 : decode cX12_cell 21 = .ok (.ireturn, 1) := zb_X12_cell_69.2.2.2.2.2.2.2.2.2.1
theorem dX12_cell_7 : decode cX12_cell 7 = .ok (.bipush (-2), 2) := zb_X12_cell_69.2.2.2.2.2.2.2.2.2.2.1
theorem dX12_cell_9 : decode cX12_cell 9 = .ok (.ireturn, 1) := zb_X12_cell_69.2.2.2.2.2.2.2.2.2.2.2
theorem zb_X12_copy_56 : (decode cX12_copy 56 = .ok (.iload 5, 2)) ∧ (decode cX12_copy 65 = .ok (.iload 4, 2)) ∧ (decode cX12_copy 77 = .ok (.iload 5, 2)) ∧ (decode cX12_copy 83 = .ok (.iload 4, 2)) ∧ (decode cX12_copy 91 = .ok (.iload 5, 2)) ∧ (decode cX12_copy 101 = .ok (.istore 6, 2)) ∧ (decode cX12_copy 103 = .ok (.iload 6, 2)) ∧ (decode cX12_copy 105 = .ok (.iload 5, 2)) ∧ (decode cX12_copy 138 = .ok (.istore 6, 2)) ∧ (decode cX12_copy 140 = .ok (.iload 6, 2)) ∧ (decode cX12_copy 142 = .ok (.iload 5, 2)) := by decide +kernel
theorem dX12_copy_56 : decode cX12_copy 56 = .ok (.iload 5, 2) := zb_X12_copy_56.1
theorem dX12_copy_65 : decode cX12_copy 65 = .ok (.iload 4, 2) := zb_X12_copy_56.2.1
theorem dX12_copy_77 : decode cX12_copy 77 = .ok (.iload 5, 2) := zb_X12_copy_56.2.2.1
theorem dX12_copy_83 : decode cX12_copy 83 = .ok (.iload 4, 2) := zb_X12_copy_56.2.2.2.1
theorem dX12_copy_91 : decode cX12_copy 91 = .ok (.iload 5, 2) := zb_X12_copy_56.2.2.2.2.1
theorem dX12_copy_101 : decode cX12_copy 101 = .ok (.istore 6, 2) := zb_X12_copy_56.2.2.2.2.2.1
theorem dX12_copy_103 : decode cX12_copy 103 = .ok (.iload 6, 2) := zb_X12_copy_56.2.2.2.2.2.2.1
theorem dX12_copy_105 : decode cX12_copy 105 = .ok (.iload 5, 2) := zb_X12_copy_56.2.2.2.2.2.2.2.1
theorem dX12_copy_138 : decode cX12_copy 138 = .ok (.istore 6, 2) := zb_X12_copy_56.2.2.2.2.2.2.2.2.1
theorem dX12_copy_140 : decode cX12_copy 140 = .ok (.iload 6, 2) := zb_X12_copy_56.2.2.2.2.2.2.2.2.2.1
theorem dX12_copy_142 : decode cX12_copy 142 = .ok (.iload 5, 2) := zb_X12_copy_56.2.2.2.2.2.2.2.2.2.2
theorem zb_X12_copy_175 : (decode cX12_copy 175 = .ok (.iload 5, 2)) ∧ (decode cX12_copy 154 = .ok (.imul, 1)) ∧ (decode cX12_copy 155 = .ok (.iload 4, 2)) ∧ (decode cX12_copy 158 = .ok (.iload 6, 2)) ∧ (decode cX12_copy 165 = .ok (.iload 6, 2)) ∧ (decode cX12_copy 169 = .ok (.iinc 6 1, 3)) ∧ (decode cX12_copy 114 = .ok (.iload 6, 2)) ∧ (decode cX12_copy 123 = .ok (.imul, 1)) ∧ (decode cX12_copy 126 = .ok (.iload 6, 2)) ∧ (decode cX12_copy 131 = .ok (.iinc 6 1, 3)) := by decide +kernel
theorem dX12_copy_175 : decode cX12_copy 175 = .ok (.iload 5, 2) := zb_X12_copy_175.1
theorem dX12_copy_154 : decode cX12_copy 154 = .ok (.imul, 1) := zb_X12_copy_175.2.1
theorem dX12_copy_155 : decode cX12_copy 155 = .ok (.iload 4, 2) := zb_X12_copy_175.2.2.1
theorem dX12_copy_158 : decode cX12_copy 158 = .ok (.iload 6, 2) := zb_X12_copy_175.2.2.2.1
theorem dX12_copy_165 : decode cX12_copy 165 = .ok (.iload 6, 2) := zb_X12_copy_175.2.2.2.2.1
theorem dX12_copy_169 : decode cX12_copy 169 = .ok (.iinc 6 1, 3) := zb_X12_copy_175.2.2.2.2.2.1
theorem dX12_copy_114 : decode cX12_copy 114 = .ok (.iload 6, 2) := zb_X12_copy_175.2.2.2.2.2.2.1
theorem dX12_copy_123 : decode cX12_copy 123 = .ok (.imul, 1) := zb_X12_copy_175.2.2.2.2.2.2.2.1
theorem dX12_copy_126 : decode cX12_copy 126 = .ok (.iload 6, 2) := zb_X12_copy_175.2.2.2.2.2.2.2.2.1
theorem dX12_copy_131 : decode cX12_copy 131 = .ok (.iinc 6 1, 3) := zb_X12_copy_175.2.2.2.2.2.2.2.2.2
theorem zb_X12_fixes_24 : (decode cX12_fixes 24 = .ok (.iload 5, 2)) ∧ (decode cX12_fixes 64 = .ok (.istore 6, 2)) ∧ (decode cX12_fixes 67 = .ok (.istore 7, 2)) ∧ (decode cX12_fixes 69 = .ok (.iload 7, 2)) ∧ (decode cX12_fixes 71 = .ok (.iload 5, 2)) ∧ (decode cX12_fixes 202 = .ok (.iload 6, 2)) ∧ (decode cX12_fixes 76 = .ok (.iload 4, 2)) ∧ (decode cX12_fixes 82 = .ok (.iload 7, 2)) ∧ (decode cX12_fixes 85 = .ok (.lmul, 1)) ∧ (decode cX12_fixes 86 = .ok (.ladd, 1)) := by decide +kernel
theorem dX12_fixes_24 : decode cX12_fixes 24 = .ok (.iload 5, 2) := zb_X12_fixes_24.1
theorem dX12_fixes_64 : decode cX12_fixes 64 = .ok (.istore 6, 2) := zb_X12_fixes_24.2.1
theorem dX12_fixes_67 : decode cX12_fixes 67 = .ok (.istore 7, 2) := zb_X12_fixes_24.2.2.1
theorem dX12_fixes_69 : decode cX12_fixes 69 = .ok (.iload 7, 2) := zb_X12_fixes_24.2.2.2.1
theorem dX12_fixes_71 : decode cX12_fixes 71 = .ok (.iload 5, 2) := zb_X12_fixes_24.2.2.2.2.1
theorem dX12_fixes_202 : decode cX12_fixes 202 = .ok (.iload 6, 2) := zb_X12_fixes_24.2.2.2.2.2.1
theorem dX12_fixes_76 : decode cX12_fixes 76 = .ok (.iload 4, 2) := zb_X12_fixes_24.2.2.2.2.2.2.1
theorem dX12_fixes_82 : decode cX12_fixes 82 = .ok (.iload 7, 2) := zb_X12_fixes_24.2.2.2.2.2.2.2.1
theorem dX12_fixes_85 : decode cX12_fixes 85 = .ok (.lmul, 1) := zb_X12_fixes_24.2.2.2.2.2.2.2.2.1
theorem dX12_fixes_86 : decode cX12_fixes 86 = .ok (.ladd, 1) := zb_X12_fixes_24.2.2.2.2.2.2.2.2.2
theorem zb_X12_fixes_87 : (decode cX12_fixes 87 = .ok (.lstore 8, 2)) ∧ (decode cX12_fixes 91 = .ok (.lload 8, 2)) ∧ (decode cX12_fixes 101 = .ok (.lload 8, 2)) ∧ (decode cX12_fixes 104 = .ok (.ladd, 1)) ∧ (decode cX12_fixes 121 = .ok (.imul, 1)) ∧ (decode cX12_fixes 122 = .ok (.lload 8, 2)) ∧ (decode cX12_fixes 124 = .ok (.l2i, 1)) ∧ (decode cX12_fixes 127 = .ok (.istore 10, 2)) ∧ (decode cX12_fixes 136 = .ok (.imul, 1)) ∧ (decode cX12_fixes 137 = .ok (.lload 8, 2)) := by decide +kernel
theorem dX12_fixes_87 : decode cX12_fixes 87 = .ok (.lstore 8, 2) := zb_X12_fixes_87.1
theorem dX12_fixes_91 : decode cX12_fixes 91 = .ok (.lload 8, 2) := zb_X12_fixes_87.2.1
theorem dX12_fixes_101 : decode cX12_fixes 101 = .ok (.lload 8, 2) := zb_X12_fixes_87.2.2.1
theorem dX12_fixes_104 : decode cX12_fixes 104 = .ok (.ladd, 1) := zb_X12_fixes_87.2.2.2.1
theorem dX12_fixes_121 : decode cX12_fixes 121 = .ok (.imul, 1) := zb_X12_fixes_87.2.2.2.2.1
theorem dX12_fixes_122 : decode cX12_fixes 122 = .ok (.lload 8, 2) := zb_X12_fixes_87.2.2.2.2.2.1
theorem dX12_fixes_124 : decode cX12_fixes 124 = .ok (.l2i, 1) := zb_X12_fixes_87.2.2.2.2.2.2.1
theorem dX12_fixes_127 : decode cX12_fixes 127 = .ok (.istore 10, 2) := zb_X12_fixes_87.2.2.2.2.2.2.2.1
theorem dX12_fixes_136 : decode cX12_fixes 136 = .ok (.imul, 1) := zb_X12_fixes_87.2.2.2.2.2.2.2.2.1
theorem dX12_fixes_137 : decode cX12_fixes 137 = .ok (.lload 8, 2) := zb_X12_fixes_87.2.2.2.2.2.2.2.2.2
theorem zb_X12_fixes_139 : (decode cX12_fixes 139 = .ok (.l2i, 1)) ∧ (decode cX12_fixes 144 = .ok (.istore 11, 2)) ∧ (decode cX12_fixes 146 = .ok (.iload 10, 2)) ∧ (decode cX12_fixes 164 = .ok (.iload 11, 2)) ∧ (decode cX12_fixes 172 = .ok (.iload 6, 2)) ∧ (decode cX12_fixes 176 = .ok (.iload 10, 2)) ∧ (decode cX12_fixes 179 = .ok (.iload 11, 2)) ∧ (decode cX12_fixes 194 = .ok (.istore 6, 2)) ∧ (decode cX12_fixes 196 = .ok (.iinc 7 1, 3)) := by decide +kernel
theorem dX12_fixes_139 : decode cX12_fixes 139 = .ok (.l2i, 1) := zb_X12_fixes_139.1
theorem dX12_fixes_144 : decode cX12_fixes 144 = .ok (.istore 11, 2) := zb_X12_fixes_139.2.1
theorem dX12_fixes_146 : decode cX12_fixes 146 = .ok (.iload 10, 2) := zb_X12_fixes_139.2.2.1
theorem dX12_fixes_164 : decode cX12_fixes 164 = .ok (.iload 11, 2) := zb_X12_fixes_139.2.2.2.1
theorem dX12_fixes_172 : decode cX12_fixes 172 = .ok (.iload 6, 2) := zb_X12_fixes_139.2.2.2.2.1
theorem dX12_fixes_176 : decode cX12_fixes 176 = .ok (.iload 10, 2) := zb_X12_fixes_139.2.2.2.2.2.1
theorem dX12_fixes_179 : decode cX12_fixes 179 = .ok (.iload 11, 2) := zb_X12_fixes_139.2.2.2.2.2.2.1
theorem dX12_fixes_194 : decode cX12_fixes 194 = .ok (.istore 6, 2) := zb_X12_fixes_139.2.2.2.2.2.2.2.1
theorem dX12_fixes_196 : decode cX12_fixes 196 = .ok (.iinc 7 1, 3) := zb_X12_fixes_139.2.2.2.2.2.2.2.2
theorem zb_X12_taken_0 : (decode cX12_taken 0 = .ok (.iload_n 2, 1)) ∧ (decode cX12_taken 1 = .ok (.iconst 0, 1)) ∧ (decode cX12_taken 2 = .ok (.iconst 5, 1)) ∧ (decode cX12_taken 3 = .ok (.invokestatic 186, 3)) ∧ (decode cX12_taken 6 = .ok (.ifCond .ne 6, 3)) ∧ (decode cX12_taken 12 = .ok (.aload_n 0, 1)) ∧ (decode cX12_taken 13 = .ok (.iload_n 1, 1)) ∧ (decode cX12_taken 14 = .ok (.invokevirtual 193, 3)) ∧ (decode cX12_taken 17 = .ok (.ifCond .ne 6, 3)) ∧ (decode cX12_taken 23 = .ok (.iload_n 2, 1)) ∧ (decode cX12_taken 24 = .ok (.ifCond .eq 26, 3)) ∧ (decode cX12_taken 50 = .ok (.aload_n 0, 1)) := by decide +kernel
theorem dX12_taken_0 : decode cX12_taken 0 = .ok (.iload_n 2, 1) := zb_X12_taken_0.1
theorem dX12_taken_1 : decode cX12_taken 1 = .ok (.iconst 0, 1) := zb_X12_taken_0.2.1
theorem dX12_taken_2 : decode cX12_taken 2 = .ok (.iconst 5, 1) := zb_X12_taken_0.2.2.1
theorem dX12_taken_3 : decode cX12_taken 3 = .ok (.invokestatic 186, 3) := zb_X12_taken_0.2.2.2.1
theorem dX12_taken_6 : decode cX12_taken 6 = .ok (.ifCond .ne 6, 3) := zb_X12_taken_0.2.2.2.2.1
theorem dX12_taken_12 : decode cX12_taken 12 = .ok (.aload_n 0, 1) := zb_X12_taken_0.2.2.2.2.2.1
theorem dX12_taken_13 : decode cX12_taken 13 = .ok (.iload_n 1, 1) := zb_X12_taken_0.2.2.2.2.2.2.1
theorem dX12_taken_14 : decode cX12_taken 14 = .ok (.invokevirtual 193, 3) := zb_X12_taken_0.2.2.2.2.2.2.2.1
theorem dX12_taken_17 : decode cX12_taken 17 = .ok (.ifCond .ne 6, 3) := zb_X12_taken_0.2.2.2.2.2.2.2.2.1
theorem dX12_taken_23 : decode cX12_taken 23 = .ok (.iload_n 2, 1) := zb_X12_taken_0.2.2.2.2.2.2.2.2.2.1
theorem dX12_taken_24 : decode cX12_taken 24 = .ok (.ifCond .eq 26, 3) := zb_X12_taken_0.2.2.2.2.2.2.2.2.2.2.1
theorem dX12_taken_50 : decode cX12_taken 50 = .ok (.aload_n 0, 1) := zb_X12_taken_0.2.2.2.2.2.2.2.2.2.2.2
theorem zb_X12_taken_51 : (decode cX12_taken 51 = .ok (.getfield 37, 3)) ∧ (decode cX12_taken 54 = .ok (.iload_n 1, 1)) ∧ (decode cX12_taken 55 = .ok (.iaload, 1)) ∧ (decode cX12_taken 56 = .ok (.goto 5, 3)) ∧ (decode cX12_taken 61 = .ok (.ireturn, 1)) ∧ (decode cX12_taken 27 = .ok (.aload_n 0, 1)) ∧ (decode cX12_taken 28 = .ok (.getfield 28, 3)) ∧ (decode cX12_taken 31 = .ok (.iload_n 1, 1)) ∧ (decode cX12_taken 32 = .ok (.iaload, 1)) ∧ (decode cX12_taken 33 = .ok (.iload_n 2, 1)) ∧ (decode cX12_taken 34 = .ok (.if_icmp .eq 16, 3)) ∧ (decode cX12_taken 37 = .ok (.aload_n 0, 1)) := by decide +kernel
theorem dX12_taken_51 : decode cX12_taken 51 = .ok (.getfield 37, 3) := zb_X12_taken_51.1
theorem dX12_taken_54 : decode cX12_taken 54 = .ok (.iload_n 1, 1) := zb_X12_taken_51.2.1
theorem dX12_taken_55 : decode cX12_taken 55 = .ok (.iaload, 1) := zb_X12_taken_51.2.2.1
theorem dX12_taken_56 : decode cX12_taken 56 = .ok (.goto 5, 3) := zb_X12_taken_51.2.2.2.1
theorem dX12_taken_61 : decode cX12_taken 61 = .ok (.ireturn, 1) := zb_X12_taken_51.2.2.2.2.1
theorem dX12_taken_27 : decode cX12_taken 27 = .ok (.aload_n 0, 1) := zb_X12_taken_51.2.2.2.2.2.1
theorem dX12_taken_28 : decode cX12_taken 28 = .ok (.getfield 28, 3) := zb_X12_taken_51.2.2.2.2.2.2.1
theorem dX12_taken_31 : decode cX12_taken 31 = .ok (.iload_n 1, 1) := zb_X12_taken_51.2.2.2.2.2.2.2.1
theorem dX12_taken_32 : decode cX12_taken 32 = .ok (.iaload, 1) := zb_X12_taken_51.2.2.2.2.2.2.2.2.1
theorem dX12_taken_33 : decode cX12_taken 33 = .ok (.iload_n 2, 1) := zb_X12_taken_51.2.2.2.2.2.2.2.2.2.1
theorem dX12_taken_34 : decode cX12_taken 34 = .ok (.if_icmp .eq 16, 3) := zb_X12_taken_51.2.2.2.2.2.2.2.2.2.2.1
theorem dX12_taken_37 : decode cX12_taken 37 = .ok (.aload_n 0, 1) := zb_X12_taken_51.2.2.2.2.2.2.2.2.2.2.2
theorem zb_X12_taken_38 : (decode cX12_taken 38 = .ok (.getfield 28, 3)) ∧ (decode cX12_taken 41 = .ok (.iload_n 1, 1)) ∧ (decode cX12_taken 42 = .ok (.iaload, 1)) ∧ (decode cX12_taken 43 = .ok (.invokestatic 466, 3)) ∧ (decode cX12_taken 46 = .ok (.iload_n 2, 1)) ∧ (decode cX12_taken 47 = .ok (.if_icmp .ne 12, 3)) ∧ (decode cX12_taken 59 = .ok (.bipush (-13), 2)) ∧ (decode cX12_taken 20 = .ok (.bipush (-11), 2)) ∧ (decode cX12_taken 22 = .ok (.ireturn, 1)) ∧ (decode cX12_taken 9 = .ok (.bipush (-2), 2)) ∧ (decode cX12_taken 11 = .ok (.ireturn, 1)) := by decide +kernel
theorem dX12_taken_38 : decode cX12_taken 38 = .ok (.getfield 28, 3) := zb_X12_taken_38.1
theorem dX12_taken_41 : decode cX12_taken 41 = .ok (.iload_n 1, 1) := zb_X12_taken_38.2.1
theorem dX12_taken_42 : decode cX12_taken 42 = .ok (.iaload, 1) := zb_X12_taken_38.2.2.1
theorem dX12_taken_43 : decode cX12_taken 43 = .ok (.invokestatic 466, 3) := zb_X12_taken_38.2.2.2.1
theorem dX12_taken_46 : decode cX12_taken 46 = .ok (.iload_n 2, 1) := zb_X12_taken_38.2.2.2.2.1
theorem dX12_taken_47 : decode cX12_taken 47 = .ok (.if_icmp .ne 12, 3) := zb_X12_taken_38.2.2.2.2.2.1
theorem dX12_taken_59 : decode cX12_taken 59 = .ok (.bipush (-13), 2) := zb_X12_taken_38.2.2.2.2.2.2.1
theorem dX12_taken_20 : decode cX12_taken 20 = .ok (.bipush (-11), 2) := zb_X12_taken_38.2.2.2.2.2.2.2.1
theorem dX12_taken_22 : decode cX12_taken 22 = .ok (.ireturn, 1) := zb_X12_taken_38.2.2.2.2.2.2.2.2.1
theorem dX12_taken_9 : decode cX12_taken 9 = .ok (.bipush (-2), 2) := zb_X12_taken_38.2.2.2.2.2.2.2.2.2.1
theorem dX12_taken_11 : decode cX12_taken 11 = .ok (.ireturn, 1) := zb_X12_taken_38.2.2.2.2.2.2.2.2.2.2
theorem ck_X12_clash_0_18mo : ((cX12_clash.data.toList).drop 0).take 16 = [42, 27, 182, 1, 187, 153, 0, 31, 42, 28, 182, 1, 187, 153, 0, 23] := by decide +kernel
theorem ck_X12_clash_1_18mo : ((cX12_clash.data.toList).drop 16).take 16 = [27, 28, 159, 0, 18, 42, 180, 0, 113, 27, 46, 42, 180, 0, 113, 28] := by decide +kernel
theorem ck_X12_clash_2_18mo : ((cX12_clash.data.toList).drop 32).take 16 = [46, 159, 0, 6, 16, 254, 172, 42, 180, 0, 119, 27, 46, 42, 180, 0] := by decide +kernel
theorem ck_X12_clash_3_18mo : ((cX12_clash.data.toList).drop 48).take 16 = [119, 28, 46, 163, 0, 7, 27, 167, 0, 4, 28, 62, 29, 27, 160, 0] := by decide +kernel
theorem ck_X12_clash_4_18mo : ((cX12_clash.data.toList).drop 64).take 16 = [7, 28, 167, 0, 4, 27, 54, 4, 10, 42, 180, 0, 116, 29, 46, 121] := by decide +kernel
theorem ck_X12_clash_5_18mo : ((cX12_clash.data.toList).drop 80).take 16 = [55, 5, 42, 180, 0, 119, 29, 46, 54, 7, 21, 7, 42, 180, 0, 119] := by decide +kernel
theorem ck_X12_clash_6_18mo : ((cX12_clash.data.toList).drop 96).take 16 = [21, 4, 46, 162, 0, 25, 42, 42, 180, 0, 113, 27, 46, 21, 7, 22] := by decide +kernel
theorem ck_X12_clash_7_18mo : ((cX12_clash.data.toList).drop 112).take 16 = [5, 182, 0, 232, 55, 5, 132, 7, 1, 167, 255, 225, 22, 5, 42, 180] := by decide +kernel
theorem ck_X12_clash_8_18mo : ((cX12_clash.data.toList).drop 128).take 16 = [0, 116, 21, 4, 46, 125, 10, 127, 10, 148, 154, 0, 7, 3, 167, 0] := by decide +kernel
theorem ck_X12_clash_9_18mo : ((cX12_clash.data.toList).drop 144).take 16 = [4, 4, 172] := by decide +kernel
theorem ck_X12_days_0_18mo : ((cX12_days.data.toList).drop 0).take 16 = [27, 4, 8, 184, 0, 186, 153, 0, 13, 28, 3, 16, 99, 184, 0, 186] := by decide +kernel
theorem ck_X12_days_1_18mo : ((cX12_days.data.toList).drop 16).take 16 = [154, 0, 6, 16, 254, 172, 29, 2, 27, 4, 100, 184, 0, 186, 154, 0] := by decide +kernel
theorem ck_X12_days_2_18mo : ((cX12_days.data.toList).drop 32).take 16 = [5, 2, 172, 4, 54, 4, 3, 54, 5, 21, 5, 27, 162, 0, 15, 21] := by decide +kernel
theorem ck_X12_days_3_18mo : ((cX12_days.data.toList).drop 48).take 16 = [4, 6, 104, 54, 4, 132, 5, 1, 167, 255, 241, 2, 54, 5, 3, 54] := by decide +kernel
theorem ck_X12_days_4_18mo : ((cX12_days.data.toList).drop 64).take 16 = [6, 21, 6, 21, 4, 162, 0, 146, 21, 6, 54, 7, 27, 4, 100, 54] := by decide +kernel
theorem ck_X12_days_5_18mo : ((cX12_days.data.toList).drop 80).take 16 = [8, 21, 8, 155, 0, 26, 42, 180, 0, 152, 21, 8, 21, 7, 6, 112] := by decide +kernel
theorem ck_X12_days_6_18mo : ((cX12_days.data.toList).drop 96).take 16 = [79, 21, 7, 6, 108, 54, 7, 132, 8, 255, 167, 255, 231, 42, 180, 1] := by decide +kernel
theorem ck_X12_days_7_18mo : ((cX12_days.data.toList).drop 112).take 16 = [192, 154, 0, 7, 3, 167, 0, 6, 17, 39, 15, 54, 8, 3, 54, 9] := by decide +kernel
theorem ck_X12_days_8_18mo : ((cX12_days.data.toList).drop 128).take 16 = [21, 9, 42, 180, 1, 192, 162, 0, 35, 42, 21, 9, 27, 28, 182, 1] := by decide +kernel
theorem ck_X12_days_9_18mo : ((cX12_days.data.toList).drop 144).take 16 = [197, 54, 10, 21, 10, 21, 8, 162, 0, 8, 21, 10, 167, 0, 5, 21] := by decide +kernel
theorem ck_X12_days_10_18mo : ((cX12_days.data.toList).drop 160).take 16 = [8, 54, 8, 132, 9, 1, 167, 255, 218, 21, 8, 21, 5, 164, 0, 36] := by decide +kernel
theorem ck_X12_days_11_18mo : ((cX12_days.data.toList).drop 176).take 16 = [21, 8, 54, 5, 3, 54, 9, 21, 9, 27, 162, 0, 23, 42, 180, 0] := by decide +kernel
theorem ck_X12_days_12_18mo : ((cX12_days.data.toList).drop 192).take 16 = [155, 21, 9, 42, 180, 0, 152, 21, 9, 46, 79, 132, 9, 1, 167, 255] := by decide +kernel
theorem ck_X12_days_13_18mo : ((cX12_days.data.toList).drop 208).take 16 = [233, 132, 6, 1, 167, 255, 109, 29, 156, 0, 8, 21, 5, 167, 0, 9] := by decide +kernel
theorem ck_X12_days_14_18mo : ((cX12_days.data.toList).drop 224).take 16 = [42, 180, 0, 155, 29, 46, 172] := by decide +kernel
theorem ck_X12_count_0_18mo : ((cX12_count.data.toList).drop 0).take 16 = [27, 170, 0, 0, 0, 0, 0, 150, 0, 0, 0, 0, 0, 0, 0, 14] := by decide +kernel
theorem ck_X12_count_4_18mo : ((cX12_count.data.toList).drop 64).take 16 = [0, 0, 0, 135, 0, 0, 0, 140, 0, 0, 0, 145, 42, 180, 0, 201] := by decide +kernel
theorem ck_X12_count_5_18mo : ((cX12_count.data.toList).drop 80).take 16 = [172, 42, 180, 0, 190, 172, 42, 180, 0, 211, 172, 42, 180, 0, 223, 172] := by decide +kernel
theorem ck_X12_count_6_18mo : ((cX12_count.data.toList).drop 96).take 16 = [42, 180, 0, 246, 172, 42, 180, 0, 252, 172, 42, 180, 1, 7, 172, 42] := by decide +kernel
theorem ck_X12_count_7_18mo : ((cX12_count.data.toList).drop 112).take 16 = [180, 1, 16, 172, 42, 180, 1, 64, 172, 42, 180, 1, 184, 172, 42, 180] := by decide +kernel
theorem ck_X12_count_8_18mo : ((cX12_count.data.toList).drop 128).take 16 = [1, 192, 172, 42, 180, 0, 182, 172, 42, 180, 1, 67, 172, 42, 180, 1] := by decide +kernel
theorem ck_X12_count_9_18mo : ((cX12_count.data.toList).drop 144).take 16 = [175, 172, 42, 180, 1, 51, 172, 16, 254, 172] := by decide +kernel
theorem ck_X12_copy_0_18mo : ((cX12_copy.data.toList).drop 0).take 16 = [27, 184, 1, 201, 153, 0, 10, 29, 184, 1, 201, 154, 0, 6, 16, 254] := by decide +kernel
theorem ck_X12_copy_1_18mo : ((cX12_copy.data.toList).drop 16).take 16 = [172, 42, 180, 0, 158, 27, 46, 155, 0, 12, 42, 180, 0, 158, 29, 46] := by decide +kernel
theorem ck_X12_copy_2_18mo : ((cX12_copy.data.toList).drop 32).take 16 = [156, 0, 6, 16, 245, 172, 42, 180, 0, 158, 27, 46, 42, 180, 0, 158] := by decide +kernel
theorem ck_X12_copy_3_18mo : ((cX12_copy.data.toList).drop 48).take 16 = [29, 46, 159, 0, 6, 16, 243, 172, 21, 5, 155, 0, 39, 28, 155, 0] := by decide +kernel
theorem ck_X12_copy_4_18mo : ((cX12_copy.data.toList).drop 64).take 16 = [35, 21, 4, 155, 0, 30, 28, 42, 180, 0, 161, 27, 46, 21, 5, 100] := by decide +kernel
theorem ck_X12_copy_5_18mo : ((cX12_copy.data.toList).drop 80).take 16 = [163, 0, 17, 21, 4, 42, 180, 0, 161, 29, 46, 21, 5, 100, 164, 0] := by decide +kernel
theorem ck_X12_copy_6_18mo : ((cX12_copy.data.toList).drop 96).take 16 = [6, 16, 244, 172, 3, 54, 6, 21, 6, 21, 5, 162, 0, 30, 42, 180] := by decide +kernel
theorem ck_X12_copy_7_18mo : ((cX12_copy.data.toList).drop 112).take 16 = [0, 167, 21, 6, 42, 180, 0, 164, 16, 40, 27, 104, 28, 96, 21, 6] := by decide +kernel
theorem ck_X12_copy_8_18mo : ((cX12_copy.data.toList).drop 128).take 16 = [96, 46, 79, 132, 6, 1, 167, 255, 225, 3, 54, 6, 21, 6, 21, 5] := by decide +kernel
theorem ck_X12_copy_9_18mo : ((cX12_copy.data.toList).drop 144).take 16 = [162, 0, 31, 42, 180, 0, 164, 16, 40, 29, 104, 21, 4, 96, 21, 6] := by decide +kernel
theorem ck_X12_copy_10_18mo : ((cX12_copy.data.toList).drop 160).take 16 = [96, 42, 180, 0, 167, 21, 6, 46, 79, 132, 6, 1, 167, 255, 224, 21] := by decide +kernel
theorem ck_X12_copy_11_18mo : ((cX12_copy.data.toList).drop 176).take 16 = [5, 172] := by decide +kernel
theorem ck_X12_fixes_0_18mo : ((cX12_fixes.data.toList).drop 0).take 16 = [42, 27, 182, 0, 193, 153, 0, 30, 28, 184, 1, 201, 153, 0, 23, 29] := by decide +kernel
theorem ck_X12_fixes_1_18mo : ((cX12_fixes.data.toList).drop 16).take 16 = [3, 5, 184, 0, 186, 153, 0, 14, 21, 5, 3, 16, 20, 184, 0, 186] := by decide +kernel
theorem ck_X12_fixes_2_18mo : ((cX12_fixes.data.toList).drop 32).take 16 = [154, 0, 6, 16, 254, 172, 42, 180, 0, 158, 28, 46, 156, 0, 6, 16] := by decide +kernel
theorem ck_X12_fixes_3_18mo : ((cX12_fixes.data.toList).drop 48).take 16 = [245, 172, 42, 180, 0, 158, 28, 46, 29, 159, 0, 6, 16, 243, 172, 3] := by decide +kernel
theorem ck_X12_fixes_4_18mo : ((cX12_fixes.data.toList).drop 64).take 16 = [54, 6, 3, 54, 7, 21, 7, 21, 5, 162, 0, 129, 21, 4, 133, 20] := by decide +kernel
theorem ck_X12_fixes_5_18mo : ((cX12_fixes.data.toList).drop 80).take 16 = [1, 208, 21, 7, 133, 105, 97, 55, 8, 42, 28, 22, 8, 182, 1, 204] := by decide +kernel
theorem ck_X12_fixes_6_18mo : ((cX12_fixes.data.toList).drop 96).take 16 = [153, 0, 15, 42, 28, 22, 8, 10, 97, 182, 1, 204, 154, 0, 6, 16] := by decide +kernel
theorem ck_X12_fixes_7_18mo : ((cX12_fixes.data.toList).drop 112).take 16 = [244, 172, 42, 180, 0, 164, 16, 40, 28, 104, 22, 8, 136, 96, 46, 54] := by decide +kernel
theorem ck_X12_fixes_8_18mo : ((cX12_fixes.data.toList).drop 128).take 16 = [10, 42, 180, 0, 164, 16, 40, 28, 104, 22, 8, 136, 96, 4, 96, 46] := by decide +kernel
theorem ck_X12_fixes_9_18mo : ((cX12_fixes.data.toList).drop 144).take 16 = [54, 11, 21, 10, 42, 180, 0, 31, 27, 46, 42, 180, 0, 201, 184, 0] := by decide +kernel
theorem ck_X12_fixes_10_18mo : ((cX12_fixes.data.toList).drop 160).take 16 = [186, 153, 0, 35, 21, 11, 184, 0, 217, 153, 0, 27, 21, 6, 42, 27] := by decide +kernel
theorem ck_X12_fixes_11_18mo : ((cX12_fixes.data.toList).drop 176).take 16 = [21, 10, 10, 21, 11, 121, 182, 0, 242, 158, 0, 7, 4, 167, 0, 4] := by decide +kernel
theorem ck_X12_fixes_12_18mo : ((cX12_fixes.data.toList).drop 192).take 16 = [3, 96, 54, 6, 132, 7, 1, 167, 255, 126, 21, 6, 172] := by decide +kernel
theorem gX12_stays_X12_within : GoodIn wsX12_stays (va_wsS RX12 186 yX12_within wsX12_within) := ru_gG (ru_gS tw_6_122 tw_6_123 tw_1_12 mT_X12_within)
theorem gX12_comesBack_X12_apart : GoodIn wsX12_comesBack (va_wsS RX12 258 yX12_apart wsX12_apart) := ru_gG (ru_gS tw_6_208 tw_6_209 tw_1_12 mT_X12_apart)
theorem gX12_comesBack_X12_burns : GoodIn wsX12_comesBack (wsV RX12 220 RX12 yX12_burns wsX12_burns) := ru_gG (ru_gV tw_6_155 tw_6_157 tw_0_31 tw_1_12 mT_X12_burns)
theorem gX12_comesBack_X12_canFly : GoodIn wsX12_comesBack (wsV RX12 310 RX12 yX12_canFly wsX12_canFly) := ru_gG (ru_gV tw_7_46 tw_7_48 tw_0_42 tw_1_12 mT_X12_canFly)
theorem gX12_comes_X12_isSeeker : GoodIn wsX12_comes (wsV RX12 275 RX12 yX12_isSeeker wsX12_isSeeker) := ru_gG (ru_gV tw_6_239 tw_7_1 tw_0_37 tw_1_12 mT_X12_isSeeker)
theorem gX12_comes_X12_isCell : GoodIn wsX12_comes (va_wsS RX12 217 yX12_isCell wsX12_isCell) := ru_gG (ru_gS tw_6_144 tw_6_145 tw_1_12 mT_X12_isCell)
theorem gX12_comes_X12_isHour : GoodIn wsX12_comes (va_wsS RX12 313 yX12_isHour wsX12_isHour) := ru_gG (ru_gS tw_7_39 tw_7_40 tw_1_12 mT_X12_isHour)
theorem gX12_comes_X12_comesBack : GoodIn wsX12_comes (wsV RX12 316 RX12 yX12_comesBack wsX12_comesBack) := ru_gG (ru_gV tw_7_42 tw_7_44 tw_0_41 tw_1_12 mT_X12_comesBack)
theorem gX12_last_X12_isSeeker : GoodIn wsX12_last (wsV RX12 275 RX12 yX12_isSeeker wsX12_isSeeker) := ru_gG (ru_gV tw_6_239 tw_7_1 tw_0_37 tw_1_12 mT_X12_isSeeker)
theorem gX12_last_X12_isCell : GoodIn wsX12_last (va_wsS RX12 217 yX12_isCell wsX12_isCell) := ru_gG (ru_gS tw_6_144 tw_6_145 tw_1_12 mT_X12_isCell)
theorem gX12_last_X12_comesBack : GoodIn wsX12_last (wsV RX12 316 RX12 yX12_comesBack wsX12_comesBack) := ru_gG (ru_gV tw_7_42 tw_7_44 tw_0_41 tw_1_12 mT_X12_comesBack)
theorem gX12_man_X12_isBody : GoodIn wsX12_man (wsV RX12 193 RX12 yX12_isBody wsX12_isBody) := ru_gG (ru_gV tw_6_151 tw_6_153 tw_0_30 tw_1_12 mT_X12_isBody)
theorem gX12_man_X12_within : GoodIn wsX12_man (va_wsS RX12 186 yX12_within wsX12_within) := ru_gG (ru_gS tw_6_122 tw_6_123 tw_1_12 mT_X12_within)
theorem gX12_feed_X12_within : GoodIn wsX12_feed (va_wsS RX12 186 yX12_within wsX12_within) := ru_gG (ru_gS tw_6_122 tw_6_123 tw_1_12 mT_X12_within)
theorem gX12_story_X12_isBody : GoodIn wsX12_story (wsV RX12 193 RX12 yX12_isBody wsX12_isBody) := ru_gG (ru_gV tw_6_151 tw_6_153 tw_0_30 tw_1_12 mT_X12_isBody)
theorem gX12_story_X12_isCell : GoodIn wsX12_story (va_wsS RX12 217 yX12_isCell wsX12_isCell) := ru_gG (ru_gS tw_6_144 tw_6_145 tw_1_12 mT_X12_isCell)
theorem gX12_story_X12_within : GoodIn wsX12_story (va_wsS RX12 186 yX12_within wsX12_within) := ru_gG (ru_gS tw_6_122 tw_6_123 tw_1_12 mT_X12_within)
theorem gX12_unfit_X12_patchOf : GoodIn wsX12_unfit (wsV RX12 238 RX12 yX12_patchOf wsX12_patchOf) := ru_gG (ru_gV tw_6_164 tw_6_166 tw_0_32 tw_1_12 mT_X12_patchOf)
theorem dX12_clash_0 : decode cX12_clash 0 = .ok (.aload_n 0, 1) := dk_0 (dk_k42 0) (dk_by (j := 0) rfl ck_X12_clash_0_18mo rfl rfl rfl)
theorem dX12_clash_1 : decode cX12_clash 1 = .ok (.iload_n 1, 1) := dk_0 (dk_k27 1) (dk_by (j := 1) rfl ck_X12_clash_0_18mo rfl rfl rfl)
theorem gX12_clash_X12_isStory : GoodIn wsX12_clash (wsV RX12 443 RX12 yX12_isStory wsX12_isStory) := ru_gG (ru_gV tw_7_178 tw_7_180 tw_0_60 tw_1_12 mT_X12_isStory)
theorem dX12_clash_2 : decode cX12_clash 2 = .ok (.invokevirtual 443, 3) := dk_2 (dk_k182 2) (dk_by (j := 2) rfl ck_X12_clash_0_18mo rfl rfl rfl) (dk_by (j := 3) rfl ck_X12_clash_0_18mo rfl rfl rfl) (dk_by (j := 4) rfl ck_X12_clash_0_18mo rfl rfl rfl) (by decide)
theorem dX12_clash_5 : decode cX12_clash 5 = .ok (.ifCond .eq 31, 3) := dk_s (dk_k153 5) (dk_by (j := 5) rfl ck_X12_clash_0_18mo rfl rfl rfl) (dk_by (j := 6) rfl ck_X12_clash_0_18mo rfl rfl rfl) (dk_by (j := 7) rfl ck_X12_clash_0_18mo rfl rfl rfl) (by decide)
theorem dX12_clash_8 : decode cX12_clash 8 = .ok (.aload_n 0, 1) := dk_0 (dk_k42 8) (dk_by (j := 8) rfl ck_X12_clash_0_18mo rfl rfl rfl)
theorem dX12_clash_9 : decode cX12_clash 9 = .ok (.iload_n 2, 1) := dk_0 (dk_k28 9) (dk_by (j := 9) rfl ck_X12_clash_0_18mo rfl rfl rfl)
theorem dX12_clash_10 : decode cX12_clash 10 = .ok (.invokevirtual 443, 3) := dk_2 (dk_k182 10) (dk_by (j := 10) rfl ck_X12_clash_0_18mo rfl rfl rfl) (dk_by (j := 11) rfl ck_X12_clash_0_18mo rfl rfl rfl) (dk_by (j := 12) rfl ck_X12_clash_0_18mo rfl rfl rfl) (by decide)
theorem dX12_clash_13 : decode cX12_clash 13 = .ok (.ifCond .eq 23, 3) := dk_s (dk_k153 13) (dk_by (j := 13) rfl ck_X12_clash_0_18mo rfl rfl rfl) (dk_by (j := 14) rfl ck_X12_clash_0_18mo rfl rfl rfl) (dk_by (j := 15) rfl ck_X12_clash_0_18mo rfl rfl rfl) (by decide)
theorem dX12_clash_16 : decode cX12_clash 16 = .ok (.iload_n 1, 1) := dk_0 (dk_k27 16) (dk_by (j := 0) rfl ck_X12_clash_1_18mo rfl rfl rfl)
theorem dX12_clash_17 : decode cX12_clash 17 = .ok (.iload_n 2, 1) := dk_0 (dk_k28 17) (dk_by (j := 1) rfl ck_X12_clash_1_18mo rfl rfl rfl)
theorem dX12_clash_18 : decode cX12_clash 18 = .ok (.if_icmp .eq 18, 3) := dk_s (dk_k159 18) (dk_by (j := 2) rfl ck_X12_clash_1_18mo rfl rfl rfl) (dk_by (j := 3) rfl ck_X12_clash_1_18mo rfl rfl rfl) (dk_by (j := 4) rfl ck_X12_clash_1_18mo rfl rfl rfl) (by decide)
theorem dX12_clash_36 : decode cX12_clash 36 = .ok (.bipush (-2), 2) := dk_1 (dk_k16 36) (dk_by (j := 4) rfl ck_X12_clash_2_18mo rfl rfl rfl) (dk_by (j := 5) rfl ck_X12_clash_2_18mo rfl rfl rfl) (by decide)
theorem dX12_clash_38 : decode cX12_clash 38 = .ok (.ireturn, 1) := dk_0 (dk_k172 38) (dk_by (j := 6) rfl ck_X12_clash_2_18mo rfl rfl rfl)
theorem dX12_clash_21 : decode cX12_clash 21 = .ok (.aload_n 0, 1) := dk_0 (dk_k42 21) (dk_by (j := 5) rfl ck_X12_clash_1_18mo rfl rfl rfl)
theorem dX12_clash_22 : decode cX12_clash 22 = .ok (.getfield 113, 3) := dk_2 (dk_k180 22) (dk_by (j := 6) rfl ck_X12_clash_1_18mo rfl rfl rfl) (dk_by (j := 7) rfl ck_X12_clash_1_18mo rfl rfl rfl) (dk_by (j := 8) rfl ck_X12_clash_1_18mo rfl rfl rfl) (by decide)
theorem dX12_clash_25 : decode cX12_clash 25 = .ok (.iload_n 1, 1) := dk_0 (dk_k27 25) (dk_by (j := 9) rfl ck_X12_clash_1_18mo rfl rfl rfl)
theorem dX12_clash_26 : decode cX12_clash 26 = .ok (.iaload, 1) := dk_0 (dk_k46 26) (dk_by (j := 10) rfl ck_X12_clash_1_18mo rfl rfl rfl)
theorem dX12_clash_27 : decode cX12_clash 27 = .ok (.aload_n 0, 1) := dk_0 (dk_k42 27) (dk_by (j := 11) rfl ck_X12_clash_1_18mo rfl rfl rfl)
theorem dX12_clash_28 : decode cX12_clash 28 = .ok (.getfield 113, 3) := dk_2 (dk_k180 28) (dk_by (j := 12) rfl ck_X12_clash_1_18mo rfl rfl rfl) (dk_by (j := 13) rfl ck_X12_clash_1_18mo rfl rfl rfl) (dk_by (j := 14) rfl ck_X12_clash_1_18mo rfl rfl rfl) (by decide)
theorem dX12_clash_31 : decode cX12_clash 31 = .ok (.iload_n 2, 1) := dk_0 (dk_k28 31) (dk_by (j := 15) rfl ck_X12_clash_1_18mo rfl rfl rfl)
theorem dX12_clash_32 : decode cX12_clash 32 = .ok (.iaload, 1) := dk_0 (dk_k46 32) (dk_by (j := 0) rfl ck_X12_clash_2_18mo rfl rfl rfl)
theorem dX12_clash_33 : decode cX12_clash 33 = .ok (.if_icmp .eq 6, 3) := dk_s (dk_k159 33) (dk_by (j := 1) rfl ck_X12_clash_2_18mo rfl rfl rfl) (dk_by (j := 2) rfl ck_X12_clash_2_18mo rfl rfl rfl) (dk_by (j := 3) rfl ck_X12_clash_2_18mo rfl rfl rfl) (by decide)
theorem dX12_clash_72 : decode cX12_clash 72 = .ok (.lconst 1, 1) := dk_0 (dk_k10 72) (dk_by (j := 8) rfl ck_X12_clash_4_18mo rfl rfl rfl)
theorem dX12_clash_73 : decode cX12_clash 73 = .ok (.aload_n 0, 1) := dk_0 (dk_k42 73) (dk_by (j := 9) rfl ck_X12_clash_4_18mo rfl rfl rfl)
theorem dX12_clash_74 : decode cX12_clash 74 = .ok (.getfield 116, 3) := dk_2 (dk_k180 74) (dk_by (j := 10) rfl ck_X12_clash_4_18mo rfl rfl rfl) (dk_by (j := 11) rfl ck_X12_clash_4_18mo rfl rfl rfl) (dk_by (j := 12) rfl ck_X12_clash_4_18mo rfl rfl rfl) (by decide)
theorem dX12_clash_77 : decode cX12_clash 77 = .ok (.iload_n 3, 1) := dk_0 (dk_k29 77) (dk_by (j := 13) rfl ck_X12_clash_4_18mo rfl rfl rfl)
theorem dX12_clash_78 : decode cX12_clash 78 = .ok (.iaload, 1) := dk_0 (dk_k46 78) (dk_by (j := 14) rfl ck_X12_clash_4_18mo rfl rfl rfl)
theorem dX12_clash_79 : decode cX12_clash 79 = .ok (.lshl, 1) := dk_0 (dk_k121 79) (dk_by (j := 15) rfl ck_X12_clash_4_18mo rfl rfl rfl)
theorem dX12_clash_82 : decode cX12_clash 82 = .ok (.aload_n 0, 1) := dk_0 (dk_k42 82) (dk_by (j := 2) rfl ck_X12_clash_5_18mo rfl rfl rfl)
theorem dX12_clash_83 : decode cX12_clash 83 = .ok (.getfield 119, 3) := dk_2 (dk_k180 83) (dk_by (j := 3) rfl ck_X12_clash_5_18mo rfl rfl rfl) (dk_by (j := 4) rfl ck_X12_clash_5_18mo rfl rfl rfl) (dk_by (j := 5) rfl ck_X12_clash_5_18mo rfl rfl rfl) (by decide)
theorem dX12_clash_86 : decode cX12_clash 86 = .ok (.iload_n 3, 1) := dk_0 (dk_k29 86) (dk_by (j := 6) rfl ck_X12_clash_5_18mo rfl rfl rfl)
theorem dX12_clash_87 : decode cX12_clash 87 = .ok (.iaload, 1) := dk_0 (dk_k46 87) (dk_by (j := 7) rfl ck_X12_clash_5_18mo rfl rfl rfl)
theorem dX12_clash_92 : decode cX12_clash 92 = .ok (.aload_n 0, 1) := dk_0 (dk_k42 92) (dk_by (j := 12) rfl ck_X12_clash_5_18mo rfl rfl rfl)
theorem dX12_clash_93 : decode cX12_clash 93 = .ok (.getfield 119, 3) := dk_2 (dk_k180 93) (dk_by (j := 13) rfl ck_X12_clash_5_18mo rfl rfl rfl) (dk_by (j := 14) rfl ck_X12_clash_5_18mo rfl rfl rfl) (dk_by (j := 15) rfl ck_X12_clash_5_18mo rfl rfl rfl) (by decide)
theorem dX12_clash_98 : decode cX12_clash 98 = .ok (.iaload, 1) := dk_0 (dk_k46 98) (dk_by (j := 2) rfl ck_X12_clash_6_18mo rfl rfl rfl)
theorem dX12_clash_99 : decode cX12_clash 99 = .ok (.if_icmp .ge 25, 3) := dk_s (dk_k162 99) (dk_by (j := 3) rfl ck_X12_clash_6_18mo rfl rfl rfl) (dk_by (j := 4) rfl ck_X12_clash_6_18mo rfl rfl rfl) (dk_by (j := 5) rfl ck_X12_clash_6_18mo rfl rfl rfl) (by decide)
theorem dX12_clash_126 : decode cX12_clash 126 = .ok (.aload_n 0, 1) := dk_0 (dk_k42 126) (dk_by (j := 14) rfl ck_X12_clash_7_18mo rfl rfl rfl)
theorem dX12_clash_127 : decode cX12_clash 127 = .ok (.getfield 116, 3) := dk_2 (dk_k180 127) (dk_by (j := 15) rfl ck_X12_clash_7_18mo rfl rfl rfl) (dk_by (j := 0) rfl ck_X12_clash_8_18mo rfl rfl rfl) (dk_by (j := 1) rfl ck_X12_clash_8_18mo rfl rfl rfl) (by decide)
theorem dX12_clash_132 : decode cX12_clash 132 = .ok (.iaload, 1) := dk_0 (dk_k46 132) (dk_by (j := 4) rfl ck_X12_clash_8_18mo rfl rfl rfl)
theorem dX12_clash_134 : decode cX12_clash 134 = .ok (.lconst 1, 1) := dk_0 (dk_k10 134) (dk_by (j := 6) rfl ck_X12_clash_8_18mo rfl rfl rfl)
theorem dX12_clash_135 : decode cX12_clash 135 = .ok (.land, 1) := dk_0 (dk_k127 135) (dk_by (j := 7) rfl ck_X12_clash_8_18mo rfl rfl rfl)
theorem dX12_clash_136 : decode cX12_clash 136 = .ok (.lconst 1, 1) := dk_0 (dk_k10 136) (dk_by (j := 8) rfl ck_X12_clash_8_18mo rfl rfl rfl)
theorem dX12_clash_137 : decode cX12_clash 137 = .ok (.lcmp, 1) := dk_0 (dk_k148 137) (dk_by (j := 9) rfl ck_X12_clash_8_18mo rfl rfl rfl)
theorem dX12_clash_138 : decode cX12_clash 138 = .ok (.ifCond .ne 7, 3) := dk_s (dk_k154 138) (dk_by (j := 10) rfl ck_X12_clash_8_18mo rfl rfl rfl) (dk_by (j := 11) rfl ck_X12_clash_8_18mo rfl rfl rfl) (dk_by (j := 12) rfl ck_X12_clash_8_18mo rfl rfl rfl) (by decide)
theorem dX12_clash_145 : decode cX12_clash 145 = .ok (.iconst 1, 1) := dk_0 (dk_k4 145) (dk_by (j := 1) rfl ck_X12_clash_9_18mo rfl rfl rfl)
theorem dX12_clash_146 : decode cX12_clash 146 = .ok (.ireturn, 1) := dk_0 (dk_k172 146) (dk_by (j := 2) rfl ck_X12_clash_9_18mo rfl rfl rfl)
theorem dX12_clash_141 : decode cX12_clash 141 = .ok (.iconst 0, 1) := dk_0 (dk_k3 141) (dk_by (j := 13) rfl ck_X12_clash_8_18mo rfl rfl rfl)
theorem dX12_clash_142 : decode cX12_clash 142 = .ok (.goto 4, 3) := dk_s (dk_k167 142) (dk_by (j := 14) rfl ck_X12_clash_8_18mo rfl rfl rfl) (dk_by (j := 15) rfl ck_X12_clash_8_18mo rfl rfl rfl) (dk_by (j := 0) rfl ck_X12_clash_9_18mo rfl rfl rfl) (by decide)
theorem dX12_clash_102 : decode cX12_clash 102 = .ok (.aload_n 0, 1) := dk_0 (dk_k42 102) (dk_by (j := 6) rfl ck_X12_clash_6_18mo rfl rfl rfl)
theorem dX12_clash_103 : decode cX12_clash 103 = .ok (.aload_n 0, 1) := dk_0 (dk_k42 103) (dk_by (j := 7) rfl ck_X12_clash_6_18mo rfl rfl rfl)
theorem dX12_clash_104 : decode cX12_clash 104 = .ok (.getfield 113, 3) := dk_2 (dk_k180 104) (dk_by (j := 8) rfl ck_X12_clash_6_18mo rfl rfl rfl) (dk_by (j := 9) rfl ck_X12_clash_6_18mo rfl rfl rfl) (dk_by (j := 10) rfl ck_X12_clash_6_18mo rfl rfl rfl) (by decide)
theorem dX12_clash_107 : decode cX12_clash 107 = .ok (.iload_n 1, 1) := dk_0 (dk_k27 107) (dk_by (j := 11) rfl ck_X12_clash_6_18mo rfl rfl rfl)
theorem dX12_clash_108 : decode cX12_clash 108 = .ok (.iaload, 1) := dk_0 (dk_k46 108) (dk_by (j := 12) rfl ck_X12_clash_6_18mo rfl rfl rfl)
theorem gX12_clash_X12_drifted : GoodIn wsX12_clash (wsV RX12 232 RX12 yX12_drifted wsX12_drifted) := ru_gG (ru_gV tw_6_173 tw_6_175 tw_0_34 tw_1_12 mT_X12_drifted)
theorem dX12_clash_113 : decode cX12_clash 113 = .ok (.invokevirtual 232, 3) := dk_2 (dk_k182 113) (dk_by (j := 1) rfl ck_X12_clash_7_18mo rfl rfl rfl) (dk_by (j := 2) rfl ck_X12_clash_7_18mo rfl rfl rfl) (dk_by (j := 3) rfl ck_X12_clash_7_18mo rfl rfl rfl) (by decide)
theorem dX12_clash_121 : decode cX12_clash 121 = .ok (.goto (-31), 3) := dk_s (dk_k167 121) (dk_by (j := 9) rfl ck_X12_clash_7_18mo rfl rfl rfl) (dk_by (j := 10) rfl ck_X12_clash_7_18mo rfl rfl rfl) (dk_by (j := 11) rfl ck_X12_clash_7_18mo rfl rfl rfl) (by decide)
theorem dX12_clash_60 : decode cX12_clash 60 = .ok (.iload_n 3, 1) := dk_0 (dk_k29 60) (dk_by (j := 12) rfl ck_X12_clash_3_18mo rfl rfl rfl)
theorem dX12_clash_61 : decode cX12_clash 61 = .ok (.iload_n 1, 1) := dk_0 (dk_k27 61) (dk_by (j := 13) rfl ck_X12_clash_3_18mo rfl rfl rfl)
theorem dX12_clash_62 : decode cX12_clash 62 = .ok (.if_icmp .ne 7, 3) := dk_s (dk_k160 62) (dk_by (j := 14) rfl ck_X12_clash_3_18mo rfl rfl rfl) (dk_by (j := 15) rfl ck_X12_clash_3_18mo rfl rfl rfl) (dk_by (j := 0) rfl ck_X12_clash_4_18mo rfl rfl rfl) (by decide)
theorem dX12_clash_69 : decode cX12_clash 69 = .ok (.iload_n 1, 1) := dk_0 (dk_k27 69) (dk_by (j := 5) rfl ck_X12_clash_4_18mo rfl rfl rfl)
theorem dX12_clash_65 : decode cX12_clash 65 = .ok (.iload_n 2, 1) := dk_0 (dk_k28 65) (dk_by (j := 1) rfl ck_X12_clash_4_18mo rfl rfl rfl)
theorem dX12_clash_66 : decode cX12_clash 66 = .ok (.goto 4, 3) := dk_s (dk_k167 66) (dk_by (j := 2) rfl ck_X12_clash_4_18mo rfl rfl rfl) (dk_by (j := 3) rfl ck_X12_clash_4_18mo rfl rfl rfl) (dk_by (j := 4) rfl ck_X12_clash_4_18mo rfl rfl rfl) (by decide)
theorem dX12_clash_39 : decode cX12_clash 39 = .ok (.aload_n 0, 1) := dk_0 (dk_k42 39) (dk_by (j := 7) rfl ck_X12_clash_2_18mo rfl rfl rfl)
theorem dX12_clash_40 : decode cX12_clash 40 = .ok (.getfield 119, 3) := dk_2 (dk_k180 40) (dk_by (j := 8) rfl ck_X12_clash_2_18mo rfl rfl rfl) (dk_by (j := 9) rfl ck_X12_clash_2_18mo rfl rfl rfl) (dk_by (j := 10) rfl ck_X12_clash_2_18mo rfl rfl rfl) (by decide)
theorem dX12_clash_43 : decode cX12_clash 43 = .ok (.iload_n 1, 1) := dk_0 (dk_k27 43) (dk_by (j := 11) rfl ck_X12_clash_2_18mo rfl rfl rfl)
theorem dX12_clash_44 : decode cX12_clash 44 = .ok (.iaload, 1) := dk_0 (dk_k46 44) (dk_by (j := 12) rfl ck_X12_clash_2_18mo rfl rfl rfl)
theorem dX12_clash_45 : decode cX12_clash 45 = .ok (.aload_n 0, 1) := dk_0 (dk_k42 45) (dk_by (j := 13) rfl ck_X12_clash_2_18mo rfl rfl rfl)
theorem dX12_clash_46 : decode cX12_clash 46 = .ok (.getfield 119, 3) := dk_2 (dk_k180 46) (dk_by (j := 14) rfl ck_X12_clash_2_18mo rfl rfl rfl) (dk_by (j := 15) rfl ck_X12_clash_2_18mo rfl rfl rfl) (dk_by (j := 0) rfl ck_X12_clash_3_18mo rfl rfl rfl) (by decide)
theorem dX12_clash_49 : decode cX12_clash 49 = .ok (.iload_n 2, 1) := dk_0 (dk_k28 49) (dk_by (j := 1) rfl ck_X12_clash_3_18mo rfl rfl rfl)
theorem dX12_clash_50 : decode cX12_clash 50 = .ok (.iaload, 1) := dk_0 (dk_k46 50) (dk_by (j := 2) rfl ck_X12_clash_3_18mo rfl rfl rfl)
theorem dX12_clash_51 : decode cX12_clash 51 = .ok (.if_icmp .gt 7, 3) := dk_s (dk_k163 51) (dk_by (j := 3) rfl ck_X12_clash_3_18mo rfl rfl rfl) (dk_by (j := 4) rfl ck_X12_clash_3_18mo rfl rfl rfl) (dk_by (j := 5) rfl ck_X12_clash_3_18mo rfl rfl rfl) (by decide)
theorem dX12_clash_58 : decode cX12_clash 58 = .ok (.iload_n 2, 1) := dk_0 (dk_k28 58) (dk_by (j := 10) rfl ck_X12_clash_3_18mo rfl rfl rfl)
theorem dX12_clash_59 : decode cX12_clash 59 = .ok (.istore_n 3, 1) := dk_0 (dk_k62 59) (dk_by (j := 11) rfl ck_X12_clash_3_18mo rfl rfl rfl)
theorem dX12_clash_54 : decode cX12_clash 54 = .ok (.iload_n 1, 1) := dk_0 (dk_k27 54) (dk_by (j := 6) rfl ck_X12_clash_3_18mo rfl rfl rfl)
theorem dX12_clash_55 : decode cX12_clash 55 = .ok (.goto 4, 3) := dk_s (dk_k167 55) (dk_by (j := 7) rfl ck_X12_clash_3_18mo rfl rfl rfl) (dk_by (j := 8) rfl ck_X12_clash_3_18mo rfl rfl rfl) (dk_by (j := 9) rfl ck_X12_clash_3_18mo rfl rfl rfl) (by decide)
theorem dX12_days_0 : decode cX12_days 0 = .ok (.iload_n 1, 1) := dk_0 (dk_k27 0) (dk_by (j := 0) rfl ck_X12_days_0_18mo rfl rfl rfl)
theorem dX12_days_1 : decode cX12_days 1 = .ok (.iconst 1, 1) := dk_0 (dk_k4 1) (dk_by (j := 1) rfl ck_X12_days_0_18mo rfl rfl rfl)
theorem dX12_days_2 : decode cX12_days 2 = .ok (.iconst 5, 1) := dk_0 (dk_k8 2) (dk_by (j := 2) rfl ck_X12_days_0_18mo rfl rfl rfl)
theorem gX12_days_X12_within : GoodIn wsX12_days (va_wsS RX12 186 yX12_within wsX12_within) := ru_gG (ru_gS tw_6_122 tw_6_123 tw_1_12 mT_X12_within)
theorem dX12_days_3 : decode cX12_days 3 = .ok (.invokestatic 186, 3) := dk_2 (dk_k184 3) (dk_by (j := 3) rfl ck_X12_days_0_18mo rfl rfl rfl) (dk_by (j := 4) rfl ck_X12_days_0_18mo rfl rfl rfl) (dk_by (j := 5) rfl ck_X12_days_0_18mo rfl rfl rfl) (by decide)
theorem dX12_days_6 : decode cX12_days 6 = .ok (.ifCond .eq 13, 3) := dk_s (dk_k153 6) (dk_by (j := 6) rfl ck_X12_days_0_18mo rfl rfl rfl) (dk_by (j := 7) rfl ck_X12_days_0_18mo rfl rfl rfl) (dk_by (j := 8) rfl ck_X12_days_0_18mo rfl rfl rfl) (by decide)
theorem dX12_days_9 : decode cX12_days 9 = .ok (.iload_n 2, 1) := dk_0 (dk_k28 9) (dk_by (j := 9) rfl ck_X12_days_0_18mo rfl rfl rfl)
theorem dX12_days_10 : decode cX12_days 10 = .ok (.iconst 0, 1) := dk_0 (dk_k3 10) (dk_by (j := 10) rfl ck_X12_days_0_18mo rfl rfl rfl)
theorem dX12_days_11 : decode cX12_days 11 = .ok (.bipush 99, 2) := dk_1 (dk_k16 11) (dk_by (j := 11) rfl ck_X12_days_0_18mo rfl rfl rfl) (dk_by (j := 12) rfl ck_X12_days_0_18mo rfl rfl rfl) (by decide)
theorem dX12_days_13 : decode cX12_days 13 = .ok (.invokestatic 186, 3) := dk_2 (dk_k184 13) (dk_by (j := 13) rfl ck_X12_days_0_18mo rfl rfl rfl) (dk_by (j := 14) rfl ck_X12_days_0_18mo rfl rfl rfl) (dk_by (j := 15) rfl ck_X12_days_0_18mo rfl rfl rfl) (by decide)
theorem dX12_days_16 : decode cX12_days 16 = .ok (.ifCond .ne 6, 3) := dk_s (dk_k154 16) (dk_by (j := 0) rfl ck_X12_days_1_18mo rfl rfl rfl) (dk_by (j := 1) rfl ck_X12_days_1_18mo rfl rfl rfl) (dk_by (j := 2) rfl ck_X12_days_1_18mo rfl rfl rfl) (by decide)
theorem dX12_days_22 : decode cX12_days 22 = .ok (.iload_n 3, 1) := dk_0 (dk_k29 22) (dk_by (j := 6) rfl ck_X12_days_1_18mo rfl rfl rfl)
theorem dX12_days_23 : decode cX12_days 23 = .ok (.iconst (-1), 1) := dk_0 (dk_k2 23) (dk_by (j := 7) rfl ck_X12_days_1_18mo rfl rfl rfl)
theorem dX12_days_24 : decode cX12_days 24 = .ok (.iload_n 1, 1) := dk_0 (dk_k27 24) (dk_by (j := 8) rfl ck_X12_days_1_18mo rfl rfl rfl)
theorem dX12_days_25 : decode cX12_days 25 = .ok (.iconst 1, 1) := dk_0 (dk_k4 25) (dk_by (j := 9) rfl ck_X12_days_1_18mo rfl rfl rfl)
theorem dX12_days_26 : decode cX12_days 26 = .ok (.isub, 1) := dk_0 (dk_k100 26) (dk_by (j := 10) rfl ck_X12_days_1_18mo rfl rfl rfl)
theorem dX12_days_27 : decode cX12_days 27 = .ok (.invokestatic 186, 3) := dk_2 (dk_k184 27) (dk_by (j := 11) rfl ck_X12_days_1_18mo rfl rfl rfl) (dk_by (j := 12) rfl ck_X12_days_1_18mo rfl rfl rfl) (dk_by (j := 13) rfl ck_X12_days_1_18mo rfl rfl rfl) (by decide)
theorem dX12_days_30 : decode cX12_days 30 = .ok (.ifCond .ne 5, 3) := dk_s (dk_k154 30) (dk_by (j := 14) rfl ck_X12_days_1_18mo rfl rfl rfl) (dk_by (j := 15) rfl ck_X12_days_1_18mo rfl rfl rfl) (dk_by (j := 0) rfl ck_X12_days_2_18mo rfl rfl rfl) (by decide)
theorem dX12_days_35 : decode cX12_days 35 = .ok (.iconst 1, 1) := dk_0 (dk_k4 35) (dk_by (j := 3) rfl ck_X12_days_2_18mo rfl rfl rfl)
theorem dX12_days_38 : decode cX12_days 38 = .ok (.iconst 0, 1) := dk_0 (dk_k3 38) (dk_by (j := 6) rfl ck_X12_days_2_18mo rfl rfl rfl)
theorem dX12_days_43 : decode cX12_days 43 = .ok (.iload_n 1, 1) := dk_0 (dk_k27 43) (dk_by (j := 11) rfl ck_X12_days_2_18mo rfl rfl rfl)
theorem dX12_days_44 : decode cX12_days 44 = .ok (.if_icmp .ge 15, 3) := dk_s (dk_k162 44) (dk_by (j := 12) rfl ck_X12_days_2_18mo rfl rfl rfl) (dk_by (j := 13) rfl ck_X12_days_2_18mo rfl rfl rfl) (dk_by (j := 14) rfl ck_X12_days_2_18mo rfl rfl rfl) (by decide)
theorem dX12_days_59 : decode cX12_days 59 = .ok (.iconst (-1), 1) := dk_0 (dk_k2 59) (dk_by (j := 11) rfl ck_X12_days_3_18mo rfl rfl rfl)
theorem dX12_days_62 : decode cX12_days 62 = .ok (.iconst 0, 1) := dk_0 (dk_k3 62) (dk_by (j := 14) rfl ck_X12_days_3_18mo rfl rfl rfl)
theorem dX12_days_69 : decode cX12_days 69 = .ok (.if_icmp .ge 146, 3) := dk_s (dk_k162 69) (dk_by (j := 5) rfl ck_X12_days_4_18mo rfl rfl rfl) (dk_by (j := 6) rfl ck_X12_days_4_18mo rfl rfl rfl) (dk_by (j := 7) rfl ck_X12_days_4_18mo rfl rfl rfl) (by decide)
theorem dX12_days_215 : decode cX12_days 215 = .ok (.iload_n 3, 1) := dk_0 (dk_k29 215) (dk_by (j := 7) rfl ck_X12_days_13_18mo rfl rfl rfl)
theorem dX12_days_216 : decode cX12_days 216 = .ok (.ifCond .ge 8, 3) := dk_s (dk_k156 216) (dk_by (j := 8) rfl ck_X12_days_13_18mo rfl rfl rfl) (dk_by (j := 9) rfl ck_X12_days_13_18mo rfl rfl rfl) (dk_by (j := 10) rfl ck_X12_days_13_18mo rfl rfl rfl) (by decide)
theorem dX12_days_224 : decode cX12_days 224 = .ok (.aload_n 0, 1) := dk_0 (dk_k42 224) (dk_by (j := 0) rfl ck_X12_days_14_18mo rfl rfl rfl)
theorem dX12_days_225 : decode cX12_days 225 = .ok (.getfield 155, 3) := dk_2 (dk_k180 225) (dk_by (j := 1) rfl ck_X12_days_14_18mo rfl rfl rfl) (dk_by (j := 2) rfl ck_X12_days_14_18mo rfl rfl rfl) (dk_by (j := 3) rfl ck_X12_days_14_18mo rfl rfl rfl) (by decide)
theorem dX12_days_228 : decode cX12_days 228 = .ok (.iload_n 3, 1) := dk_0 (dk_k29 228) (dk_by (j := 4) rfl ck_X12_days_14_18mo rfl rfl rfl)
theorem dX12_days_229 : decode cX12_days 229 = .ok (.iaload, 1) := dk_0 (dk_k46 229) (dk_by (j := 5) rfl ck_X12_days_14_18mo rfl rfl rfl)
theorem dX12_days_230 : decode cX12_days 230 = .ok (.ireturn, 1) := dk_0 (dk_k172 230) (dk_by (j := 6) rfl ck_X12_days_14_18mo rfl rfl rfl)
theorem dX12_days_221 : decode cX12_days 221 = .ok (.goto 9, 3) := dk_s (dk_k167 221) (dk_by (j := 13) rfl ck_X12_days_13_18mo rfl rfl rfl) (dk_by (j := 14) rfl ck_X12_days_13_18mo rfl rfl rfl) (dk_by (j := 15) rfl ck_X12_days_13_18mo rfl rfl rfl) (by decide)
theorem dX12_days_76 : decode cX12_days 76 = .ok (.iload_n 1, 1) := dk_0 (dk_k27 76) (dk_by (j := 12) rfl ck_X12_days_4_18mo rfl rfl rfl)
theorem dX12_days_77 : decode cX12_days 77 = .ok (.iconst 1, 1) := dk_0 (dk_k4 77) (dk_by (j := 13) rfl ck_X12_days_4_18mo rfl rfl rfl)
theorem dX12_days_78 : decode cX12_days 78 = .ok (.isub, 1) := dk_0 (dk_k100 78) (dk_by (j := 14) rfl ck_X12_days_4_18mo rfl rfl rfl)
theorem dX12_days_83 : decode cX12_days 83 = .ok (.ifCond .lt 26, 3) := dk_s (dk_k155 83) (dk_by (j := 3) rfl ck_X12_days_5_18mo rfl rfl rfl) (dk_by (j := 4) rfl ck_X12_days_5_18mo rfl rfl rfl) (dk_by (j := 5) rfl ck_X12_days_5_18mo rfl rfl rfl) (by decide)
theorem dX12_days_125 : decode cX12_days 125 = .ok (.iconst 0, 1) := dk_0 (dk_k3 125) (dk_by (j := 13) rfl ck_X12_days_7_18mo rfl rfl rfl)
theorem dX12_days_130 : decode cX12_days 130 = .ok (.aload_n 0, 1) := dk_0 (dk_k42 130) (dk_by (j := 2) rfl ck_X12_days_8_18mo rfl rfl rfl)
theorem dX12_days_131 : decode cX12_days 131 = .ok (.getfield 448, 3) := dk_2 (dk_k180 131) (dk_by (j := 3) rfl ck_X12_days_8_18mo rfl rfl rfl) (dk_by (j := 4) rfl ck_X12_days_8_18mo rfl rfl rfl) (dk_by (j := 5) rfl ck_X12_days_8_18mo rfl rfl rfl) (by decide)
theorem dX12_days_134 : decode cX12_days 134 = .ok (.if_icmp .ge 35, 3) := dk_s (dk_k162 134) (dk_by (j := 6) rfl ck_X12_days_8_18mo rfl rfl rfl) (dk_by (j := 7) rfl ck_X12_days_8_18mo rfl rfl rfl) (dk_by (j := 8) rfl ck_X12_days_8_18mo rfl rfl rfl) (by decide)
theorem dX12_days_173 : decode cX12_days 173 = .ok (.if_icmp .le 36, 3) := dk_s (dk_k164 173) (dk_by (j := 13) rfl ck_X12_days_10_18mo rfl rfl rfl) (dk_by (j := 14) rfl ck_X12_days_10_18mo rfl rfl rfl) (dk_by (j := 15) rfl ck_X12_days_10_18mo rfl rfl rfl) (by decide)
theorem dX12_days_212 : decode cX12_days 212 = .ok (.goto (-147), 3) := dk_s (dk_k167 212) (dk_by (j := 4) rfl ck_X12_days_13_18mo rfl rfl rfl) (dk_by (j := 5) rfl ck_X12_days_13_18mo rfl rfl rfl) (dk_by (j := 6) rfl ck_X12_days_13_18mo rfl rfl rfl) (by decide)
theorem dX12_days_180 : decode cX12_days 180 = .ok (.iconst 0, 1) := dk_0 (dk_k3 180) (dk_by (j := 4) rfl ck_X12_days_11_18mo rfl rfl rfl)
theorem dX12_days_185 : decode cX12_days 185 = .ok (.iload_n 1, 1) := dk_0 (dk_k27 185) (dk_by (j := 9) rfl ck_X12_days_11_18mo rfl rfl rfl)
theorem dX12_days_186 : decode cX12_days 186 = .ok (.if_icmp .ge 23, 3) := dk_s (dk_k162 186) (dk_by (j := 10) rfl ck_X12_days_11_18mo rfl rfl rfl) (dk_by (j := 11) rfl ck_X12_days_11_18mo rfl rfl rfl) (dk_by (j := 12) rfl ck_X12_days_11_18mo rfl rfl rfl) (by decide)
theorem dX12_days_189 : decode cX12_days 189 = .ok (.aload_n 0, 1) := dk_0 (dk_k42 189) (dk_by (j := 13) rfl ck_X12_days_11_18mo rfl rfl rfl)
theorem dX12_days_190 : decode cX12_days 190 = .ok (.getfield 155, 3) := dk_2 (dk_k180 190) (dk_by (j := 14) rfl ck_X12_days_11_18mo rfl rfl rfl) (dk_by (j := 15) rfl ck_X12_days_11_18mo rfl rfl rfl) (dk_by (j := 0) rfl ck_X12_days_12_18mo rfl rfl rfl) (by decide)
theorem dX12_days_195 : decode cX12_days 195 = .ok (.aload_n 0, 1) := dk_0 (dk_k42 195) (dk_by (j := 3) rfl ck_X12_days_12_18mo rfl rfl rfl)
theorem dX12_days_196 : decode cX12_days 196 = .ok (.getfield 152, 3) := dk_2 (dk_k180 196) (dk_by (j := 4) rfl ck_X12_days_12_18mo rfl rfl rfl) (dk_by (j := 5) rfl ck_X12_days_12_18mo rfl rfl rfl) (dk_by (j := 6) rfl ck_X12_days_12_18mo rfl rfl rfl) (by decide)
theorem dX12_days_201 : decode cX12_days 201 = .ok (.iaload, 1) := dk_0 (dk_k46 201) (dk_by (j := 9) rfl ck_X12_days_12_18mo rfl rfl rfl)
theorem dX12_days_202 : decode cX12_days 202 = .ok (.iastore, 1) := dk_0 (dk_k79 202) (dk_by (j := 10) rfl ck_X12_days_12_18mo rfl rfl rfl)
theorem dX12_days_206 : decode cX12_days 206 = .ok (.goto (-23), 3) := dk_s (dk_k167 206) (dk_by (j := 14) rfl ck_X12_days_12_18mo rfl rfl rfl) (dk_by (j := 15) rfl ck_X12_days_12_18mo rfl rfl rfl) (dk_by (j := 0) rfl ck_X12_days_13_18mo rfl rfl rfl) (by decide)
theorem dX12_days_137 : decode cX12_days 137 = .ok (.aload_n 0, 1) := dk_0 (dk_k42 137) (dk_by (j := 9) rfl ck_X12_days_8_18mo rfl rfl rfl)
theorem dX12_days_140 : decode cX12_days 140 = .ok (.iload_n 1, 1) := dk_0 (dk_k27 140) (dk_by (j := 12) rfl ck_X12_days_8_18mo rfl rfl rfl)
theorem dX12_days_141 : decode cX12_days 141 = .ok (.iload_n 2, 1) := dk_0 (dk_k28 141) (dk_by (j := 13) rfl ck_X12_days_8_18mo rfl rfl rfl)
theorem gX12_days_X12_goesIn : GoodIn wsX12_days (wsV RX12 453 RX12 yX12_goesIn wsX12_goesIn) := ru_gG (ru_gV tw_7_192 tw_7_194 tw_0_61 tw_1_12 mT_X12_goesIn)
theorem dX12_days_142 : decode cX12_days 142 = .ok (.invokevirtual 453, 3) := dk_2 (dk_k182 142) (dk_by (j := 14) rfl ck_X12_days_8_18mo rfl rfl rfl) (dk_by (j := 15) rfl ck_X12_days_8_18mo rfl rfl rfl) (dk_by (j := 0) rfl ck_X12_days_9_18mo rfl rfl rfl) (by decide)
theorem dX12_days_151 : decode cX12_days 151 = .ok (.if_icmp .ge 8, 3) := dk_s (dk_k162 151) (dk_by (j := 7) rfl ck_X12_days_9_18mo rfl rfl rfl) (dk_by (j := 8) rfl ck_X12_days_9_18mo rfl rfl rfl) (dk_by (j := 9) rfl ck_X12_days_9_18mo rfl rfl rfl) (by decide)
theorem dX12_days_166 : decode cX12_days 166 = .ok (.goto (-38), 3) := dk_s (dk_k167 166) (dk_by (j := 6) rfl ck_X12_days_10_18mo rfl rfl rfl) (dk_by (j := 7) rfl ck_X12_days_10_18mo rfl rfl rfl) (dk_by (j := 8) rfl ck_X12_days_10_18mo rfl rfl rfl) (by decide)
theorem dX12_days_156 : decode cX12_days 156 = .ok (.goto 5, 3) := dk_s (dk_k167 156) (dk_by (j := 12) rfl ck_X12_days_9_18mo rfl rfl rfl) (dk_by (j := 13) rfl ck_X12_days_9_18mo rfl rfl rfl) (dk_by (j := 14) rfl ck_X12_days_9_18mo rfl rfl rfl) (by decide)
theorem dX12_days_109 : decode cX12_days 109 = .ok (.aload_n 0, 1) := dk_0 (dk_k42 109) (dk_by (j := 13) rfl ck_X12_days_6_18mo rfl rfl rfl)
theorem dX12_days_110 : decode cX12_days 110 = .ok (.getfield 448, 3) := dk_2 (dk_k180 110) (dk_by (j := 14) rfl ck_X12_days_6_18mo rfl rfl rfl) (dk_by (j := 15) rfl ck_X12_days_6_18mo rfl rfl rfl) (dk_by (j := 0) rfl ck_X12_days_7_18mo rfl rfl rfl) (by decide)
theorem dX12_days_113 : decode cX12_days 113 = .ok (.ifCond .ne 7, 3) := dk_s (dk_k154 113) (dk_by (j := 1) rfl ck_X12_days_7_18mo rfl rfl rfl) (dk_by (j := 2) rfl ck_X12_days_7_18mo rfl rfl rfl) (dk_by (j := 3) rfl ck_X12_days_7_18mo rfl rfl rfl) (by decide)
theorem dX12_days_120 : decode cX12_days 120 = .ok (.sipush 9999, 3) := dk_s (dk_k17 120) (dk_by (j := 8) rfl ck_X12_days_7_18mo rfl rfl rfl) (dk_by (j := 9) rfl ck_X12_days_7_18mo rfl rfl rfl) (dk_by (j := 10) rfl ck_X12_days_7_18mo rfl rfl rfl) (by decide)
theorem dX12_days_116 : decode cX12_days 116 = .ok (.iconst 0, 1) := dk_0 (dk_k3 116) (dk_by (j := 4) rfl ck_X12_days_7_18mo rfl rfl rfl)
theorem dX12_days_117 : decode cX12_days 117 = .ok (.goto 6, 3) := dk_s (dk_k167 117) (dk_by (j := 5) rfl ck_X12_days_7_18mo rfl rfl rfl) (dk_by (j := 6) rfl ck_X12_days_7_18mo rfl rfl rfl) (dk_by (j := 7) rfl ck_X12_days_7_18mo rfl rfl rfl) (by decide)
theorem dX12_days_86 : decode cX12_days 86 = .ok (.aload_n 0, 1) := dk_0 (dk_k42 86) (dk_by (j := 6) rfl ck_X12_days_5_18mo rfl rfl rfl)
theorem dX12_days_87 : decode cX12_days 87 = .ok (.getfield 152, 3) := dk_2 (dk_k180 87) (dk_by (j := 7) rfl ck_X12_days_5_18mo rfl rfl rfl) (dk_by (j := 8) rfl ck_X12_days_5_18mo rfl rfl rfl) (dk_by (j := 9) rfl ck_X12_days_5_18mo rfl rfl rfl) (by decide)
theorem dX12_days_94 : decode cX12_days 94 = .ok (.iconst 3, 1) := dk_0 (dk_k6 94) (dk_by (j := 14) rfl ck_X12_days_5_18mo rfl rfl rfl)
theorem dX12_days_96 : decode cX12_days 96 = .ok (.iastore, 1) := dk_0 (dk_k79 96) (dk_by (j := 0) rfl ck_X12_days_6_18mo rfl rfl rfl)
theorem dX12_days_99 : decode cX12_days 99 = .ok (.iconst 3, 1) := dk_0 (dk_k6 99) (dk_by (j := 3) rfl ck_X12_days_6_18mo rfl rfl rfl)
theorem dX12_days_106 : decode cX12_days 106 = .ok (.goto (-25), 3) := dk_s (dk_k167 106) (dk_by (j := 10) rfl ck_X12_days_6_18mo rfl rfl rfl) (dk_by (j := 11) rfl ck_X12_days_6_18mo rfl rfl rfl) (dk_by (j := 12) rfl ck_X12_days_6_18mo rfl rfl rfl) (by decide)
theorem dX12_days_49 : decode cX12_days 49 = .ok (.iconst 3, 1) := dk_0 (dk_k6 49) (dk_by (j := 1) rfl ck_X12_days_3_18mo rfl rfl rfl)
theorem dX12_days_56 : decode cX12_days 56 = .ok (.goto (-15), 3) := dk_s (dk_k167 56) (dk_by (j := 8) rfl ck_X12_days_3_18mo rfl rfl rfl) (dk_by (j := 9) rfl ck_X12_days_3_18mo rfl rfl rfl) (dk_by (j := 10) rfl ck_X12_days_3_18mo rfl rfl rfl) (by decide)
theorem dX12_days_33 : decode cX12_days 33 = .ok (.iconst (-1), 1) := dk_0 (dk_k2 33) (dk_by (j := 1) rfl ck_X12_days_2_18mo rfl rfl rfl)
theorem dX12_days_34 : decode cX12_days 34 = .ok (.ireturn, 1) := dk_0 (dk_k172 34) (dk_by (j := 2) rfl ck_X12_days_2_18mo rfl rfl rfl)
theorem dX12_days_19 : decode cX12_days 19 = .ok (.bipush (-2), 2) := dk_1 (dk_k16 19) (dk_by (j := 3) rfl ck_X12_days_1_18mo rfl rfl rfl) (dk_by (j := 4) rfl ck_X12_days_1_18mo rfl rfl rfl) (by decide)
theorem dX12_days_21 : decode cX12_days 21 = .ok (.ireturn, 1) := dk_0 (dk_k172 21) (dk_by (j := 5) rfl ck_X12_days_1_18mo rfl rfl rfl)
theorem dX12_count_0 : decode cX12_count 0 = .ok (.iload_n 1, 1) := dk_0 (dk_k27 0) (dk_by (j := 0) rfl ck_X12_count_0_18mo rfl rfl rfl)
theorem dX12_count_1 : decode cX12_count 1 = .ok (.tableswitch 150 0 14 #[75, 80, 85, 90, 95, 100, 105, 110, 115, 120, 125, 130, 135, 140, 145], 75) := by decide +kernel
theorem dX12_count_151 : decode cX12_count 151 = .ok (.bipush (-2), 2) := dk_1 (dk_k16 151) (dk_by (j := 7) rfl ck_X12_count_9_18mo rfl rfl rfl) (dk_by (j := 8) rfl ck_X12_count_9_18mo rfl rfl rfl) (by decide)
theorem dX12_count_153 : decode cX12_count 153 = .ok (.ireturn, 1) := dk_0 (dk_k172 153) (dk_by (j := 9) rfl ck_X12_count_9_18mo rfl rfl rfl)
theorem dX12_count_76 : decode cX12_count 76 = .ok (.aload_n 0, 1) := dk_0 (dk_k42 76) (dk_by (j := 12) rfl ck_X12_count_4_18mo rfl rfl rfl)
theorem dX12_count_77 : decode cX12_count 77 = .ok (.getfield 201, 3) := dk_2 (dk_k180 77) (dk_by (j := 13) rfl ck_X12_count_4_18mo rfl rfl rfl) (dk_by (j := 14) rfl ck_X12_count_4_18mo rfl rfl rfl) (dk_by (j := 15) rfl ck_X12_count_4_18mo rfl rfl rfl) (by decide)
theorem dX12_count_80 : decode cX12_count 80 = .ok (.ireturn, 1) := dk_0 (dk_k172 80) (dk_by (j := 0) rfl ck_X12_count_5_18mo rfl rfl rfl)
theorem dX12_count_81 : decode cX12_count 81 = .ok (.aload_n 0, 1) := dk_0 (dk_k42 81) (dk_by (j := 1) rfl ck_X12_count_5_18mo rfl rfl rfl)
theorem dX12_count_82 : decode cX12_count 82 = .ok (.getfield 190, 3) := dk_2 (dk_k180 82) (dk_by (j := 2) rfl ck_X12_count_5_18mo rfl rfl rfl) (dk_by (j := 3) rfl ck_X12_count_5_18mo rfl rfl rfl) (dk_by (j := 4) rfl ck_X12_count_5_18mo rfl rfl rfl) (by decide)
theorem dX12_count_85 : decode cX12_count 85 = .ok (.ireturn, 1) := dk_0 (dk_k172 85) (dk_by (j := 5) rfl ck_X12_count_5_18mo rfl rfl rfl)
theorem dX12_count_86 : decode cX12_count 86 = .ok (.aload_n 0, 1) := dk_0 (dk_k42 86) (dk_by (j := 6) rfl ck_X12_count_5_18mo rfl rfl rfl)
theorem dX12_count_87 : decode cX12_count 87 = .ok (.getfield 211, 3) := dk_2 (dk_k180 87) (dk_by (j := 7) rfl ck_X12_count_5_18mo rfl rfl rfl) (dk_by (j := 8) rfl ck_X12_count_5_18mo rfl rfl rfl) (dk_by (j := 9) rfl ck_X12_count_5_18mo rfl rfl rfl) (by decide)
theorem dX12_count_90 : decode cX12_count 90 = .ok (.ireturn, 1) := dk_0 (dk_k172 90) (dk_by (j := 10) rfl ck_X12_count_5_18mo rfl rfl rfl)
theorem dX12_count_91 : decode cX12_count 91 = .ok (.aload_n 0, 1) := dk_0 (dk_k42 91) (dk_by (j := 11) rfl ck_X12_count_5_18mo rfl rfl rfl)
theorem dX12_count_92 : decode cX12_count 92 = .ok (.getfield 223, 3) := dk_2 (dk_k180 92) (dk_by (j := 12) rfl ck_X12_count_5_18mo rfl rfl rfl) (dk_by (j := 13) rfl ck_X12_count_5_18mo rfl rfl rfl) (dk_by (j := 14) rfl ck_X12_count_5_18mo rfl rfl rfl) (by decide)
theorem dX12_count_95 : decode cX12_count 95 = .ok (.ireturn, 1) := dk_0 (dk_k172 95) (dk_by (j := 15) rfl ck_X12_count_5_18mo rfl rfl rfl)
theorem dX12_count_96 : decode cX12_count 96 = .ok (.aload_n 0, 1) := dk_0 (dk_k42 96) (dk_by (j := 0) rfl ck_X12_count_6_18mo rfl rfl rfl)
theorem dX12_count_97 : decode cX12_count 97 = .ok (.getfield 246, 3) := dk_2 (dk_k180 97) (dk_by (j := 1) rfl ck_X12_count_6_18mo rfl rfl rfl) (dk_by (j := 2) rfl ck_X12_count_6_18mo rfl rfl rfl) (dk_by (j := 3) rfl ck_X12_count_6_18mo rfl rfl rfl) (by decide)
theorem dX12_count_100 : decode cX12_count 100 = .ok (.ireturn, 1) := dk_0 (dk_k172 100) (dk_by (j := 4) rfl ck_X12_count_6_18mo rfl rfl rfl)
theorem dX12_count_101 : decode cX12_count 101 = .ok (.aload_n 0, 1) := dk_0 (dk_k42 101) (dk_by (j := 5) rfl ck_X12_count_6_18mo rfl rfl rfl)
theorem dX12_count_102 : decode cX12_count 102 = .ok (.getfield 252, 3) := dk_2 (dk_k180 102) (dk_by (j := 6) rfl ck_X12_count_6_18mo rfl rfl rfl) (dk_by (j := 7) rfl ck_X12_count_6_18mo rfl rfl rfl) (dk_by (j := 8) rfl ck_X12_count_6_18mo rfl rfl rfl) (by decide)
theorem dX12_count_105 : decode cX12_count 105 = .ok (.ireturn, 1) := dk_0 (dk_k172 105) (dk_by (j := 9) rfl ck_X12_count_6_18mo rfl rfl rfl)
theorem dX12_count_106 : decode cX12_count 106 = .ok (.aload_n 0, 1) := dk_0 (dk_k42 106) (dk_by (j := 10) rfl ck_X12_count_6_18mo rfl rfl rfl)
theorem dX12_count_107 : decode cX12_count 107 = .ok (.getfield 263, 3) := dk_2 (dk_k180 107) (dk_by (j := 11) rfl ck_X12_count_6_18mo rfl rfl rfl) (dk_by (j := 12) rfl ck_X12_count_6_18mo rfl rfl rfl) (dk_by (j := 13) rfl ck_X12_count_6_18mo rfl rfl rfl) (by decide)
theorem dX12_count_110 : decode cX12_count 110 = .ok (.ireturn, 1) := dk_0 (dk_k172 110) (dk_by (j := 14) rfl ck_X12_count_6_18mo rfl rfl rfl)
theorem dX12_count_111 : decode cX12_count 111 = .ok (.aload_n 0, 1) := dk_0 (dk_k42 111) (dk_by (j := 15) rfl ck_X12_count_6_18mo rfl rfl rfl)
theorem dX12_count_112 : decode cX12_count 112 = .ok (.getfield 272, 3) := dk_2 (dk_k180 112) (dk_by (j := 0) rfl ck_X12_count_7_18mo rfl rfl rfl) (dk_by (j := 1) rfl ck_X12_count_7_18mo rfl rfl rfl) (dk_by (j := 2) rfl ck_X12_count_7_18mo rfl rfl rfl) (by decide)
theorem dX12_count_115 : decode cX12_count 115 = .ok (.ireturn, 1) := dk_0 (dk_k172 115) (dk_by (j := 3) rfl ck_X12_count_7_18mo rfl rfl rfl)
theorem dX12_count_116 : decode cX12_count 116 = .ok (.aload_n 0, 1) := dk_0 (dk_k42 116) (dk_by (j := 4) rfl ck_X12_count_7_18mo rfl rfl rfl)
theorem dX12_count_117 : decode cX12_count 117 = .ok (.getfield 320, 3) := dk_2 (dk_k180 117) (dk_by (j := 5) rfl ck_X12_count_7_18mo rfl rfl rfl) (dk_by (j := 6) rfl ck_X12_count_7_18mo rfl rfl rfl) (dk_by (j := 7) rfl ck_X12_count_7_18mo rfl rfl rfl) (by decide)
theorem dX12_count_120 : decode cX12_count 120 = .ok (.ireturn, 1) := dk_0 (dk_k172 120) (dk_by (j := 8) rfl ck_X12_count_7_18mo rfl rfl rfl)
theorem dX12_count_121 : decode cX12_count 121 = .ok (.aload_n 0, 1) := dk_0 (dk_k42 121) (dk_by (j := 9) rfl ck_X12_count_7_18mo rfl rfl rfl)
theorem dX12_count_122 : decode cX12_count 122 = .ok (.getfield 440, 3) := dk_2 (dk_k180 122) (dk_by (j := 10) rfl ck_X12_count_7_18mo rfl rfl rfl) (dk_by (j := 11) rfl ck_X12_count_7_18mo rfl rfl rfl) (dk_by (j := 12) rfl ck_X12_count_7_18mo rfl rfl rfl) (by decide)
theorem dX12_count_125 : decode cX12_count 125 = .ok (.ireturn, 1) := dk_0 (dk_k172 125) (dk_by (j := 13) rfl ck_X12_count_7_18mo rfl rfl rfl)
theorem dX12_count_126 : decode cX12_count 126 = .ok (.aload_n 0, 1) := dk_0 (dk_k42 126) (dk_by (j := 14) rfl ck_X12_count_7_18mo rfl rfl rfl)
theorem dX12_count_127 : decode cX12_count 127 = .ok (.getfield 448, 3) := dk_2 (dk_k180 127) (dk_by (j := 15) rfl ck_X12_count_7_18mo rfl rfl rfl) (dk_by (j := 0) rfl ck_X12_count_8_18mo rfl rfl rfl) (dk_by (j := 1) rfl ck_X12_count_8_18mo rfl rfl rfl) (by decide)
theorem dX12_count_130 : decode cX12_count 130 = .ok (.ireturn, 1) := dk_0 (dk_k172 130) (dk_by (j := 2) rfl ck_X12_count_8_18mo rfl rfl rfl)
theorem dX12_count_131 : decode cX12_count 131 = .ok (.aload_n 0, 1) := dk_0 (dk_k42 131) (dk_by (j := 3) rfl ck_X12_count_8_18mo rfl rfl rfl)
theorem dX12_count_132 : decode cX12_count 132 = .ok (.getfield 182, 3) := dk_2 (dk_k180 132) (dk_by (j := 4) rfl ck_X12_count_8_18mo rfl rfl rfl) (dk_by (j := 5) rfl ck_X12_count_8_18mo rfl rfl rfl) (dk_by (j := 6) rfl ck_X12_count_8_18mo rfl rfl rfl) (by decide)
theorem dX12_count_135 : decode cX12_count 135 = .ok (.ireturn, 1) := dk_0 (dk_k172 135) (dk_by (j := 7) rfl ck_X12_count_8_18mo rfl rfl rfl)
theorem dX12_count_136 : decode cX12_count 136 = .ok (.aload_n 0, 1) := dk_0 (dk_k42 136) (dk_by (j := 8) rfl ck_X12_count_8_18mo rfl rfl rfl)
theorem dX12_count_137 : decode cX12_count 137 = .ok (.getfield 323, 3) := dk_2 (dk_k180 137) (dk_by (j := 9) rfl ck_X12_count_8_18mo rfl rfl rfl) (dk_by (j := 10) rfl ck_X12_count_8_18mo rfl rfl rfl) (dk_by (j := 11) rfl ck_X12_count_8_18mo rfl rfl rfl) (by decide)
theorem dX12_count_140 : decode cX12_count 140 = .ok (.ireturn, 1) := dk_0 (dk_k172 140) (dk_by (j := 12) rfl ck_X12_count_8_18mo rfl rfl rfl)
theorem dX12_count_141 : decode cX12_count 141 = .ok (.aload_n 0, 1) := dk_0 (dk_k42 141) (dk_by (j := 13) rfl ck_X12_count_8_18mo rfl rfl rfl)
theorem dX12_count_142 : decode cX12_count 142 = .ok (.getfield 431, 3) := dk_2 (dk_k180 142) (dk_by (j := 14) rfl ck_X12_count_8_18mo rfl rfl rfl) (dk_by (j := 15) rfl ck_X12_count_8_18mo rfl rfl rfl) (dk_by (j := 0) rfl ck_X12_count_9_18mo rfl rfl rfl) (by decide)
theorem dX12_count_145 : decode cX12_count 145 = .ok (.ireturn, 1) := dk_0 (dk_k172 145) (dk_by (j := 1) rfl ck_X12_count_9_18mo rfl rfl rfl)
theorem dX12_count_146 : decode cX12_count 146 = .ok (.aload_n 0, 1) := dk_0 (dk_k42 146) (dk_by (j := 2) rfl ck_X12_count_9_18mo rfl rfl rfl)
theorem dX12_count_147 : decode cX12_count 147 = .ok (.getfield 307, 3) := dk_2 (dk_k180 147) (dk_by (j := 3) rfl ck_X12_count_9_18mo rfl rfl rfl) (dk_by (j := 4) rfl ck_X12_count_9_18mo rfl rfl rfl) (dk_by (j := 5) rfl ck_X12_count_9_18mo rfl rfl rfl) (by decide)
theorem dX12_count_150 : decode cX12_count 150 = .ok (.ireturn, 1) := dk_0 (dk_k172 150) (dk_by (j := 6) rfl ck_X12_count_9_18mo rfl rfl rfl)
theorem gX12_sheet_X12_isSheet : GoodIn wsX12_sheet (va_wsS RX12 457 yX12_isSheet wsX12_isSheet) := ru_gG (ru_gS tw_7_204 tw_7_205 tw_1_12 mT_X12_isSheet)
theorem gX12_sheet_X12_within : GoodIn wsX12_sheet (va_wsS RX12 186 yX12_within wsX12_within) := ru_gG (ru_gS tw_6_122 tw_6_123 tw_1_12 mT_X12_within)
theorem gX12_cell_X12_isSheet : GoodIn wsX12_cell (va_wsS RX12 457 yX12_isSheet wsX12_isSheet) := ru_gG (ru_gS tw_7_204 tw_7_205 tw_1_12 mT_X12_isSheet)
theorem gX12_cell_X12_isItem : GoodIn wsX12_cell (wsV RX12 460 RX12 yX12_isItem wsX12_isItem) := ru_gG (ru_gV tw_7_211 tw_7_213 tw_0_62 tw_1_12 mT_X12_isItem)
theorem dX12_copy_0 : decode cX12_copy 0 = .ok (.iload_n 1, 1) := dk_0 (dk_k27 0) (dk_by (j := 0) rfl ck_X12_copy_0_18mo rfl rfl rfl)
theorem gX12_copy_X12_isSheet : GoodIn wsX12_copy (va_wsS RX12 457 yX12_isSheet wsX12_isSheet) := ru_gG (ru_gS tw_7_204 tw_7_205 tw_1_12 mT_X12_isSheet)
theorem dX12_copy_1 : decode cX12_copy 1 = .ok (.invokestatic 457, 3) := dk_2 (dk_k184 1) (dk_by (j := 1) rfl ck_X12_copy_0_18mo rfl rfl rfl) (dk_by (j := 2) rfl ck_X12_copy_0_18mo rfl rfl rfl) (dk_by (j := 3) rfl ck_X12_copy_0_18mo rfl rfl rfl) (by decide)
theorem dX12_copy_4 : decode cX12_copy 4 = .ok (.ifCond .eq 10, 3) := dk_s (dk_k153 4) (dk_by (j := 4) rfl ck_X12_copy_0_18mo rfl rfl rfl) (dk_by (j := 5) rfl ck_X12_copy_0_18mo rfl rfl rfl) (dk_by (j := 6) rfl ck_X12_copy_0_18mo rfl rfl rfl) (by decide)
theorem dX12_copy_7 : decode cX12_copy 7 = .ok (.iload_n 3, 1) := dk_0 (dk_k29 7) (dk_by (j := 7) rfl ck_X12_copy_0_18mo rfl rfl rfl)
theorem dX12_copy_8 : decode cX12_copy 8 = .ok (.invokestatic 457, 3) := dk_2 (dk_k184 8) (dk_by (j := 8) rfl ck_X12_copy_0_18mo rfl rfl rfl) (dk_by (j := 9) rfl ck_X12_copy_0_18mo rfl rfl rfl) (dk_by (j := 10) rfl ck_X12_copy_0_18mo rfl rfl rfl) (by decide)
theorem dX12_copy_11 : decode cX12_copy 11 = .ok (.ifCond .ne 6, 3) := dk_s (dk_k154 11) (dk_by (j := 11) rfl ck_X12_copy_0_18mo rfl rfl rfl) (dk_by (j := 12) rfl ck_X12_copy_0_18mo rfl rfl rfl) (dk_by (j := 13) rfl ck_X12_copy_0_18mo rfl rfl rfl) (by decide)
theorem dX12_copy_17 : decode cX12_copy 17 = .ok (.aload_n 0, 1) := dk_0 (dk_k42 17) (dk_by (j := 1) rfl ck_X12_copy_1_18mo rfl rfl rfl)
theorem dX12_copy_18 : decode cX12_copy 18 = .ok (.getfield 158, 3) := dk_2 (dk_k180 18) (dk_by (j := 2) rfl ck_X12_copy_1_18mo rfl rfl rfl) (dk_by (j := 3) rfl ck_X12_copy_1_18mo rfl rfl rfl) (dk_by (j := 4) rfl ck_X12_copy_1_18mo rfl rfl rfl) (by decide)
theorem dX12_copy_21 : decode cX12_copy 21 = .ok (.iload_n 1, 1) := dk_0 (dk_k27 21) (dk_by (j := 5) rfl ck_X12_copy_1_18mo rfl rfl rfl)
theorem dX12_copy_22 : decode cX12_copy 22 = .ok (.iaload, 1) := dk_0 (dk_k46 22) (dk_by (j := 6) rfl ck_X12_copy_1_18mo rfl rfl rfl)
theorem dX12_copy_23 : decode cX12_copy 23 = .ok (.ifCond .lt 12, 3) := dk_s (dk_k155 23) (dk_by (j := 7) rfl ck_X12_copy_1_18mo rfl rfl rfl) (dk_by (j := 8) rfl ck_X12_copy_1_18mo rfl rfl rfl) (dk_by (j := 9) rfl ck_X12_copy_1_18mo rfl rfl rfl) (by decide)
theorem dX12_copy_35 : decode cX12_copy 35 = .ok (.bipush (-11), 2) := dk_1 (dk_k16 35) (dk_by (j := 3) rfl ck_X12_copy_2_18mo rfl rfl rfl) (dk_by (j := 4) rfl ck_X12_copy_2_18mo rfl rfl rfl) (by decide)
theorem dX12_copy_37 : decode cX12_copy 37 = .ok (.ireturn, 1) := dk_0 (dk_k172 37) (dk_by (j := 5) rfl ck_X12_copy_2_18mo rfl rfl rfl)
theorem dX12_copy_26 : decode cX12_copy 26 = .ok (.aload_n 0, 1) := dk_0 (dk_k42 26) (dk_by (j := 10) rfl ck_X12_copy_1_18mo rfl rfl rfl)
theorem dX12_copy_27 : decode cX12_copy 27 = .ok (.getfield 158, 3) := dk_2 (dk_k180 27) (dk_by (j := 11) rfl ck_X12_copy_1_18mo rfl rfl rfl) (dk_by (j := 12) rfl ck_X12_copy_1_18mo rfl rfl rfl) (dk_by (j := 13) rfl ck_X12_copy_1_18mo rfl rfl rfl) (by decide)
theorem dX12_copy_30 : decode cX12_copy 30 = .ok (.iload_n 3, 1) := dk_0 (dk_k29 30) (dk_by (j := 14) rfl ck_X12_copy_1_18mo rfl rfl rfl)
theorem dX12_copy_31 : decode cX12_copy 31 = .ok (.iaload, 1) := dk_0 (dk_k46 31) (dk_by (j := 15) rfl ck_X12_copy_1_18mo rfl rfl rfl)
theorem dX12_copy_32 : decode cX12_copy 32 = .ok (.ifCond .ge 6, 3) := dk_s (dk_k156 32) (dk_by (j := 0) rfl ck_X12_copy_2_18mo rfl rfl rfl) (dk_by (j := 1) rfl ck_X12_copy_2_18mo rfl rfl rfl) (dk_by (j := 2) rfl ck_X12_copy_2_18mo rfl rfl rfl) (by decide)
theorem dX12_copy_38 : decode cX12_copy 38 = .ok (.aload_n 0, 1) := dk_0 (dk_k42 38) (dk_by (j := 6) rfl ck_X12_copy_2_18mo rfl rfl rfl)
theorem dX12_copy_39 : decode cX12_copy 39 = .ok (.getfield 158, 3) := dk_2 (dk_k180 39) (dk_by (j := 7) rfl ck_X12_copy_2_18mo rfl rfl rfl) (dk_by (j := 8) rfl ck_X12_copy_2_18mo rfl rfl rfl) (dk_by (j := 9) rfl ck_X12_copy_2_18mo rfl rfl rfl) (by decide)
theorem dX12_copy_42 : decode cX12_copy 42 = .ok (.iload_n 1, 1) := dk_0 (dk_k27 42) (dk_by (j := 10) rfl ck_X12_copy_2_18mo rfl rfl rfl)
theorem dX12_copy_43 : decode cX12_copy 43 = .ok (.iaload, 1) := dk_0 (dk_k46 43) (dk_by (j := 11) rfl ck_X12_copy_2_18mo rfl rfl rfl)
theorem dX12_copy_44 : decode cX12_copy 44 = .ok (.aload_n 0, 1) := dk_0 (dk_k42 44) (dk_by (j := 12) rfl ck_X12_copy_2_18mo rfl rfl rfl)
theorem dX12_copy_45 : decode cX12_copy 45 = .ok (.getfield 158, 3) := dk_2 (dk_k180 45) (dk_by (j := 13) rfl ck_X12_copy_2_18mo rfl rfl rfl) (dk_by (j := 14) rfl ck_X12_copy_2_18mo rfl rfl rfl) (dk_by (j := 15) rfl ck_X12_copy_2_18mo rfl rfl rfl) (by decide)
theorem dX12_copy_48 : decode cX12_copy 48 = .ok (.iload_n 3, 1) := dk_0 (dk_k29 48) (dk_by (j := 0) rfl ck_X12_copy_3_18mo rfl rfl rfl)
theorem dX12_copy_49 : decode cX12_copy 49 = .ok (.iaload, 1) := dk_0 (dk_k46 49) (dk_by (j := 1) rfl ck_X12_copy_3_18mo rfl rfl rfl)
theorem dX12_copy_50 : decode cX12_copy 50 = .ok (.if_icmp .eq 6, 3) := dk_s (dk_k159 50) (dk_by (j := 2) rfl ck_X12_copy_3_18mo rfl rfl rfl) (dk_by (j := 3) rfl ck_X12_copy_3_18mo rfl rfl rfl) (dk_by (j := 4) rfl ck_X12_copy_3_18mo rfl rfl rfl) (by decide)
theorem dX12_copy_58 : decode cX12_copy 58 = .ok (.ifCond .lt 39, 3) := dk_s (dk_k155 58) (dk_by (j := 10) rfl ck_X12_copy_3_18mo rfl rfl rfl) (dk_by (j := 11) rfl ck_X12_copy_3_18mo rfl rfl rfl) (dk_by (j := 12) rfl ck_X12_copy_3_18mo rfl rfl rfl) (by decide)
theorem dX12_copy_97 : decode cX12_copy 97 = .ok (.bipush (-12), 2) := dk_1 (dk_k16 97) (dk_by (j := 1) rfl ck_X12_copy_6_18mo rfl rfl rfl) (dk_by (j := 2) rfl ck_X12_copy_6_18mo rfl rfl rfl) (by decide)
theorem dX12_copy_99 : decode cX12_copy 99 = .ok (.ireturn, 1) := dk_0 (dk_k172 99) (dk_by (j := 3) rfl ck_X12_copy_6_18mo rfl rfl rfl)
theorem dX12_copy_61 : decode cX12_copy 61 = .ok (.iload_n 2, 1) := dk_0 (dk_k28 61) (dk_by (j := 13) rfl ck_X12_copy_3_18mo rfl rfl rfl)
theorem dX12_copy_62 : decode cX12_copy 62 = .ok (.ifCond .lt 35, 3) := dk_s (dk_k155 62) (dk_by (j := 14) rfl ck_X12_copy_3_18mo rfl rfl rfl) (dk_by (j := 15) rfl ck_X12_copy_3_18mo rfl rfl rfl) (dk_by (j := 0) rfl ck_X12_copy_4_18mo rfl rfl rfl) (by decide)
theorem dX12_copy_67 : decode cX12_copy 67 = .ok (.ifCond .lt 30, 3) := dk_s (dk_k155 67) (dk_by (j := 3) rfl ck_X12_copy_4_18mo rfl rfl rfl) (dk_by (j := 4) rfl ck_X12_copy_4_18mo rfl rfl rfl) (dk_by (j := 5) rfl ck_X12_copy_4_18mo rfl rfl rfl) (by decide)
theorem dX12_copy_70 : decode cX12_copy 70 = .ok (.iload_n 2, 1) := dk_0 (dk_k28 70) (dk_by (j := 6) rfl ck_X12_copy_4_18mo rfl rfl rfl)
theorem dX12_copy_71 : decode cX12_copy 71 = .ok (.aload_n 0, 1) := dk_0 (dk_k42 71) (dk_by (j := 7) rfl ck_X12_copy_4_18mo rfl rfl rfl)
theorem dX12_copy_72 : decode cX12_copy 72 = .ok (.getfield 161, 3) := dk_2 (dk_k180 72) (dk_by (j := 8) rfl ck_X12_copy_4_18mo rfl rfl rfl) (dk_by (j := 9) rfl ck_X12_copy_4_18mo rfl rfl rfl) (dk_by (j := 10) rfl ck_X12_copy_4_18mo rfl rfl rfl) (by decide)
theorem dX12_copy_75 : decode cX12_copy 75 = .ok (.iload_n 1, 1) := dk_0 (dk_k27 75) (dk_by (j := 11) rfl ck_X12_copy_4_18mo rfl rfl rfl)
theorem dX12_copy_76 : decode cX12_copy 76 = .ok (.iaload, 1) := dk_0 (dk_k46 76) (dk_by (j := 12) rfl ck_X12_copy_4_18mo rfl rfl rfl)
theorem dX12_copy_79 : decode cX12_copy 79 = .ok (.isub, 1) := dk_0 (dk_k100 79) (dk_by (j := 15) rfl ck_X12_copy_4_18mo rfl rfl rfl)
theorem dX12_copy_80 : decode cX12_copy 80 = .ok (.if_icmp .gt 17, 3) := dk_s (dk_k163 80) (dk_by (j := 0) rfl ck_X12_copy_5_18mo rfl rfl rfl) (dk_by (j := 1) rfl ck_X12_copy_5_18mo rfl rfl rfl) (dk_by (j := 2) rfl ck_X12_copy_5_18mo rfl rfl rfl) (by decide)
theorem dX12_copy_85 : decode cX12_copy 85 = .ok (.aload_n 0, 1) := dk_0 (dk_k42 85) (dk_by (j := 5) rfl ck_X12_copy_5_18mo rfl rfl rfl)
theorem dX12_copy_86 : decode cX12_copy 86 = .ok (.getfield 161, 3) := dk_2 (dk_k180 86) (dk_by (j := 6) rfl ck_X12_copy_5_18mo rfl rfl rfl) (dk_by (j := 7) rfl ck_X12_copy_5_18mo rfl rfl rfl) (dk_by (j := 8) rfl ck_X12_copy_5_18mo rfl rfl rfl) (by decide)
theorem dX12_copy_89 : decode cX12_copy 89 = .ok (.iload_n 3, 1) := dk_0 (dk_k29 89) (dk_by (j := 9) rfl ck_X12_copy_5_18mo rfl rfl rfl)
theorem dX12_copy_90 : decode cX12_copy 90 = .ok (.iaload, 1) := dk_0 (dk_k46 90) (dk_by (j := 10) rfl ck_X12_copy_5_18mo rfl rfl rfl)
theorem dX12_copy_93 : decode cX12_copy 93 = .ok (.isub, 1) := dk_0 (dk_k100 93) (dk_by (j := 13) rfl ck_X12_copy_5_18mo rfl rfl rfl)
theorem dX12_copy_94 : decode cX12_copy 94 = .ok (.if_icmp .le 6, 3) := dk_s (dk_k164 94) (dk_by (j := 14) rfl ck_X12_copy_5_18mo rfl rfl rfl) (dk_by (j := 15) rfl ck_X12_copy_5_18mo rfl rfl rfl) (dk_by (j := 0) rfl ck_X12_copy_6_18mo rfl rfl rfl) (by decide)
theorem dX12_copy_100 : decode cX12_copy 100 = .ok (.iconst 0, 1) := dk_0 (dk_k3 100) (dk_by (j := 4) rfl ck_X12_copy_6_18mo rfl rfl rfl)
theorem dX12_copy_107 : decode cX12_copy 107 = .ok (.if_icmp .ge 30, 3) := dk_s (dk_k162 107) (dk_by (j := 11) rfl ck_X12_copy_6_18mo rfl rfl rfl) (dk_by (j := 12) rfl ck_X12_copy_6_18mo rfl rfl rfl) (dk_by (j := 13) rfl ck_X12_copy_6_18mo rfl rfl rfl) (by decide)
theorem dX12_copy_137 : decode cX12_copy 137 = .ok (.iconst 0, 1) := dk_0 (dk_k3 137) (dk_by (j := 9) rfl ck_X12_copy_8_18mo rfl rfl rfl)
theorem dX12_copy_144 : decode cX12_copy 144 = .ok (.if_icmp .ge 31, 3) := dk_s (dk_k162 144) (dk_by (j := 0) rfl ck_X12_copy_9_18mo rfl rfl rfl) (dk_by (j := 1) rfl ck_X12_copy_9_18mo rfl rfl rfl) (dk_by (j := 2) rfl ck_X12_copy_9_18mo rfl rfl rfl) (by decide)
theorem dX12_copy_177 : decode cX12_copy 177 = .ok (.ireturn, 1) := dk_0 (dk_k172 177) (dk_by (j := 1) rfl ck_X12_copy_11_18mo rfl rfl rfl)
theorem dX12_copy_147 : decode cX12_copy 147 = .ok (.aload_n 0, 1) := dk_0 (dk_k42 147) (dk_by (j := 3) rfl ck_X12_copy_9_18mo rfl rfl rfl)
theorem dX12_copy_148 : decode cX12_copy 148 = .ok (.getfield 164, 3) := dk_2 (dk_k180 148) (dk_by (j := 4) rfl ck_X12_copy_9_18mo rfl rfl rfl) (dk_by (j := 5) rfl ck_X12_copy_9_18mo rfl rfl rfl) (dk_by (j := 6) rfl ck_X12_copy_9_18mo rfl rfl rfl) (by decide)
theorem dX12_copy_151 : decode cX12_copy 151 = .ok (.bipush 40, 2) := dk_1 (dk_k16 151) (dk_by (j := 7) rfl ck_X12_copy_9_18mo rfl rfl rfl) (dk_by (j := 8) rfl ck_X12_copy_9_18mo rfl rfl rfl) (by decide)
theorem dX12_copy_153 : decode cX12_copy 153 = .ok (.iload_n 3, 1) := dk_0 (dk_k29 153) (dk_by (j := 9) rfl ck_X12_copy_9_18mo rfl rfl rfl)
theorem dX12_copy_157 : decode cX12_copy 157 = .ok (.iadd, 1) := dk_0 (dk_k96 157) (dk_by (j := 13) rfl ck_X12_copy_9_18mo rfl rfl rfl)
theorem dX12_copy_160 : decode cX12_copy 160 = .ok (.iadd, 1) := dk_0 (dk_k96 160) (dk_by (j := 0) rfl ck_X12_copy_10_18mo rfl rfl rfl)
theorem dX12_copy_161 : decode cX12_copy 161 = .ok (.aload_n 0, 1) := dk_0 (dk_k42 161) (dk_by (j := 1) rfl ck_X12_copy_10_18mo rfl rfl rfl)
theorem dX12_copy_162 : decode cX12_copy 162 = .ok (.getfield 167, 3) := dk_2 (dk_k180 162) (dk_by (j := 2) rfl ck_X12_copy_10_18mo rfl rfl rfl) (dk_by (j := 3) rfl ck_X12_copy_10_18mo rfl rfl rfl) (dk_by (j := 4) rfl ck_X12_copy_10_18mo rfl rfl rfl) (by decide)
theorem dX12_copy_167 : decode cX12_copy 167 = .ok (.iaload, 1) := dk_0 (dk_k46 167) (dk_by (j := 7) rfl ck_X12_copy_10_18mo rfl rfl rfl)
theorem dX12_copy_168 : decode cX12_copy 168 = .ok (.iastore, 1) := dk_0 (dk_k79 168) (dk_by (j := 8) rfl ck_X12_copy_10_18mo rfl rfl rfl)
theorem dX12_copy_172 : decode cX12_copy 172 = .ok (.goto (-32), 3) := dk_s (dk_k167 172) (dk_by (j := 12) rfl ck_X12_copy_10_18mo rfl rfl rfl) (dk_by (j := 13) rfl ck_X12_copy_10_18mo rfl rfl rfl) (dk_by (j := 14) rfl ck_X12_copy_10_18mo rfl rfl rfl) (by decide)
theorem dX12_copy_110 : decode cX12_copy 110 = .ok (.aload_n 0, 1) := dk_0 (dk_k42 110) (dk_by (j := 14) rfl ck_X12_copy_6_18mo rfl rfl rfl)
theorem dX12_copy_111 : decode cX12_copy 111 = .ok (.getfield 167, 3) := dk_2 (dk_k180 111) (dk_by (j := 15) rfl ck_X12_copy_6_18mo rfl rfl rfl) (dk_by (j := 0) rfl ck_X12_copy_7_18mo rfl rfl rfl) (dk_by (j := 1) rfl ck_X12_copy_7_18mo rfl rfl rfl) (by decide)
theorem dX12_copy_116 : decode cX12_copy 116 = .ok (.aload_n 0, 1) := dk_0 (dk_k42 116) (dk_by (j := 4) rfl ck_X12_copy_7_18mo rfl rfl rfl)
theorem dX12_copy_117 : decode cX12_copy 117 = .ok (.getfield 164, 3) := dk_2 (dk_k180 117) (dk_by (j := 5) rfl ck_X12_copy_7_18mo rfl rfl rfl) (dk_by (j := 6) rfl ck_X12_copy_7_18mo rfl rfl rfl) (dk_by (j := 7) rfl ck_X12_copy_7_18mo rfl rfl rfl) (by decide)
theorem dX12_copy_120 : decode cX12_copy 120 = .ok (.bipush 40, 2) := dk_1 (dk_k16 120) (dk_by (j := 8) rfl ck_X12_copy_7_18mo rfl rfl rfl) (dk_by (j := 9) rfl ck_X12_copy_7_18mo rfl rfl rfl) (by decide)
theorem dX12_copy_122 : decode cX12_copy 122 = .ok (.iload_n 1, 1) := dk_0 (dk_k27 122) (dk_by (j := 10) rfl ck_X12_copy_7_18mo rfl rfl rfl)
theorem dX12_copy_124 : decode cX12_copy 124 = .ok (.iload_n 2, 1) := dk_0 (dk_k28 124) (dk_by (j := 12) rfl ck_X12_copy_7_18mo rfl rfl rfl)
theorem dX12_copy_125 : decode cX12_copy 125 = .ok (.iadd, 1) := dk_0 (dk_k96 125) (dk_by (j := 13) rfl ck_X12_copy_7_18mo rfl rfl rfl)
theorem dX12_copy_128 : decode cX12_copy 128 = .ok (.iadd, 1) := dk_0 (dk_k96 128) (dk_by (j := 0) rfl ck_X12_copy_8_18mo rfl rfl rfl)
theorem dX12_copy_129 : decode cX12_copy 129 = .ok (.iaload, 1) := dk_0 (dk_k46 129) (dk_by (j := 1) rfl ck_X12_copy_8_18mo rfl rfl rfl)
theorem dX12_copy_130 : decode cX12_copy 130 = .ok (.iastore, 1) := dk_0 (dk_k79 130) (dk_by (j := 2) rfl ck_X12_copy_8_18mo rfl rfl rfl)
theorem dX12_copy_134 : decode cX12_copy 134 = .ok (.goto (-31), 3) := dk_s (dk_k167 134) (dk_by (j := 6) rfl ck_X12_copy_8_18mo rfl rfl rfl) (dk_by (j := 7) rfl ck_X12_copy_8_18mo rfl rfl rfl) (dk_by (j := 8) rfl ck_X12_copy_8_18mo rfl rfl rfl) (by decide)
theorem dX12_copy_53 : decode cX12_copy 53 = .ok (.bipush (-13), 2) := dk_1 (dk_k16 53) (dk_by (j := 5) rfl ck_X12_copy_3_18mo rfl rfl rfl) (dk_by (j := 6) rfl ck_X12_copy_3_18mo rfl rfl rfl) (by decide)
theorem dX12_copy_55 : decode cX12_copy 55 = .ok (.ireturn, 1) := dk_0 (dk_k172 55) (dk_by (j := 7) rfl ck_X12_copy_3_18mo rfl rfl rfl)
theorem dX12_copy_14 : decode cX12_copy 14 = .ok (.bipush (-2), 2) := dk_1 (dk_k16 14) (dk_by (j := 14) rfl ck_X12_copy_0_18mo rfl rfl rfl) (dk_by (j := 15) rfl ck_X12_copy_0_18mo rfl rfl rfl) (by decide)
theorem dX12_copy_16 : decode cX12_copy 16 = .ok (.ireturn, 1) := dk_0 (dk_k172 16) (dk_by (j := 0) rfl ck_X12_copy_1_18mo rfl rfl rfl)
theorem dX12_fixes_0 : decode cX12_fixes 0 = .ok (.aload_n 0, 1) := dk_0 (dk_k42 0) (dk_by (j := 0) rfl ck_X12_fixes_0_18mo rfl rfl rfl)
theorem dX12_fixes_1 : decode cX12_fixes 1 = .ok (.iload_n 1, 1) := dk_0 (dk_k27 1) (dk_by (j := 1) rfl ck_X12_fixes_0_18mo rfl rfl rfl)
theorem gX12_fixes_X12_isBody : GoodIn wsX12_fixes (wsV RX12 193 RX12 yX12_isBody wsX12_isBody) := ru_gG (ru_gV tw_6_151 tw_6_153 tw_0_30 tw_1_12 mT_X12_isBody)
theorem dX12_fixes_2 : decode cX12_fixes 2 = .ok (.invokevirtual 193, 3) := dk_2 (dk_k182 2) (dk_by (j := 2) rfl ck_X12_fixes_0_18mo rfl rfl rfl) (dk_by (j := 3) rfl ck_X12_fixes_0_18mo rfl rfl rfl) (dk_by (j := 4) rfl ck_X12_fixes_0_18mo rfl rfl rfl) (by decide)
theorem dX12_fixes_5 : decode cX12_fixes 5 = .ok (.ifCond .eq 30, 3) := dk_s (dk_k153 5) (dk_by (j := 5) rfl ck_X12_fixes_0_18mo rfl rfl rfl) (dk_by (j := 6) rfl ck_X12_fixes_0_18mo rfl rfl rfl) (dk_by (j := 7) rfl ck_X12_fixes_0_18mo rfl rfl rfl) (by decide)
theorem dX12_fixes_8 : decode cX12_fixes 8 = .ok (.iload_n 2, 1) := dk_0 (dk_k28 8) (dk_by (j := 8) rfl ck_X12_fixes_0_18mo rfl rfl rfl)
theorem gX12_fixes_X12_isSheet : GoodIn wsX12_fixes (va_wsS RX12 457 yX12_isSheet wsX12_isSheet) := ru_gG (ru_gS tw_7_204 tw_7_205 tw_1_12 mT_X12_isSheet)
theorem dX12_fixes_9 : decode cX12_fixes 9 = .ok (.invokestatic 457, 3) := dk_2 (dk_k184 9) (dk_by (j := 9) rfl ck_X12_fixes_0_18mo rfl rfl rfl) (dk_by (j := 10) rfl ck_X12_fixes_0_18mo rfl rfl rfl) (dk_by (j := 11) rfl ck_X12_fixes_0_18mo rfl rfl rfl) (by decide)
theorem dX12_fixes_12 : decode cX12_fixes 12 = .ok (.ifCond .eq 23, 3) := dk_s (dk_k153 12) (dk_by (j := 12) rfl ck_X12_fixes_0_18mo rfl rfl rfl) (dk_by (j := 13) rfl ck_X12_fixes_0_18mo rfl rfl rfl) (dk_by (j := 14) rfl ck_X12_fixes_0_18mo rfl rfl rfl) (by decide)
theorem dX12_fixes_15 : decode cX12_fixes 15 = .ok (.iload_n 3, 1) := dk_0 (dk_k29 15) (dk_by (j := 15) rfl ck_X12_fixes_0_18mo rfl rfl rfl)
theorem dX12_fixes_16 : decode cX12_fixes 16 = .ok (.iconst 0, 1) := dk_0 (dk_k3 16) (dk_by (j := 0) rfl ck_X12_fixes_1_18mo rfl rfl rfl)
theorem dX12_fixes_17 : decode cX12_fixes 17 = .ok (.iconst 2, 1) := dk_0 (dk_k5 17) (dk_by (j := 1) rfl ck_X12_fixes_1_18mo rfl rfl rfl)
theorem gX12_fixes_X12_within : GoodIn wsX12_fixes (va_wsS RX12 186 yX12_within wsX12_within) := ru_gG (ru_gS tw_6_122 tw_6_123 tw_1_12 mT_X12_within)
theorem dX12_fixes_18 : decode cX12_fixes 18 = .ok (.invokestatic 186, 3) := dk_2 (dk_k184 18) (dk_by (j := 2) rfl ck_X12_fixes_1_18mo rfl rfl rfl) (dk_by (j := 3) rfl ck_X12_fixes_1_18mo rfl rfl rfl) (dk_by (j := 4) rfl ck_X12_fixes_1_18mo rfl rfl rfl) (by decide)
theorem dX12_fixes_21 : decode cX12_fixes 21 = .ok (.ifCond .eq 14, 3) := dk_s (dk_k153 21) (dk_by (j := 5) rfl ck_X12_fixes_1_18mo rfl rfl rfl) (dk_by (j := 6) rfl ck_X12_fixes_1_18mo rfl rfl rfl) (dk_by (j := 7) rfl ck_X12_fixes_1_18mo rfl rfl rfl) (by decide)
theorem dX12_fixes_26 : decode cX12_fixes 26 = .ok (.iconst 0, 1) := dk_0 (dk_k3 26) (dk_by (j := 10) rfl ck_X12_fixes_1_18mo rfl rfl rfl)
theorem dX12_fixes_27 : decode cX12_fixes 27 = .ok (.bipush 20, 2) := dk_1 (dk_k16 27) (dk_by (j := 11) rfl ck_X12_fixes_1_18mo rfl rfl rfl) (dk_by (j := 12) rfl ck_X12_fixes_1_18mo rfl rfl rfl) (by decide)
theorem dX12_fixes_29 : decode cX12_fixes 29 = .ok (.invokestatic 186, 3) := dk_2 (dk_k184 29) (dk_by (j := 13) rfl ck_X12_fixes_1_18mo rfl rfl rfl) (dk_by (j := 14) rfl ck_X12_fixes_1_18mo rfl rfl rfl) (dk_by (j := 15) rfl ck_X12_fixes_1_18mo rfl rfl rfl) (by decide)
theorem dX12_fixes_32 : decode cX12_fixes 32 = .ok (.ifCond .ne 6, 3) := dk_s (dk_k154 32) (dk_by (j := 0) rfl ck_X12_fixes_2_18mo rfl rfl rfl) (dk_by (j := 1) rfl ck_X12_fixes_2_18mo rfl rfl rfl) (dk_by (j := 2) rfl ck_X12_fixes_2_18mo rfl rfl rfl) (by decide)
theorem dX12_fixes_38 : decode cX12_fixes 38 = .ok (.aload_n 0, 1) := dk_0 (dk_k42 38) (dk_by (j := 6) rfl ck_X12_fixes_2_18mo rfl rfl rfl)
theorem dX12_fixes_39 : decode cX12_fixes 39 = .ok (.getfield 158, 3) := dk_2 (dk_k180 39) (dk_by (j := 7) rfl ck_X12_fixes_2_18mo rfl rfl rfl) (dk_by (j := 8) rfl ck_X12_fixes_2_18mo rfl rfl rfl) (dk_by (j := 9) rfl ck_X12_fixes_2_18mo rfl rfl rfl) (by decide)
theorem dX12_fixes_42 : decode cX12_fixes 42 = .ok (.iload_n 2, 1) := dk_0 (dk_k28 42) (dk_by (j := 10) rfl ck_X12_fixes_2_18mo rfl rfl rfl)
theorem dX12_fixes_43 : decode cX12_fixes 43 = .ok (.iaload, 1) := dk_0 (dk_k46 43) (dk_by (j := 11) rfl ck_X12_fixes_2_18mo rfl rfl rfl)
theorem dX12_fixes_44 : decode cX12_fixes 44 = .ok (.ifCond .ge 6, 3) := dk_s (dk_k156 44) (dk_by (j := 12) rfl ck_X12_fixes_2_18mo rfl rfl rfl) (dk_by (j := 13) rfl ck_X12_fixes_2_18mo rfl rfl rfl) (dk_by (j := 14) rfl ck_X12_fixes_2_18mo rfl rfl rfl) (by decide)
theorem dX12_fixes_50 : decode cX12_fixes 50 = .ok (.aload_n 0, 1) := dk_0 (dk_k42 50) (dk_by (j := 2) rfl ck_X12_fixes_3_18mo rfl rfl rfl)
theorem dX12_fixes_51 : decode cX12_fixes 51 = .ok (.getfield 158, 3) := dk_2 (dk_k180 51) (dk_by (j := 3) rfl ck_X12_fixes_3_18mo rfl rfl rfl) (dk_by (j := 4) rfl ck_X12_fixes_3_18mo rfl rfl rfl) (dk_by (j := 5) rfl ck_X12_fixes_3_18mo rfl rfl rfl) (by decide)
theorem dX12_fixes_54 : decode cX12_fixes 54 = .ok (.iload_n 2, 1) := dk_0 (dk_k28 54) (dk_by (j := 6) rfl ck_X12_fixes_3_18mo rfl rfl rfl)
theorem dX12_fixes_55 : decode cX12_fixes 55 = .ok (.iaload, 1) := dk_0 (dk_k46 55) (dk_by (j := 7) rfl ck_X12_fixes_3_18mo rfl rfl rfl)
theorem dX12_fixes_56 : decode cX12_fixes 56 = .ok (.iload_n 3, 1) := dk_0 (dk_k29 56) (dk_by (j := 8) rfl ck_X12_fixes_3_18mo rfl rfl rfl)
theorem dX12_fixes_57 : decode cX12_fixes 57 = .ok (.if_icmp .eq 6, 3) := dk_s (dk_k159 57) (dk_by (j := 9) rfl ck_X12_fixes_3_18mo rfl rfl rfl) (dk_by (j := 10) rfl ck_X12_fixes_3_18mo rfl rfl rfl) (dk_by (j := 11) rfl ck_X12_fixes_3_18mo rfl rfl rfl) (by decide)
theorem dX12_fixes_63 : decode cX12_fixes 63 = .ok (.iconst 0, 1) := dk_0 (dk_k3 63) (dk_by (j := 15) rfl ck_X12_fixes_3_18mo rfl rfl rfl)
theorem dX12_fixes_66 : decode cX12_fixes 66 = .ok (.iconst 0, 1) := dk_0 (dk_k3 66) (dk_by (j := 2) rfl ck_X12_fixes_4_18mo rfl rfl rfl)
theorem dX12_fixes_73 : decode cX12_fixes 73 = .ok (.if_icmp .ge 129, 3) := dk_s (dk_k162 73) (dk_by (j := 9) rfl ck_X12_fixes_4_18mo rfl rfl rfl) (dk_by (j := 10) rfl ck_X12_fixes_4_18mo rfl rfl rfl) (dk_by (j := 11) rfl ck_X12_fixes_4_18mo rfl rfl rfl) (by decide)
theorem dX12_fixes_204 : decode cX12_fixes 204 = .ok (.ireturn, 1) := dk_0 (dk_k172 204) (dk_by (j := 12) rfl ck_X12_fixes_12_18mo rfl rfl rfl)
theorem dX12_fixes_78 : decode cX12_fixes 78 = .ok (.i2l, 1) := dk_0 (dk_k133 78) (dk_by (j := 14) rfl ck_X12_fixes_4_18mo rfl rfl rfl)
theorem dX12_fixes_79 : decode cX12_fixes 79 = .ok (.ldc2_w 464, 3) := dk_2 (dk_k20 79) (dk_by (j := 15) rfl ck_X12_fixes_4_18mo rfl rfl rfl) (dk_by (j := 0) rfl ck_X12_fixes_5_18mo rfl rfl rfl) (dk_by (j := 1) rfl ck_X12_fixes_5_18mo rfl rfl rfl) (by decide)
theorem dX12_fixes_84 : decode cX12_fixes 84 = .ok (.i2l, 1) := dk_0 (dk_k133 84) (dk_by (j := 4) rfl ck_X12_fixes_5_18mo rfl rfl rfl)
theorem dX12_fixes_89 : decode cX12_fixes 89 = .ok (.aload_n 0, 1) := dk_0 (dk_k42 89) (dk_by (j := 9) rfl ck_X12_fixes_5_18mo rfl rfl rfl)
theorem dX12_fixes_90 : decode cX12_fixes 90 = .ok (.iload_n 2, 1) := dk_0 (dk_k28 90) (dk_by (j := 10) rfl ck_X12_fixes_5_18mo rfl rfl rfl)
theorem gX12_fixes_X12_isItem : GoodIn wsX12_fixes (wsV RX12 460 RX12 yX12_isItem wsX12_isItem) := ru_gG (ru_gV tw_7_211 tw_7_213 tw_0_62 tw_1_12 mT_X12_isItem)
theorem dX12_fixes_93 : decode cX12_fixes 93 = .ok (.invokevirtual 460, 3) := dk_2 (dk_k182 93) (dk_by (j := 13) rfl ck_X12_fixes_5_18mo rfl rfl rfl) (dk_by (j := 14) rfl ck_X12_fixes_5_18mo rfl rfl rfl) (dk_by (j := 15) rfl ck_X12_fixes_5_18mo rfl rfl rfl) (by decide)
theorem dX12_fixes_96 : decode cX12_fixes 96 = .ok (.ifCond .eq 15, 3) := dk_s (dk_k153 96) (dk_by (j := 0) rfl ck_X12_fixes_6_18mo rfl rfl rfl) (dk_by (j := 1) rfl ck_X12_fixes_6_18mo rfl rfl rfl) (dk_by (j := 2) rfl ck_X12_fixes_6_18mo rfl rfl rfl) (by decide)
theorem dX12_fixes_99 : decode cX12_fixes 99 = .ok (.aload_n 0, 1) := dk_0 (dk_k42 99) (dk_by (j := 3) rfl ck_X12_fixes_6_18mo rfl rfl rfl)
theorem dX12_fixes_100 : decode cX12_fixes 100 = .ok (.iload_n 2, 1) := dk_0 (dk_k28 100) (dk_by (j := 4) rfl ck_X12_fixes_6_18mo rfl rfl rfl)
theorem dX12_fixes_103 : decode cX12_fixes 103 = .ok (.lconst 1, 1) := dk_0 (dk_k10 103) (dk_by (j := 7) rfl ck_X12_fixes_6_18mo rfl rfl rfl)
theorem dX12_fixes_105 : decode cX12_fixes 105 = .ok (.invokevirtual 460, 3) := dk_2 (dk_k182 105) (dk_by (j := 9) rfl ck_X12_fixes_6_18mo rfl rfl rfl) (dk_by (j := 10) rfl ck_X12_fixes_6_18mo rfl rfl rfl) (dk_by (j := 11) rfl ck_X12_fixes_6_18mo rfl rfl rfl) (by decide)
theorem dX12_fixes_108 : decode cX12_fixes 108 = .ok (.ifCond .ne 6, 3) := dk_s (dk_k154 108) (dk_by (j := 12) rfl ck_X12_fixes_6_18mo rfl rfl rfl) (dk_by (j := 13) rfl ck_X12_fixes_6_18mo rfl rfl rfl) (dk_by (j := 14) rfl ck_X12_fixes_6_18mo rfl rfl rfl) (by decide)
theorem dX12_fixes_114 : decode cX12_fixes 114 = .ok (.aload_n 0, 1) := dk_0 (dk_k42 114) (dk_by (j := 2) rfl ck_X12_fixes_7_18mo rfl rfl rfl)
theorem dX12_fixes_115 : decode cX12_fixes 115 = .ok (.getfield 164, 3) := dk_2 (dk_k180 115) (dk_by (j := 3) rfl ck_X12_fixes_7_18mo rfl rfl rfl) (dk_by (j := 4) rfl ck_X12_fixes_7_18mo rfl rfl rfl) (dk_by (j := 5) rfl ck_X12_fixes_7_18mo rfl rfl rfl) (by decide)
theorem dX12_fixes_118 : decode cX12_fixes 118 = .ok (.bipush 40, 2) := dk_1 (dk_k16 118) (dk_by (j := 6) rfl ck_X12_fixes_7_18mo rfl rfl rfl) (dk_by (j := 7) rfl ck_X12_fixes_7_18mo rfl rfl rfl) (by decide)
theorem dX12_fixes_120 : decode cX12_fixes 120 = .ok (.iload_n 2, 1) := dk_0 (dk_k28 120) (dk_by (j := 8) rfl ck_X12_fixes_7_18mo rfl rfl rfl)
theorem dX12_fixes_125 : decode cX12_fixes 125 = .ok (.iadd, 1) := dk_0 (dk_k96 125) (dk_by (j := 13) rfl ck_X12_fixes_7_18mo rfl rfl rfl)
theorem dX12_fixes_126 : decode cX12_fixes 126 = .ok (.iaload, 1) := dk_0 (dk_k46 126) (dk_by (j := 14) rfl ck_X12_fixes_7_18mo rfl rfl rfl)
theorem dX12_fixes_129 : decode cX12_fixes 129 = .ok (.aload_n 0, 1) := dk_0 (dk_k42 129) (dk_by (j := 1) rfl ck_X12_fixes_8_18mo rfl rfl rfl)
theorem dX12_fixes_130 : decode cX12_fixes 130 = .ok (.getfield 164, 3) := dk_2 (dk_k180 130) (dk_by (j := 2) rfl ck_X12_fixes_8_18mo rfl rfl rfl) (dk_by (j := 3) rfl ck_X12_fixes_8_18mo rfl rfl rfl) (dk_by (j := 4) rfl ck_X12_fixes_8_18mo rfl rfl rfl) (by decide)
theorem dX12_fixes_133 : decode cX12_fixes 133 = .ok (.bipush 40, 2) := dk_1 (dk_k16 133) (dk_by (j := 5) rfl ck_X12_fixes_8_18mo rfl rfl rfl) (dk_by (j := 6) rfl ck_X12_fixes_8_18mo rfl rfl rfl) (by decide)
theorem dX12_fixes_135 : decode cX12_fixes 135 = .ok (.iload_n 2, 1) := dk_0 (dk_k28 135) (dk_by (j := 7) rfl ck_X12_fixes_8_18mo rfl rfl rfl)
theorem dX12_fixes_140 : decode cX12_fixes 140 = .ok (.iadd, 1) := dk_0 (dk_k96 140) (dk_by (j := 12) rfl ck_X12_fixes_8_18mo rfl rfl rfl)
theorem dX12_fixes_141 : decode cX12_fixes 141 = .ok (.iconst 1, 1) := dk_0 (dk_k4 141) (dk_by (j := 13) rfl ck_X12_fixes_8_18mo rfl rfl rfl)
theorem dX12_fixes_142 : decode cX12_fixes 142 = .ok (.iadd, 1) := dk_0 (dk_k96 142) (dk_by (j := 14) rfl ck_X12_fixes_8_18mo rfl rfl rfl)
theorem dX12_fixes_143 : decode cX12_fixes 143 = .ok (.iaload, 1) := dk_0 (dk_k46 143) (dk_by (j := 15) rfl ck_X12_fixes_8_18mo rfl rfl rfl)
theorem dX12_fixes_148 : decode cX12_fixes 148 = .ok (.aload_n 0, 1) := dk_0 (dk_k42 148) (dk_by (j := 4) rfl ck_X12_fixes_9_18mo rfl rfl rfl)
theorem dX12_fixes_149 : decode cX12_fixes 149 = .ok (.getfield 31, 3) := dk_2 (dk_k180 149) (dk_by (j := 5) rfl ck_X12_fixes_9_18mo rfl rfl rfl) (dk_by (j := 6) rfl ck_X12_fixes_9_18mo rfl rfl rfl) (dk_by (j := 7) rfl ck_X12_fixes_9_18mo rfl rfl rfl) (by decide)
theorem dX12_fixes_152 : decode cX12_fixes 152 = .ok (.iload_n 1, 1) := dk_0 (dk_k27 152) (dk_by (j := 8) rfl ck_X12_fixes_9_18mo rfl rfl rfl)
theorem dX12_fixes_153 : decode cX12_fixes 153 = .ok (.iaload, 1) := dk_0 (dk_k46 153) (dk_by (j := 9) rfl ck_X12_fixes_9_18mo rfl rfl rfl)
theorem dX12_fixes_154 : decode cX12_fixes 154 = .ok (.aload_n 0, 1) := dk_0 (dk_k42 154) (dk_by (j := 10) rfl ck_X12_fixes_9_18mo rfl rfl rfl)
theorem dX12_fixes_155 : decode cX12_fixes 155 = .ok (.getfield 201, 3) := dk_2 (dk_k180 155) (dk_by (j := 11) rfl ck_X12_fixes_9_18mo rfl rfl rfl) (dk_by (j := 12) rfl ck_X12_fixes_9_18mo rfl rfl rfl) (dk_by (j := 13) rfl ck_X12_fixes_9_18mo rfl rfl rfl) (by decide)
theorem dX12_fixes_158 : decode cX12_fixes 158 = .ok (.invokestatic 186, 3) := dk_2 (dk_k184 158) (dk_by (j := 14) rfl ck_X12_fixes_9_18mo rfl rfl rfl) (dk_by (j := 15) rfl ck_X12_fixes_9_18mo rfl rfl rfl) (dk_by (j := 0) rfl ck_X12_fixes_10_18mo rfl rfl rfl) (by decide)
theorem dX12_fixes_161 : decode cX12_fixes 161 = .ok (.ifCond .eq 35, 3) := dk_s (dk_k153 161) (dk_by (j := 1) rfl ck_X12_fixes_10_18mo rfl rfl rfl) (dk_by (j := 2) rfl ck_X12_fixes_10_18mo rfl rfl rfl) (dk_by (j := 3) rfl ck_X12_fixes_10_18mo rfl rfl rfl) (by decide)
theorem gX12_fixes_X12_isCell : GoodIn wsX12_fixes (va_wsS RX12 217 yX12_isCell wsX12_isCell) := ru_gG (ru_gS tw_6_144 tw_6_145 tw_1_12 mT_X12_isCell)
theorem dX12_fixes_166 : decode cX12_fixes 166 = .ok (.invokestatic 217, 3) := dk_2 (dk_k184 166) (dk_by (j := 6) rfl ck_X12_fixes_10_18mo rfl rfl rfl) (dk_by (j := 7) rfl ck_X12_fixes_10_18mo rfl rfl rfl) (dk_by (j := 8) rfl ck_X12_fixes_10_18mo rfl rfl rfl) (by decide)
theorem dX12_fixes_169 : decode cX12_fixes 169 = .ok (.ifCond .eq 27, 3) := dk_s (dk_k153 169) (dk_by (j := 9) rfl ck_X12_fixes_10_18mo rfl rfl rfl) (dk_by (j := 10) rfl ck_X12_fixes_10_18mo rfl rfl rfl) (dk_by (j := 11) rfl ck_X12_fixes_10_18mo rfl rfl rfl) (by decide)
theorem dX12_fixes_174 : decode cX12_fixes 174 = .ok (.aload_n 0, 1) := dk_0 (dk_k42 174) (dk_by (j := 14) rfl ck_X12_fixes_10_18mo rfl rfl rfl)
theorem dX12_fixes_175 : decode cX12_fixes 175 = .ok (.iload_n 1, 1) := dk_0 (dk_k27 175) (dk_by (j := 15) rfl ck_X12_fixes_10_18mo rfl rfl rfl)
theorem dX12_fixes_178 : decode cX12_fixes 178 = .ok (.lconst 1, 1) := dk_0 (dk_k10 178) (dk_by (j := 2) rfl ck_X12_fixes_11_18mo rfl rfl rfl)
theorem dX12_fixes_181 : decode cX12_fixes 181 = .ok (.lshl, 1) := dk_0 (dk_k121 181) (dk_by (j := 5) rfl ck_X12_fixes_11_18mo rfl rfl rfl)
theorem gX12_fixes_X12_addFix : GoodIn wsX12_fixes (wsV RX12 242 RX12 yX12_addFix wsX12_addFix) := ru_gG (ru_gV tw_6_181 tw_6_183 tw_0_35 tw_1_12 mT_X12_addFix)
theorem dX12_fixes_182 : decode cX12_fixes 182 = .ok (.invokevirtual 242, 3) := dk_2 (dk_k182 182) (dk_by (j := 6) rfl ck_X12_fixes_11_18mo rfl rfl rfl) (dk_by (j := 7) rfl ck_X12_fixes_11_18mo rfl rfl rfl) (dk_by (j := 8) rfl ck_X12_fixes_11_18mo rfl rfl rfl) (by decide)
theorem dX12_fixes_185 : decode cX12_fixes 185 = .ok (.ifCond .le 7, 3) := dk_s (dk_k158 185) (dk_by (j := 9) rfl ck_X12_fixes_11_18mo rfl rfl rfl) (dk_by (j := 10) rfl ck_X12_fixes_11_18mo rfl rfl rfl) (dk_by (j := 11) rfl ck_X12_fixes_11_18mo rfl rfl rfl) (by decide)
theorem dX12_fixes_192 : decode cX12_fixes 192 = .ok (.iconst 0, 1) := dk_0 (dk_k3 192) (dk_by (j := 0) rfl ck_X12_fixes_12_18mo rfl rfl rfl)
theorem dX12_fixes_193 : decode cX12_fixes 193 = .ok (.iadd, 1) := dk_0 (dk_k96 193) (dk_by (j := 1) rfl ck_X12_fixes_12_18mo rfl rfl rfl)
theorem dX12_fixes_199 : decode cX12_fixes 199 = .ok (.goto (-130), 3) := dk_s (dk_k167 199) (dk_by (j := 7) rfl ck_X12_fixes_12_18mo rfl rfl rfl) (dk_by (j := 8) rfl ck_X12_fixes_12_18mo rfl rfl rfl) (dk_by (j := 9) rfl ck_X12_fixes_12_18mo rfl rfl rfl) (by decide)
theorem dX12_fixes_188 : decode cX12_fixes 188 = .ok (.iconst 1, 1) := dk_0 (dk_k4 188) (dk_by (j := 12) rfl ck_X12_fixes_11_18mo rfl rfl rfl)
theorem dX12_fixes_189 : decode cX12_fixes 189 = .ok (.goto 4, 3) := dk_s (dk_k167 189) (dk_by (j := 13) rfl ck_X12_fixes_11_18mo rfl rfl rfl) (dk_by (j := 14) rfl ck_X12_fixes_11_18mo rfl rfl rfl) (dk_by (j := 15) rfl ck_X12_fixes_11_18mo rfl rfl rfl) (by decide)
theorem dX12_fixes_111 : decode cX12_fixes 111 = .ok (.bipush (-12), 2) := dk_1 (dk_k16 111) (dk_by (j := 15) rfl ck_X12_fixes_6_18mo rfl rfl rfl) (dk_by (j := 0) rfl ck_X12_fixes_7_18mo rfl rfl rfl) (by decide)
theorem dX12_fixes_113 : decode cX12_fixes 113 = .ok (.ireturn, 1) := dk_0 (dk_k172 113) (dk_by (j := 1) rfl ck_X12_fixes_7_18mo rfl rfl rfl)
theorem dX12_fixes_60 : decode cX12_fixes 60 = .ok (.bipush (-13), 2) := dk_1 (dk_k16 60) (dk_by (j := 12) rfl ck_X12_fixes_3_18mo rfl rfl rfl) (dk_by (j := 13) rfl ck_X12_fixes_3_18mo rfl rfl rfl) (by decide)
theorem dX12_fixes_62 : decode cX12_fixes 62 = .ok (.ireturn, 1) := dk_0 (dk_k172 62) (dk_by (j := 14) rfl ck_X12_fixes_3_18mo rfl rfl rfl)
theorem dX12_fixes_47 : decode cX12_fixes 47 = .ok (.bipush (-11), 2) := dk_1 (dk_k16 47) (dk_by (j := 15) rfl ck_X12_fixes_2_18mo rfl rfl rfl) (dk_by (j := 0) rfl ck_X12_fixes_3_18mo rfl rfl rfl) (by decide)
theorem dX12_fixes_49 : decode cX12_fixes 49 = .ok (.ireturn, 1) := dk_0 (dk_k172 49) (dk_by (j := 1) rfl ck_X12_fixes_3_18mo rfl rfl rfl)
theorem dX12_fixes_35 : decode cX12_fixes 35 = .ok (.bipush (-2), 2) := dk_1 (dk_k16 35) (dk_by (j := 3) rfl ck_X12_fixes_2_18mo rfl rfl rfl) (dk_by (j := 4) rfl ck_X12_fixes_2_18mo rfl rfl rfl) (by decide)
theorem dX12_fixes_37 : decode cX12_fixes 37 = .ok (.ireturn, 1) := dk_0 (dk_k172 37) (dk_by (j := 5) rfl ck_X12_fixes_2_18mo rfl rfl rfl)
theorem gX12_taken_X12_within : GoodIn wsX12_taken (va_wsS RX12 186 yX12_within wsX12_within) := ru_gG (ru_gS tw_6_122 tw_6_123 tw_1_12 mT_X12_within)
theorem gX12_taken_X12_isBody : GoodIn wsX12_taken (wsV RX12 193 RX12 yX12_isBody wsX12_isBody) := ru_gG (ru_gV tw_6_151 tw_6_153 tw_0_30 tw_1_12 mT_X12_isBody)
theorem gX12_taken_X12_above : GoodIn wsX12_taken (va_wsS RX12 466 yX12_above wsX12_above) := ru_gG (ru_gS tw_7_228 tw_7_229 tw_1_12 mT_X12_above)
set_option maxHeartbeats 400000 in
set_option maxRecDepth 20000 in
theorem fc_X12_stays (l : Launch) (D : va_G) (ad : Nat → Nat → Nat) (C : Nat → Nat → ClassId) (nb : Nat) (M : fm_M) (hI : fm_I nb ad M) (p0 : Int32) : Met l yX12_stays wsX12_stays ({ frames := 1, cells := 0, slots := 0, locals := 22 }) (va_Pc [.ref (ad 60 0), .int p0] (fm_P D ad C nb M)) (va_Qi (fun (r : Int32) (u : fm_M) => fm_I nb ad u ∧ fm_same [60001] M u ∧ ((¬ (0 ≤ p0.toInt ∧ p0.toInt ≤ 9) ∧ r.toInt = -2 ∧ (u.1 60 0 1).toInt = (M.1 60 0 1).toInt) ∨ ((0 ≤ p0.toInt ∧ p0.toInt ≤ 9) ∧ r.toInt = (M.1 60 0 1).toInt ∧ (u.1 60 0 1).toInt = p0.toInt))) (fun u t => fm_at D ad C nb u t.heap) (fm_A nb ad)) 0 0 (fm_A nb ad) := by
  refine Met.ofW (cc := cX12_stays) (maxL := 3) (ret := (some .int)) (by decide) rfl ?_
  intro p e s m args below meth c s₁ B hml hv
  obtain ⟨rfl, hw, hc⟩ := hv
  have hx := B.exec
  have hb := B.bytes
  have hr := B.returns
  have hts := atoms_spec (ws := wsX12_stays) B.pre
  have hown : s.vm.findClass RX12 = some m.cls := findClass_of_methodNamed B.named
  have hinX12 : ∀ w ∈ u_ws RX12 TX12 79, w ∈ wsX12_stays := fun w h => List.mem_cons_of_mem _ (iT_X12 w h)
  have hS : va_S (fm_A nb ad) s.heap s.heap [] := va_S.rf
  have hE : fm_same [60001] M M := fm_same.rf
  have hl := lv_entry ([.ref (ad 60 0), .int p0]) (n := 3) (Nat.le_of_ble_eq_true rfl)
  rw [lg_entry_eq]
  generalize (lg_sl ([.ref (ad 60 0), .int p0]) ++ List.replicate (3 - (lg_sl ([.ref (ad 60 0), .int p0])).length) Slot.unset).toArray = ls at hl ⊢
  have hl : lv_has ls 3 [(0, .ref (ad 60 0)), (1, .int p0)] := hl
  refine lv_iload_n hx hb dX12_stays_0 rfl (lv_at hl 1 rfl) ?_
  refine lv_iconst (v := 0) hx hb dX12_stays_1 (by decide) ?_
  refine lv_bipush (v := 9) hx hb dX12_stays_2 (by decide) ?_
  have zz1 := zk_0
  have zz2 := zk_9
  refine vp_callSi (va_Run.run (va_runS (As := [.int p0, .int 0, .int 9]) (rest := []) ⟨hx, hb, hml, hown, hts⟩ (fc_X12_within l p0 0 9) (va_cwS 3 hts gX12_stays_X12_within rfl rfl rfl (by decide +kernel) ⟨Nat.le_of_ble_eq_true rfl, Nat.le_of_ble_eq_true rfl⟩) ⟨fun a U g mk q => q, fun U hU hW => ⟨rfl, trivial⟩⟩ rfl rfl hl.1 rfl (lv_room (Nat.le_of_ble_eq_true rfl)) dX12_stays_4 ⟨by decide +kernel, by decide +kernel⟩)) (fun r3 hr3 => ?_)
  rcases hr3 with ⟨rfl, c4⟩ | ⟨rfl, c4⟩
  · refine fx_if_ne (tgt := 13) hx hb dX12_stays_7 (by decide) zk_1 (fun c5 => ?_) (fun c5 => by exfalso; omega)
    refine lv_aload_n hx hb dX12_stays_13 rfl (lv_at hl 0 rfl) ?_
    refine fm_getI (a := 60) (j := 1) (T := TX12) (N := 79) hx hb hts hinX12 hown hc hw hI kl_60 sh_60 rfl (by decide) rfl bd_60_1 (hts (.fieldLink RX12 307 "RedTentModel" "stay" "I") (List.mem_cons_of_mem _ tw_5_121)) (fun _ h9 => h9) dX12_stays_14 (fun x6 ex6 bx6 => ?_)
    refine lv_istore_n (lv' := [(2, .int x6), (0, .ref (ad 60 0)), (1, .int p0)]) hx hb dX12_stays_17 rfl hl (by decide) rfl (fun ls hl => ?_)
    refine lv_aload_n hx hb dX12_stays_18 rfl (lv_at hl 1 rfl) ?_
    refine lv_iload_n hx hb dX12_stays_19 rfl (lv_at hl 2 rfl) ?_
    refine fm_putI (a := 60) (j := 1) (T := TX12) (N := 79) hx hb hts hinX12 tyX12 tyX12_ok nmX12 hown hc hw hI hE hS kl_60 sh_60 od_60 rfl (by decide) rfl bd_60_1 (hts (.fieldLink RX12 307 "RedTentModel" "stay" "I") (List.mem_cons_of_mem _ tw_5_121)) (fun _ h9 => h9) rfl (by decide +kernel) (by omega) (by decide) (by decide) dX12_stays_20 (fun M7 H locs eM7 hw hI hE hS => ?_)
    refine lv_iload_n hx hb dX12_stays_23 rfl (lv_at hl 0 rfl) ?_
    have qx6 : x6.toInt = (M.1 60 0 1).toInt := by rw [ex6]
    exact W.iret (v := x6) hx hb hr (fun t ht hW => ⟨⟨x6, M7, rfl, ⟨hI, hE, Or.inr ⟨by omega, by omega, by rw [eM7, fm_wI_at]⟩⟩, by show fm_at D ad C nb _ t.heap; rw [ht]; exact hw⟩, hS.F ht⟩) hS.2.2 dX12_stays_24
  · refine fx_if_ne (tgt := 13) hx hb dX12_stays_7 (by decide) zk_0 (fun c8 => by exfalso; omega) (fun c8 => ?_)
    refine lv_bipush (v := (-2)) hx hb dX12_stays_10 (by decide) ?_
    exact W.iret (v := (-2)) hx hb hr (fun t ht hW => ⟨⟨(-2), M, rfl, ⟨hI, hE, Or.inl ⟨by omega, zk_m2, rfl⟩⟩, by show fm_at D ad C nb _ t.heap; rw [ht]; exact hw⟩, hS.F ht⟩) hS.2.2 dX12_stays_12
set_option maxHeartbeats 400000 in
set_option maxRecDepth 20000 in
theorem fc_X12_comesBack (l : Launch) (D : va_G) (ad : Nat → Nat → Nat) (C : Nat → Nat → ClassId) (nb : Nat) (M : fm_M) (hI : fm_I nb ad M) (p0 p1 p2 p3 : Int32) (b_p0 : 0 ≤ p0.toInt ∧ p0.toInt ≤ 11) (b_p1 : 0 ≤ p1.toInt ∧ p1.toInt ≤ 63) (b_p2 : 0 ≤ p2.toInt ∧ p2.toInt ≤ 63) (b_p3 : 0 ≤ p3.toInt ∧ p3.toInt ≤ 239) : Met l yX12_comesBack wsX12_comesBack ({ frames := 2, cells := 0, slots := 0, locals := 47 }) (va_Pc [.ref (ad 60 0), .int p0, .int p1, .int p2, .int p3] (fm_P D ad C nb M)) (vp_Si (fun r : Int32 => ((-1) ≤ r.toInt ∧ r.toInt ≤ 300))) 0 0 (fun _ => False) := by
  refine Met.ofW (cc := cX12_comesBack) (maxL := 7) (ret := (some .int)) (by decide) rfl ?_
  intro p e s m args below meth c s₁ B hml hv
  obtain ⟨rfl, hw, hc⟩ := hv
  have hx := B.exec
  have hb := B.bytes
  have hr := B.returns
  have hts := atoms_spec (ws := wsX12_comesBack) B.pre
  have hown : s.vm.findClass RX12 = some m.cls := findClass_of_methodNamed B.named
  have hinX12 : ∀ w ∈ u_ws RX12 TX12 79, w ∈ wsX12_comesBack := fun w h => List.mem_cons_of_mem _ (iT_X12 w h)
  have hS : va_S (fm_A nb ad) s.heap s.heap [] := va_S.rf
  have hl := lv_entry ([.ref (ad 60 0), .int p0, .int p1, .int p2, .int p3]) (n := 7) (Nat.le_of_ble_eq_true rfl)
  rw [lg_entry_eq]
  generalize (lg_sl ([.ref (ad 60 0), .int p0, .int p1, .int p2, .int p3]) ++ List.replicate (7 - (lg_sl ([.ref (ad 60 0), .int p0, .int p1, .int p2, .int p3])).length) Slot.unset).toArray = ls at hl ⊢
  have hl : lv_has ls 7 [(0, .ref (ad 60 0)), (1, .int p0), (2, .int p1), (3, .int p2), (4, .int p3)] := hl
  refine lv_iload_n hx hb dX12_comesBack_0 rfl (lv_at hl 2 rfl) ?_
  refine lv_iload_n hx hb dX12_comesBack_1 rfl (lv_at hl 3 rfl) ?_
  refine vp_callSi (va_Run.run (va_runS (As := [.int p1, .int p2]) (rest := []) ⟨hx, hb, hml, hown, hts⟩ (fc_X12_apart l p1 p2 (by omega) (by omega)) (va_cwS 2 hts gX12_comesBack_X12_apart rfl rfl rfl (by decide +kernel) ⟨Nat.le_of_ble_eq_true rfl, Nat.le_of_ble_eq_true rfl⟩) ⟨fun a U g mk q => q, fun U hU hW => ⟨rfl, trivial⟩⟩ rfl rfl hl.1 rfl (lv_room (Nat.le_of_ble_eq_true rfl)) dX12_comesBack_2 ⟨by decide +kernel, by decide +kernel⟩)) (fun r1 hr1 => ?_)
  refine lv_istore (lv' := [(5, .int r1), (0, .ref (ad 60 0)), (1, .int p0), (2, .int p1), (3, .int p2), (4, .int p3)]) hx hb dX12_comesBack_5 hl (by decide) rfl (fun ls hl => ?_)
  refine lv_aload_n hx hb dX12_comesBack_7 rfl (lv_at hl 1 rfl) ?_
  refine lv_iload_n hx hb dX12_comesBack_8 rfl (lv_at hl 2 rfl) ?_
  refine vp_callSi (va_Run.run (va_runV (As := [.int p0]) (rest := []) ⟨hx, hb, hml, hown, hts⟩ (fc_X12_burns l D ad C nb M hI p0 (by omega)) (cwV 1 hts gX12_comesBack_X12_burns rfl rfl rfl (by decide +kernel) ⟨Nat.le_of_ble_eq_true rfl, Nat.le_of_ble_eq_true rfl⟩) (fm_preV hc hw hS kl_60 sh_60 rfl) rfl rfl hl.1 rfl (lv_room (Nat.le_of_ble_eq_true rfl)) dX12_comesBack_9 ⟨by decide +kernel, by decide +kernel⟩)) (fun r2 hr2 => ?_)
  refine lv_iconst (v := 2) hx hb dX12_comesBack_12 (by decide) ?_
  refine fx_imul hx hb dX12_comesBack_13 rfl zk_2 (by omega) (fun y3 ey3 ty3 => ?_)
  refine lv_iload hx hb dX12_comesBack_14 (lv_at hl 0 rfl) ?_
  refine fx_imulB (p1 := 12) (q1 := 7) hx hb dX12_comesBack_16 rfl rfl (by omega) (by omega) (by decide) (fun y4 ey4 ty4 uy4 => ?_)
  refine lv_aload_n hx hb dX12_comesBack_17 rfl (lv_at hl 1 rfl) ?_
  refine fm_getG (a := 60) (j := 15) (T := TX12) (N := 79) hx hb hts hinX12 hown hc hw kl_60 sh_60 rfl (by decide) rfl (hI.to kl_60 tg_60_15) (hts (.fieldLink RX12 43 "RedTentModel" "fuel" "[I") (List.mem_cons_of_mem _ tw_5_135)) (fun _ h9 => h9) dX12_comesBack_18 ?_
  refine lv_iload_n hx hb dX12_comesBack_21 rfl (lv_at hl 2 rfl) ?_
  refine fm_iald (a := 115) hx hb hc hw hI kl_115 sh_115 ty_115 bd_115 (by omega) dX12_comesBack_22 (fun x5 ex5 bx5 => ?_)
  refine fx_icmp_gt (tgt := 37) hx hb dX12_comesBack_23 (by decide) rfl rfl (fun c6 => ?_) (fun c6 => ?_)
  · refine lv_iconst (v := (-1)) hx hb dX12_comesBack_37 (by decide) ?_
    exact W.iret (v := (-1)) hx hb hr (fun t ht hW => ⟨(-1), rfl, (by decide), ht⟩) (fun _ h => absurd h List.not_mem_nil) dX12_comesBack_38
  · refine lv_aload_n hx hb dX12_comesBack_26 rfl (lv_at hl 1 rfl) ?_
    refine lv_iload hx hb dX12_comesBack_27 (lv_at hl 5 rfl) ?_
    refine lv_iload hx hb dX12_comesBack_29 (lv_at hl 0 rfl) ?_
    refine vp_callSi (va_Run.run (va_runV (As := [.int p3, .int r1]) (rest := []) ⟨hx, hb, hml, hown, hts⟩ (fc_X12_canFly l D ad C nb M hI p3 r1 (by omega) (by omega)) (cwV 2 hts gX12_comesBack_X12_canFly rfl rfl rfl (by decide +kernel) ⟨Nat.le_of_ble_eq_true rfl, Nat.le_of_ble_eq_true rfl⟩) (fm_preV hc hw hS kl_60 sh_60 rfl) rfl rfl hl.1 rfl (lv_room (Nat.le_of_ble_eq_true rfl)) dX12_comesBack_31 ⟨by decide +kernel, by decide +kernel⟩)) (fun r7 hr7 => ?_)
    refine fx_if_ne (tgt := 39) hx hb dX12_comesBack_34 (by decide) rfl (fun c8 => ?_) (fun c8 => ?_)
    · refine lv_iconst (v := 0) hx hb dX12_comesBack_39 (by decide) ?_
      refine lv_istore (lv' := [(6, .int 0), (5, .int r1), (0, .ref (ad 60 0)), (1, .int p0), (2, .int p1), (3, .int p2), (4, .int p3)]) hx hb dX12_comesBack_40 hl (by decide) rfl (fun ls hl => ?_)
      have lp : ∀ (n_lp : Nat) (lp_6 : Int32), (10 - lp_6.toInt).toNat < n_lp → (0 ≤ lp_6.toInt ∧ lp_6.toInt ≤ 10) → ∀ (ls : Array Slot), lv_has ls 7 [(6, .int lp_6), (5, .int r1), (0, .ref (ad 60 0)), (1, .int p0), (2, .int p1), (3, .int p2), (4, .int p3)] → W p l e (headSpec wsX12_comesBack ({ frames := 2, cells := 0, slots := 0, locals := 47 })).room s m ([.ref (ad 60 0), .int p0, .int p1, .int p2, .int p3] : List Value).toArray below meth c s.heap [] 0 0 (MQ below (vp_Si (fun r : Int32 => ((-1) ≤ r.toInt ∧ r.toInt ≤ 300))) ([.ref (ad 60 0), .int p0, .int p1, .int p2, .int p3] : List Value).toArray s 0 0 (fun _ => False)) (F0 m 42 ls []) := by
        intro n_lp
        induction n_lp with
        | zero => intro lp_6 hm_lp b_lp_6 ls hl; exact absurd hm_lp (Nat.not_lt_zero _)
        | succ n_lp ih_lp =>
          intro lp_6 hm_lp b_lp_6 ls hl
          refine lv_iload hx hb dX12_comesBack_42 (lv_at hl 0 rfl) ?_
          refine lv_aload_n hx hb dX12_comesBack_44 rfl (lv_at hl 2 rfl) ?_
          refine fm_getI (a := 60) (j := 1) (T := TX12) (N := 79) hx hb hts hinX12 hown hc hw hI kl_60 sh_60 rfl (by decide) rfl bd_60_1 (hts (.fieldLink RX12 307 "RedTentModel" "stay" "I") (List.mem_cons_of_mem _ tw_5_121)) (fun _ h9 => h9) dX12_comesBack_45 (fun x9 ex9 bx9 => ?_)
          refine fx_icmp_gt (tgt := 85) hx hb dX12_comesBack_48 (by decide) rfl rfl (fun c10 => ?_) (fun c10 => ?_)
          · refine lv_iconst (v := (-1)) hx hb dX12_comesBack_85 (by decide) ?_
            exact W.iret (v := (-1)) hx hb hr (fun t ht hW => ⟨(-1), rfl, (by decide), ht⟩) (fun _ h => absurd h List.not_mem_nil) dX12_comesBack_86
          · refine lv_aload_n hx hb dX12_comesBack_51 rfl (lv_at hl 2 rfl) ?_
            refine lv_iload hx hb dX12_comesBack_52 (lv_at hl 6 rfl) ?_
            refine lv_iload hx hb dX12_comesBack_54 (lv_at hl 1 rfl) ?_
            refine fx_iadd hx hb dX12_comesBack_56 rfl rfl (by omega) (fun y11 ey11 ty11 => ?_)
            refine lv_iload hx hb dX12_comesBack_57 (lv_at hl 0 rfl) ?_
            refine fx_iadd hx hb dX12_comesBack_59 rfl rfl (by omega) (fun y12 ey12 ty12 => ?_)
            refine lv_iload hx hb dX12_comesBack_60 (lv_at hl 1 rfl) ?_
            refine vp_callSi (va_Run.run (va_runV (As := [.int y12, .int r1]) (rest := []) ⟨hx, hb, hml, hown, hts⟩ (fc_X12_canFly l D ad C nb M hI y12 r1 (by omega) (by omega)) (cwV 2 hts gX12_comesBack_X12_canFly rfl rfl rfl (by decide +kernel) ⟨Nat.le_of_ble_eq_true rfl, Nat.le_of_ble_eq_true rfl⟩) (fm_preV hc hw hS kl_60 sh_60 rfl) rfl rfl hl.1 rfl (lv_room (Nat.le_of_ble_eq_true rfl)) dX12_comesBack_62 ⟨by decide +kernel, by decide +kernel⟩)) (fun r13 hr13 => ?_)
            refine fx_if_eq (tgt := 79) hx hb dX12_comesBack_65 (by decide) rfl (fun c14 => ?_) (fun c14 => ?_)
            · obtain ⟨y15, ey15⟩ : ∃ y : Int32, y = lp_6 + 1 := ⟨_, rfl⟩
              have ty15 : y15.toInt = lp_6.toInt + 1 := by rw [ey15, zi_add _ _ (by rw [zk_1]; omega) (by rw [zk_1]; omega), zk_1]
              refine lv_iinc (v := y15) (lv' := [(6, .int y15), (5, .int r1), (0, .ref (ad 60 0)), (1, .int p0), (2, .int p1), (3, .int p2), (4, .int p3)]) hx hb dX12_comesBack_79 hl (k := 0) rfl (by rw [ey15]; rfl) (by decide) rfl (fun ls hl => ?_)
              refine lv_goto (tgt := 42) hx hb dX12_comesBack_82 (by decide) ?_
              exact ih_lp y15 (by omega) (by omega) ls (lv_sub hl [0, 1, 2, 3, 4, 5, 6] rfl)
            · refine lv_iload hx hb dX12_comesBack_68 (lv_at hl 6 rfl) ?_
              refine lv_iconst (v := 2) hx hb dX12_comesBack_70 (by decide) ?_
              refine lv_iload hx hb dX12_comesBack_71 (lv_at hl 1 rfl) ?_
              refine fx_imul hx hb dX12_comesBack_73 zk_2 rfl (by omega) (fun y16 ey16 ty16 => ?_)
              refine fx_iadd hx hb dX12_comesBack_74 rfl rfl (by omega) (fun y17 ey17 ty17 => ?_)
              refine lv_iload hx hb dX12_comesBack_75 (lv_at hl 0 rfl) ?_
              refine fx_iadd hx hb dX12_comesBack_77 rfl rfl (by omega) (fun y18 ey18 ty18 => ?_)
              exact W.iret (v := y18) hx hb hr (fun t ht hW => ⟨y18, rfl, (by omega), ht⟩) (fun _ h => absurd h List.not_mem_nil) dX12_comesBack_78
      exact lp _ 0 (Nat.lt_succ_self _) (by decide) ls (lv_sub hl [0, 1, 2, 3, 4, 5, 6] rfl)
    · refine lv_iconst (v := (-1)) hx hb dX12_comesBack_37 (by decide) ?_
      exact W.iret (v := (-1)) hx hb hr (fun t ht hW => ⟨(-1), rfl, (by decide), ht⟩) (fun _ h => absurd h List.not_mem_nil) dX12_comesBack_38
set_option maxHeartbeats 400000 in
set_option maxRecDepth 20000 in
theorem fc_X12_comes (l : Launch) (D : va_G) (ad : Nat → Nat → Nat) (C : Nat → Nat → ClassId) (nb : Nat) (M : fm_M) (hI : fm_I nb ad M) (p0 p1 p2 p3 : Int32) : Met l yX12_comes wsX12_comes ({ frames := 3, cells := 0, slots := 0, locals := 73 }) (va_Pc [.ref (ad 60 0), .int p0, .int p1, .int p2, .int p3] (fm_P D ad C nb M)) (vp_Si (fun r : Int32 => True)) 0 0 (fun _ => False) := by
  refine Met.ofW (cc := cX12_comes) (maxL := 5) (ret := (some .int)) (by decide) rfl ?_
  intro p e s m args below meth c s₁ B hml hv
  obtain ⟨rfl, hw, hc⟩ := hv
  have hx := B.exec
  have hb := B.bytes
  have hr := B.returns
  have hts := atoms_spec (ws := wsX12_comes) B.pre
  have hown : s.vm.findClass RX12 = some m.cls := findClass_of_methodNamed B.named
  have hS : va_S (fm_A nb ad) s.heap s.heap [] := va_S.rf
  have hl := lv_entry ([.ref (ad 60 0), .int p0, .int p1, .int p2, .int p3]) (n := 5) (Nat.le_of_ble_eq_true rfl)
  rw [lg_entry_eq]
  generalize (lg_sl ([.ref (ad 60 0), .int p0, .int p1, .int p2, .int p3]) ++ List.replicate (5 - (lg_sl ([.ref (ad 60 0), .int p0, .int p1, .int p2, .int p3])).length) Slot.unset).toArray = ls at hl ⊢
  have hl : lv_has ls 5 [(0, .ref (ad 60 0)), (1, .int p0), (2, .int p1), (3, .int p2), (4, .int p3)] := hl
  refine lv_aload_n hx hb dX12_comes_0 rfl (lv_at hl 0 rfl) ?_
  refine lv_iload_n hx hb dX12_comes_1 rfl (lv_at hl 1 rfl) ?_
  refine vp_callSi (va_Run.run (va_runV (As := [.int p0]) (rest := []) ⟨hx, hb, hml, hown, hts⟩ (fc_X12_isSeeker l D ad C nb M hI p0) (cwV 1 hts gX12_comes_X12_isSeeker rfl rfl rfl (by decide +kernel) ⟨Nat.le_of_ble_eq_true rfl, Nat.le_of_ble_eq_true rfl⟩) (fm_preV hc hw hS kl_60 sh_60 rfl) rfl rfl hl.1 rfl (lv_room (Nat.le_of_ble_eq_true rfl)) dX12_comes_2 ⟨by decide +kernel, by decide +kernel⟩)) (fun r1 hr1 => ?_)
  have bqq2 := hI.bd (k := 0) bd_60_16
  rcases hr1 with ⟨rfl, c3⟩ | ⟨rfl, c3⟩
  · refine fx_if_eq (tgt := 42) hx hb dX12_comes_5 (by decide) zk_1 (fun c4 => by exfalso; omega) (fun c4 => ?_)
    refine lv_iload_n hx hb dX12_comes_8 rfl (lv_at hl 2 rfl) ?_
    refine vp_callSi (va_Run.run (va_runS (As := [.int p1]) (rest := []) ⟨hx, hb, hml, hown, hts⟩ (fc_X12_isCell l p1) (va_cwS 1 hts gX12_comes_X12_isCell rfl rfl rfl (by decide +kernel) ⟨Nat.le_of_ble_eq_true rfl, Nat.le_of_ble_eq_true rfl⟩) ⟨fun a U g mk q => q, fun U hU hW => ⟨rfl, trivial⟩⟩ rfl rfl hl.1 rfl (lv_room (Nat.le_of_ble_eq_true rfl)) dX12_comes_9 ⟨by decide +kernel, by decide +kernel⟩)) (fun r5 hr5 => ?_)
    rcases hr5 with ⟨rfl, c6⟩ | ⟨rfl, c6⟩
    · refine fx_if_eq (tgt := 42) hx hb dX12_comes_12 (by decide) zk_1 (fun c7 => by exfalso; omega) (fun c7 => ?_)
      refine lv_iload_n hx hb dX12_comes_15 rfl (lv_at hl 3 rfl) ?_
      refine vp_callSi (va_Run.run (va_runS (As := [.int p2]) (rest := []) ⟨hx, hb, hml, hown, hts⟩ (fc_X12_isCell l p2) (va_cwS 1 hts gX12_comes_X12_isCell rfl rfl rfl (by decide +kernel) ⟨Nat.le_of_ble_eq_true rfl, Nat.le_of_ble_eq_true rfl⟩) ⟨fun a U g mk q => q, fun U hU hW => ⟨rfl, trivial⟩⟩ rfl rfl hl.1 rfl (lv_room (Nat.le_of_ble_eq_true rfl)) dX12_comes_16 ⟨by decide +kernel, by decide +kernel⟩)) (fun r8 hr8 => ?_)
      rcases hr8 with ⟨rfl, c9⟩ | ⟨rfl, c9⟩
      · refine fx_if_eq (tgt := 42) hx hb dX12_comes_19 (by decide) zk_1 (fun c10 => by exfalso; omega) (fun c10 => ?_)
        refine lv_iload hx hb dX12_comes_22 (lv_at hl 4 rfl) ?_
        refine vp_callSi (va_Run.run (va_runS (As := [.int p3]) (rest := []) ⟨hx, hb, hml, hown, hts⟩ (fc_X12_isHour l p3) (va_cwS 1 hts gX12_comes_X12_isHour rfl rfl rfl (by decide +kernel) ⟨Nat.le_of_ble_eq_true rfl, Nat.le_of_ble_eq_true rfl⟩) ⟨fun a U g mk q => q, fun U hU hW => ⟨rfl, trivial⟩⟩ rfl rfl hl.1 rfl (lv_room (Nat.le_of_ble_eq_true rfl)) dX12_comes_24 ⟨by decide +kernel, by decide +kernel⟩)) (fun r11 hr11 => ?_)
        rcases hr11 with ⟨rfl, c12⟩ | ⟨rfl, c12⟩
        · refine fx_if_eq (tgt := 42) hx hb dX12_comes_27 (by decide) zk_1 (fun c13 => by exfalso; omega) (fun c13 => ?_)
          refine lv_aload_n hx hb dX12_comes_30 rfl (lv_at hl 0 rfl) ?_
          refine lv_iload_n hx hb dX12_comes_31 rfl (lv_at hl 1 rfl) ?_
          refine lv_iload_n hx hb dX12_comes_32 rfl (lv_at hl 2 rfl) ?_
          refine lv_iload_n hx hb dX12_comes_33 rfl (lv_at hl 3 rfl) ?_
          refine lv_iload hx hb dX12_comes_34 (lv_at hl 4 rfl) ?_
          refine vp_callSi (va_Run.run (va_runV (As := [.int p0, .int p1, .int p2, .int p3]) (rest := []) ⟨hx, hb, hml, hown, hts⟩ (fc_X12_comesBack l D ad C nb M hI p0 p1 p2 p3 (by omega) (by omega) (by omega) (by omega)) (cwV 4 hts gX12_comes_X12_comesBack rfl rfl rfl (by decide +kernel) ⟨Nat.le_of_ble_eq_true rfl, Nat.le_of_ble_eq_true rfl⟩) (fm_preV hc hw hS kl_60 sh_60 rfl) rfl rfl hl.1 rfl (lv_room (Nat.le_of_ble_eq_true rfl)) dX12_comes_36 ⟨by decide +kernel, by decide +kernel⟩)) (fun r14 hr14 => ?_)
          refine lv_goto (tgt := 44) hx hb dX12_comes_39 (by decide) ?_
          exact W.iret (v := r14) hx hb hr (fun t ht hW => ⟨r14, rfl, trivial, ht⟩) (fun _ h => absurd h List.not_mem_nil) dX12_comes_44
        · refine fx_if_eq (tgt := 42) hx hb dX12_comes_27 (by decide) zk_0 (fun c15 => ?_) (fun c15 => by exfalso; omega)
          refine lv_bipush (v := (-2)) hx hb dX12_comes_42 (by decide) ?_
          exact W.iret (v := (-2)) hx hb hr (fun t ht hW => ⟨(-2), rfl, trivial, ht⟩) (fun _ h => absurd h List.not_mem_nil) dX12_comes_44
      · refine fx_if_eq (tgt := 42) hx hb dX12_comes_19 (by decide) zk_0 (fun c16 => ?_) (fun c16 => by exfalso; omega)
        refine lv_bipush (v := (-2)) hx hb dX12_comes_42 (by decide) ?_
        exact W.iret (v := (-2)) hx hb hr (fun t ht hW => ⟨(-2), rfl, trivial, ht⟩) (fun _ h => absurd h List.not_mem_nil) dX12_comes_44
    · refine fx_if_eq (tgt := 42) hx hb dX12_comes_12 (by decide) zk_0 (fun c17 => ?_) (fun c17 => by exfalso; omega)
      refine lv_bipush (v := (-2)) hx hb dX12_comes_42 (by decide) ?_
      exact W.iret (v := (-2)) hx hb hr (fun t ht hW => ⟨(-2), rfl, trivial, ht⟩) (fun _ h => absurd h List.not_mem_nil) dX12_comes_44
  · refine fx_if_eq (tgt := 42) hx hb dX12_comes_5 (by decide) zk_0 (fun c18 => ?_) (fun c18 => by exfalso; omega)
    refine lv_bipush (v := (-2)) hx hb dX12_comes_42 (by decide) ?_
    exact W.iret (v := (-2)) hx hb hr (fun t ht hW => ⟨(-2), rfl, trivial, ht⟩) (fun _ h => absurd h List.not_mem_nil) dX12_comes_44
set_option maxHeartbeats 400000 in
set_option maxRecDepth 20000 in
theorem fc_X12_last (l : Launch) (D : va_G) (ad : Nat → Nat → Nat) (C : Nat → Nat → ClassId) (nb : Nat) (M : fm_M) (hI : fm_I nb ad M) (p0 p1 p2 : Int32) : Met l yX12_last wsX12_last ({ frames := 3, cells := 0, slots := 0, locals := 73 }) (va_Pc [.ref (ad 60 0), .int p0, .int p1, .int p2] (fm_P D ad C nb M)) (vp_Si (fun r : Int32 => True)) 0 0 (fun _ => False) := by
  refine Met.ofW (cc := cX12_last) (maxL := 5) (ret := (some .int)) (by decide) rfl ?_
  intro p e s m args below meth c s₁ B hml hv
  obtain ⟨rfl, hw, hc⟩ := hv
  have hx := B.exec
  have hb := B.bytes
  have hr := B.returns
  have hts := atoms_spec (ws := wsX12_last) B.pre
  have hown : s.vm.findClass RX12 = some m.cls := findClass_of_methodNamed B.named
  have hS : va_S (fm_A nb ad) s.heap s.heap [] := va_S.rf
  have hl := lv_entry ([.ref (ad 60 0), .int p0, .int p1, .int p2]) (n := 5) (Nat.le_of_ble_eq_true rfl)
  rw [lg_entry_eq]
  generalize (lg_sl ([.ref (ad 60 0), .int p0, .int p1, .int p2]) ++ List.replicate (5 - (lg_sl ([.ref (ad 60 0), .int p0, .int p1, .int p2])).length) Slot.unset).toArray = ls at hl ⊢
  have hl : lv_has ls 5 [(0, .ref (ad 60 0)), (1, .int p0), (2, .int p1), (3, .int p2)] := hl
  refine lv_aload_n hx hb dX12_last_0 rfl (lv_at hl 0 rfl) ?_
  refine lv_iload_n hx hb dX12_last_1 rfl (lv_at hl 1 rfl) ?_
  refine vp_callSi (va_Run.run (va_runV (As := [.int p0]) (rest := []) ⟨hx, hb, hml, hown, hts⟩ (fc_X12_isSeeker l D ad C nb M hI p0) (cwV 1 hts gX12_last_X12_isSeeker rfl rfl rfl (by decide +kernel) ⟨Nat.le_of_ble_eq_true rfl, Nat.le_of_ble_eq_true rfl⟩) (fm_preV hc hw hS kl_60 sh_60 rfl) rfl rfl hl.1 rfl (lv_room (Nat.le_of_ble_eq_true rfl)) dX12_last_2 ⟨by decide +kernel, by decide +kernel⟩)) (fun r1 hr1 => ?_)
  have bqq2 := hI.bd (k := 0) bd_60_16
  rcases hr1 with ⟨rfl, c3⟩ | ⟨rfl, c3⟩
  · refine fx_if_eq (tgt := 22) hx hb dX12_last_5 (by decide) zk_1 (fun c4 => by exfalso; omega) (fun c4 => ?_)
    refine lv_iload_n hx hb dX12_last_8 rfl (lv_at hl 2 rfl) ?_
    refine vp_callSi (va_Run.run (va_runS (As := [.int p1]) (rest := []) ⟨hx, hb, hml, hown, hts⟩ (fc_X12_isCell l p1) (va_cwS 1 hts gX12_last_X12_isCell rfl rfl rfl (by decide +kernel) ⟨Nat.le_of_ble_eq_true rfl, Nat.le_of_ble_eq_true rfl⟩) ⟨fun a U g mk q => q, fun U hU hW => ⟨rfl, trivial⟩⟩ rfl rfl hl.1 rfl (lv_room (Nat.le_of_ble_eq_true rfl)) dX12_last_9 ⟨by decide +kernel, by decide +kernel⟩)) (fun r5 hr5 => ?_)
    rcases hr5 with ⟨rfl, c6⟩ | ⟨rfl, c6⟩
    · refine fx_if_eq (tgt := 22) hx hb dX12_last_12 (by decide) zk_1 (fun c7 => by exfalso; omega) (fun c7 => ?_)
      refine lv_iload_n hx hb dX12_last_15 rfl (lv_at hl 3 rfl) ?_
      refine vp_callSi (va_Run.run (va_runS (As := [.int p2]) (rest := []) ⟨hx, hb, hml, hown, hts⟩ (fc_X12_isCell l p2) (va_cwS 1 hts gX12_last_X12_isCell rfl rfl rfl (by decide +kernel) ⟨Nat.le_of_ble_eq_true rfl, Nat.le_of_ble_eq_true rfl⟩) ⟨fun a U g mk q => q, fun U hU hW => ⟨rfl, trivial⟩⟩ rfl rfl hl.1 rfl (lv_room (Nat.le_of_ble_eq_true rfl)) dX12_last_16 ⟨by decide +kernel, by decide +kernel⟩)) (fun r8 hr8 => ?_)
      rcases hr8 with ⟨rfl, c9⟩ | ⟨rfl, c9⟩
      · refine fx_if_ne (tgt := 25) hx hb dX12_last_19 (by decide) zk_1 (fun c10 => ?_) (fun c10 => by exfalso; omega)
        refine lv_sipush (v := 239) hx hb dX12_last_25 (by decide) ?_
        refine lv_istore (lv' := [(4, .int 239), (0, .ref (ad 60 0)), (1, .int p0), (2, .int p1), (3, .int p2)]) hx hb dX12_last_28 hl (by decide) rfl (fun ls hl => ?_)
        have lp : ∀ (n_lp : Nat) (lp_4 : Int32), (lp_4.toInt + 1).toNat < n_lp → ((-1) ≤ lp_4.toInt ∧ lp_4.toInt ≤ 239) → ∀ (ls : Array Slot), lv_has ls 5 [(4, .int lp_4), (0, .ref (ad 60 0)), (1, .int p0), (2, .int p1), (3, .int p2)] → W p l e (headSpec wsX12_last ({ frames := 3, cells := 0, slots := 0, locals := 73 })).room s m ([.ref (ad 60 0), .int p0, .int p1, .int p2] : List Value).toArray below meth c s.heap [] 0 0 (MQ below (vp_Si (fun r : Int32 => True)) ([.ref (ad 60 0), .int p0, .int p1, .int p2] : List Value).toArray s 0 0 (fun _ => False)) (F0 m 30 ls []) := by
          intro n_lp
          induction n_lp with
          | zero => intro lp_4 hm_lp b_lp_4 ls hl; exact absurd hm_lp (Nat.not_lt_zero _)
          | succ n_lp ih_lp =>
            intro lp_4 hm_lp b_lp_4 ls hl
            refine lv_iload hx hb dX12_last_30 (lv_at hl 0 rfl) ?_
            refine fx_if_lt (tgt := 53) hx hb dX12_last_32 (by decide) rfl (fun c11 => ?_) (fun c11 => ?_)
            · refine lv_iload hx hb dX12_last_53 (lv_at hl 0 rfl) ?_
              exact W.iret (v := lp_4) hx hb hr (fun t ht hW => ⟨lp_4, rfl, trivial, ht⟩) (fun _ h => absurd h List.not_mem_nil) dX12_last_55
            · refine lv_aload_n hx hb dX12_last_35 rfl (lv_at hl 1 rfl) ?_
              refine lv_iload_n hx hb dX12_last_36 rfl (lv_at hl 2 rfl) ?_
              refine lv_iload_n hx hb dX12_last_37 rfl (lv_at hl 3 rfl) ?_
              refine lv_iload_n hx hb dX12_last_38 rfl (lv_at hl 4 rfl) ?_
              refine lv_iload hx hb dX12_last_39 (lv_at hl 0 rfl) ?_
              refine vp_callSi (va_Run.run (va_runV (As := [.int p0, .int p1, .int p2, .int lp_4]) (rest := []) ⟨hx, hb, hml, hown, hts⟩ (fc_X12_comesBack l D ad C nb M hI p0 p1 p2 lp_4 (by omega) (by omega) (by omega) (by omega)) (cwV 4 hts gX12_last_X12_comesBack rfl rfl rfl (by decide +kernel) ⟨Nat.le_of_ble_eq_true rfl, Nat.le_of_ble_eq_true rfl⟩) (fm_preV hc hw hS kl_60 sh_60 rfl) rfl rfl hl.1 rfl (lv_room (Nat.le_of_ble_eq_true rfl)) dX12_last_41 ⟨by decide +kernel, by decide +kernel⟩)) (fun r12 hr12 => ?_)
              refine fx_if_ge (tgt := 53) hx hb dX12_last_44 (by decide) rfl (fun c13 => ?_) (fun c13 => ?_)
              · refine lv_iload hx hb dX12_last_53 (lv_at hl 0 rfl) ?_
                exact W.iret (v := lp_4) hx hb hr (fun t ht hW => ⟨lp_4, rfl, trivial, ht⟩) (fun _ h => absurd h List.not_mem_nil) dX12_last_55
              · obtain ⟨y14, ey14⟩ : ∃ y : Int32, y = lp_4 + (-1) := ⟨_, rfl⟩
                have ty14 : y14.toInt = lp_4.toInt + (-1) := by rw [ey14, zi_add _ _ (by rw [zk_m1]; omega) (by rw [zk_m1]; omega), zk_m1]
                refine lv_iinc (v := y14) (lv' := [(4, .int y14), (0, .ref (ad 60 0)), (1, .int p0), (2, .int p1), (3, .int p2)]) hx hb dX12_last_47 hl (k := 0) rfl (by rw [ey14]; rfl) (by decide) rfl (fun ls hl => ?_)
                refine lv_goto (tgt := 30) hx hb dX12_last_50 (by decide) ?_
                exact ih_lp y14 (by omega) (by omega) ls (lv_sub hl [0, 1, 2, 3, 4] rfl)
        exact lp _ 239 (Nat.lt_succ_self _) (by decide) ls (lv_sub hl [0, 1, 2, 3, 4] rfl)
      · refine fx_if_ne (tgt := 25) hx hb dX12_last_19 (by decide) zk_0 (fun c15 => by exfalso; omega) (fun c15 => ?_)
        refine lv_bipush (v := (-2)) hx hb dX12_last_22 (by decide) ?_
        exact W.iret (v := (-2)) hx hb hr (fun t ht hW => ⟨(-2), rfl, trivial, ht⟩) (fun _ h => absurd h List.not_mem_nil) dX12_last_24
    · refine fx_if_eq (tgt := 22) hx hb dX12_last_12 (by decide) zk_0 (fun c16 => ?_) (fun c16 => by exfalso; omega)
      refine lv_bipush (v := (-2)) hx hb dX12_last_22 (by decide) ?_
      exact W.iret (v := (-2)) hx hb hr (fun t ht hW => ⟨(-2), rfl, trivial, ht⟩) (fun _ h => absurd h List.not_mem_nil) dX12_last_24
  · refine fx_if_eq (tgt := 22) hx hb dX12_last_5 (by decide) zk_0 (fun c17 => ?_) (fun c17 => by exfalso; omega)
    refine lv_bipush (v := (-2)) hx hb dX12_last_22 (by decide) ?_
    exact W.iret (v := (-2)) hx hb hr (fun t ht hW => ⟨(-2), rfl, trivial, ht⟩) (fun _ h => absurd h List.not_mem_nil) dX12_last_24
set_option maxHeartbeats 400000 in
set_option maxRecDepth 20000 in
theorem fc_X12_man (l : Launch) (D : va_G) (ad : Nat → Nat → Nat) (C : Nat → Nat → ClassId) (nb : Nat) (M : fm_M) (hI : fm_I nb ad M) (p0 p1 p2 p3 : Int32) : Met l yX12_man wsX12_man ({ frames := 1, cells := 0, slots := 0, locals := 22 }) (va_Pc [.ref (ad 60 0), .int p0, .int p1, .int p2, .int p3] (fm_P D ad C nb M)) (va_Qi (fun (r : Int32) (u : fm_M) => fm_I nb ad u ∧ fm_same [60044, 140000, 141000, 142000, 143000] M u ∧ ((¬ (0 ≤ p0.toInt ∧ p0.toInt < (M.1 60 0 16).toInt ∧ 0 ≤ p1.toInt ∧ p1.toInt ≤ 99 ∧ 0 ≤ p2.toInt ∧ p2.toInt ≤ 99 ∧ 0 ≤ p3.toInt ∧ p3.toInt ≤ 99) ∧ r.toInt = -2 ∧ (u.1 60 0 44).toInt = (M.1 60 0 44).toInt) ∨ ((0 ≤ p0.toInt ∧ p0.toInt < (M.1 60 0 16).toInt ∧ 0 ≤ p1.toInt ∧ p1.toInt ≤ 99 ∧ 0 ≤ p2.toInt ∧ p2.toInt ≤ 99 ∧ 0 ≤ p3.toInt ∧ p3.toInt ≤ 99) ∧ 16 ≤ (M.1 60 0 44).toInt ∧ r.toInt = -4 ∧ (u.1 60 0 44).toInt = (M.1 60 0 44).toInt) ∨ ((0 ≤ p0.toInt ∧ p0.toInt < (M.1 60 0 16).toInt ∧ 0 ≤ p1.toInt ∧ p1.toInt ≤ 99 ∧ 0 ≤ p2.toInt ∧ p2.toInt ≤ 99 ∧ 0 ≤ p3.toInt ∧ p3.toInt ≤ 99) ∧ (M.1 60 0 44).toInt < 16 ∧ r.toInt = (M.1 60 0 44).toInt ∧ (u.1 60 0 44).toInt = (M.1 60 0 44).toInt + 1))) (fun u t => fm_at D ad C nb u t.heap) (fm_A nb ad)) 0 0 (fm_A nb ad) := by
  refine Met.ofW (cc := cX12_man) (maxL := 5) (ret := (some .int)) (by decide) rfl ?_
  intro p e s m args below meth c s₁ B hml hv
  obtain ⟨rfl, hw, hc⟩ := hv
  have hx := B.exec
  have hb := B.bytes
  have hr := B.returns
  have hts := atoms_spec (ws := wsX12_man) B.pre
  have hown : s.vm.findClass RX12 = some m.cls := findClass_of_methodNamed B.named
  have hinX12 : ∀ w ∈ u_ws RX12 TX12 79, w ∈ wsX12_man := fun w h => List.mem_cons_of_mem _ (iT_X12 w h)
  have hS : va_S (fm_A nb ad) s.heap s.heap [] := va_S.rf
  have hE : fm_same [60044, 140000, 141000, 142000, 143000] M M := fm_same.rf
  have hl := lv_entry ([.ref (ad 60 0), .int p0, .int p1, .int p2, .int p3]) (n := 5) (Nat.le_of_ble_eq_true rfl)
  rw [lg_entry_eq]
  generalize (lg_sl ([.ref (ad 60 0), .int p0, .int p1, .int p2, .int p3]) ++ List.replicate (5 - (lg_sl ([.ref (ad 60 0), .int p0, .int p1, .int p2, .int p3])).length) Slot.unset).toArray = ls at hl ⊢
  have hl : lv_has ls 5 [(0, .ref (ad 60 0)), (1, .int p0), (2, .int p1), (3, .int p2), (4, .int p3)] := hl
  refine lv_aload_n hx hb dX12_man_0 rfl (lv_at hl 0 rfl) ?_
  refine lv_iload_n hx hb dX12_man_1 rfl (lv_at hl 1 rfl) ?_
  refine vp_callSi (va_Run.run (va_runV (As := [.int p0]) (rest := []) ⟨hx, hb, hml, hown, hts⟩ (fc_X12_isBody l D ad C nb M hI p0) (cwV 1 hts gX12_man_X12_isBody rfl rfl rfl (by decide +kernel) ⟨Nat.le_of_ble_eq_true rfl, Nat.le_of_ble_eq_true rfl⟩) (fm_preV hc hw hS kl_60 sh_60 rfl) rfl rfl hl.1 rfl (lv_room (Nat.le_of_ble_eq_true rfl)) dX12_man_2 ⟨by decide +kernel, by decide +kernel⟩)) (fun r1 hr1 => ?_)
  have bqq2 := hI.bd (k := 0) bd_60_16
  rcases hr1 with ⟨rfl, c3⟩ | ⟨rfl, c3⟩
  · refine fx_if_eq (tgt := 39) hx hb dX12_man_5 (by decide) zk_1 (fun c4 => by exfalso; omega) (fun c4 => ?_)
    refine lv_iload_n hx hb dX12_man_8 rfl (lv_at hl 2 rfl) ?_
    refine lv_iconst (v := 0) hx hb dX12_man_9 (by decide) ?_
    refine lv_bipush (v := 99) hx hb dX12_man_10 (by decide) ?_
    have zz5 := zk_0
    have zz6 := zk_99
    refine vp_callSi (va_Run.run (va_runS (As := [.int p1, .int 0, .int 99]) (rest := []) ⟨hx, hb, hml, hown, hts⟩ (fc_X12_within l p1 0 99) (va_cwS 3 hts gX12_man_X12_within rfl rfl rfl (by decide +kernel) ⟨Nat.le_of_ble_eq_true rfl, Nat.le_of_ble_eq_true rfl⟩) ⟨fun a U g mk q => q, fun U hU hW => ⟨rfl, trivial⟩⟩ rfl rfl hl.1 rfl (lv_room (Nat.le_of_ble_eq_true rfl)) dX12_man_12 ⟨by decide +kernel, by decide +kernel⟩)) (fun r7 hr7 => ?_)
    rcases hr7 with ⟨rfl, c8⟩ | ⟨rfl, c8⟩
    · refine fx_if_eq (tgt := 39) hx hb dX12_man_15 (by decide) zk_1 (fun c9 => by exfalso; omega) (fun c9 => ?_)
      refine lv_iload_n hx hb dX12_man_18 rfl (lv_at hl 3 rfl) ?_
      refine lv_iconst (v := 0) hx hb dX12_man_19 (by decide) ?_
      refine lv_bipush (v := 99) hx hb dX12_man_20 (by decide) ?_
      have zz10 := zk_0
      have zz11 := zk_99
      refine vp_callSi (va_Run.run (va_runS (As := [.int p2, .int 0, .int 99]) (rest := []) ⟨hx, hb, hml, hown, hts⟩ (fc_X12_within l p2 0 99) (va_cwS 3 hts gX12_man_X12_within rfl rfl rfl (by decide +kernel) ⟨Nat.le_of_ble_eq_true rfl, Nat.le_of_ble_eq_true rfl⟩) ⟨fun a U g mk q => q, fun U hU hW => ⟨rfl, trivial⟩⟩ rfl rfl hl.1 rfl (lv_room (Nat.le_of_ble_eq_true rfl)) dX12_man_22 ⟨by decide +kernel, by decide +kernel⟩)) (fun r12 hr12 => ?_)
      rcases hr12 with ⟨rfl, c13⟩ | ⟨rfl, c13⟩
      · refine fx_if_eq (tgt := 39) hx hb dX12_man_25 (by decide) zk_1 (fun c14 => by exfalso; omega) (fun c14 => ?_)
        refine lv_iload hx hb dX12_man_28 (lv_at hl 4 rfl) ?_
        refine lv_iconst (v := 0) hx hb dX12_man_30 (by decide) ?_
        refine lv_bipush (v := 99) hx hb dX12_man_31 (by decide) ?_
        have zz15 := zk_0
        have zz16 := zk_99
        refine vp_callSi (va_Run.run (va_runS (As := [.int p3, .int 0, .int 99]) (rest := []) ⟨hx, hb, hml, hown, hts⟩ (fc_X12_within l p3 0 99) (va_cwS 3 hts gX12_man_X12_within rfl rfl rfl (by decide +kernel) ⟨Nat.le_of_ble_eq_true rfl, Nat.le_of_ble_eq_true rfl⟩) ⟨fun a U g mk q => q, fun U hU hW => ⟨rfl, trivial⟩⟩ rfl rfl hl.1 rfl (lv_room (Nat.le_of_ble_eq_true rfl)) dX12_man_33 ⟨by decide +kernel, by decide +kernel⟩)) (fun r17 hr17 => ?_)
        rcases hr17 with ⟨rfl, c18⟩ | ⟨rfl, c18⟩
        · refine fx_if_ne (tgt := 42) hx hb dX12_man_36 (by decide) zk_1 (fun c19 => ?_) (fun c19 => by exfalso; omega)
          refine lv_aload_n hx hb dX12_man_42 rfl (lv_at hl 0 rfl) ?_
          refine fm_getI (a := 60) (j := 44) (T := TX12) (N := 79) hx hb hts hinX12 hown hc hw hI kl_60 sh_60 rfl (by decide) rfl bd_60_44 (hts (.fieldLink RX12 320 "RedTentModel" "men" "I") (List.mem_cons_of_mem _ tw_5_164)) (fun _ h9 => h9) dX12_man_43 (fun x20 ex20 bx20 => ?_)
          refine lv_bipush (v := 16) hx hb dX12_man_46 (by decide) ?_
          refine fx_icmp_ne (tgt := 54) hx hb dX12_man_48 (by decide) rfl zk_16 (fun c21 => ?_) (fun c21 => ?_)
          · refine lv_aload_n hx hb dX12_man_54 rfl (lv_at hl 0 rfl) ?_
            refine fm_getG (a := 60) (j := 40) (T := TX12) (N := 79) hx hb hts hinX12 hown hc hw kl_60 sh_60 rfl (by decide) rfl (hI.to kl_60 tg_60_40) (hts (.fieldLink RX12 101 "RedTentModel" "manBody" "[I") (List.mem_cons_of_mem _ tw_5_160)) (fun _ h9 => h9) dX12_man_55 ?_
            refine lv_aload_n hx hb dX12_man_58 rfl (lv_at hl 0 rfl) ?_
            refine fm_getI (a := 60) (j := 44) (T := TX12) (N := 79) hx hb hts hinX12 hown hc hw hI kl_60 sh_60 rfl (by decide) rfl bd_60_44 (hts (.fieldLink RX12 320 "RedTentModel" "men" "I") (List.mem_cons_of_mem _ tw_5_164)) (fun _ h9 => h9) dX12_man_59 (fun x22 ex22 bx22 => ?_)
            obtain rfl : x20 = x22 := by rw [ex22]; exact ex20
            refine lv_iload_n hx hb dX12_man_62 rfl (lv_at hl 1 rfl) ?_
            refine fm_iast (a := 140) hx hb hc hw hI hE hS kl_140 sh_140 ty_140 bd_140 (by omega) (by omega) cd_140 (by decide) dX12_man_63 (fun M23 H locs eM23 hw hI hE hS => ?_)
            refine lv_aload_n hx hb dX12_man_64 rfl (lv_at hl 0 rfl) ?_
            refine fm_getG (a := 60) (j := 41) (T := TX12) (N := 79) hx hb hts hinX12 hown hc hw kl_60 sh_60 rfl (by decide) rfl (hI.to kl_60 tg_60_41) (hts (.fieldLink RX12 104 "RedTentModel" "strength" "[I") (List.mem_cons_of_mem _ tw_5_161)) (fun _ h9 => h9) dX12_man_65 ?_
            refine lv_aload_n hx hb dX12_man_68 rfl (lv_at hl 0 rfl) ?_
            refine fm_getI (a := 60) (j := 44) (T := TX12) (N := 79) hx hb hts hinX12 hown hc hw hI kl_60 sh_60 rfl (by decide) rfl bd_60_44 (hts (.fieldLink RX12 320 "RedTentModel" "men" "I") (List.mem_cons_of_mem _ tw_5_164)) (fun _ h9 => h9) dX12_man_69 (fun x24 ex24 bx24 => ?_)
            obtain rfl : x20 = x24 := by rw [ex24, eM23, fm_wI_nj (fun z => absurd z.1 (by decide))]; exact ex20
            refine lv_iload_n hx hb dX12_man_72 rfl (lv_at hl 2 rfl) ?_
            refine fm_iast (a := 141) hx hb hc hw hI hE hS kl_141 sh_141 ty_141 bd_141 (by omega) (by omega) cd_141 (by decide) dX12_man_73 (fun M25 H locs eM25 hw hI hE hS => ?_)
            refine lv_aload_n hx hb dX12_man_74 rfl (lv_at hl 0 rfl) ?_
            refine fm_getG (a := 60) (j := 42) (T := TX12) (N := 79) hx hb hts hinX12 hown hc hw kl_60 sh_60 rfl (by decide) rfl (hI.to kl_60 tg_60_42) (hts (.fieldLink RX12 107 "RedTentModel" "hurt" "[I") (List.mem_cons_of_mem _ tw_5_162)) (fun _ h9 => h9) dX12_man_75 ?_
            refine lv_aload_n hx hb dX12_man_78 rfl (lv_at hl 0 rfl) ?_
            refine fm_getI (a := 60) (j := 44) (T := TX12) (N := 79) hx hb hts hinX12 hown hc hw hI kl_60 sh_60 rfl (by decide) rfl bd_60_44 (hts (.fieldLink RX12 320 "RedTentModel" "men" "I") (List.mem_cons_of_mem _ tw_5_164)) (fun _ h9 => h9) dX12_man_79 (fun x26 ex26 bx26 => ?_)
            obtain rfl : x20 = x26 := by rw [ex26, eM25, fm_wI_nj (fun z => absurd z.1 (by decide)), eM23, fm_wI_nj (fun z => absurd z.1 (by decide))]; exact ex20
            refine lv_iload_n hx hb dX12_man_82 rfl (lv_at hl 3 rfl) ?_
            refine fm_iast (a := 142) hx hb hc hw hI hE hS kl_142 sh_142 ty_142 bd_142 (by omega) (by omega) cd_142 (by decide) dX12_man_83 (fun M27 H locs eM27 hw hI hE hS => ?_)
            refine lv_aload_n hx hb dX12_man_84 rfl (lv_at hl 0 rfl) ?_
            refine fm_getG (a := 60) (j := 43) (T := TX12) (N := 79) hx hb hts hinX12 hown hc hw kl_60 sh_60 rfl (by decide) rfl (hI.to kl_60 tg_60_43) (hts (.fieldLink RX12 110 "RedTentModel" "skill" "[I") (List.mem_cons_of_mem _ tw_5_163)) (fun _ h9 => h9) dX12_man_85 ?_
            refine lv_aload_n hx hb dX12_man_88 rfl (lv_at hl 0 rfl) ?_
            refine fm_getI (a := 60) (j := 44) (T := TX12) (N := 79) hx hb hts hinX12 hown hc hw hI kl_60 sh_60 rfl (by decide) rfl bd_60_44 (hts (.fieldLink RX12 320 "RedTentModel" "men" "I") (List.mem_cons_of_mem _ tw_5_164)) (fun _ h9 => h9) dX12_man_89 (fun x28 ex28 bx28 => ?_)
            obtain rfl : x20 = x28 := by rw [ex28, eM27, fm_wI_nj (fun z => absurd z.1 (by decide)), eM25, fm_wI_nj (fun z => absurd z.1 (by decide)), eM23, fm_wI_nj (fun z => absurd z.1 (by decide))]; exact ex20
            refine lv_iload hx hb dX12_man_92 (lv_at hl 4 rfl) ?_
            refine fm_iast (a := 143) hx hb hc hw hI hE hS kl_143 sh_143 ty_143 bd_143 (by omega) (by omega) cd_143 (by decide) dX12_man_94 (fun M29 H locs eM29 hw hI hE hS => ?_)
            refine lv_aload_n hx hb dX12_man_95 rfl (lv_at hl 0 rfl) ?_
            refine lv_dup hx hb dX12_man_96 rfl ?_
            refine fm_getI (a := 60) (j := 44) (T := TX12) (N := 79) hx hb hts hinX12 hown hc hw hI kl_60 sh_60 rfl (by decide) rfl bd_60_44 (hts (.fieldLink RX12 320 "RedTentModel" "men" "I") (List.mem_cons_of_mem _ tw_5_164)) (fun _ h9 => h9) dX12_man_97 (fun x30 ex30 bx30 => ?_)
            obtain rfl : x20 = x30 := by rw [ex30, eM29, fm_wI_nj (fun z => absurd z.1 (by decide)), eM27, fm_wI_nj (fun z => absurd z.1 (by decide)), eM25, fm_wI_nj (fun z => absurd z.1 (by decide)), eM23, fm_wI_nj (fun z => absurd z.1 (by decide))]; exact ex20
            refine lv_iconst (v := 1) hx hb dX12_man_100 (by decide) ?_
            refine fx_iadd hx hb dX12_man_101 rfl zk_1 (by omega) (fun y31 ey31 ty31 => ?_)
            refine fm_putI (a := 60) (j := 44) (T := TX12) (N := 79) hx hb hts hinX12 tyX12 tyX12_ok nmX12 hown hc hw hI hE hS kl_60 sh_60 od_60 rfl (by decide) rfl bd_60_44 (hts (.fieldLink RX12 320 "RedTentModel" "men" "I") (List.mem_cons_of_mem _ tw_5_164)) (fun _ h9 => h9) rfl (by decide +kernel) (by omega) (by decide) (by decide) dX12_man_102 (fun M32 H locs eM32 hw hI hE hS => ?_)
            refine lv_aload_n hx hb dX12_man_105 rfl (lv_at hl 0 rfl) ?_
            refine fm_getI (a := 60) (j := 44) (T := TX12) (N := 79) hx hb hts hinX12 hown hc hw hI kl_60 sh_60 rfl (by decide) rfl bd_60_44 (hts (.fieldLink RX12 320 "RedTentModel" "men" "I") (List.mem_cons_of_mem _ tw_5_164)) (fun _ h9 => h9) dX12_man_106 (fun x33 ex33 bx33 => ?_)
            obtain rfl : y31 = x33 := by rw [ex33, eM32, fm_wI_at]
            refine lv_iconst (v := 1) hx hb dX12_man_109 (by decide) ?_
            refine fx_isub hx hb dX12_man_110 rfl zk_1 (by omega) (fun y34 ey34 ty34 => ?_)
            have qx20 : x20.toInt = (M.1 60 0 44).toInt := by rw [ex20]
            exact W.iret (v := y34) hx hb hr (fun t ht hW => ⟨⟨y34, M32, rfl, ⟨hI, hE, Or.inr (Or.inr ⟨by omega, by omega, by omega, (by first | omega | (rw [eM32, fm_wI_at]; omega))⟩)⟩, by show fm_at D ad C nb _ t.heap; rw [ht]; exact hw⟩, hS.F ht⟩) hS.2.2 dX12_man_111
          · refine lv_bipush (v := (-4)) hx hb dX12_man_51 (by decide) ?_
            have qx20 : x20.toInt = (M.1 60 0 44).toInt := by rw [ex20]
            exact W.iret (v := (-4)) hx hb hr (fun t ht hW => ⟨⟨(-4), M, rfl, ⟨hI, hE, Or.inr (Or.inl ⟨by omega, by omega, zk_m4, rfl⟩)⟩, by show fm_at D ad C nb _ t.heap; rw [ht]; exact hw⟩, hS.F ht⟩) hS.2.2 dX12_man_53
        · refine fx_if_ne (tgt := 42) hx hb dX12_man_36 (by decide) zk_0 (fun c35 => by exfalso; omega) (fun c35 => ?_)
          refine lv_bipush (v := (-2)) hx hb dX12_man_39 (by decide) ?_
          exact W.iret (v := (-2)) hx hb hr (fun t ht hW => ⟨⟨(-2), M, rfl, ⟨hI, hE, Or.inl ⟨by omega, zk_m2, rfl⟩⟩, by show fm_at D ad C nb _ t.heap; rw [ht]; exact hw⟩, hS.F ht⟩) hS.2.2 dX12_man_41
      · refine fx_if_eq (tgt := 39) hx hb dX12_man_25 (by decide) zk_0 (fun c36 => ?_) (fun c36 => by exfalso; omega)
        refine lv_bipush (v := (-2)) hx hb dX12_man_39 (by decide) ?_
        exact W.iret (v := (-2)) hx hb hr (fun t ht hW => ⟨⟨(-2), M, rfl, ⟨hI, hE, Or.inl ⟨by omega, zk_m2, rfl⟩⟩, by show fm_at D ad C nb _ t.heap; rw [ht]; exact hw⟩, hS.F ht⟩) hS.2.2 dX12_man_41
    · refine fx_if_eq (tgt := 39) hx hb dX12_man_15 (by decide) zk_0 (fun c37 => ?_) (fun c37 => by exfalso; omega)
      refine lv_bipush (v := (-2)) hx hb dX12_man_39 (by decide) ?_
      exact W.iret (v := (-2)) hx hb hr (fun t ht hW => ⟨⟨(-2), M, rfl, ⟨hI, hE, Or.inl ⟨by omega, zk_m2, rfl⟩⟩, by show fm_at D ad C nb _ t.heap; rw [ht]; exact hw⟩, hS.F ht⟩) hS.2.2 dX12_man_41
  · refine fx_if_eq (tgt := 39) hx hb dX12_man_5 (by decide) zk_0 (fun c38 => ?_) (fun c38 => by exfalso; omega)
    refine lv_bipush (v := (-2)) hx hb dX12_man_39 (by decide) ?_
    exact W.iret (v := (-2)) hx hb hr (fun t ht hW => ⟨⟨(-2), M, rfl, ⟨hI, hE, Or.inl ⟨by omega, zk_m2, rfl⟩⟩, by show fm_at D ad C nb _ t.heap; rw [ht]; exact hw⟩, hS.F ht⟩) hS.2.2 dX12_man_41
set_option maxHeartbeats 400000 in
set_option maxRecDepth 20000 in
theorem fc_X12_feed (l : Launch) (D : va_G) (ad : Nat → Nat → Nat) (C : Nat → Nat → ClassId) (nb : Nat) (M : fm_M) (hI : fm_I nb ad M) (p0 : Int32) (p1 : Int64) : Met l yX12_feed wsX12_feed ({ frames := 1, cells := 0, slots := 0, locals := 22 }) (va_Pc [.ref (ad 60 0), .int p0, .long p1] (fm_P D ad C nb M)) (va_Qi (fun (r : Int32) (u : fm_M) => fm_I nb ad u ∧ fm_same [60052, 151000] M u ∧ True) (fun u t => fm_at D ad C nb u t.heap) (fm_A nb ad)) 0 0 (fm_A nb ad) := by
  refine Met.ofW (cc := cX12_feed) (maxL := 5) (ret := (some .int)) (by decide) rfl ?_
  intro p e s m args below meth c s₁ B hml hv
  obtain ⟨rfl, hw, hc⟩ := hv
  have hx := B.exec
  have hb := B.bytes
  have hr := B.returns
  have hts := atoms_spec (ws := wsX12_feed) B.pre
  have hown : s.vm.findClass RX12 = some m.cls := findClass_of_methodNamed B.named
  have hinX12 : ∀ w ∈ u_ws RX12 TX12 79, w ∈ wsX12_feed := fun w h => List.mem_cons_of_mem _ (iT_X12 w h)
  have hS : va_S (fm_A nb ad) s.heap s.heap [] := va_S.rf
  have hE : fm_same [60052, 151000] M M := fm_same.rf
  have hl := lv_entry ([.ref (ad 60 0), .int p0, .long p1]) (n := 5) (Nat.le_of_ble_eq_true rfl)
  rw [lg_entry_eq]
  generalize (lg_sl ([.ref (ad 60 0), .int p0, .long p1]) ++ List.replicate (5 - (lg_sl ([.ref (ad 60 0), .int p0, .long p1])).length) Slot.unset).toArray = ls at hl ⊢
  have hl : lv_has ls 5 [(0, .ref (ad 60 0)), (1, .int p0), (2, .long p1)] := hl
  refine lv_iload_n hx hb dX12_feed_0 rfl (lv_at hl 1 rfl) ?_
  refine lv_iconst (v := 1) hx hb dX12_feed_1 (by decide) ?_
  refine lv_bipush (v := 8) hx hb dX12_feed_2 (by decide) ?_
  have zz1 := zk_1
  have zz2 := zk_8
  refine vp_callSi (va_Run.run (va_runS (As := [.int p0, .int 1, .int 8]) (rest := []) ⟨hx, hb, hml, hown, hts⟩ (fc_X12_within l p0 1 8) (va_cwS 3 hts gX12_feed_X12_within rfl rfl rfl (by decide +kernel) ⟨Nat.le_of_ble_eq_true rfl, Nat.le_of_ble_eq_true rfl⟩) ⟨fun a U g mk q => q, fun U hU hW => ⟨rfl, trivial⟩⟩ rfl rfl hl.1 rfl (lv_room (Nat.le_of_ble_eq_true rfl)) dX12_feed_4 ⟨by decide +kernel, by decide +kernel⟩)) (fun r3 hr3 => ?_)
  rcases hr3 with ⟨rfl, c4⟩ | ⟨rfl, c4⟩
  · refine fx_if_ne (tgt := 13) hx hb dX12_feed_7 (by decide) zk_1 (fun c5 => ?_) (fun c5 => by exfalso; omega)
    refine lv_aload_n hx hb dX12_feed_13 rfl (lv_at hl 0 rfl) ?_
    refine fm_getI (a := 60) (j := 52) (T := TX12) (N := 79) hx hb hts hinX12 hown hc hw hI kl_60 sh_60 rfl (by decide) rfl bd_60_52 (hts (.fieldLink RX12 323 "RedTentModel" "tapeMany" "I") (List.mem_cons_of_mem _ tw_5_172)) (fun _ h9 => h9) dX12_feed_14 (fun x6 ex6 bx6 => ?_)
    have wx6 : x6.toInt = (M.1 60 0 52).toInt := by rw [ex6]
    refine lv_iload_n hx hb dX12_feed_17 rfl (lv_at hl 1 rfl) ?_
    refine fx_iadd hx hb dX12_feed_18 rfl rfl (by omega) (fun y7 ey7 ty7 => ?_)
    refine lv_sipush (v := 160) hx hb dX12_feed_19 (by decide) ?_
    refine fx_icmp_le (tgt := 28) hx hb dX12_feed_22 (by decide) rfl zk_160 (fun c8 => ?_) (fun c8 => ?_)
    · refine lv_iconst (v := 0) hx hb dX12_feed_28 (by decide) ?_
      refine lv_istore (lv' := [(4, .int 0), (0, .ref (ad 60 0)), (1, .int p0), (2, .long p1)]) hx hb dX12_feed_29 hl (by decide) rfl (fun ls hl => ?_)
      have lp : ∀ (n_lp : Nat) (lp_4 : Int32) (M_lp : fm_M), (8 - lp_4.toInt).toNat < n_lp → (0 ≤ lp_4.toInt ∧ lp_4.toInt ≤ 8) → ((M_lp.1 60 0 52).toInt + p0.toInt - lp_4.toInt ≤ 160) → fm_I nb ad M_lp → fm_same [60052, 151000] M M_lp → ∀ (H : Heap) (locs : List Loc), fm_at D ad C nb M_lp H → va_S (fm_A nb ad) s.heap H locs → ∀ (ls : Array Slot), lv_has ls 5 [(4, .int lp_4), (0, .ref (ad 60 0)), (1, .int p0), (2, .long p1)] → W p l e (headSpec wsX12_feed ({ frames := 1, cells := 0, slots := 0, locals := 22 })).room s m ([.ref (ad 60 0), .int p0, .long p1] : List Value).toArray below meth c H locs 0 0 (MQ below (va_Qi (fun (r : Int32) (u : fm_M) => fm_I nb ad u ∧ fm_same [60052, 151000] M u ∧ True) (fun u t => fm_at D ad C nb u t.heap) (fm_A nb ad)) ([.ref (ad 60 0), .int p0, .long p1] : List Value).toArray s 0 0 (fm_A nb ad)) (F0 m 31 ls []) := by
        intro n_lp
        induction n_lp with
        | zero => intro lp_4 M_lp hm_lp b_lp_4 hf hI hE H locs hw hS ls hl; exact absurd hm_lp (Nat.not_lt_zero _)
        | succ n_lp ih_lp =>
          intro lp_4 M_lp hm_lp b_lp_4 hf hI hE H locs hw hS ls hl
          refine lv_iload hx hb dX12_feed_31 (lv_at hl 0 rfl) ?_
          refine lv_iload_n hx hb dX12_feed_33 rfl (lv_at hl 2 rfl) ?_
          refine fx_icmp_ge (tgt := 74) hx hb dX12_feed_34 (by decide) rfl rfl (fun c9 => ?_) (fun c9 => ?_)
          · refine lv_aload_n hx hb dX12_feed_74 rfl (lv_at hl 1 rfl) ?_
            refine fm_getI (a := 60) (j := 52) (T := TX12) (N := 79) hx hb hts hinX12 hown hc hw hI kl_60 sh_60 rfl (by decide) rfl bd_60_52 (hts (.fieldLink RX12 323 "RedTentModel" "tapeMany" "I") (List.mem_cons_of_mem _ tw_5_172)) (fun _ h9 => h9) dX12_feed_75 (fun x10 ex10 bx10 => ?_)
            have wx10 : x10.toInt = (M_lp.1 60 0 52).toInt := by rw [ex10]
            exact W.iret (v := x10) hx hb hr (fun t ht hW => ⟨⟨x10, M_lp, rfl, ⟨hI, hE, trivial⟩, by show fm_at D ad C nb _ t.heap; rw [ht]; exact hw⟩, hS.F ht⟩) hS.2.2 dX12_feed_78
          · refine lv_aload_n hx hb dX12_feed_37 rfl (lv_at hl 1 rfl) ?_
            refine fm_getG (a := 60) (j := 51) (T := TX12) (N := 79) hx hb hts hinX12 hown hc hw kl_60 sh_60 rfl (by decide) rfl (hI.to kl_60 tg_60_51) (hts (.fieldLink RX12 125 "RedTentModel" "tape" "[I") (List.mem_cons_of_mem _ tw_5_171)) (fun _ h9 => h9) dX12_feed_38 ?_
            refine lv_aload_n hx hb dX12_feed_41 rfl (lv_at hl 1 rfl) ?_
            refine fm_getI (a := 60) (j := 52) (T := TX12) (N := 79) hx hb hts hinX12 hown hc hw hI kl_60 sh_60 rfl (by decide) rfl bd_60_52 (hts (.fieldLink RX12 323 "RedTentModel" "tapeMany" "I") (List.mem_cons_of_mem _ tw_5_172)) (fun _ h9 => h9) dX12_feed_42 (fun x11 ex11 bx11 => ?_)
            have wx11 : x11.toInt = (M_lp.1 60 0 52).toInt := by rw [ex11]
            refine lv_lload_n hx hb dX12_feed_45 rfl (lv_at hl 3 rfl) ?_
            refine lv_bipush (v := 8) hx hb dX12_feed_46 (by decide) ?_
            refine lv_iload hx hb dX12_feed_48 (lv_at hl 0 rfl) ?_
            refine fx_imul hx hb dX12_feed_50 zk_8 rfl (by omega) (fun y12 ey12 ty12 => ?_)
            refine lv_lushr (v := (p1.toUInt64 >>> (y12.toInt64.toUInt64 &&& Int64.toUInt64 63)).toInt64) hx hb dX12_feed_51 rfl ?_
            refine lv_topl (fun y13 ey13 => ?_)
            refine lv_ldc2 (v := 255) hx hb hown (hts (.constantLong RX12 326 (255)) (List.mem_cons_of_mem _ tw_7_62)) dX12_feed_52 ?_
            refine lv_land hx hb dX12_feed_55 ?_
            refine lv_topl (fun y14 ey14 => ?_)
            refine lv_l2i (v := y14.toInt32) hx hb dX12_feed_56 rfl ?_
            refine lv_topi (fun y15 ey15 => ?_)
            refine fm_iast (a := 151) hx hb hc hw hI hE hS kl_151 sh_151 ty_151 bd_151 (by omega) (zi_lt _) cd_151 (by decide) dX12_feed_57 (fun M16 H locs eM16 hw hI hE hS => ?_)
            have mM16_60_52 : (M16.1 60 0 52).toInt = (M_lp.1 60 0 52).toInt := by rw [eM16, fm_wI_nj (fun z => absurd z.1 (by decide))]
            refine lv_aload_n hx hb dX12_feed_58 rfl (lv_at hl 1 rfl) ?_
            refine lv_dup hx hb dX12_feed_59 rfl ?_
            refine fm_getI (a := 60) (j := 52) (T := TX12) (N := 79) hx hb hts hinX12 hown hc hw hI kl_60 sh_60 rfl (by decide) rfl bd_60_52 (hts (.fieldLink RX12 323 "RedTentModel" "tapeMany" "I") (List.mem_cons_of_mem _ tw_5_172)) (fun _ h9 => h9) dX12_feed_60 (fun x17 ex17 bx17 => ?_)
            have wx17 : x17.toInt = (M16.1 60 0 52).toInt := by rw [ex17]
            obtain rfl : x11 = x17 := by rw [ex17, eM16, fm_wI_nj (fun z => absurd z.1 (by decide))]; exact ex11
            refine lv_iconst (v := 1) hx hb dX12_feed_63 (by decide) ?_
            refine fx_iadd hx hb dX12_feed_64 rfl zk_1 (by omega) (fun y18 ey18 ty18 => ?_)
            refine fm_putI (a := 60) (j := 52) (T := TX12) (N := 79) hx hb hts hinX12 tyX12 tyX12_ok nmX12 hown hc hw hI hE hS kl_60 sh_60 od_60 rfl (by decide) rfl bd_60_52 (hts (.fieldLink RX12 323 "RedTentModel" "tapeMany" "I") (List.mem_cons_of_mem _ tw_5_172)) (fun _ h9 => h9) rfl (by decide +kernel) (by omega) (by decide) (by decide) dX12_feed_65 (fun M19 H locs eM19 hw hI hE hS => ?_)
            have mM19_60_52 : (M19.1 60 0 52).toInt = y18.toInt := by rw [eM19, fm_wI_at]
            obtain ⟨y20, ey20⟩ : ∃ y : Int32, y = lp_4 + 1 := ⟨_, rfl⟩
            have ty20 : y20.toInt = lp_4.toInt + 1 := by rw [ey20, zi_add _ _ (by rw [zk_1]; omega) (by rw [zk_1]; omega), zk_1]
            refine lv_iinc (v := y20) (lv' := [(4, .int y20), (0, .ref (ad 60 0)), (1, .int p0), (2, .long p1)]) hx hb dX12_feed_68 hl (k := 0) rfl (by rw [ey20]; rfl) (by decide) rfl (fun ls hl => ?_)
            refine lv_goto (tgt := 31) hx hb dX12_feed_71 (by decide) ?_
            exact ih_lp y20 M19 (by omega) (by omega) (by omega) hI hE _ _ hw hS ls (lv_sub hl [0, 1, 2, 3] rfl)
      exact lp _ 0 M (Nat.lt_succ_self _) (by decide) (by have zlp_4 := zk_0; omega) hI hE _ _ hw hS ls (lv_sub hl [0, 1, 2, 3] rfl)
    · refine lv_bipush (v := (-4)) hx hb dX12_feed_25 (by decide) ?_
      exact W.iret (v := (-4)) hx hb hr (fun t ht hW => ⟨⟨(-4), M, rfl, ⟨hI, hE, trivial⟩, by show fm_at D ad C nb _ t.heap; rw [ht]; exact hw⟩, hS.F ht⟩) hS.2.2 dX12_feed_27
  · refine fx_if_ne (tgt := 13) hx hb dX12_feed_7 (by decide) zk_0 (fun c21 => by exfalso; omega) (fun c21 => ?_)
    refine lv_bipush (v := (-2)) hx hb dX12_feed_10 (by decide) ?_
    exact W.iret (v := (-2)) hx hb hr (fun t ht hW => ⟨⟨(-2), M, rfl, ⟨hI, hE, trivial⟩, by show fm_at D ad C nb _ t.heap; rw [ht]; exact hw⟩, hS.F ht⟩) hS.2.2 dX12_feed_12
set_option maxHeartbeats 400000 in
set_option maxRecDepth 20000 in
theorem fc_X12_force (l : Launch) (D : va_G) (ad : Nat → Nat → Nat) (C : Nat → Nat → ClassId) (nb : Nat) (M : fm_M) (hI : fm_I nb ad M) (p0 : Int32) : Met l yX12_force wsX12_force ({ frames := 0, cells := 0, slots := 0, locals := 0 }) (va_Pc [.ref (ad 60 0), .int p0] (fm_P D ad C nb M)) (va_Qi (fun (r : Int32) (u : fm_M) => fm_I nb ad u ∧ fm_same [60056] M u ∧ True) (fun u t => fm_at D ad C nb u t.heap) (fm_A nb ad)) 0 0 (fm_A nb ad) := by
  refine Met.ofW (cc := cX12_force) (maxL := 3) (ret := (some .int)) (by decide) rfl ?_
  intro p e s m args below meth c s₁ B hml hv
  obtain ⟨rfl, hw, hc⟩ := hv
  have hx := B.exec
  have hb := B.bytes
  have hr := B.returns
  have hts := atoms_spec (ws := wsX12_force) B.pre
  have hown : s.vm.findClass RX12 = some m.cls := findClass_of_methodNamed B.named
  have hinX12 : ∀ w ∈ u_ws RX12 TX12 79, w ∈ wsX12_force := fun w h => List.mem_cons_of_mem _ (iT_X12 w h)
  have hS : va_S (fm_A nb ad) s.heap s.heap [] := va_S.rf
  have hE : fm_same [60056] M M := fm_same.rf
  have hl := lv_entry ([.ref (ad 60 0), .int p0]) (n := 3) (Nat.le_of_ble_eq_true rfl)
  rw [lg_entry_eq]
  generalize (lg_sl ([.ref (ad 60 0), .int p0]) ++ List.replicate (3 - (lg_sl ([.ref (ad 60 0), .int p0])).length) Slot.unset).toArray = ls at hl ⊢
  have hl : lv_has ls 3 [(0, .ref (ad 60 0)), (1, .int p0)] := hl
  refine lv_iload_n hx hb dX12_force_0 rfl (lv_at hl 1 rfl) ?_
  refine fx_if_lt (tgt := 12) hx hb dX12_force_1 (by decide) rfl (fun c1 => ?_) (fun c1 => ?_)
  · refine lv_bipush (v := (-2)) hx hb dX12_force_12 (by decide) ?_
    exact W.iret (v := (-2)) hx hb hr (fun t ht hW => ⟨⟨(-2), M, rfl, ⟨hI, hE, trivial⟩, by show fm_at D ad C nb _ t.heap; rw [ht]; exact hw⟩, hS.F ht⟩) hS.2.2 dX12_force_14
  · refine lv_iload_n hx hb dX12_force_4 rfl (lv_at hl 1 rfl) ?_
    refine lv_aload_n hx hb dX12_force_5 rfl (lv_at hl 0 rfl) ?_
    refine fm_getI (a := 60) (j := 55) (T := TX12) (N := 79) hx hb hts hinX12 hown hc hw hI kl_60 sh_60 rfl (by decide) rfl bd_60_55 (hts (.fieldLink RX12 182 "RedTentModel" "texts" "I") (List.mem_cons_of_mem _ tw_5_175)) (fun _ h9 => h9) dX12_force_6 (fun x2 ex2 bx2 => ?_)
    refine fx_icmp_lt (tgt := 15) hx hb dX12_force_9 (by decide) rfl rfl (fun c3 => ?_) (fun c3 => ?_)
    · refine lv_aload_n hx hb dX12_force_15 rfl (lv_at hl 0 rfl) ?_
      refine fm_getI (a := 60) (j := 56) (T := TX12) (N := 79) hx hb hts hinX12 hown hc hw hI kl_60 sh_60 rfl (by decide) rfl bd_60_56 (hts (.fieldLink RX12 431 "RedTentModel" "order" "I") (List.mem_cons_of_mem _ tw_5_176)) (fun _ h9 => h9) dX12_force_16 (fun x4 ex4 bx4 => ?_)
      refine lv_istore_n (lv' := [(2, .int x4), (0, .ref (ad 60 0)), (1, .int p0)]) hx hb dX12_force_19 rfl hl (by decide) rfl (fun ls hl => ?_)
      refine lv_aload_n hx hb dX12_force_20 rfl (lv_at hl 1 rfl) ?_
      refine lv_iload_n hx hb dX12_force_21 rfl (lv_at hl 2 rfl) ?_
      refine fm_putI (a := 60) (j := 56) (T := TX12) (N := 79) hx hb hts hinX12 tyX12 tyX12_ok nmX12 hown hc hw hI hE hS kl_60 sh_60 od_60 rfl (by decide) rfl bd_60_56 (hts (.fieldLink RX12 431 "RedTentModel" "order" "I") (List.mem_cons_of_mem _ tw_5_176)) (fun _ h9 => h9) rfl (by decide +kernel) (by omega) (by decide) (by decide) dX12_force_22 (fun M5 H locs eM5 hw hI hE hS => ?_)
      refine lv_iload_n hx hb dX12_force_25 rfl (lv_at hl 0 rfl) ?_
      exact W.iret (v := x4) hx hb hr (fun t ht hW => ⟨⟨x4, M5, rfl, ⟨hI, hE, trivial⟩, by show fm_at D ad C nb _ t.heap; rw [ht]; exact hw⟩, hS.F ht⟩) hS.2.2 dX12_force_26
    · refine lv_bipush (v := (-2)) hx hb dX12_force_12 (by decide) ?_
      exact W.iret (v := (-2)) hx hb hr (fun t ht hW => ⟨⟨(-2), M, rfl, ⟨hI, hE, trivial⟩, by show fm_at D ad C nb _ t.heap; rw [ht]; exact hw⟩, hS.F ht⟩) hS.2.2 dX12_force_14
set_option maxHeartbeats 400000 in
set_option maxRecDepth 20000 in
theorem fc_X12_story (l : Launch) (D : va_G) (ad : Nat → Nat → Nat) (C : Nat → Nat → ClassId) (nb : Nat) (M : fm_M) (hI : fm_I nb ad M) (p0 p1 p2 : Int32) : Met l yX12_story wsX12_story ({ frames := 2, cells := 0, slots := 0, locals := 42 }) (va_Pc [.ref (ad 60 0), .int p0, .int p1, .int p2] (fm_P D ad C nb M)) (va_Qi (fun (r : Int32) (u : fm_M) => fm_I nb ad u ∧ fm_same [60048, 145000, 146000, 147000] M u ∧ ((¬ (0 ≤ p0.toInt ∧ p0.toInt < (M.1 60 0 16).toInt ∧ 0 ≤ p1.toInt ∧ p1.toInt ≤ 63 ∧ (M.1 111 0 p0.toNatClampNeg).toInt ≤ p2.toInt ∧ p2.toInt ≤ (M.1 60 0 0).toInt) ∧ r.toInt = -2 ∧ (u.1 60 0 48).toInt = (M.1 60 0 48).toInt) ∨ ((0 ≤ p0.toInt ∧ p0.toInt < (M.1 60 0 16).toInt ∧ 0 ≤ p1.toInt ∧ p1.toInt ≤ 63 ∧ (M.1 111 0 p0.toNatClampNeg).toInt ≤ p2.toInt ∧ p2.toInt ≤ (M.1 60 0 0).toInt) ∧ 20 ≤ (M.1 60 0 48).toInt ∧ r.toInt = -4 ∧ (u.1 60 0 48).toInt = (M.1 60 0 48).toInt) ∨ ((0 ≤ p0.toInt ∧ p0.toInt < (M.1 60 0 16).toInt ∧ 0 ≤ p1.toInt ∧ p1.toInt ≤ 63 ∧ (M.1 111 0 p0.toNatClampNeg).toInt ≤ p2.toInt ∧ p2.toInt ≤ (M.1 60 0 0).toInt) ∧ (M.1 60 0 48).toInt < 20 ∧ r.toInt = (M.1 60 0 48).toInt ∧ (u.1 60 0 48).toInt = (M.1 60 0 48).toInt + 1))) (fun u t => fm_at D ad C nb u t.heap) (fm_A nb ad)) 0 0 (fm_A nb ad) := by
  refine Met.ofW (cc := cX12_story) (maxL := 4) (ret := (some .int)) (by decide) rfl ?_
  intro p e s m args below meth c s₁ B hml hv
  obtain ⟨rfl, hw, hc⟩ := hv
  have hx := B.exec
  have hb := B.bytes
  have hr := B.returns
  have hts := atoms_spec (ws := wsX12_story) B.pre
  have hown : s.vm.findClass RX12 = some m.cls := findClass_of_methodNamed B.named
  have hinX12 : ∀ w ∈ u_ws RX12 TX12 79, w ∈ wsX12_story := fun w h => List.mem_cons_of_mem _ (iT_X12 w h)
  have hS : va_S (fm_A nb ad) s.heap s.heap [] := va_S.rf
  have hE : fm_same [60048, 145000, 146000, 147000] M M := fm_same.rf
  have hl := lv_entry ([.ref (ad 60 0), .int p0, .int p1, .int p2]) (n := 4) (Nat.le_of_ble_eq_true rfl)
  rw [lg_entry_eq]
  generalize (lg_sl ([.ref (ad 60 0), .int p0, .int p1, .int p2]) ++ List.replicate (4 - (lg_sl ([.ref (ad 60 0), .int p0, .int p1, .int p2])).length) Slot.unset).toArray = ls at hl ⊢
  have hl : lv_has ls 4 [(0, .ref (ad 60 0)), (1, .int p0), (2, .int p1), (3, .int p2)] := hl
  refine lv_aload_n hx hb dX12_story_0 rfl (lv_at hl 0 rfl) ?_
  refine lv_iload_n hx hb dX12_story_1 rfl (lv_at hl 1 rfl) ?_
  refine vp_callSi (va_Run.run (va_runV (As := [.int p0]) (rest := []) ⟨hx, hb, hml, hown, hts⟩ (fc_X12_isBody l D ad C nb M hI p0) (cwV 1 hts gX12_story_X12_isBody rfl rfl rfl (by decide +kernel) ⟨Nat.le_of_ble_eq_true rfl, Nat.le_of_ble_eq_true rfl⟩) (fm_preV hc hw hS kl_60 sh_60 rfl) rfl rfl hl.1 rfl (lv_room (Nat.le_of_ble_eq_true rfl)) dX12_story_2 ⟨by decide +kernel, by decide +kernel⟩)) (fun r1 hr1 => ?_)
  have bqq2 := hI.bd (k := 0) bd_60_16
  rcases hr1 with ⟨rfl, c3⟩ | ⟨rfl, c3⟩
  · refine fx_if_eq (tgt := 32) hx hb dX12_story_5 (by decide) zk_1 (fun c4 => by exfalso; omega) (fun c4 => ?_)
    refine lv_iload_n hx hb dX12_story_8 rfl (lv_at hl 2 rfl) ?_
    refine vp_callSi (va_Run.run (va_runS (As := [.int p1]) (rest := []) ⟨hx, hb, hml, hown, hts⟩ (fc_X12_isCell l p1) (va_cwS 1 hts gX12_story_X12_isCell rfl rfl rfl (by decide +kernel) ⟨Nat.le_of_ble_eq_true rfl, Nat.le_of_ble_eq_true rfl⟩) ⟨fun a U g mk q => q, fun U hU hW => ⟨rfl, trivial⟩⟩ rfl rfl hl.1 rfl (lv_room (Nat.le_of_ble_eq_true rfl)) dX12_story_9 ⟨by decide +kernel, by decide +kernel⟩)) (fun r5 hr5 => ?_)
    rcases hr5 with ⟨rfl, c6⟩ | ⟨rfl, c6⟩
    · refine fx_if_eq (tgt := 32) hx hb dX12_story_12 (by decide) zk_1 (fun c7 => by exfalso; omega) (fun c7 => ?_)
      refine lv_iload_n hx hb dX12_story_15 rfl (lv_at hl 3 rfl) ?_
      refine lv_aload_n hx hb dX12_story_16 rfl (lv_at hl 0 rfl) ?_
      refine fm_getG (a := 60) (j := 11) (T := TX12) (N := 79) hx hb hts hinX12 hown hc hw kl_60 sh_60 rfl (by decide) rfl (hI.to kl_60 tg_60_11) (hts (.fieldLink RX12 31 "RedTentModel" "began" "[I") (List.mem_cons_of_mem _ tw_5_131)) (fun _ h9 => h9) dX12_story_17 ?_
      refine lv_iload_n hx hb dX12_story_20 rfl (lv_at hl 1 rfl) ?_
      refine fm_iald (a := 111) hx hb hc hw hI kl_111 sh_111 ty_111 bd_111 (by omega) dX12_story_21 (fun x8 ex8 bx8 => ?_)
      refine lv_aload_n hx hb dX12_story_22 rfl (lv_at hl 0 rfl) ?_
      refine fm_getI (a := 60) (j := 0) (T := TX12) (N := 79) hx hb hts hinX12 hown hc hw hI kl_60 sh_60 rfl (by decide) rfl bd_60_0 (hts (.fieldLink RX12 201 "RedTentModel" "hour" "I") (List.mem_cons_of_mem _ tw_5_120)) (fun _ h9 => h9) dX12_story_23 (fun x9 ex9 bx9 => ?_)
      refine vp_callSi (va_Run.run (va_runS (As := [.int p2, .int x8, .int x9]) (rest := []) ⟨hx, hb, hml, hown, hts⟩ (fc_X12_within l p2 x8 x9) (va_cwS 3 hts gX12_story_X12_within rfl rfl rfl (by decide +kernel) ⟨Nat.le_of_ble_eq_true rfl, Nat.le_of_ble_eq_true rfl⟩) ⟨fun a U g mk q => q, fun U hU hW => ⟨rfl, trivial⟩⟩ rfl rfl hl.1 rfl (lv_room (Nat.le_of_ble_eq_true rfl)) dX12_story_26 ⟨by decide +kernel, by decide +kernel⟩)) (fun r10 hr10 => ?_)
      rcases hr10 with ⟨rfl, c11⟩ | ⟨rfl, c11⟩
      · refine fx_if_ne (tgt := 35) hx hb dX12_story_29 (by decide) zk_1 (fun c12 => ?_) (fun c12 => by exfalso; omega)
        refine lv_aload_n hx hb dX12_story_35 rfl (lv_at hl 0 rfl) ?_
        refine fm_getI (a := 60) (j := 48) (T := TX12) (N := 79) hx hb hts hinX12 hown hc hw hI kl_60 sh_60 rfl (by decide) rfl bd_60_48 (hts (.fieldLink RX12 440 "RedTentModel" "stories" "I") (List.mem_cons_of_mem _ tw_5_168)) (fun _ h9 => h9) dX12_story_36 (fun x13 ex13 bx13 => ?_)
        refine lv_bipush (v := 20) hx hb dX12_story_39 (by decide) ?_
        refine fx_icmp_ne (tgt := 47) hx hb dX12_story_41 (by decide) rfl zk_20 (fun c14 => ?_) (fun c14 => ?_)
        · refine lv_aload_n hx hb dX12_story_47 rfl (lv_at hl 0 rfl) ?_
          refine fm_getG (a := 60) (j := 45) (T := TX12) (N := 79) hx hb hts hinX12 hown hc hw kl_60 sh_60 rfl (by decide) rfl (hI.to kl_60 tg_60_45) (hts (.fieldLink RX12 113 "RedTentModel" "storyBody" "[I") (List.mem_cons_of_mem _ tw_5_165)) (fun _ h9 => h9) dX12_story_48 ?_
          refine lv_aload_n hx hb dX12_story_51 rfl (lv_at hl 0 rfl) ?_
          refine fm_getI (a := 60) (j := 48) (T := TX12) (N := 79) hx hb hts hinX12 hown hc hw hI kl_60 sh_60 rfl (by decide) rfl bd_60_48 (hts (.fieldLink RX12 440 "RedTentModel" "stories" "I") (List.mem_cons_of_mem _ tw_5_168)) (fun _ h9 => h9) dX12_story_52 (fun x15 ex15 bx15 => ?_)
          obtain rfl : x13 = x15 := by rw [ex15]; exact ex13
          refine lv_iload_n hx hb dX12_story_55 rfl (lv_at hl 1 rfl) ?_
          refine fm_iast (a := 145) hx hb hc hw hI hE hS kl_145 sh_145 ty_145 bd_145 (by omega) (by omega) cd_145 (by decide) dX12_story_56 (fun M16 H locs eM16 hw hI hE hS => ?_)
          refine lv_aload_n hx hb dX12_story_57 rfl (lv_at hl 0 rfl) ?_
          refine fm_getG (a := 60) (j := 46) (T := TX12) (N := 79) hx hb hts hinX12 hown hc hw kl_60 sh_60 rfl (by decide) rfl (hI.to kl_60 tg_60_46) (hts (.fieldLink RX12 116 "RedTentModel" "storyCell" "[I") (List.mem_cons_of_mem _ tw_5_166)) (fun _ h9 => h9) dX12_story_58 ?_
          refine lv_aload_n hx hb dX12_story_61 rfl (lv_at hl 0 rfl) ?_
          refine fm_getI (a := 60) (j := 48) (T := TX12) (N := 79) hx hb hts hinX12 hown hc hw hI kl_60 sh_60 rfl (by decide) rfl bd_60_48 (hts (.fieldLink RX12 440 "RedTentModel" "stories" "I") (List.mem_cons_of_mem _ tw_5_168)) (fun _ h9 => h9) dX12_story_62 (fun x17 ex17 bx17 => ?_)
          obtain rfl : x13 = x17 := by rw [ex17, eM16, fm_wI_nj (fun z => absurd z.1 (by decide))]; exact ex13
          refine lv_iload_n hx hb dX12_story_65 rfl (lv_at hl 2 rfl) ?_
          refine fm_iast (a := 146) hx hb hc hw hI hE hS kl_146 sh_146 ty_146 bd_146 (by omega) (by omega) cd_146 (by decide) dX12_story_66 (fun M18 H locs eM18 hw hI hE hS => ?_)
          refine lv_aload_n hx hb dX12_story_67 rfl (lv_at hl 0 rfl) ?_
          refine fm_getG (a := 60) (j := 47) (T := TX12) (N := 79) hx hb hts hinX12 hown hc hw kl_60 sh_60 rfl (by decide) rfl (hI.to kl_60 tg_60_47) (hts (.fieldLink RX12 119 "RedTentModel" "storyHour" "[I") (List.mem_cons_of_mem _ tw_5_167)) (fun _ h9 => h9) dX12_story_68 ?_
          refine lv_aload_n hx hb dX12_story_71 rfl (lv_at hl 0 rfl) ?_
          refine fm_getI (a := 60) (j := 48) (T := TX12) (N := 79) hx hb hts hinX12 hown hc hw hI kl_60 sh_60 rfl (by decide) rfl bd_60_48 (hts (.fieldLink RX12 440 "RedTentModel" "stories" "I") (List.mem_cons_of_mem _ tw_5_168)) (fun _ h9 => h9) dX12_story_72 (fun x19 ex19 bx19 => ?_)
          obtain rfl : x13 = x19 := by rw [ex19, eM18, fm_wI_nj (fun z => absurd z.1 (by decide)), eM16, fm_wI_nj (fun z => absurd z.1 (by decide))]; exact ex13
          refine lv_iload_n hx hb dX12_story_75 rfl (lv_at hl 3 rfl) ?_
          refine fm_iast (a := 147) hx hb hc hw hI hE hS kl_147 sh_147 ty_147 bd_147 (by omega) (by omega) cd_147 (by decide) dX12_story_76 (fun M20 H locs eM20 hw hI hE hS => ?_)
          refine lv_aload_n hx hb dX12_story_77 rfl (lv_at hl 0 rfl) ?_
          refine lv_dup hx hb dX12_story_78 rfl ?_
          refine fm_getI (a := 60) (j := 48) (T := TX12) (N := 79) hx hb hts hinX12 hown hc hw hI kl_60 sh_60 rfl (by decide) rfl bd_60_48 (hts (.fieldLink RX12 440 "RedTentModel" "stories" "I") (List.mem_cons_of_mem _ tw_5_168)) (fun _ h9 => h9) dX12_story_79 (fun x21 ex21 bx21 => ?_)
          obtain rfl : x13 = x21 := by rw [ex21, eM20, fm_wI_nj (fun z => absurd z.1 (by decide)), eM18, fm_wI_nj (fun z => absurd z.1 (by decide)), eM16, fm_wI_nj (fun z => absurd z.1 (by decide))]; exact ex13
          refine lv_iconst (v := 1) hx hb dX12_story_82 (by decide) ?_
          refine fx_iadd hx hb dX12_story_83 rfl zk_1 (by omega) (fun y22 ey22 ty22 => ?_)
          refine fm_putI (a := 60) (j := 48) (T := TX12) (N := 79) hx hb hts hinX12 tyX12 tyX12_ok nmX12 hown hc hw hI hE hS kl_60 sh_60 od_60 rfl (by decide) rfl bd_60_48 (hts (.fieldLink RX12 440 "RedTentModel" "stories" "I") (List.mem_cons_of_mem _ tw_5_168)) (fun _ h9 => h9) rfl (by decide +kernel) (by omega) (by decide) (by decide) dX12_story_84 (fun M23 H locs eM23 hw hI hE hS => ?_)
          refine lv_aload_n hx hb dX12_story_87 rfl (lv_at hl 0 rfl) ?_
          refine fm_getI (a := 60) (j := 48) (T := TX12) (N := 79) hx hb hts hinX12 hown hc hw hI kl_60 sh_60 rfl (by decide) rfl bd_60_48 (hts (.fieldLink RX12 440 "RedTentModel" "stories" "I") (List.mem_cons_of_mem _ tw_5_168)) (fun _ h9 => h9) dX12_story_88 (fun x24 ex24 bx24 => ?_)
          obtain rfl : y22 = x24 := by rw [ex24, eM23, fm_wI_at]
          refine lv_iconst (v := 1) hx hb dX12_story_91 (by decide) ?_
          refine fx_isub hx hb dX12_story_92 rfl zk_1 (by omega) (fun y25 ey25 ty25 => ?_)
          have qx9 : x9.toInt = (M.1 60 0 0).toInt := by rw [ex9]
          have qx13 : x13.toInt = (M.1 60 0 48).toInt := by rw [ex13]
          have qx8 : x8.toInt = (M.1 111 0 p0.toNatClampNeg).toInt := by rw [ex8]
          exact W.iret (v := y25) hx hb hr (fun t ht hW => ⟨⟨y25, M23, rfl, ⟨hI, hE, Or.inr (Or.inr ⟨by omega, by omega, by omega, (by first | omega | (rw [eM23, fm_wI_at]; omega))⟩)⟩, by show fm_at D ad C nb _ t.heap; rw [ht]; exact hw⟩, hS.F ht⟩) hS.2.2 dX12_story_93
        · refine lv_bipush (v := (-4)) hx hb dX12_story_44 (by decide) ?_
          have qx9 : x9.toInt = (M.1 60 0 0).toInt := by rw [ex9]
          have qx13 : x13.toInt = (M.1 60 0 48).toInt := by rw [ex13]
          have qx8 : x8.toInt = (M.1 111 0 p0.toNatClampNeg).toInt := by rw [ex8]
          exact W.iret (v := (-4)) hx hb hr (fun t ht hW => ⟨⟨(-4), M, rfl, ⟨hI, hE, Or.inr (Or.inl ⟨by omega, by omega, zk_m4, rfl⟩)⟩, by show fm_at D ad C nb _ t.heap; rw [ht]; exact hw⟩, hS.F ht⟩) hS.2.2 dX12_story_46
      · refine fx_if_ne (tgt := 35) hx hb dX12_story_29 (by decide) zk_0 (fun c26 => by exfalso; omega) (fun c26 => ?_)
        refine lv_bipush (v := (-2)) hx hb dX12_story_32 (by decide) ?_
        have qx9 : x9.toInt = (M.1 60 0 0).toInt := by rw [ex9]
        have qx8 : x8.toInt = (M.1 111 0 p0.toNatClampNeg).toInt := by rw [ex8]
        exact W.iret (v := (-2)) hx hb hr (fun t ht hW => ⟨⟨(-2), M, rfl, ⟨hI, hE, Or.inl ⟨by omega, zk_m2, rfl⟩⟩, by show fm_at D ad C nb _ t.heap; rw [ht]; exact hw⟩, hS.F ht⟩) hS.2.2 dX12_story_34
    · refine fx_if_eq (tgt := 32) hx hb dX12_story_12 (by decide) zk_0 (fun c27 => ?_) (fun c27 => by exfalso; omega)
      refine lv_bipush (v := (-2)) hx hb dX12_story_32 (by decide) ?_
      exact W.iret (v := (-2)) hx hb hr (fun t ht hW => ⟨⟨(-2), M, rfl, ⟨hI, hE, Or.inl ⟨by omega, zk_m2, rfl⟩⟩, by show fm_at D ad C nb _ t.heap; rw [ht]; exact hw⟩, hS.F ht⟩) hS.2.2 dX12_story_34
  · refine fx_if_eq (tgt := 32) hx hb dX12_story_5 (by decide) zk_0 (fun c28 => ?_) (fun c28 => by exfalso; omega)
    refine lv_bipush (v := (-2)) hx hb dX12_story_32 (by decide) ?_
    exact W.iret (v := (-2)) hx hb hr (fun t ht hW => ⟨⟨(-2), M, rfl, ⟨hI, hE, Or.inl ⟨by omega, zk_m2, rfl⟩⟩, by show fm_at D ad C nb _ t.heap; rw [ht]; exact hw⟩, hS.F ht⟩) hS.2.2 dX12_story_34
set_option maxHeartbeats 400000 in
set_option maxRecDepth 20000 in
theorem fc_X12_unfit (l : Launch) (D : va_G) (ad : Nat → Nat → Nat) (C : Nat → Nat → ClassId) (nb : Nat) (M : fm_M) (hI : fm_I nb ad M) : Met l yX12_unfit wsX12_unfit ({ frames := 3, cells := 0, slots := 0, locals := 84 }) (va_Pc [.ref (ad 60 0)] (fm_P D ad C nb M)) (vp_Si (fun r : Int32 => True)) 0 0 (fun _ => False) := by
  refine Met.ofW (cc := cX12_unfit) (maxL := 5) (ret := (some .int)) (by decide) rfl ?_
  intro p e s m args below meth c s₁ B hml hv
  obtain ⟨rfl, hw, hc⟩ := hv
  have hx := B.exec
  have hb := B.bytes
  have hr := B.returns
  have hts := atoms_spec (ws := wsX12_unfit) B.pre
  have hown : s.vm.findClass RX12 = some m.cls := findClass_of_methodNamed B.named
  have hinX12 : ∀ w ∈ u_ws RX12 TX12 79, w ∈ wsX12_unfit := fun w h => List.mem_cons_of_mem _ (iT_X12 w h)
  have hS : va_S (fm_A nb ad) s.heap s.heap [] := va_S.rf
  have hl := lv_entry ([.ref (ad 60 0)]) (n := 5) (Nat.le_of_ble_eq_true rfl)
  rw [lg_entry_eq]
  generalize (lg_sl ([.ref (ad 60 0)]) ++ List.replicate (5 - (lg_sl ([.ref (ad 60 0)])).length) Slot.unset).toArray = ls at hl ⊢
  have hl : lv_has ls 5 [(0, .ref (ad 60 0))] := hl
  refine lv_iconst (v := 0) hx hb dX12_unfit_0 (by decide) ?_
  refine lv_istore_n (lv' := [(1, .int 0), (0, .ref (ad 60 0))]) hx hb dX12_unfit_1 rfl hl (by decide) rfl (fun ls hl => ?_)
  refine lv_iconst (v := 0) hx hb dX12_unfit_2 (by decide) ?_
  refine lv_istore_n (lv' := [(2, .int 0), (1, .int 0), (0, .ref (ad 60 0))]) hx hb dX12_unfit_3 rfl hl (by decide) rfl (fun ls hl => ?_)
  have lp : ∀ (n_lp : Nat) (lp_2 : Int32) (lp_1 : Int32), (20 - lp_2.toInt).toNat < n_lp → (0 ≤ lp_2.toInt ∧ lp_2.toInt ≤ 20) → ∀ (ls : Array Slot), lv_has ls 5 [(2, .int lp_2), (1, .int lp_1), (0, .ref (ad 60 0))] → W p l e (headSpec wsX12_unfit ({ frames := 3, cells := 0, slots := 0, locals := 84 })).room s m ([.ref (ad 60 0)] : List Value).toArray below meth c s.heap [] 0 0 (MQ below (vp_Si (fun r : Int32 => True)) ([.ref (ad 60 0)] : List Value).toArray s 0 0 (fun _ => False)) (F0 m 4 ls []) := by
    intro n_lp
    induction n_lp with
    | zero => intro lp_2 lp_1 hm_lp b_lp_2 ls hl; exact absurd hm_lp (Nat.not_lt_zero _)
    | succ n_lp ih_lp =>
      intro lp_2 lp_1 hm_lp b_lp_2 ls hl
      refine lv_iload_n hx hb dX12_unfit_4 rfl (lv_at hl 0 rfl) ?_
      refine lv_aload_n hx hb dX12_unfit_5 rfl (lv_at hl 2 rfl) ?_
      refine fm_getI (a := 60) (j := 48) (T := TX12) (N := 79) hx hb hts hinX12 hown hc hw hI kl_60 sh_60 rfl (by decide) rfl bd_60_48 (hts (.fieldLink RX12 440 "RedTentModel" "stories" "I") (List.mem_cons_of_mem _ tw_5_168)) (fun _ h9 => h9) dX12_unfit_6 (fun x1 ex1 bx1 => ?_)
      refine fx_icmp_ge (tgt := 64) hx hb dX12_unfit_9 (by decide) rfl rfl (fun c2 => ?_) (fun c2 => ?_)
      · refine lv_iload_n hx hb dX12_unfit_64 rfl (lv_at hl 1 rfl) ?_
        exact W.iret (v := lp_1) hx hb hr (fun t ht hW => ⟨lp_1, rfl, trivial, ht⟩) (fun _ h => absurd h List.not_mem_nil) dX12_unfit_65
      · refine lv_aload_n hx hb dX12_unfit_12 rfl (lv_at hl 2 rfl) ?_
        refine lv_aload_n hx hb dX12_unfit_13 rfl (lv_at hl 2 rfl) ?_
        refine fm_getG (a := 60) (j := 45) (T := TX12) (N := 79) hx hb hts hinX12 hown hc hw kl_60 sh_60 rfl (by decide) rfl (hI.to kl_60 tg_60_45) (hts (.fieldLink RX12 113 "RedTentModel" "storyBody" "[I") (List.mem_cons_of_mem _ tw_5_165)) (fun _ h9 => h9) dX12_unfit_14 ?_
        refine lv_iload_n hx hb dX12_unfit_17 rfl (lv_at hl 0 rfl) ?_
        refine fm_iald (a := 145) hx hb hc hw hI kl_145 sh_145 ty_145 bd_145 (by omega) dX12_unfit_18 (fun x3 ex3 bx3 => ?_)
        refine lv_aload_n hx hb dX12_unfit_19 rfl (lv_at hl 2 rfl) ?_
        refine fm_getG (a := 60) (j := 47) (T := TX12) (N := 79) hx hb hts hinX12 hown hc hw kl_60 sh_60 rfl (by decide) rfl (hI.to kl_60 tg_60_47) (hts (.fieldLink RX12 119 "RedTentModel" "storyHour" "[I") (List.mem_cons_of_mem _ tw_5_167)) (fun _ h9 => h9) dX12_unfit_20 ?_
        refine lv_iload_n hx hb dX12_unfit_23 rfl (lv_at hl 0 rfl) ?_
        refine fm_iald (a := 147) hx hb hc hw hI kl_147 sh_147 ty_147 bd_147 (by omega) dX12_unfit_24 (fun x4 ex4 bx4 => ?_)
        refine lv_aload_n hx hb dX12_unfit_25 rfl (lv_at hl 2 rfl) ?_
        refine fm_getI (a := 60) (j := 0) (T := TX12) (N := 79) hx hb hts hinX12 hown hc hw hI kl_60 sh_60 rfl (by decide) rfl bd_60_0 (hts (.fieldLink RX12 201 "RedTentModel" "hour" "I") (List.mem_cons_of_mem _ tw_5_120)) (fun _ h9 => h9) dX12_unfit_26 (fun x5 ex5 bx5 => ?_)
        refine vp_callSl (va_Run.run (va_runV (As := [.int x3, .int x4, .int x5]) (rest := []) ⟨hx, hb, hml, hown, hts⟩ (fc_X12_patchOf l D ad C nb M hI x3 x4 x5 (by omega) (by omega)) (cwV 3 hts gX12_unfit_X12_patchOf rfl rfl rfl (by decide +kernel) ⟨Nat.le_of_ble_eq_true rfl, Nat.le_of_ble_eq_true rfl⟩) (fm_preV hc hw hS kl_60 sh_60 rfl) rfl rfl hl.1 rfl (lv_room (Nat.le_of_ble_eq_true rfl)) dX12_unfit_29 ⟨by decide +kernel, by decide +kernel⟩)) (fun r6 hr6 => ?_)
        refine lv_lstore_n (lv' := [(3, .long r6), (2, .int lp_2), (1, .int lp_1), (0, .ref (ad 60 0))]) hx hb dX12_unfit_32 rfl hl (by decide) rfl (fun ls hl => ?_)
        refine lv_iload_n hx hb dX12_unfit_33 rfl (lv_at hl 2 rfl) ?_
        refine lv_lload_n hx hb dX12_unfit_34 rfl (lv_at hl 0 rfl) ?_
        refine lv_aload_n hx hb dX12_unfit_35 rfl (lv_at hl 3 rfl) ?_
        refine fm_getG (a := 60) (j := 46) (T := TX12) (N := 79) hx hb hts hinX12 hown hc hw kl_60 sh_60 rfl (by decide) rfl (hI.to kl_60 tg_60_46) (hts (.fieldLink RX12 116 "RedTentModel" "storyCell" "[I") (List.mem_cons_of_mem _ tw_5_166)) (fun _ h9 => h9) dX12_unfit_36 ?_
        refine lv_iload_n hx hb dX12_unfit_39 rfl (lv_at hl 1 rfl) ?_
        refine fm_iald (a := 146) hx hb hc hw hI kl_146 sh_146 ty_146 bd_146 (by omega) dX12_unfit_40 (fun x7 ex7 bx7 => ?_)
        refine lv_lushr (v := (r6.toUInt64 >>> (x7.toInt64.toUInt64 &&& Int64.toUInt64 63)).toInt64) hx hb dX12_unfit_41 rfl ?_
        refine lv_topl (fun y8 ey8 => ?_)
        refine lv_lconst (v := 1) hx hb dX12_unfit_42 (by decide) ?_
        refine lv_land hx hb dX12_unfit_43 ?_
        refine lv_topl (fun y9 ey9 => ?_)
        refine lv_lconst (v := 1) hx hb dX12_unfit_44 (by decide) ?_
        refine W.lcmp hx hb dX12_unfit_45 ?_
        refine fx_lif_ne (tgt := 53) hx hb dX12_unfit_46 (by decide) (fun c10 => ?_) (fun c10 => ?_)
        · refine lv_iconst (v := 1) hx hb dX12_unfit_53 (by decide) ?_
          refine lv_iload_n hx hb dX12_unfit_54 rfl (lv_at hl 1 rfl) ?_
          refine lv_ishl hx hb dX12_unfit_55 ?_
          refine lv_topi (fun y11 ey11 => ?_)
          refine lv_ior hx hb dX12_unfit_56 ?_
          refine lv_topi (fun y12 ey12 => ?_)
          refine lv_istore_n (lv' := [(1, .int y12), (3, .long r6), (2, .int lp_2), (0, .ref (ad 60 0))]) hx hb dX12_unfit_57 rfl hl (by decide) rfl (fun ls hl => ?_)
          obtain ⟨y13, ey13⟩ : ∃ y : Int32, y = lp_2 + 1 := ⟨_, rfl⟩
          have ty13 : y13.toInt = lp_2.toInt + 1 := by rw [ey13, zi_add _ _ (by rw [zk_1]; omega) (by rw [zk_1]; omega), zk_1]
          refine lv_iinc (v := y13) (lv' := [(2, .int y13), (1, .int y12), (3, .long r6), (0, .ref (ad 60 0))]) hx hb dX12_unfit_58 hl (k := 2) rfl (by rw [ey13]; rfl) (by decide) rfl (fun ls hl => ?_)
          refine lv_goto (tgt := 4) hx hb dX12_unfit_61 (by decide) ?_
          exact ih_lp y13 y12 (by omega) (by omega) ls (lv_sub hl [0, 1, 3] rfl)
        · refine lv_iconst (v := 0) hx hb dX12_unfit_49 (by decide) ?_
          refine lv_goto (tgt := 56) hx hb dX12_unfit_50 (by decide) ?_
          refine lv_ior hx hb dX12_unfit_56 ?_
          refine lv_topi (fun y14 ey14 => ?_)
          refine lv_istore_n (lv' := [(1, .int y14), (3, .long r6), (2, .int lp_2), (0, .ref (ad 60 0))]) hx hb dX12_unfit_57 rfl hl (by decide) rfl (fun ls hl => ?_)
          obtain ⟨y15, ey15⟩ : ∃ y : Int32, y = lp_2 + 1 := ⟨_, rfl⟩
          have ty15 : y15.toInt = lp_2.toInt + 1 := by rw [ey15, zi_add _ _ (by rw [zk_1]; omega) (by rw [zk_1]; omega), zk_1]
          refine lv_iinc (v := y15) (lv' := [(2, .int y15), (1, .int y14), (3, .long r6), (0, .ref (ad 60 0))]) hx hb dX12_unfit_58 hl (k := 2) rfl (by rw [ey15]; rfl) (by decide) rfl (fun ls hl => ?_)
          refine lv_goto (tgt := 4) hx hb dX12_unfit_61 (by decide) ?_
          exact ih_lp y15 y14 (by omega) (by omega) ls (lv_sub hl [0, 1, 3] rfl)
  exact lp _ 0 0 (Nat.lt_succ_self _) (by decide) ls (lv_sub hl [0, 1, 2] rfl)
set_option maxHeartbeats 400000 in
set_option maxRecDepth 20000 in
theorem fc_X12_clash (l : Launch) (D : va_G) (ad : Nat → Nat → Nat) (C : Nat → Nat → ClassId) (nb : Nat) (M : fm_M) (hI : fm_I nb ad M) (p0 p1 : Int32) : Met l yX12_clash wsX12_clash ({ frames := 2, cells := 0, slots := 0, locals := 58 }) (va_Pc [.ref (ad 60 0), .int p0, .int p1] (fm_P D ad C nb M)) (vp_Si (fun r : Int32 => True)) 0 0 (fun _ => False) := by
  refine Met.ofW (cc := cX12_clash) (maxL := 8) (ret := (some .int)) (by decide) rfl ?_
  intro p e s m args below meth c s₁ B hml hv
  obtain ⟨rfl, hw, hc⟩ := hv
  have hx := B.exec
  have hb := B.bytes
  have hr := B.returns
  have hts := atoms_spec (ws := wsX12_clash) B.pre
  have hown : s.vm.findClass RX12 = some m.cls := findClass_of_methodNamed B.named
  have hinX12 : ∀ w ∈ u_ws RX12 TX12 79, w ∈ wsX12_clash := fun w h => List.mem_cons_of_mem _ (iT_X12 w h)
  have hS : va_S (fm_A nb ad) s.heap s.heap [] := va_S.rf
  have hl := lv_entry ([.ref (ad 60 0), .int p0, .int p1]) (n := 8) (Nat.le_of_ble_eq_true rfl)
  rw [lg_entry_eq]
  generalize (lg_sl ([.ref (ad 60 0), .int p0, .int p1]) ++ List.replicate (8 - (lg_sl ([.ref (ad 60 0), .int p0, .int p1])).length) Slot.unset).toArray = ls at hl ⊢
  have hl : lv_has ls 8 [(0, .ref (ad 60 0)), (1, .int p0), (2, .int p1)] := hl
  refine lv_aload_n hx hb dX12_clash_0 rfl (lv_at hl 0 rfl) ?_
  refine lv_iload_n hx hb dX12_clash_1 rfl (lv_at hl 1 rfl) ?_
  refine vp_callSi (va_Run.run (va_runV (As := [.int p0]) (rest := []) ⟨hx, hb, hml, hown, hts⟩ (fc_X12_isStory l D ad C nb M hI p0) (cwV 1 hts gX12_clash_X12_isStory rfl rfl rfl (by decide +kernel) ⟨Nat.le_of_ble_eq_true rfl, Nat.le_of_ble_eq_true rfl⟩) (fm_preV hc hw hS kl_60 sh_60 rfl) rfl rfl hl.1 rfl (lv_room (Nat.le_of_ble_eq_true rfl)) dX12_clash_2 ⟨by decide +kernel, by decide +kernel⟩)) (fun r1 hr1 => ?_)
  have bqq2 := hI.bd (k := 0) bd_60_48
  rcases hr1 with ⟨rfl, c3⟩ | ⟨rfl, c3⟩
  · refine fx_if_eq (tgt := 36) hx hb dX12_clash_5 (by decide) zk_1 (fun c4 => by exfalso; omega) (fun c4 => ?_)
    refine lv_aload_n hx hb dX12_clash_8 rfl (lv_at hl 0 rfl) ?_
    refine lv_iload_n hx hb dX12_clash_9 rfl (lv_at hl 2 rfl) ?_
    refine vp_callSi (va_Run.run (va_runV (As := [.int p1]) (rest := []) ⟨hx, hb, hml, hown, hts⟩ (fc_X12_isStory l D ad C nb M hI p1) (cwV 1 hts gX12_clash_X12_isStory rfl rfl rfl (by decide +kernel) ⟨Nat.le_of_ble_eq_true rfl, Nat.le_of_ble_eq_true rfl⟩) (fm_preV hc hw hS kl_60 sh_60 rfl) rfl rfl hl.1 rfl (lv_room (Nat.le_of_ble_eq_true rfl)) dX12_clash_10 ⟨by decide +kernel, by decide +kernel⟩)) (fun r5 hr5 => ?_)
    have bqq6 := hI.bd (k := 0) bd_60_48
    rcases hr5 with ⟨rfl, c7⟩ | ⟨rfl, c7⟩
    · refine fx_if_eq (tgt := 36) hx hb dX12_clash_13 (by decide) zk_1 (fun c8 => by exfalso; omega) (fun c8 => ?_)
      refine lv_iload_n hx hb dX12_clash_16 rfl (lv_at hl 1 rfl) ?_
      refine lv_iload_n hx hb dX12_clash_17 rfl (lv_at hl 2 rfl) ?_
      refine fx_icmp_eq (tgt := 36) hx hb dX12_clash_18 (by decide) rfl rfl (fun c9 => ?_) (fun c9 => ?_)
      · refine lv_bipush (v := (-2)) hx hb dX12_clash_36 (by decide) ?_
        exact W.iret (v := (-2)) hx hb hr (fun t ht hW => ⟨(-2), rfl, trivial, ht⟩) (fun _ h => absurd h List.not_mem_nil) dX12_clash_38
      · refine lv_aload_n hx hb dX12_clash_21 rfl (lv_at hl 0 rfl) ?_
        refine fm_getG (a := 60) (j := 45) (T := TX12) (N := 79) hx hb hts hinX12 hown hc hw kl_60 sh_60 rfl (by decide) rfl (hI.to kl_60 tg_60_45) (hts (.fieldLink RX12 113 "RedTentModel" "storyBody" "[I") (List.mem_cons_of_mem _ tw_5_165)) (fun _ h9 => h9) dX12_clash_22 ?_
        refine lv_iload_n hx hb dX12_clash_25 rfl (lv_at hl 1 rfl) ?_
        refine fm_iald (a := 145) hx hb hc hw hI kl_145 sh_145 ty_145 bd_145 (by omega) dX12_clash_26 (fun x10 ex10 bx10 => ?_)
        refine lv_aload_n hx hb dX12_clash_27 rfl (lv_at hl 0 rfl) ?_
        refine fm_getG (a := 60) (j := 45) (T := TX12) (N := 79) hx hb hts hinX12 hown hc hw kl_60 sh_60 rfl (by decide) rfl (hI.to kl_60 tg_60_45) (hts (.fieldLink RX12 113 "RedTentModel" "storyBody" "[I") (List.mem_cons_of_mem _ tw_5_165)) (fun _ h9 => h9) dX12_clash_28 ?_
        refine lv_iload_n hx hb dX12_clash_31 rfl (lv_at hl 2 rfl) ?_
        refine fm_iald (a := 145) hx hb hc hw hI kl_145 sh_145 ty_145 bd_145 (by omega) dX12_clash_32 (fun x11 ex11 bx11 => ?_)
        refine fx_icmp_eq (tgt := 39) hx hb dX12_clash_33 (by decide) rfl rfl (fun c12 => ?_) (fun c12 => ?_)
        · have j1 : ∀ (j1_3 : Int32), (0 ≤ j1_3.toInt ∧ j1_3.toInt ≤ 19) → ∀ (ls : Array Slot), lv_has ls 8 [(0, .ref (ad 60 0)), (1, .int p0), (2, .int p1), (3, .int j1_3)] → W p l e (headSpec wsX12_clash ({ frames := 2, cells := 0, slots := 0, locals := 58 })).room s m ([.ref (ad 60 0), .int p0, .int p1] : List Value).toArray below meth c s.heap [] 0 0 (MQ below (vp_Si (fun r : Int32 => True)) ([.ref (ad 60 0), .int p0, .int p1] : List Value).toArray s 0 0 (fun _ => False)) (F0 m 60 ls []) := by
            intro j1_3 b_j1_3 ls hl
            have j2 : ∀ (j2_4 : Int32), (0 ≤ j2_4.toInt ∧ j2_4.toInt ≤ 19) → ∀ (ls : Array Slot), lv_has ls 8 [(0, .ref (ad 60 0)), (1, .int p0), (2, .int p1), (3, .int j1_3), (4, .int j2_4)] → W p l e (headSpec wsX12_clash ({ frames := 2, cells := 0, slots := 0, locals := 58 })).room s m ([.ref (ad 60 0), .int p0, .int p1] : List Value).toArray below meth c s.heap [] 0 0 (MQ below (vp_Si (fun r : Int32 => True)) ([.ref (ad 60 0), .int p0, .int p1] : List Value).toArray s 0 0 (fun _ => False)) (F0 m 72 ls []) := by
              intro j2_4 b_j2_4 ls hl
              refine lv_lconst (v := 1) hx hb dX12_clash_72 (by decide) ?_
              refine lv_aload_n hx hb dX12_clash_73 rfl (lv_at hl 0 rfl) ?_
              refine fm_getG (a := 60) (j := 46) (T := TX12) (N := 79) hx hb hts hinX12 hown hc hw kl_60 sh_60 rfl (by decide) rfl (hI.to kl_60 tg_60_46) (hts (.fieldLink RX12 116 "RedTentModel" "storyCell" "[I") (List.mem_cons_of_mem _ tw_5_166)) (fun _ h9 => h9) dX12_clash_74 ?_
              refine lv_iload_n hx hb dX12_clash_77 rfl (lv_at hl 3 rfl) ?_
              refine fm_iald (a := 146) hx hb hc hw hI kl_146 sh_146 ty_146 bd_146 (by omega) dX12_clash_78 (fun x13 ex13 bx13 => ?_)
              refine lv_lshl (v := (1 : Int64) <<< (x13.toInt64 &&& 63)) hx hb dX12_clash_79 rfl ?_
              refine lv_topl (fun y14 ey14 => ?_)
              refine lv_lstore (lv' := [(5, .long y14), (0, .ref (ad 60 0)), (1, .int p0), (2, .int p1), (3, .int j1_3), (4, .int j2_4)]) hx hb dX12_clash_80 hl (by decide) rfl (fun ls hl => ?_)
              refine lv_aload_n hx hb dX12_clash_82 rfl (lv_at hl 1 rfl) ?_
              refine fm_getG (a := 60) (j := 47) (T := TX12) (N := 79) hx hb hts hinX12 hown hc hw kl_60 sh_60 rfl (by decide) rfl (hI.to kl_60 tg_60_47) (hts (.fieldLink RX12 119 "RedTentModel" "storyHour" "[I") (List.mem_cons_of_mem _ tw_5_167)) (fun _ h9 => h9) dX12_clash_83 ?_
              refine lv_iload_n hx hb dX12_clash_86 rfl (lv_at hl 4 rfl) ?_
              refine fm_iald (a := 147) hx hb hc hw hI kl_147 sh_147 ty_147 bd_147 (by omega) dX12_clash_87 (fun x15 ex15 bx15 => ?_)
              refine lv_istore (lv' := [(7, .int x15), (5, .long y14), (0, .ref (ad 60 0)), (1, .int p0), (2, .int p1), (3, .int j1_3), (4, .int j2_4)]) hx hb dX12_clash_88 hl (by decide) rfl (fun ls hl => ?_)
              have lp : ∀ (n_lp : Nat) (lp_7 : Int32) (lp_5 : Int64), (239 - lp_7.toInt).toNat < n_lp → (0 ≤ lp_7.toInt ∧ lp_7.toInt ≤ 239) → ∀ (ls : Array Slot), lv_has ls 8 [(7, .int lp_7), (5, .long lp_5), (0, .ref (ad 60 0)), (1, .int p0), (2, .int p1), (3, .int j1_3), (4, .int j2_4)] → W p l e (headSpec wsX12_clash ({ frames := 2, cells := 0, slots := 0, locals := 58 })).room s m ([.ref (ad 60 0), .int p0, .int p1] : List Value).toArray below meth c s.heap [] 0 0 (MQ below (vp_Si (fun r : Int32 => True)) ([.ref (ad 60 0), .int p0, .int p1] : List Value).toArray s 0 0 (fun _ => False)) (F0 m 90 ls []) := by
                intro n_lp
                induction n_lp with
                | zero => intro lp_7 lp_5 hm_lp b_lp_7 ls hl; exact absurd hm_lp (Nat.not_lt_zero _)
                | succ n_lp ih_lp =>
                  intro lp_7 lp_5 hm_lp b_lp_7 ls hl
                  refine lv_iload hx hb dX12_clash_90 (lv_at hl 0 rfl) ?_
                  refine lv_aload_n hx hb dX12_clash_92 rfl (lv_at hl 2 rfl) ?_
                  refine fm_getG (a := 60) (j := 47) (T := TX12) (N := 79) hx hb hts hinX12 hown hc hw kl_60 sh_60 rfl (by decide) rfl (hI.to kl_60 tg_60_47) (hts (.fieldLink RX12 119 "RedTentModel" "storyHour" "[I") (List.mem_cons_of_mem _ tw_5_167)) (fun _ h9 => h9) dX12_clash_93 ?_
                  refine lv_iload hx hb dX12_clash_96 (lv_at hl 6 rfl) ?_
                  refine fm_iald (a := 147) hx hb hc hw hI kl_147 sh_147 ty_147 bd_147 (by omega) dX12_clash_98 (fun x16 ex16 bx16 => ?_)
                  refine fx_icmp_ge (tgt := 124) hx hb dX12_clash_99 (by decide) rfl rfl (fun c17 => ?_) (fun c17 => ?_)
                  · refine lv_lload hx hb dX12_clash_124 (lv_at hl 1 rfl) ?_
                    refine lv_aload_n hx hb dX12_clash_126 rfl (lv_at hl 2 rfl) ?_
                    refine fm_getG (a := 60) (j := 46) (T := TX12) (N := 79) hx hb hts hinX12 hown hc hw kl_60 sh_60 rfl (by decide) rfl (hI.to kl_60 tg_60_46) (hts (.fieldLink RX12 116 "RedTentModel" "storyCell" "[I") (List.mem_cons_of_mem _ tw_5_166)) (fun _ h9 => h9) dX12_clash_127 ?_
                    refine lv_iload hx hb dX12_clash_130 (lv_at hl 6 rfl) ?_
                    refine fm_iald (a := 146) hx hb hc hw hI kl_146 sh_146 ty_146 bd_146 (by omega) dX12_clash_132 (fun x18 ex18 bx18 => ?_)
                    refine lv_lushr (v := (lp_5.toUInt64 >>> (x18.toInt64.toUInt64 &&& Int64.toUInt64 63)).toInt64) hx hb dX12_clash_133 rfl ?_
                    refine lv_topl (fun y19 ey19 => ?_)
                    refine lv_lconst (v := 1) hx hb dX12_clash_134 (by decide) ?_
                    refine lv_land hx hb dX12_clash_135 ?_
                    refine lv_topl (fun y20 ey20 => ?_)
                    refine lv_lconst (v := 1) hx hb dX12_clash_136 (by decide) ?_
                    refine W.lcmp hx hb dX12_clash_137 ?_
                    refine fx_lif_ne (tgt := 145) hx hb dX12_clash_138 (by decide) (fun c21 => ?_) (fun c21 => ?_)
                    · refine lv_iconst (v := 1) hx hb dX12_clash_145 (by decide) ?_
                      exact W.iret (v := 1) hx hb hr (fun t ht hW => ⟨1, rfl, trivial, ht⟩) (fun _ h => absurd h List.not_mem_nil) dX12_clash_146
                    · refine lv_iconst (v := 0) hx hb dX12_clash_141 (by decide) ?_
                      refine lv_goto (tgt := 146) hx hb dX12_clash_142 (by decide) ?_
                      exact W.iret (v := 0) hx hb hr (fun t ht hW => ⟨0, rfl, trivial, ht⟩) (fun _ h => absurd h List.not_mem_nil) dX12_clash_146
                  · refine lv_aload_n hx hb dX12_clash_102 rfl (lv_at hl 2 rfl) ?_
                    refine lv_aload_n hx hb dX12_clash_103 rfl (lv_at hl 2 rfl) ?_
                    refine fm_getG (a := 60) (j := 45) (T := TX12) (N := 79) hx hb hts hinX12 hown hc hw kl_60 sh_60 rfl (by decide) rfl (hI.to kl_60 tg_60_45) (hts (.fieldLink RX12 113 "RedTentModel" "storyBody" "[I") (List.mem_cons_of_mem _ tw_5_165)) (fun _ h9 => h9) dX12_clash_104 ?_
                    refine lv_iload_n hx hb dX12_clash_107 rfl (lv_at hl 3 rfl) ?_
                    refine fm_iald (a := 145) hx hb hc hw hI kl_145 sh_145 ty_145 bd_145 (by omega) dX12_clash_108 (fun x22 ex22 bx22 => ?_)
                    obtain rfl : x10 = x22 := by rw [ex22]; exact ex10
                    refine lv_iload hx hb dX12_clash_109 (lv_at hl 0 rfl) ?_
                    refine lv_lload hx hb dX12_clash_111 (lv_at hl 1 rfl) ?_
                    refine vp_callSl (va_Run.run (va_runV (As := [.int x10, .int lp_7, .long lp_5]) (rest := []) ⟨hx, hb, hml, hown, hts⟩ (fc_X12_drifted l D ad C nb M hI x10 lp_7 lp_5 (by omega) (by omega)) (cwV 3 hts gX12_clash_X12_drifted rfl rfl rfl (by decide +kernel) ⟨Nat.le_of_ble_eq_true rfl, Nat.le_of_ble_eq_true rfl⟩) (fm_preV hc hw hS kl_60 sh_60 rfl) rfl rfl hl.1 rfl (lv_room (Nat.le_of_ble_eq_true rfl)) dX12_clash_113 ⟨by decide +kernel, by decide +kernel⟩)) (fun r23 hr23 => ?_)
                    refine lv_lstore (lv' := [(5, .long r23), (7, .int lp_7), (0, .ref (ad 60 0)), (1, .int p0), (2, .int p1), (3, .int j1_3), (4, .int j2_4)]) hx hb dX12_clash_116 hl (by decide) rfl (fun ls hl => ?_)
                    obtain ⟨y24, ey24⟩ : ∃ y : Int32, y = lp_7 + 1 := ⟨_, rfl⟩
                    have ty24 : y24.toInt = lp_7.toInt + 1 := by rw [ey24, zi_add _ _ (by rw [zk_1]; omega) (by rw [zk_1]; omega), zk_1]
                    refine lv_iinc (v := y24) (lv' := [(7, .int y24), (5, .long r23), (0, .ref (ad 60 0)), (1, .int p0), (2, .int p1), (3, .int j1_3), (4, .int j2_4)]) hx hb dX12_clash_118 hl (k := 1) rfl (by rw [ey24]; rfl) (by decide) rfl (fun ls hl => ?_)
                    refine lv_goto (tgt := 90) hx hb dX12_clash_121 (by decide) ?_
                    exact ih_lp y24 r23 (by omega) (by omega) ls (lv_sub hl [0, 1, 2, 3, 4, 5, 6] rfl)
              exact lp _ x15 y14 (Nat.lt_succ_self _) (by omega) ls (lv_sub hl [0, 1, 2, 3, 4, 5, 6] rfl)
            refine lv_iload_n hx hb dX12_clash_60 rfl (lv_at hl 3 rfl) ?_
            refine lv_iload_n hx hb dX12_clash_61 rfl (lv_at hl 1 rfl) ?_
            refine fx_icmp_ne (tgt := 69) hx hb dX12_clash_62 (by decide) rfl rfl (fun c25 => ?_) (fun c25 => ?_)
            · refine lv_iload_n hx hb dX12_clash_69 rfl (lv_at hl 1 rfl) ?_
              refine lv_istore (lv' := [(4, .int p0), (0, .ref (ad 60 0)), (1, .int p0), (2, .int p1), (3, .int j1_3)]) hx hb dX12_clash_70 hl (by decide) rfl (fun ls hl => ?_)
              exact j2 p0 (by omega) ls (lv_sub hl [1, 2, 3, 4, 0] rfl)
            · refine lv_iload_n hx hb dX12_clash_65 rfl (lv_at hl 2 rfl) ?_
              refine lv_goto (tgt := 70) hx hb dX12_clash_66 (by decide) ?_
              refine lv_istore (lv' := [(4, .int p1), (0, .ref (ad 60 0)), (1, .int p0), (2, .int p1), (3, .int j1_3)]) hx hb dX12_clash_70 hl (by decide) rfl (fun ls hl => ?_)
              exact j2 p1 (by omega) ls (lv_sub hl [1, 2, 3, 4, 0] rfl)
          refine lv_aload_n hx hb dX12_clash_39 rfl (lv_at hl 0 rfl) ?_
          refine fm_getG (a := 60) (j := 47) (T := TX12) (N := 79) hx hb hts hinX12 hown hc hw kl_60 sh_60 rfl (by decide) rfl (hI.to kl_60 tg_60_47) (hts (.fieldLink RX12 119 "RedTentModel" "storyHour" "[I") (List.mem_cons_of_mem _ tw_5_167)) (fun _ h9 => h9) dX12_clash_40 ?_
          refine lv_iload_n hx hb dX12_clash_43 rfl (lv_at hl 1 rfl) ?_
          refine fm_iald (a := 147) hx hb hc hw hI kl_147 sh_147 ty_147 bd_147 (by omega) dX12_clash_44 (fun x26 ex26 bx26 => ?_)
          refine lv_aload_n hx hb dX12_clash_45 rfl (lv_at hl 0 rfl) ?_
          refine fm_getG (a := 60) (j := 47) (T := TX12) (N := 79) hx hb hts hinX12 hown hc hw kl_60 sh_60 rfl (by decide) rfl (hI.to kl_60 tg_60_47) (hts (.fieldLink RX12 119 "RedTentModel" "storyHour" "[I") (List.mem_cons_of_mem _ tw_5_167)) (fun _ h9 => h9) dX12_clash_46 ?_
          refine lv_iload_n hx hb dX12_clash_49 rfl (lv_at hl 2 rfl) ?_
          refine fm_iald (a := 147) hx hb hc hw hI kl_147 sh_147 ty_147 bd_147 (by omega) dX12_clash_50 (fun x27 ex27 bx27 => ?_)
          refine fx_icmp_gt (tgt := 58) hx hb dX12_clash_51 (by decide) rfl rfl (fun c28 => ?_) (fun c28 => ?_)
          · refine lv_iload_n hx hb dX12_clash_58 rfl (lv_at hl 2 rfl) ?_
            refine lv_istore_n (lv' := [(3, .int p1), (0, .ref (ad 60 0)), (1, .int p0), (2, .int p1)]) hx hb dX12_clash_59 rfl hl (by decide) rfl (fun ls hl => ?_)
            exact j1 p1 (by omega) ls (lv_sub hl [1, 2, 3, 0] rfl)
          · refine lv_iload_n hx hb dX12_clash_54 rfl (lv_at hl 1 rfl) ?_
            refine lv_goto (tgt := 59) hx hb dX12_clash_55 (by decide) ?_
            refine lv_istore_n (lv' := [(3, .int p0), (0, .ref (ad 60 0)), (1, .int p0), (2, .int p1)]) hx hb dX12_clash_59 rfl hl (by decide) rfl (fun ls hl => ?_)
            exact j1 p0 (by omega) ls (lv_sub hl [1, 2, 3, 0] rfl)
        · refine lv_bipush (v := (-2)) hx hb dX12_clash_36 (by decide) ?_
          exact W.iret (v := (-2)) hx hb hr (fun t ht hW => ⟨(-2), rfl, trivial, ht⟩) (fun _ h => absurd h List.not_mem_nil) dX12_clash_38
    · refine fx_if_eq (tgt := 36) hx hb dX12_clash_13 (by decide) zk_0 (fun c29 => ?_) (fun c29 => by exfalso; omega)
      refine lv_bipush (v := (-2)) hx hb dX12_clash_36 (by decide) ?_
      exact W.iret (v := (-2)) hx hb hr (fun t ht hW => ⟨(-2), rfl, trivial, ht⟩) (fun _ h => absurd h List.not_mem_nil) dX12_clash_38
  · refine fx_if_eq (tgt := 36) hx hb dX12_clash_5 (by decide) zk_0 (fun c30 => ?_) (fun c30 => by exfalso; omega)
    refine lv_bipush (v := (-2)) hx hb dX12_clash_36 (by decide) ?_
    exact W.iret (v := (-2)) hx hb hr (fun t ht hW => ⟨(-2), rfl, trivial, ht⟩) (fun _ h => absurd h List.not_mem_nil) dX12_clash_38
set_option maxHeartbeats 400000 in
set_option maxRecDepth 20000 in
theorem fc_X12_row (l : Launch) (D : va_G) (ad : Nat → Nat → Nat) (C : Nat → Nat → ClassId) (nb : Nat) (M : fm_M) (hI : fm_I nb ad M) (p0 : Int64) : Met l yX12_row wsX12_row ({ frames := 0, cells := 0, slots := 0, locals := 0 }) (va_Pc [.ref (ad 60 0), .long p0] (fm_P D ad C nb M)) (va_Qi (fun (r : Int32) (u : fm_M) => fm_I nb ad u ∧ fm_same [60050, 149000] M u ∧ ((¬ (0 ≤ p0.toInt ∧ p0.toInt ≤ 999999999999999) ∧ r.toInt = -2 ∧ (u.1 60 0 50).toInt = (M.1 60 0 50).toInt) ∨ ((0 ≤ p0.toInt ∧ p0.toInt ≤ 999999999999999) ∧ 4 ≤ (M.1 60 0 50).toInt ∧ r.toInt = -4 ∧ (u.1 60 0 50).toInt = (M.1 60 0 50).toInt) ∨ ((0 ≤ p0.toInt ∧ p0.toInt ≤ 999999999999999) ∧ (M.1 60 0 50).toInt < 4 ∧ r.toInt = (M.1 60 0 50).toInt ∧ (u.1 60 0 50).toInt = (M.1 60 0 50).toInt + 1))) (fun u t => fm_at D ad C nb u t.heap) (fm_A nb ad)) 0 0 (fm_A nb ad) := by
  refine Met.ofW (cc := cX12_row) (maxL := 6) (ret := (some .int)) (by decide) rfl ?_
  intro p e s m args below meth c s₁ B hml hv
  obtain ⟨rfl, hw, hc⟩ := hv
  have hx := B.exec
  have hb := B.bytes
  have hr := B.returns
  have hts := atoms_spec (ws := wsX12_row) B.pre
  have hown : s.vm.findClass RX12 = some m.cls := findClass_of_methodNamed B.named
  have hinX12 : ∀ w ∈ u_ws RX12 TX12 79, w ∈ wsX12_row := fun w h => List.mem_cons_of_mem _ (iT_X12 w h)
  have hS : va_S (fm_A nb ad) s.heap s.heap [] := va_S.rf
  have hE : fm_same [60050, 149000] M M := fm_same.rf
  have hl := lv_entry ([.ref (ad 60 0), .long p0]) (n := 6) (Nat.le_of_ble_eq_true rfl)
  rw [lg_entry_eq]
  generalize (lg_sl ([.ref (ad 60 0), .long p0]) ++ List.replicate (6 - (lg_sl ([.ref (ad 60 0), .long p0])).length) Slot.unset).toArray = ls at hl ⊢
  have hl : lv_has ls 6 [(0, .ref (ad 60 0)), (1, .long p0)] := hl
  refine lv_lload_n hx hb dX12_row_0 rfl (lv_at hl 1 rfl) ?_
  refine lv_lconst (v := 0) hx hb dX12_row_1 (by decide) ?_
  refine W.lcmp hx hb dX12_row_2 ?_
  have zz1 : (0 : Int64).toInt = 0 := rfl
  refine fx_lif_lt (tgt := 14) hx hb dX12_row_3 (by decide) (fun c2 => ?_) (fun c2 => ?_)
  · refine lv_bipush (v := (-2)) hx hb dX12_row_14 (by decide) ?_
    exact W.iret (v := (-2)) hx hb hr (fun t ht hW => ⟨⟨(-2), M, rfl, ⟨hI, hE, Or.inl ⟨by omega, zk_m2, rfl⟩⟩, by show fm_at D ad C nb _ t.heap; rw [ht]; exact hw⟩, hS.F ht⟩) hS.2.2 dX12_row_16
  · refine lv_lload_n hx hb dX12_row_6 rfl (lv_at hl 1 rfl) ?_
    refine lv_ldc2 (v := 999999999999999) hx hb hown (hts (.constantLong RX12 446 (999999999999999)) (List.mem_cons_of_mem _ tw_7_186)) dX12_row_7 ?_
    refine W.lcmp hx hb dX12_row_10 ?_
    have zz3 : (999999999999999 : Int64).toInt = 999999999999999 := rfl
    refine fx_lif_le (tgt := 17) hx hb dX12_row_11 (by decide) (fun c4 => ?_) (fun c4 => ?_)
    · refine lv_aload_n hx hb dX12_row_17 rfl (lv_at hl 0 rfl) ?_
      refine fm_getI (a := 60) (j := 50) (T := TX12) (N := 79) hx hb hts hinX12 hown hc hw hI kl_60 sh_60 rfl (by decide) rfl bd_60_50 (hts (.fieldLink RX12 448 "RedTentModel" "rows" "I") (List.mem_cons_of_mem _ tw_5_170)) (fun _ h9 => h9) dX12_row_18 (fun x5 ex5 bx5 => ?_)
      refine lv_iconst (v := 4) hx hb dX12_row_21 (by decide) ?_
      refine fx_icmp_ne (tgt := 28) hx hb dX12_row_22 (by decide) rfl zk_4 (fun c6 => ?_) (fun c6 => ?_)
      · refine lv_lload_n hx hb dX12_row_28 rfl (lv_at hl 1 rfl) ?_
        refine lv_lstore_n (lv' := [(3, .long p0), (0, .ref (ad 60 0)), (1, .long p0)]) hx hb dX12_row_29 rfl hl (by decide) rfl (fun ls hl => ?_)
        refine lv_iconst (v := 0) hx hb dX12_row_30 (by decide) ?_
        refine lv_istore (lv' := [(5, .int 0), (3, .long p0), (0, .ref (ad 60 0)), (1, .long p0)]) hx hb dX12_row_31 hl (by decide) rfl (fun ls hl => ?_)
        have lp : ∀ (n_lp : Nat) (lp_5 : Int32) (lp_3 : Int64) (M_lp : fm_M), (15 - lp_5.toInt).toNat < n_lp → (0 ≤ lp_5.toInt ∧ lp_5.toInt ≤ 15) → (M_lp.1 60 0 50 = M.1 60 0 50) → (0 ≤ (M_lp.1 60 0 50).toInt ∧ (M_lp.1 60 0 50).toInt ≤ 3) → fm_I nb ad M_lp → fm_same [60050, 149000] M M_lp → ∀ (H : Heap) (locs : List Loc), fm_at D ad C nb M_lp H → va_S (fm_A nb ad) s.heap H locs → ∀ (ls : Array Slot), lv_has ls 6 [(5, .int lp_5), (3, .long lp_3), (0, .ref (ad 60 0)), (1, .long p0)] → W p l e (headSpec wsX12_row ({ frames := 0, cells := 0, slots := 0, locals := 0 })).room s m ([.ref (ad 60 0), .long p0] : List Value).toArray below meth c H locs 0 0 (MQ below (va_Qi (fun (r : Int32) (u : fm_M) => fm_I nb ad u ∧ fm_same [60050, 149000] M u ∧ ((¬ (0 ≤ p0.toInt ∧ p0.toInt ≤ 999999999999999) ∧ r.toInt = -2 ∧ (u.1 60 0 50).toInt = (M.1 60 0 50).toInt) ∨ ((0 ≤ p0.toInt ∧ p0.toInt ≤ 999999999999999) ∧ 4 ≤ (M.1 60 0 50).toInt ∧ r.toInt = -4 ∧ (u.1 60 0 50).toInt = (M.1 60 0 50).toInt) ∨ ((0 ≤ p0.toInt ∧ p0.toInt ≤ 999999999999999) ∧ (M.1 60 0 50).toInt < 4 ∧ r.toInt = (M.1 60 0 50).toInt ∧ (u.1 60 0 50).toInt = (M.1 60 0 50).toInt + 1))) (fun u t => fm_at D ad C nb u t.heap) (fm_A nb ad)) ([.ref (ad 60 0), .long p0] : List Value).toArray s 0 0 (fm_A nb ad)) (F0 m 33 ls []) := by
          intro n_lp
          induction n_lp with
          | zero => intro lp_5 lp_3 M_lp hm_lp b_lp_5 hn hf2 hI hE H locs hw hS ls hl; exact absurd hm_lp (Nat.not_lt_zero _)
          | succ n_lp ih_lp =>
            intro lp_5 lp_3 M_lp hm_lp b_lp_5 hn hf2 hI hE H locs hw hS ls hl
            refine lv_iload hx hb dX12_row_33 (lv_at hl 0 rfl) ?_
            refine lv_bipush (v := 15) hx hb dX12_row_35 (by decide) ?_
            refine fx_icmp_ge (tgt := 73) hx hb dX12_row_37 (by decide) rfl zk_15 (fun c7 => ?_) (fun c7 => ?_)
            · refine lv_aload_n hx hb dX12_row_73 rfl (lv_at hl 2 rfl) ?_
              refine lv_dup hx hb dX12_row_74 rfl ?_
              refine fm_getI (a := 60) (j := 50) (T := TX12) (N := 79) hx hb hts hinX12 hown hc hw hI kl_60 sh_60 rfl (by decide) rfl bd_60_50 (hts (.fieldLink RX12 448 "RedTentModel" "rows" "I") (List.mem_cons_of_mem _ tw_5_170)) (fun _ h9 => h9) dX12_row_75 (fun x8 ex8 bx8 => ?_)
              have fx8 : 0 ≤ x8.toInt ∧ x8.toInt ≤ 3 := by rw [ex8]; exact hf2
              obtain rfl : x5 = x8 := by rw [ex8, hn]; exact ex5
              refine lv_iconst (v := 1) hx hb dX12_row_78 (by decide) ?_
              refine fx_iadd hx hb dX12_row_79 rfl zk_1 (by omega) (fun y9 ey9 ty9 => ?_)
              refine fm_putI (a := 60) (j := 50) (T := TX12) (N := 79) hx hb hts hinX12 tyX12 tyX12_ok nmX12 hown hc hw hI hE hS kl_60 sh_60 od_60 rfl (by decide) rfl bd_60_50 (hts (.fieldLink RX12 448 "RedTentModel" "rows" "I") (List.mem_cons_of_mem _ tw_5_170)) (fun _ h9 => h9) rfl (by decide +kernel) (by omega) (by decide) (by decide) dX12_row_80 (fun M10 H locs eM10 hw hI hE hS => ?_)
              refine lv_aload_n hx hb dX12_row_83 rfl (lv_at hl 2 rfl) ?_
              refine fm_getI (a := 60) (j := 50) (T := TX12) (N := 79) hx hb hts hinX12 hown hc hw hI kl_60 sh_60 rfl (by decide) rfl bd_60_50 (hts (.fieldLink RX12 448 "RedTentModel" "rows" "I") (List.mem_cons_of_mem _ tw_5_170)) (fun _ h9 => h9) dX12_row_84 (fun x11 ex11 bx11 => ?_)
              obtain rfl : y9 = x11 := by rw [ex11, eM10, fm_wI_at]
              refine lv_iconst (v := 1) hx hb dX12_row_87 (by decide) ?_
              refine fx_isub hx hb dX12_row_88 rfl zk_1 (by omega) (fun y12 ey12 ty12 => ?_)
              have qx5 : x5.toInt = (M.1 60 0 50).toInt := by rw [ex5]
              exact W.iret (v := y12) hx hb hr (fun t ht hW => ⟨⟨y12, M10, rfl, ⟨hI, hE, Or.inr (Or.inr ⟨by omega, by omega, by omega, (by first | omega | (rw [eM10, fm_wI_at]; omega))⟩)⟩, by show fm_at D ad C nb _ t.heap; rw [ht]; exact hw⟩, hS.F ht⟩) hS.2.2 dX12_row_89
            · refine lv_aload_n hx hb dX12_row_40 rfl (lv_at hl 2 rfl) ?_
              refine fm_getG (a := 60) (j := 49) (T := TX12) (N := 79) hx hb hts hinX12 hown hc hw kl_60 sh_60 rfl (by decide) rfl (hI.to kl_60 tg_60_49) (hts (.fieldLink RX12 122 "RedTentModel" "ice" "[I") (List.mem_cons_of_mem _ tw_5_169)) (fun _ h9 => h9) dX12_row_41 ?_
              refine lv_bipush (v := 15) hx hb dX12_row_44 (by decide) ?_
              refine lv_aload_n hx hb dX12_row_46 rfl (lv_at hl 2 rfl) ?_
              refine fm_getI (a := 60) (j := 50) (T := TX12) (N := 79) hx hb hts hinX12 hown hc hw hI kl_60 sh_60 rfl (by decide) rfl bd_60_50 (hts (.fieldLink RX12 448 "RedTentModel" "rows" "I") (List.mem_cons_of_mem _ tw_5_170)) (fun _ h9 => h9) dX12_row_47 (fun x13 ex13 bx13 => ?_)
              have fx13 : 0 ≤ x13.toInt ∧ x13.toInt ≤ 3 := by rw [ex13]; exact hf2
              obtain rfl : x5 = x13 := by rw [ex13, hn]; exact ex5
              refine fx_imul hx hb dX12_row_50 zk_15 rfl (by omega) (fun y14 ey14 ty14 => ?_)
              refine lv_iload hx hb dX12_row_51 (lv_at hl 0 rfl) ?_
              refine fx_iadd hx hb dX12_row_53 rfl rfl (by omega) (fun y15 ey15 ty15 => ?_)
              refine lv_lload_n hx hb dX12_row_54 rfl (lv_at hl 1 rfl) ?_
              refine lv_ldc2 (v := 10) hx hb hown (hts (.constantLong RX12 451 (10)) (List.mem_cons_of_mem _ tw_7_187)) dX12_row_55 ?_
              refine lv_lrem hx hb dX12_row_58 (by decide) ?_
              refine lv_topl (fun y16 ey16 => ?_)
              refine lv_l2i (v := y16.toInt32) hx hb dX12_row_59 rfl ?_
              refine lv_topi (fun y17 ey17 => ?_)
              refine fm_iast (a := 149) hx hb hc hw hI hE hS kl_149 sh_149 ty_149 bd_149 (by omega) (zi_lt _) cd_149 (by decide) dX12_row_60 (fun M18 H locs eM18 hw hI hE hS => ?_)
              refine lv_lload_n hx hb dX12_row_61 rfl (lv_at hl 1 rfl) ?_
              refine lv_ldc2 (v := 10) hx hb hown (hts (.constantLong RX12 451 (10)) (List.mem_cons_of_mem _ tw_7_187)) dX12_row_62 ?_
              refine lv_ldiv hx hb dX12_row_65 (by decide) ?_
              refine lv_topl (fun y19 ey19 => ?_)
              refine lv_lstore_n (lv' := [(3, .long y19), (5, .int lp_5), (0, .ref (ad 60 0)), (1, .long p0)]) hx hb dX12_row_66 rfl hl (by decide) rfl (fun ls hl => ?_)
              obtain ⟨y20, ey20⟩ : ∃ y : Int32, y = lp_5 + 1 := ⟨_, rfl⟩
              have ty20 : y20.toInt = lp_5.toInt + 1 := by rw [ey20, zi_add _ _ (by rw [zk_1]; omega) (by rw [zk_1]; omega), zk_1]
              refine lv_iinc (v := y20) (lv' := [(5, .int y20), (3, .long y19), (0, .ref (ad 60 0)), (1, .long p0)]) hx hb dX12_row_67 hl (k := 1) rfl (by rw [ey20]; rfl) (by decide) rfl (fun ls hl => ?_)
              refine lv_goto (tgt := 33) hx hb dX12_row_70 (by decide) ?_
              exact ih_lp y20 y19 M18 (by omega) (by omega) (by rw [eM18, fm_wI_nj (fun z => absurd z.1 (by decide))]; exact hn) (by rw [eM18, fm_wI_nj (fun z => absurd z.1 (by decide))]; omega) hI hE _ _ hw hS ls (lv_sub hl [0, 1, 2, 3] rfl)
        exact lp _ 0 p0 M (Nat.lt_succ_self _) (by decide) rfl (by rw [← ex5]; omega) hI hE _ _ hw hS ls (lv_sub hl [0, 1, 2, 3] rfl)
      · refine lv_bipush (v := (-4)) hx hb dX12_row_25 (by decide) ?_
        have qx5 : x5.toInt = (M.1 60 0 50).toInt := by rw [ex5]
        exact W.iret (v := (-4)) hx hb hr (fun t ht hW => ⟨⟨(-4), M, rfl, ⟨hI, hE, Or.inr (Or.inl ⟨by omega, by omega, zk_m4, rfl⟩)⟩, by show fm_at D ad C nb _ t.heap; rw [ht]; exact hw⟩, hS.F ht⟩) hS.2.2 dX12_row_27
    · refine lv_bipush (v := (-2)) hx hb dX12_row_14 (by decide) ?_
      exact W.iret (v := (-2)) hx hb hr (fun t ht hW => ⟨⟨(-2), M, rfl, ⟨hI, hE, Or.inl ⟨by omega, zk_m2, rfl⟩⟩, by show fm_at D ad C nb _ t.heap; rw [ht]; exact hw⟩, hS.F ht⟩) hS.2.2 dX12_row_16
set_option maxHeartbeats 400000 in
set_option maxRecDepth 20000 in
theorem fc_X12_days (l : Launch) (D : va_G) (ad : Nat → Nat → Nat) (C : Nat → Nat → ClassId) (nb : Nat) (M : fm_M) (hI : fm_I nb ad M) (p0 p1 p2 : Int32) : Met l yX12_days wsX12_days ({ frames := 1, cells := 0, slots := 0, locals := 27 }) (va_Pc [.ref (ad 60 0), .int p0, .int p1, .int p2] (fm_P D ad C nb M)) (va_Qi (fun (r : Int32) (u : fm_M) => fm_I nb ad u ∧ fm_same [173000, 174000] M u ∧ True) (fun u t => fm_at D ad C nb u t.heap) (fm_A nb ad)) 0 0 (fm_A nb ad) := by
  refine Met.ofW (cc := cX12_days) (maxL := 11) (ret := (some .int)) (by decide) rfl ?_
  intro p e s m args below meth c s₁ B hml hv
  obtain ⟨rfl, hw, hc⟩ := hv
  have hx := B.exec
  have hb := B.bytes
  have hr := B.returns
  have hts := atoms_spec (ws := wsX12_days) B.pre
  have hown : s.vm.findClass RX12 = some m.cls := findClass_of_methodNamed B.named
  have hinX12 : ∀ w ∈ u_ws RX12 TX12 79, w ∈ wsX12_days := fun w h => List.mem_cons_of_mem _ (iT_X12 w h)
  have hS : va_S (fm_A nb ad) s.heap s.heap [] := va_S.rf
  have hE : fm_same [173000, 174000] M M := fm_same.rf
  have hl := lv_entry ([.ref (ad 60 0), .int p0, .int p1, .int p2]) (n := 11) (Nat.le_of_ble_eq_true rfl)
  rw [lg_entry_eq]
  generalize (lg_sl ([.ref (ad 60 0), .int p0, .int p1, .int p2]) ++ List.replicate (11 - (lg_sl ([.ref (ad 60 0), .int p0, .int p1, .int p2])).length) Slot.unset).toArray = ls at hl ⊢
  have hl : lv_has ls 11 [(0, .ref (ad 60 0)), (1, .int p0), (2, .int p1), (3, .int p2)] := hl
  refine lv_iload_n hx hb dX12_days_0 rfl (lv_at hl 1 rfl) ?_
  refine lv_iconst (v := 1) hx hb dX12_days_1 (by decide) ?_
  refine lv_iconst (v := 5) hx hb dX12_days_2 (by decide) ?_
  have zz1 := zk_1
  have zz2 := zk_5
  refine vp_callSi (va_Run.run (va_runS (As := [.int p0, .int 1, .int 5]) (rest := []) ⟨hx, hb, hml, hown, hts⟩ (fc_X12_within l p0 1 5) (va_cwS 3 hts gX12_days_X12_within rfl rfl rfl (by decide +kernel) ⟨Nat.le_of_ble_eq_true rfl, Nat.le_of_ble_eq_true rfl⟩) ⟨fun a U g mk q => q, fun U hU hW => ⟨rfl, trivial⟩⟩ rfl rfl hl.1 rfl (lv_room (Nat.le_of_ble_eq_true rfl)) dX12_days_3 ⟨by decide +kernel, by decide +kernel⟩)) (fun r3 hr3 => ?_)
  rcases hr3 with ⟨rfl, c4⟩ | ⟨rfl, c4⟩
  · refine fx_if_eq (tgt := 19) hx hb dX12_days_6 (by decide) zk_1 (fun c5 => by exfalso; omega) (fun c5 => ?_)
    refine lv_iload_n hx hb dX12_days_9 rfl (lv_at hl 2 rfl) ?_
    refine lv_iconst (v := 0) hx hb dX12_days_10 (by decide) ?_
    refine lv_bipush (v := 99) hx hb dX12_days_11 (by decide) ?_
    have zz6 := zk_0
    have zz7 := zk_99
    refine vp_callSi (va_Run.run (va_runS (As := [.int p1, .int 0, .int 99]) (rest := []) ⟨hx, hb, hml, hown, hts⟩ (fc_X12_within l p1 0 99) (va_cwS 3 hts gX12_days_X12_within rfl rfl rfl (by decide +kernel) ⟨Nat.le_of_ble_eq_true rfl, Nat.le_of_ble_eq_true rfl⟩) ⟨fun a U g mk q => q, fun U hU hW => ⟨rfl, trivial⟩⟩ rfl rfl hl.1 rfl (lv_room (Nat.le_of_ble_eq_true rfl)) dX12_days_13 ⟨by decide +kernel, by decide +kernel⟩)) (fun r8 hr8 => ?_)
    rcases hr8 with ⟨rfl, c9⟩ | ⟨rfl, c9⟩
    · refine fx_if_ne (tgt := 22) hx hb dX12_days_16 (by decide) zk_1 (fun c10 => ?_) (fun c10 => by exfalso; omega)
      refine lv_iload_n hx hb dX12_days_22 rfl (lv_at hl 3 rfl) ?_
      refine lv_iconst (v := (-1)) hx hb dX12_days_23 (by decide) ?_
      refine lv_iload_n hx hb dX12_days_24 rfl (lv_at hl 1 rfl) ?_
      refine lv_iconst (v := 1) hx hb dX12_days_25 (by decide) ?_
      refine fx_isub hx hb dX12_days_26 rfl zk_1 (by omega) (fun y11 ey11 ty11 => ?_)
      have zz12 := zk_m1
      refine vp_callSi (va_Run.run (va_runS (As := [.int p2, .int (-1), .int y11]) (rest := []) ⟨hx, hb, hml, hown, hts⟩ (fc_X12_within l p2 (-1) y11) (va_cwS 3 hts gX12_days_X12_within rfl rfl rfl (by decide +kernel) ⟨Nat.le_of_ble_eq_true rfl, Nat.le_of_ble_eq_true rfl⟩) ⟨fun a U g mk q => q, fun U hU hW => ⟨rfl, trivial⟩⟩ rfl rfl hl.1 rfl (lv_room (Nat.le_of_ble_eq_true rfl)) dX12_days_27 ⟨by decide +kernel, by decide +kernel⟩)) (fun r13 hr13 => ?_)
      rcases hr13 with ⟨rfl, c14⟩ | ⟨rfl, c14⟩
      · refine fx_if_ne (tgt := 35) hx hb dX12_days_30 (by decide) zk_1 (fun c15 => ?_) (fun c15 => by exfalso; omega)
        refine lv_iconst (v := 1) hx hb dX12_days_35 (by decide) ?_
        refine lv_istore (lv' := [(4, .int 1), (0, .ref (ad 60 0)), (1, .int p0), (2, .int p1), (3, .int p2)]) hx hb dX12_days_36 hl (by decide) rfl (fun ls hl => ?_)
        refine lv_iconst (v := 0) hx hb dX12_days_38 (by decide) ?_
        refine lv_istore (lv' := [(5, .int 0), (4, .int 1), (0, .ref (ad 60 0)), (1, .int p0), (2, .int p1), (3, .int p2)]) hx hb dX12_days_39 hl (by decide) rfl (fun ls hl => ?_)
        have lp : ∀ (n_lp : Nat) (lp_5 : Int32) (lp_4 : Int32) (M_lp : fm_M), (5 - lp_5.toInt).toNat < n_lp → (0 ≤ lp_5.toInt ∧ lp_5.toInt ≤ 5) → ((-2147483648) ≤ lp_4.toInt ∧ lp_4.toInt ≤ 2147483647) → fm_I nb ad M_lp → fm_same [173000, 174000] M M_lp → ∀ (H : Heap) (locs : List Loc), fm_at D ad C nb M_lp H → va_S (fm_A nb ad) s.heap H locs → ∀ (ls : Array Slot), lv_has ls 11 [(5, .int lp_5), (4, .int lp_4), (0, .ref (ad 60 0)), (1, .int p0), (2, .int p1), (3, .int p2)] → W p l e (headSpec wsX12_days ({ frames := 1, cells := 0, slots := 0, locals := 27 })).room s m ([.ref (ad 60 0), .int p0, .int p1, .int p2] : List Value).toArray below meth c H locs 0 0 (MQ below (va_Qi (fun (r : Int32) (u : fm_M) => fm_I nb ad u ∧ fm_same [173000, 174000] M u ∧ True) (fun u t => fm_at D ad C nb u t.heap) (fm_A nb ad)) ([.ref (ad 60 0), .int p0, .int p1, .int p2] : List Value).toArray s 0 0 (fm_A nb ad)) (F0 m 41 ls []) := by
          intro n_lp
          induction n_lp with
          | zero => intro lp_5 lp_4 M_lp hm_lp b_lp_5 b_lp_4 hI hE H locs hw hS ls hl; exact absurd hm_lp (Nat.not_lt_zero _)
          | succ n_lp ih_lp =>
            intro lp_5 lp_4 M_lp hm_lp b_lp_5 b_lp_4 hI hE H locs hw hS ls hl
            refine lv_iload hx hb dX12_days_41 (lv_at hl 0 rfl) ?_
            refine lv_iload_n hx hb dX12_days_43 rfl (lv_at hl 3 rfl) ?_
            refine fx_icmp_ge (tgt := 59) hx hb dX12_days_44 (by decide) rfl rfl (fun c16 => ?_) (fun c16 => ?_)
            · refine lv_iconst (v := (-1)) hx hb dX12_days_59 (by decide) ?_
              refine lv_istore (lv' := [(5, .int (-1)), (4, .int lp_4), (0, .ref (ad 60 0)), (1, .int p0), (2, .int p1), (3, .int p2)]) hx hb dX12_days_60 hl (by decide) rfl (fun ls hl => ?_)
              refine lv_iconst (v := 0) hx hb dX12_days_62 (by decide) ?_
              refine lv_istore (lv' := [(6, .int 0), (5, .int (-1)), (4, .int lp_4), (0, .ref (ad 60 0)), (1, .int p0), (2, .int p1), (3, .int p2)]) hx hb dX12_days_63 hl (by decide) rfl (fun ls hl => ?_)
              have lw : ∀ (n_lw : Nat) (lw_6 : Int32) (lw_5 : Int32) (M_lw : fm_M), (lp_4.toInt - lw_6.toInt).toNat < n_lw → (0 ≤ lw_6.toInt ∧ lw_6.toInt ≤ 2147483647) → fm_I nb ad M_lw → fm_same [173000, 174000] M M_lw → ∀ (H : Heap) (locs : List Loc), fm_at D ad C nb M_lw H → va_S (fm_A nb ad) s.heap H locs → ∀ (ls : Array Slot), lv_has ls 11 [(6, .int lw_6), (5, .int lw_5), (4, .int lp_4), (0, .ref (ad 60 0)), (1, .int p0), (2, .int p1), (3, .int p2)] → W p l e (headSpec wsX12_days ({ frames := 1, cells := 0, slots := 0, locals := 27 })).room s m ([.ref (ad 60 0), .int p0, .int p1, .int p2] : List Value).toArray below meth c H locs 0 0 (MQ below (va_Qi (fun (r : Int32) (u : fm_M) => fm_I nb ad u ∧ fm_same [173000, 174000] M u ∧ True) (fun u t => fm_at D ad C nb u t.heap) (fm_A nb ad)) ([.ref (ad 60 0), .int p0, .int p1, .int p2] : List Value).toArray s 0 0 (fm_A nb ad)) (F0 m 65 ls []) := by
                intro n_lw
                induction n_lw with
                | zero => intro lw_6 lw_5 M_lw hm_lw b_lw_6 hI hE H locs hw hS ls hl; exact absurd hm_lw (Nat.not_lt_zero _)
                | succ n_lw ih_lw =>
                  intro lw_6 lw_5 M_lw hm_lw b_lw_6 hI hE H locs hw hS ls hl
                  refine lv_iload hx hb dX12_days_65 (lv_at hl 0 rfl) ?_
                  refine lv_iload hx hb dX12_days_67 (lv_at hl 2 rfl) ?_
                  refine fx_icmp_ge (tgt := 215) hx hb dX12_days_69 (by decide) rfl rfl (fun c17 => ?_) (fun c17 => ?_)
                  · refine lv_iload_n hx hb dX12_days_215 rfl (lv_at hl 6 rfl) ?_
                    refine fx_if_ge (tgt := 224) hx hb dX12_days_216 (by decide) rfl (fun c18 => ?_) (fun c18 => ?_)
                    · refine lv_aload_n hx hb dX12_days_224 rfl (lv_at hl 3 rfl) ?_
                      refine fm_getG (a := 60) (j := 74) (T := TX12) (N := 79) hx hb hts hinX12 hown hc hw kl_60 sh_60 rfl (by decide) rfl (hI.to kl_60 tg_60_74) (hts (.fieldLink RX12 155 "RedTentModel" "bestWays" "[I") (List.mem_cons_of_mem _ tw_5_194)) (fun _ h9 => h9) dX12_days_225 ?_
                      refine lv_iload_n hx hb dX12_days_228 rfl (lv_at hl 6 rfl) ?_
                      refine fm_iald (a := 174) hx hb hc hw hI kl_174 sh_174 ty_174 bd_174 (by omega) dX12_days_229 (fun x19 ex19 bx19 => ?_)
                      exact W.iret (v := x19) hx hb hr (fun t ht hW => ⟨⟨x19, M_lw, rfl, ⟨hI, hE, trivial⟩, by show fm_at D ad C nb _ t.heap; rw [ht]; exact hw⟩, hS.F ht⟩) hS.2.2 dX12_days_230
                    · refine lv_iload hx hb dX12_days_219 (lv_at hl 1 rfl) ?_
                      refine lv_goto (tgt := 230) hx hb dX12_days_221 (by decide) ?_
                      exact W.iret (v := lw_5) hx hb hr (fun t ht hW => ⟨⟨lw_5, M_lw, rfl, ⟨hI, hE, trivial⟩, by show fm_at D ad C nb _ t.heap; rw [ht]; exact hw⟩, hS.F ht⟩) hS.2.2 dX12_days_230
                  · refine lv_iload hx hb dX12_days_72 (lv_at hl 0 rfl) ?_
                    refine lv_istore (lv' := [(7, .int lw_6), (6, .int lw_6), (5, .int lw_5), (4, .int lp_4), (0, .ref (ad 60 0)), (1, .int p0), (2, .int p1), (3, .int p2)]) hx hb dX12_days_74 hl (by decide) rfl (fun ls hl => ?_)
                    refine lv_iload_n hx hb dX12_days_76 rfl (lv_at hl 5 rfl) ?_
                    refine lv_iconst (v := 1) hx hb dX12_days_77 (by decide) ?_
                    refine fx_isub hx hb dX12_days_78 rfl zk_1 (by omega) (fun y20 ey20 ty20 => ?_)
                    refine lv_istore (lv' := [(8, .int y20), (7, .int lw_6), (6, .int lw_6), (5, .int lw_5), (4, .int lp_4), (0, .ref (ad 60 0)), (1, .int p0), (2, .int p1), (3, .int p2)]) hx hb dX12_days_79 hl (by decide) rfl (fun ls hl => ?_)
                    have ld : ∀ (n_ld : Nat) (ld_8 : Int32) (ld_7 : Int32) (M_ld : fm_M), (ld_8.toInt + 1).toNat < n_ld → ((-1) ≤ ld_8.toInt ∧ ld_8.toInt ≤ 4) → (0 ≤ ld_7.toInt ∧ ld_7.toInt ≤ 2147483647) → fm_I nb ad M_ld → fm_same [173000, 174000] M M_ld → ∀ (H : Heap) (locs : List Loc), fm_at D ad C nb M_ld H → va_S (fm_A nb ad) s.heap H locs → ∀ (ls : Array Slot), lv_has ls 11 [(8, .int ld_8), (7, .int ld_7), (6, .int lw_6), (5, .int lw_5), (4, .int lp_4), (0, .ref (ad 60 0)), (1, .int p0), (2, .int p1), (3, .int p2)] → W p l e (headSpec wsX12_days ({ frames := 1, cells := 0, slots := 0, locals := 27 })).room s m ([.ref (ad 60 0), .int p0, .int p1, .int p2] : List Value).toArray below meth c H locs 0 0 (MQ below (va_Qi (fun (r : Int32) (u : fm_M) => fm_I nb ad u ∧ fm_same [173000, 174000] M u ∧ True) (fun u t => fm_at D ad C nb u t.heap) (fm_A nb ad)) ([.ref (ad 60 0), .int p0, .int p1, .int p2] : List Value).toArray s 0 0 (fm_A nb ad)) (F0 m 81 ls []) := by
                      intro n_ld
                      induction n_ld with
                      | zero => intro ld_8 ld_7 M_ld hm_ld b_ld_8 b_ld_7 hI hE H locs hw hS ls hl; exact absurd hm_ld (Nat.not_lt_zero _)
                      | succ n_ld ih_ld =>
                        intro ld_8 ld_7 M_ld hm_ld b_ld_8 b_ld_7 hI hE H locs hw hS ls hl
                        refine lv_iload hx hb dX12_days_81 (lv_at hl 0 rfl) ?_
                        refine fx_if_lt (tgt := 109) hx hb dX12_days_83 (by decide) rfl (fun c21 => ?_) (fun c21 => ?_)
                        · have jt : ∀ (jt_8 : Int32) (M_jt : fm_M), ((-2147483648) ≤ jt_8.toInt ∧ jt_8.toInt ≤ 2147483647) → fm_I nb ad M_jt → fm_same [173000, 174000] M M_jt → ∀ (H : Heap) (locs : List Loc), fm_at D ad C nb M_jt H → va_S (fm_A nb ad) s.heap H locs → ∀ (ls : Array Slot), lv_has ls 11 [(6, .int lw_6), (5, .int lw_5), (4, .int lp_4), (0, .ref (ad 60 0)), (1, .int p0), (2, .int p1), (3, .int p2), (8, .int jt_8)] → W p l e (headSpec wsX12_days ({ frames := 1, cells := 0, slots := 0, locals := 27 })).room s m ([.ref (ad 60 0), .int p0, .int p1, .int p2] : List Value).toArray below meth c H locs 0 0 (MQ below (va_Qi (fun (r : Int32) (u : fm_M) => fm_I nb ad u ∧ fm_same [173000, 174000] M u ∧ True) (fun u t => fm_at D ad C nb u t.heap) (fm_A nb ad)) ([.ref (ad 60 0), .int p0, .int p1, .int p2] : List Value).toArray s 0 0 (fm_A nb ad)) (F0 m 125 ls []) := by
                            intro jt_8 M_jt b_jt_8 hI hE H locs hw hS ls hl
                            refine lv_iconst (v := 0) hx hb dX12_days_125 (by decide) ?_
                            refine lv_istore (lv' := [(9, .int 0), (6, .int lw_6), (5, .int lw_5), (4, .int lp_4), (0, .ref (ad 60 0)), (1, .int p0), (2, .int p1), (3, .int p2), (8, .int jt_8)]) hx hb dX12_days_126 hl (by decide) rfl (fun ls hl => ?_)
                            have lr : ∀ (n_lr : Nat) (lr_9 : Int32) (lr_8 : Int32) (M_lr : fm_M), (4 - lr_9.toInt).toNat < n_lr → (0 ≤ lr_9.toInt ∧ lr_9.toInt ≤ 4) → fm_I nb ad M_lr → fm_same [173000, 174000] M M_lr → ∀ (H : Heap) (locs : List Loc), fm_at D ad C nb M_lr H → va_S (fm_A nb ad) s.heap H locs → ∀ (ls : Array Slot), lv_has ls 11 [(9, .int lr_9), (6, .int lw_6), (5, .int lw_5), (4, .int lp_4), (0, .ref (ad 60 0)), (1, .int p0), (2, .int p1), (3, .int p2), (8, .int lr_8)] → W p l e (headSpec wsX12_days ({ frames := 1, cells := 0, slots := 0, locals := 27 })).room s m ([.ref (ad 60 0), .int p0, .int p1, .int p2] : List Value).toArray below meth c H locs 0 0 (MQ below (va_Qi (fun (r : Int32) (u : fm_M) => fm_I nb ad u ∧ fm_same [173000, 174000] M u ∧ True) (fun u t => fm_at D ad C nb u t.heap) (fm_A nb ad)) ([.ref (ad 60 0), .int p0, .int p1, .int p2] : List Value).toArray s 0 0 (fm_A nb ad)) (F0 m 128 ls []) := by
                              intro n_lr
                              induction n_lr with
                              | zero => intro lr_9 lr_8 M_lr hm_lr b_lr_9 hI hE H locs hw hS ls hl; exact absurd hm_lr (Nat.not_lt_zero _)
                              | succ n_lr ih_lr =>
                                intro lr_9 lr_8 M_lr hm_lr b_lr_9 hI hE H locs hw hS ls hl
                                refine lv_iload hx hb dX12_days_128 (lv_at hl 0 rfl) ?_
                                refine lv_aload_n hx hb dX12_days_130 rfl (lv_at hl 4 rfl) ?_
                                refine fm_getI (a := 60) (j := 50) (T := TX12) (N := 79) hx hb hts hinX12 hown hc hw hI kl_60 sh_60 rfl (by decide) rfl bd_60_50 (hts (.fieldLink RX12 448 "RedTentModel" "rows" "I") (List.mem_cons_of_mem _ tw_5_170)) (fun _ h9 => h9) dX12_days_131 (fun x22 ex22 bx22 => ?_)
                                refine fx_icmp_ge (tgt := 169) hx hb dX12_days_134 (by decide) rfl rfl (fun c23 => ?_) (fun c23 => ?_)
                                · refine lv_iload hx hb dX12_days_169 (lv_at hl 8 rfl) ?_
                                  refine lv_iload hx hb dX12_days_171 (lv_at hl 2 rfl) ?_
                                  refine fx_icmp_le (tgt := 209) hx hb dX12_days_173 (by decide) rfl rfl (fun c24 => ?_) (fun c24 => ?_)
                                  · obtain ⟨y25, ey25⟩ : ∃ y : Int32, y = lw_6 + 1 := ⟨_, rfl⟩
                                    have ty25 : y25.toInt = lw_6.toInt + 1 := by rw [ey25, zi_add _ _ (by rw [zk_1]; have hlw_6 := zi_lt lw_6; omega) (by rw [zk_1]; have hlw_6 := zi_lt lw_6; omega), zk_1]
                                    refine lv_iinc (v := y25) (lv' := [(6, .int y25), (9, .int lr_9), (5, .int lw_5), (4, .int lp_4), (0, .ref (ad 60 0)), (1, .int p0), (2, .int p1), (3, .int p2), (8, .int lr_8)]) hx hb dX12_days_209 hl (k := 1) rfl (by rw [ey25]; rfl) (by decide) rfl (fun ls hl => ?_)
                                    refine lv_goto (tgt := 65) hx hb dX12_days_212 (by decide) ?_
                                    exact ih_lw y25 lw_5 M_lr (by omega) (by omega) hI hE _ _ hw hS ls (lv_sub hl [0, 2, 3, 4, 5, 6, 7] rfl)
                                  · refine lv_iload hx hb dX12_days_176 (lv_at hl 8 rfl) ?_
                                    refine lv_istore (lv' := [(5, .int lr_8), (9, .int lr_9), (6, .int lw_6), (4, .int lp_4), (0, .ref (ad 60 0)), (1, .int p0), (2, .int p1), (3, .int p2), (8, .int lr_8)]) hx hb dX12_days_178 hl (by decide) rfl (fun ls hl => ?_)
                                    refine lv_iconst (v := 0) hx hb dX12_days_180 (by decide) ?_
                                    refine lv_istore (lv' := [(9, .int 0), (5, .int lr_8), (6, .int lw_6), (4, .int lp_4), (0, .ref (ad 60 0)), (1, .int p0), (2, .int p1), (3, .int p2), (8, .int lr_8)]) hx hb dX12_days_181 hl (by decide) rfl (fun ls hl => ?_)
                                    have lb : ∀ (n_lb : Nat) (lb_9 : Int32) (M_lb : fm_M), (5 - lb_9.toInt).toNat < n_lb → (0 ≤ lb_9.toInt ∧ lb_9.toInt ≤ 5) → fm_I nb ad M_lb → fm_same [173000, 174000] M M_lb → ∀ (H : Heap) (locs : List Loc), fm_at D ad C nb M_lb H → va_S (fm_A nb ad) s.heap H locs → ∀ (ls : Array Slot), lv_has ls 11 [(9, .int lb_9), (5, .int lr_8), (6, .int lw_6), (4, .int lp_4), (0, .ref (ad 60 0)), (1, .int p0), (2, .int p1), (3, .int p2), (8, .int lr_8)] → W p l e (headSpec wsX12_days ({ frames := 1, cells := 0, slots := 0, locals := 27 })).room s m ([.ref (ad 60 0), .int p0, .int p1, .int p2] : List Value).toArray below meth c H locs 0 0 (MQ below (va_Qi (fun (r : Int32) (u : fm_M) => fm_I nb ad u ∧ fm_same [173000, 174000] M u ∧ True) (fun u t => fm_at D ad C nb u t.heap) (fm_A nb ad)) ([.ref (ad 60 0), .int p0, .int p1, .int p2] : List Value).toArray s 0 0 (fm_A nb ad)) (F0 m 183 ls []) := by
                                      intro n_lb
                                      induction n_lb with
                                      | zero => intro lb_9 M_lb hm_lb b_lb_9 hI hE H locs hw hS ls hl; exact absurd hm_lb (Nat.not_lt_zero _)
                                      | succ n_lb ih_lb =>
                                        intro lb_9 M_lb hm_lb b_lb_9 hI hE H locs hw hS ls hl
                                        refine lv_iload hx hb dX12_days_183 (lv_at hl 0 rfl) ?_
                                        refine lv_iload_n hx hb dX12_days_185 rfl (lv_at hl 5 rfl) ?_
                                        refine fx_icmp_ge (tgt := 209) hx hb dX12_days_186 (by decide) rfl rfl (fun c26 => ?_) (fun c26 => ?_)
                                        · obtain ⟨y27, ey27⟩ : ∃ y : Int32, y = lw_6 + 1 := ⟨_, rfl⟩
                                          have ty27 : y27.toInt = lw_6.toInt + 1 := by rw [ey27, zi_add _ _ (by rw [zk_1]; have hlw_6 := zi_lt lw_6; omega) (by rw [zk_1]; have hlw_6 := zi_lt lw_6; omega), zk_1]
                                          refine lv_iinc (v := y27) (lv' := [(6, .int y27), (9, .int lb_9), (5, .int lr_8), (4, .int lp_4), (0, .ref (ad 60 0)), (1, .int p0), (2, .int p1), (3, .int p2), (8, .int lr_8)]) hx hb dX12_days_209 hl (k := 2) rfl (by rw [ey27]; rfl) (by decide) rfl (fun ls hl => ?_)
                                          refine lv_goto (tgt := 65) hx hb dX12_days_212 (by decide) ?_
                                          exact ih_lw y27 lr_8 M_lb (by omega) (by omega) hI hE _ _ hw hS ls (lv_sub hl [0, 2, 3, 4, 5, 6, 7] rfl)
                                        · refine lv_aload_n hx hb dX12_days_189 rfl (lv_at hl 4 rfl) ?_
                                          refine fm_getG (a := 60) (j := 74) (T := TX12) (N := 79) hx hb hts hinX12 hown hc hw kl_60 sh_60 rfl (by decide) rfl (hI.to kl_60 tg_60_74) (hts (.fieldLink RX12 155 "RedTentModel" "bestWays" "[I") (List.mem_cons_of_mem _ tw_5_194)) (fun _ h9 => h9) dX12_days_190 ?_
                                          refine lv_iload hx hb dX12_days_193 (lv_at hl 0 rfl) ?_
                                          refine lv_aload_n hx hb dX12_days_195 rfl (lv_at hl 4 rfl) ?_
                                          refine fm_getG (a := 60) (j := 73) (T := TX12) (N := 79) hx hb hts hinX12 hown hc hw kl_60 sh_60 rfl (by decide) rfl (hI.to kl_60 tg_60_73) (hts (.fieldLink RX12 152 "RedTentModel" "ways" "[I") (List.mem_cons_of_mem _ tw_5_193)) (fun _ h9 => h9) dX12_days_196 ?_
                                          refine lv_iload hx hb dX12_days_199 (lv_at hl 0 rfl) ?_
                                          refine fm_iald (a := 173) hx hb hc hw hI kl_173 sh_173 ty_173 bd_173 (by omega) dX12_days_201 (fun x28 ex28 bx28 => ?_)
                                          refine fm_iast (a := 174) hx hb hc hw hI hE hS kl_174 sh_174 ty_174 bd_174 (by omega) (by omega) cd_174 (by decide) dX12_days_202 (fun M29 H locs eM29 hw hI hE hS => ?_)
                                          obtain ⟨y30, ey30⟩ : ∃ y : Int32, y = lb_9 + 1 := ⟨_, rfl⟩
                                          have ty30 : y30.toInt = lb_9.toInt + 1 := by rw [ey30, zi_add _ _ (by rw [zk_1]; omega) (by rw [zk_1]; omega), zk_1]
                                          refine lv_iinc (v := y30) (lv' := [(9, .int y30), (5, .int lr_8), (6, .int lw_6), (4, .int lp_4), (0, .ref (ad 60 0)), (1, .int p0), (2, .int p1), (3, .int p2), (8, .int lr_8)]) hx hb dX12_days_203 hl (k := 0) rfl (by rw [ey30]; rfl) (by decide) rfl (fun ls hl => ?_)
                                          refine lv_goto (tgt := 183) hx hb dX12_days_206 (by decide) ?_
                                          exact ih_lb y30 M29 (by omega) (by omega) hI hE _ _ hw hS ls (lv_sub hl [0, 1, 2, 3, 4, 5, 6, 7, 8] rfl)
                                    exact lb _ 0 M_lr (Nat.lt_succ_self _) (by decide) hI hE _ _ hw hS ls (lv_sub hl [0, 1, 2, 3, 4, 5, 6, 7, 8] rfl)
                                · refine lv_aload_n hx hb dX12_days_137 rfl (lv_at hl 4 rfl) ?_
                                  refine lv_iload hx hb dX12_days_138 (lv_at hl 0 rfl) ?_
                                  refine lv_iload_n hx hb dX12_days_140 rfl (lv_at hl 5 rfl) ?_
                                  refine lv_iload_n hx hb dX12_days_141 rfl (lv_at hl 6 rfl) ?_
                                  refine vp_callSi (va_Run.run (va_runV (As := [.int lr_9, .int p0, .int p1]) (rest := []) ⟨hx, hb, hml, hown, hts⟩ (fc_X12_goesIn l D ad C nb M_lr hI lr_9 p0 p1 (by omega) (by omega)) (cwV 3 hts gX12_days_X12_goesIn rfl rfl rfl (by decide +kernel) ⟨Nat.le_of_ble_eq_true rfl, Nat.le_of_ble_eq_true rfl⟩) (fm_preV hc hw hS kl_60 sh_60 rfl) rfl rfl hl.1 rfl (lv_room (Nat.le_of_ble_eq_true rfl)) dX12_days_142 ⟨by decide +kernel, by decide +kernel⟩)) (fun r31 hr31 => ?_)
                                  refine lv_istore (lv' := [(10, .int r31), (9, .int lr_9), (6, .int lw_6), (5, .int lw_5), (4, .int lp_4), (0, .ref (ad 60 0)), (1, .int p0), (2, .int p1), (3, .int p2), (8, .int lr_8)]) hx hb dX12_days_145 hl (by decide) rfl (fun ls hl => ?_)
                                  refine lv_iload hx hb dX12_days_147 (lv_at hl 0 rfl) ?_
                                  refine lv_iload hx hb dX12_days_149 (lv_at hl 9 rfl) ?_
                                  refine fx_icmp_ge (tgt := 159) hx hb dX12_days_151 (by decide) rfl rfl (fun c32 => ?_) (fun c32 => ?_)
                                  · refine lv_iload hx hb dX12_days_159 (lv_at hl 9 rfl) ?_
                                    refine lv_istore (lv' := [(8, .int lr_8), (10, .int r31), (9, .int lr_9), (6, .int lw_6), (5, .int lw_5), (4, .int lp_4), (0, .ref (ad 60 0)), (1, .int p0), (2, .int p1), (3, .int p2)]) hx hb dX12_days_161 hl (by decide) rfl (fun ls hl => ?_)
                                    obtain ⟨y33, ey33⟩ : ∃ y : Int32, y = lr_9 + 1 := ⟨_, rfl⟩
                                    have ty33 : y33.toInt = lr_9.toInt + 1 := by rw [ey33, zi_add _ _ (by rw [zk_1]; omega) (by rw [zk_1]; omega), zk_1]
                                    refine lv_iinc (v := y33) (lv' := [(9, .int y33), (8, .int lr_8), (10, .int r31), (6, .int lw_6), (5, .int lw_5), (4, .int lp_4), (0, .ref (ad 60 0)), (1, .int p0), (2, .int p1), (3, .int p2)]) hx hb dX12_days_163 hl (k := 2) rfl (by rw [ey33]; rfl) (by decide) rfl (fun ls hl => ?_)
                                    refine lv_goto (tgt := 128) hx hb dX12_days_166 (by decide) ?_
                                    exact ih_lr y33 lr_8 M_lr (by omega) (by omega) hI hE _ _ hw hS ls (lv_sub hl [0, 3, 4, 5, 6, 7, 8, 9, 1] rfl)
                                  · refine lv_iload hx hb dX12_days_154 (lv_at hl 0 rfl) ?_
                                    refine lv_goto (tgt := 161) hx hb dX12_days_156 (by decide) ?_
                                    refine lv_istore (lv' := [(8, .int r31), (10, .int r31), (9, .int lr_9), (6, .int lw_6), (5, .int lw_5), (4, .int lp_4), (0, .ref (ad 60 0)), (1, .int p0), (2, .int p1), (3, .int p2)]) hx hb dX12_days_161 hl (by decide) rfl (fun ls hl => ?_)
                                    obtain ⟨y34, ey34⟩ : ∃ y : Int32, y = lr_9 + 1 := ⟨_, rfl⟩
                                    have ty34 : y34.toInt = lr_9.toInt + 1 := by rw [ey34, zi_add _ _ (by rw [zk_1]; omega) (by rw [zk_1]; omega), zk_1]
                                    refine lv_iinc (v := y34) (lv' := [(9, .int y34), (8, .int r31), (10, .int r31), (6, .int lw_6), (5, .int lw_5), (4, .int lp_4), (0, .ref (ad 60 0)), (1, .int p0), (2, .int p1), (3, .int p2)]) hx hb dX12_days_163 hl (k := 2) rfl (by rw [ey34]; rfl) (by decide) rfl (fun ls hl => ?_)
                                    refine lv_goto (tgt := 128) hx hb dX12_days_166 (by decide) ?_
                                    exact ih_lr y34 r31 M_lr (by omega) (by omega) hI hE _ _ hw hS ls (lv_sub hl [0, 3, 4, 5, 6, 7, 8, 9, 1] rfl)
                            exact lr _ 0 jt_8 M_jt (Nat.lt_succ_self _) (by decide) hI hE _ _ hw hS ls (lv_sub hl [0, 1, 2, 3, 4, 5, 6, 7, 8] rfl)
                          refine lv_aload_n hx hb dX12_days_109 rfl (lv_at hl 5 rfl) ?_
                          refine fm_getI (a := 60) (j := 50) (T := TX12) (N := 79) hx hb hts hinX12 hown hc hw hI kl_60 sh_60 rfl (by decide) rfl bd_60_50 (hts (.fieldLink RX12 448 "RedTentModel" "rows" "I") (List.mem_cons_of_mem _ tw_5_170)) (fun _ h9 => h9) dX12_days_110 (fun x35 ex35 bx35 => ?_)
                          refine fx_if_ne (tgt := 120) hx hb dX12_days_113 (by decide) rfl (fun c36 => ?_) (fun c36 => ?_)
                          · refine lv_sipush (v := 9999) hx hb dX12_days_120 (by decide) ?_
                            refine lv_istore (lv' := [(8, .int 9999), (7, .int ld_7), (6, .int lw_6), (5, .int lw_5), (4, .int lp_4), (0, .ref (ad 60 0)), (1, .int p0), (2, .int p1), (3, .int p2)]) hx hb dX12_days_123 hl (by decide) rfl (fun ls hl => ?_)
                            exact jt 9999 M_ld (by decide) hI hE _ _ hw hS ls (lv_sub hl [2, 3, 4, 5, 6, 7, 8, 0] rfl)
                          · refine lv_iconst (v := 0) hx hb dX12_days_116 (by decide) ?_
                            refine lv_goto (tgt := 123) hx hb dX12_days_117 (by decide) ?_
                            refine lv_istore (lv' := [(8, .int 0), (7, .int ld_7), (6, .int lw_6), (5, .int lw_5), (4, .int lp_4), (0, .ref (ad 60 0)), (1, .int p0), (2, .int p1), (3, .int p2)]) hx hb dX12_days_123 hl (by decide) rfl (fun ls hl => ?_)
                            exact jt 0 M_ld (by decide) hI hE _ _ hw hS ls (lv_sub hl [2, 3, 4, 5, 6, 7, 8, 0] rfl)
                        · refine lv_aload_n hx hb dX12_days_86 rfl (lv_at hl 5 rfl) ?_
                          refine fm_getG (a := 60) (j := 73) (T := TX12) (N := 79) hx hb hts hinX12 hown hc hw kl_60 sh_60 rfl (by decide) rfl (hI.to kl_60 tg_60_73) (hts (.fieldLink RX12 152 "RedTentModel" "ways" "[I") (List.mem_cons_of_mem _ tw_5_193)) (fun _ h9 => h9) dX12_days_87 ?_
                          refine lv_iload hx hb dX12_days_90 (lv_at hl 0 rfl) ?_
                          refine lv_iload hx hb dX12_days_92 (lv_at hl 1 rfl) ?_
                          refine lv_iconst (v := 3) hx hb dX12_days_94 (by decide) ?_
                          refine fx_irem hx hb dX12_days_95 rfl zk_3 (by omega) (by omega) (fun y37 ey37 ty37 => ?_)
                          refine fm_iast (a := 173) hx hb hc hw hI hE hS kl_173 sh_173 ty_173 bd_173 (by omega) (by omega) cd_173 (by decide) dX12_days_96 (fun M38 H locs eM38 hw hI hE hS => ?_)
                          refine lv_iload hx hb dX12_days_97 (lv_at hl 1 rfl) ?_
                          refine lv_iconst (v := 3) hx hb dX12_days_99 (by decide) ?_
                          refine fx_idiv hx hb dX12_days_100 rfl zk_3 (by omega) (by omega) (fun y39 ey39 ty39 => ?_)
                          refine lv_istore (lv' := [(7, .int y39), (8, .int ld_8), (6, .int lw_6), (5, .int lw_5), (4, .int lp_4), (0, .ref (ad 60 0)), (1, .int p0), (2, .int p1), (3, .int p2)]) hx hb dX12_days_101 hl (by decide) rfl (fun ls hl => ?_)
                          obtain ⟨y40, ey40⟩ : ∃ y : Int32, y = ld_8 + (-1) := ⟨_, rfl⟩
                          have ty40 : y40.toInt = ld_8.toInt + (-1) := by rw [ey40, zi_add _ _ (by rw [zk_m1]; omega) (by rw [zk_m1]; omega), zk_m1]
                          refine lv_iinc (v := y40) (lv' := [(8, .int y40), (7, .int y39), (6, .int lw_6), (5, .int lw_5), (4, .int lp_4), (0, .ref (ad 60 0)), (1, .int p0), (2, .int p1), (3, .int p2)]) hx hb dX12_days_103 hl (k := 1) rfl (by rw [ey40]; rfl) (by decide) rfl (fun ls hl => ?_)
                          refine lv_goto (tgt := 81) hx hb dX12_days_106 (by decide) ?_
                          exact ih_ld y40 y39 M38 (by omega) (by omega) (by omega) hI hE _ _ hw hS ls (lv_sub hl [0, 1, 2, 3, 4, 5, 6, 7, 8] rfl)
                    exact ld _ y20 lw_6 M_lw (Nat.lt_succ_self _) (by omega) (by omega) hI hE _ _ hw hS ls (lv_sub hl [0, 1, 2, 3, 4, 5, 6, 7, 8] rfl)
              exact lw _ 0 (-1) M_lp (Nat.lt_succ_self _) (by decide) hI hE _ _ hw hS ls (lv_sub hl [0, 1, 2, 3, 4, 5, 6] rfl)
            · refine lv_iload hx hb dX12_days_47 (lv_at hl 1 rfl) ?_
              refine lv_iconst (v := 3) hx hb dX12_days_49 (by decide) ?_
              refine fx_imulU hx hb dX12_days_50 (fun y41 ey41 => ?_)
              refine lv_istore (lv' := [(4, .int y41), (5, .int lp_5), (0, .ref (ad 60 0)), (1, .int p0), (2, .int p1), (3, .int p2)]) hx hb dX12_days_51 hl (by decide) rfl (fun ls hl => ?_)
              obtain ⟨y42, ey42⟩ : ∃ y : Int32, y = lp_5 + 1 := ⟨_, rfl⟩
              have ty42 : y42.toInt = lp_5.toInt + 1 := by rw [ey42, zi_add _ _ (by rw [zk_1]; omega) (by rw [zk_1]; omega), zk_1]
              refine lv_iinc (v := y42) (lv' := [(5, .int y42), (4, .int y41), (0, .ref (ad 60 0)), (1, .int p0), (2, .int p1), (3, .int p2)]) hx hb dX12_days_53 hl (k := 1) rfl (by rw [ey42]; rfl) (by decide) rfl (fun ls hl => ?_)
              refine lv_goto (tgt := 41) hx hb dX12_days_56 (by decide) ?_
              exact ih_lp y42 y41 M_lp (by omega) (by omega) (zi_lt _) hI hE _ _ hw hS ls (lv_sub hl [0, 1, 2, 3, 4, 5] rfl)
        exact lp _ 0 1 M (Nat.lt_succ_self _) (by decide) (by decide) hI hE _ _ hw hS ls (lv_sub hl [0, 1, 2, 3, 4, 5] rfl)
      · refine fx_if_ne (tgt := 35) hx hb dX12_days_30 (by decide) zk_0 (fun c43 => by exfalso; omega) (fun c43 => ?_)
        refine lv_iconst (v := (-1)) hx hb dX12_days_33 (by decide) ?_
        exact W.iret (v := (-1)) hx hb hr (fun t ht hW => ⟨⟨(-1), M, rfl, ⟨hI, hE, trivial⟩, by show fm_at D ad C nb _ t.heap; rw [ht]; exact hw⟩, hS.F ht⟩) hS.2.2 dX12_days_34
    · refine fx_if_ne (tgt := 22) hx hb dX12_days_16 (by decide) zk_0 (fun c44 => by exfalso; omega) (fun c44 => ?_)
      refine lv_bipush (v := (-2)) hx hb dX12_days_19 (by decide) ?_
      exact W.iret (v := (-2)) hx hb hr (fun t ht hW => ⟨⟨(-2), M, rfl, ⟨hI, hE, trivial⟩, by show fm_at D ad C nb _ t.heap; rw [ht]; exact hw⟩, hS.F ht⟩) hS.2.2 dX12_days_21
  · refine fx_if_eq (tgt := 19) hx hb dX12_days_6 (by decide) zk_0 (fun c45 => ?_) (fun c45 => by exfalso; omega)
    refine lv_bipush (v := (-2)) hx hb dX12_days_19 (by decide) ?_
    exact W.iret (v := (-2)) hx hb hr (fun t ht hW => ⟨⟨(-2), M, rfl, ⟨hI, hE, trivial⟩, by show fm_at D ad C nb _ t.heap; rw [ht]; exact hw⟩, hS.F ht⟩) hS.2.2 dX12_days_21
set_option maxHeartbeats 400000 in
set_option maxRecDepth 20000 in
theorem fc_X12_count (l : Launch) (D : va_G) (ad : Nat → Nat → Nat) (C : Nat → Nat → ClassId) (nb : Nat) (M : fm_M) (hI : fm_I nb ad M) (p0 : Int32) : Met l yX12_count wsX12_count ({ frames := 0, cells := 0, slots := 0, locals := 0 }) (va_Pc [.ref (ad 60 0), .int p0] (fm_P D ad C nb M)) (vp_Si (fun r : Int32 => True)) 0 0 (fun _ => False) := by
  refine Met.ofW (cc := cX12_count) (maxL := 2) (ret := (some .int)) (by decide) rfl ?_
  intro p e s m args below meth c s₁ B hml hv
  obtain ⟨rfl, hw, hc⟩ := hv
  have hx := B.exec
  have hb := B.bytes
  have hr := B.returns
  have hts := atoms_spec (ws := wsX12_count) B.pre
  have hown : s.vm.findClass RX12 = some m.cls := findClass_of_methodNamed B.named
  have hinX12 : ∀ w ∈ u_ws RX12 TX12 79, w ∈ wsX12_count := fun w h => List.mem_cons_of_mem _ (iT_X12 w h)
  have hS : va_S (fm_A nb ad) s.heap s.heap [] := va_S.rf
  have hl := lv_entry ([.ref (ad 60 0), .int p0]) (n := 2) (Nat.le_of_ble_eq_true rfl)
  rw [lg_entry_eq]
  generalize (lg_sl ([.ref (ad 60 0), .int p0]) ++ List.replicate (2 - (lg_sl ([.ref (ad 60 0), .int p0])).length) Slot.unset).toArray = ls at hl ⊢
  have hl : lv_has ls 2 [(0, .ref (ad 60 0)), (1, .int p0)] := hl
  refine lv_iload_n hx hb dX12_count_0 rfl (lv_at hl 1 rfl) ?_
  rcases (show p0.toInt < 0 ∨ 14 < p0.toInt ∨ p0 = 0 ∨ p0 = 1 ∨ p0 = 2 ∨ p0 = 3 ∨ p0 = 4 ∨ p0 = 5 ∨ p0 = 6 ∨ p0 = 7 ∨ p0 = 8 ∨ p0 = 9 ∨ p0 = 10 ∨ p0 = 11 ∨ p0 = 12 ∨ p0 = 13 ∨ p0 = 14 by simp only [fa_eq, Int32.reduceToInt]; omega) with c1 | c1 | c1 | c1 | c1 | c1 | c1 | c1 | c1 | c1 | c1 | c1 | c1 | c1 | c1 | c1 | c1
  · refine lv_tableOut (tgt := 151) hx hb dX12_count_1 (Or.inl c1) (by decide) ?_
    refine lv_bipush (v := (-2)) hx hb dX12_count_151 (by decide) ?_
    exact W.iret (v := (-2)) hx hb hr (fun t ht hW => ⟨(-2), rfl, trivial, ht⟩) (fun _ h => absurd h List.not_mem_nil) dX12_count_153
  · refine lv_tableOut (tgt := 151) hx hb dX12_count_1 (Or.inr c1) (by decide) ?_
    refine lv_bipush (v := (-2)) hx hb dX12_count_151 (by decide) ?_
    exact W.iret (v := (-2)) hx hb hr (fun t ht hW => ⟨(-2), rfl, trivial, ht⟩) (fun _ h => absurd h List.not_mem_nil) dX12_count_153
  · refine lv_tableIn (off := 75) (tgt := 76) hx hb dX12_count_1 (by rw [c1]; decide) (by rw [c1]; decide) (by rw [c1]; decide) (by decide) ?_
    have zc1 : p0.toInt = 0 := by rw [c1]; rfl
    refine lv_aload_n hx hb dX12_count_76 rfl (lv_at hl 0 rfl) ?_
    refine fm_getI (a := 60) (j := 0) (T := TX12) (N := 79) hx hb hts hinX12 hown hc hw hI kl_60 sh_60 rfl (by decide) rfl bd_60_0 (hts (.fieldLink RX12 201 "RedTentModel" "hour" "I") (List.mem_cons_of_mem _ tw_5_120)) (fun _ h9 => h9) dX12_count_77 (fun x2 ex2 bx2 => ?_)
    exact W.iret (v := x2) hx hb hr (fun t ht hW => ⟨x2, rfl, trivial, ht⟩) (fun _ h => absurd h List.not_mem_nil) dX12_count_80
  · refine lv_tableIn (off := 80) (tgt := 81) hx hb dX12_count_1 (by rw [c1]; decide) (by rw [c1]; decide) (by rw [c1]; decide) (by decide) ?_
    have zc1 : p0.toInt = 1 := by rw [c1]; rfl
    refine lv_aload_n hx hb dX12_count_81 rfl (lv_at hl 0 rfl) ?_
    refine fm_getI (a := 60) (j := 16) (T := TX12) (N := 79) hx hb hts hinX12 hown hc hw hI kl_60 sh_60 rfl (by decide) rfl bd_60_16 (hts (.fieldLink RX12 190 "RedTentModel" "bodies" "I") (List.mem_cons_of_mem _ tw_5_136)) (fun _ h9 => h9) dX12_count_82 (fun x3 ex3 bx3 => ?_)
    exact W.iret (v := x3) hx hb hr (fun t ht hW => ⟨x3, rfl, trivial, ht⟩) (fun _ h => absurd h List.not_mem_nil) dX12_count_85
  · refine lv_tableIn (off := 85) (tgt := 86) hx hb dX12_count_1 (by rw [c1]; decide) (by rw [c1]; decide) (by rw [c1]; decide) (by decide) ?_
    have zc1 : p0.toInt = 2 := by rw [c1]; rfl
    refine lv_aload_n hx hb dX12_count_86 rfl (lv_at hl 0 rfl) ?_
    refine fm_getI (a := 60) (j := 5) (T := TX12) (N := 79) hx hb hts hinX12 hown hc hw hI kl_60 sh_60 rfl (by decide) rfl bd_60_5 (hts (.fieldLink RX12 211 "RedTentModel" "winds" "I") (List.mem_cons_of_mem _ tw_5_125)) (fun _ h9 => h9) dX12_count_87 (fun x4 ex4 bx4 => ?_)
    exact W.iret (v := x4) hx hb hr (fun t ht hW => ⟨x4, rfl, trivial, ht⟩) (fun _ h => absurd h List.not_mem_nil) dX12_count_90
  · refine lv_tableIn (off := 90) (tgt := 91) hx hb dX12_count_1 (by rw [c1]; decide) (by rw [c1]; decide) (by rw [c1]; decide) (by decide) ?_
    have zc1 : p0.toInt = 3 := by rw [c1]; rfl
    refine lv_aload_n hx hb dX12_count_91 rfl (lv_at hl 0 rfl) ?_
    refine fm_getI (a := 60) (j := 21) (T := TX12) (N := 79) hx hb hts hinX12 hown hc hw hI kl_60 sh_60 rfl (by decide) rfl bd_60_21 (hts (.fieldLink RX12 223 "RedTentModel" "fixings" "I") (List.mem_cons_of_mem _ tw_5_141)) (fun _ h9 => h9) dX12_count_92 (fun x5 ex5 bx5 => ?_)
    exact W.iret (v := x5) hx hb hr (fun t ht hW => ⟨x5, rfl, trivial, ht⟩) (fun _ h => absurd h List.not_mem_nil) dX12_count_95
  · refine lv_tableIn (off := 95) (tgt := 96) hx hb dX12_count_1 (by rw [c1]; decide) (by rw [c1]; decide) (by rw [c1]; decide) (by decide) ?_
    have zc1 : p0.toInt = 4 := by rw [c1]; rfl
    refine lv_aload_n hx hb dX12_count_96 rfl (lv_at hl 0 rfl) ?_
    refine fm_getI (a := 60) (j := 23) (T := TX12) (N := 79) hx hb hts hinX12 hown hc hw hI kl_60 sh_60 rfl (by decide) rfl bd_60_23 (hts (.fieldLink RX12 246 "RedTentModel" "hearers" "I") (List.mem_cons_of_mem _ tw_5_143)) (fun _ h9 => h9) dX12_count_97 (fun x6 ex6 bx6 => ?_)
    exact W.iret (v := x6) hx hb hr (fun t ht hW => ⟨x6, rfl, trivial, ht⟩) (fun _ h => absurd h List.not_mem_nil) dX12_count_100
  · refine lv_tableIn (off := 100) (tgt := 101) hx hb dX12_count_1 (by rw [c1]; decide) (by rw [c1]; decide) (by rw [c1]; decide) (by decide) ?_
    have zc1 : p0.toInt = 5 := by rw [c1]; rfl
    refine lv_aload_n hx hb dX12_count_101 rfl (lv_at hl 0 rfl) ?_
    refine fm_getI (a := 60) (j := 30) (T := TX12) (N := 79) hx hb hts hinX12 hown hc hw hI kl_60 sh_60 rfl (by decide) rfl bd_60_30 (hts (.fieldLink RX12 252 "RedTentModel" "calls" "I") (List.mem_cons_of_mem _ tw_5_150)) (fun _ h9 => h9) dX12_count_102 (fun x7 ex7 bx7 => ?_)
    exact W.iret (v := x7) hx hb hr (fun t ht hW => ⟨x7, rfl, trivial, ht⟩) (fun _ h => absurd h List.not_mem_nil) dX12_count_105
  · refine lv_tableIn (off := 105) (tgt := 106) hx hb dX12_count_1 (by rw [c1]; decide) (by rw [c1]; decide) (by rw [c1]; decide) (by decide) ?_
    have zc1 : p0.toInt = 6 := by rw [c1]; rfl
    refine lv_aload_n hx hb dX12_count_106 rfl (lv_at hl 0 rfl) ?_
    refine fm_getI (a := 60) (j := 34) (T := TX12) (N := 79) hx hb hts hinX12 hown hc hw hI kl_60 sh_60 rfl (by decide) rfl bd_60_34 (hts (.fieldLink RX12 263 "RedTentModel" "parts" "I") (List.mem_cons_of_mem _ tw_5_154)) (fun _ h9 => h9) dX12_count_107 (fun x8 ex8 bx8 => ?_)
    exact W.iret (v := x8) hx hb hr (fun t ht hW => ⟨x8, rfl, trivial, ht⟩) (fun _ h => absurd h List.not_mem_nil) dX12_count_110
  · refine lv_tableIn (off := 110) (tgt := 111) hx hb dX12_count_1 (by rw [c1]; decide) (by rw [c1]; decide) (by rw [c1]; decide) (by decide) ?_
    have zc1 : p0.toInt = 7 := by rw [c1]; rfl
    refine lv_aload_n hx hb dX12_count_111 rfl (lv_at hl 0 rfl) ?_
    refine fm_getI (a := 60) (j := 36) (T := TX12) (N := 79) hx hb hts hinX12 hown hc hw hI kl_60 sh_60 rfl (by decide) rfl bd_60_36 (hts (.fieldLink RX12 272 "RedTentModel" "laneMany" "I") (List.mem_cons_of_mem _ tw_5_156)) (fun _ h9 => h9) dX12_count_112 (fun x9 ex9 bx9 => ?_)
    exact W.iret (v := x9) hx hb hr (fun t ht hW => ⟨x9, rfl, trivial, ht⟩) (fun _ h => absurd h List.not_mem_nil) dX12_count_115
  · refine lv_tableIn (off := 115) (tgt := 116) hx hb dX12_count_1 (by rw [c1]; decide) (by rw [c1]; decide) (by rw [c1]; decide) (by decide) ?_
    have zc1 : p0.toInt = 8 := by rw [c1]; rfl
    refine lv_aload_n hx hb dX12_count_116 rfl (lv_at hl 0 rfl) ?_
    refine fm_getI (a := 60) (j := 44) (T := TX12) (N := 79) hx hb hts hinX12 hown hc hw hI kl_60 sh_60 rfl (by decide) rfl bd_60_44 (hts (.fieldLink RX12 320 "RedTentModel" "men" "I") (List.mem_cons_of_mem _ tw_5_164)) (fun _ h9 => h9) dX12_count_117 (fun x10 ex10 bx10 => ?_)
    exact W.iret (v := x10) hx hb hr (fun t ht hW => ⟨x10, rfl, trivial, ht⟩) (fun _ h => absurd h List.not_mem_nil) dX12_count_120
  · refine lv_tableIn (off := 120) (tgt := 121) hx hb dX12_count_1 (by rw [c1]; decide) (by rw [c1]; decide) (by rw [c1]; decide) (by decide) ?_
    have zc1 : p0.toInt = 9 := by rw [c1]; rfl
    refine lv_aload_n hx hb dX12_count_121 rfl (lv_at hl 0 rfl) ?_
    refine fm_getI (a := 60) (j := 48) (T := TX12) (N := 79) hx hb hts hinX12 hown hc hw hI kl_60 sh_60 rfl (by decide) rfl bd_60_48 (hts (.fieldLink RX12 440 "RedTentModel" "stories" "I") (List.mem_cons_of_mem _ tw_5_168)) (fun _ h9 => h9) dX12_count_122 (fun x11 ex11 bx11 => ?_)
    exact W.iret (v := x11) hx hb hr (fun t ht hW => ⟨x11, rfl, trivial, ht⟩) (fun _ h => absurd h List.not_mem_nil) dX12_count_125
  · refine lv_tableIn (off := 125) (tgt := 126) hx hb dX12_count_1 (by rw [c1]; decide) (by rw [c1]; decide) (by rw [c1]; decide) (by decide) ?_
    have zc1 : p0.toInt = 10 := by rw [c1]; rfl
    refine lv_aload_n hx hb dX12_count_126 rfl (lv_at hl 0 rfl) ?_
    refine fm_getI (a := 60) (j := 50) (T := TX12) (N := 79) hx hb hts hinX12 hown hc hw hI kl_60 sh_60 rfl (by decide) rfl bd_60_50 (hts (.fieldLink RX12 448 "RedTentModel" "rows" "I") (List.mem_cons_of_mem _ tw_5_170)) (fun _ h9 => h9) dX12_count_127 (fun x12 ex12 bx12 => ?_)
    exact W.iret (v := x12) hx hb hr (fun t ht hW => ⟨x12, rfl, trivial, ht⟩) (fun _ h => absurd h List.not_mem_nil) dX12_count_130
  · refine lv_tableIn (off := 130) (tgt := 131) hx hb dX12_count_1 (by rw [c1]; decide) (by rw [c1]; decide) (by rw [c1]; decide) (by decide) ?_
    have zc1 : p0.toInt = 11 := by rw [c1]; rfl
    refine lv_aload_n hx hb dX12_count_131 rfl (lv_at hl 0 rfl) ?_
    refine fm_getI (a := 60) (j := 55) (T := TX12) (N := 79) hx hb hts hinX12 hown hc hw hI kl_60 sh_60 rfl (by decide) rfl bd_60_55 (hts (.fieldLink RX12 182 "RedTentModel" "texts" "I") (List.mem_cons_of_mem _ tw_5_175)) (fun _ h9 => h9) dX12_count_132 (fun x13 ex13 bx13 => ?_)
    exact W.iret (v := x13) hx hb hr (fun t ht hW => ⟨x13, rfl, trivial, ht⟩) (fun _ h => absurd h List.not_mem_nil) dX12_count_135
  · refine lv_tableIn (off := 135) (tgt := 136) hx hb dX12_count_1 (by rw [c1]; decide) (by rw [c1]; decide) (by rw [c1]; decide) (by decide) ?_
    have zc1 : p0.toInt = 12 := by rw [c1]; rfl
    refine lv_aload_n hx hb dX12_count_136 rfl (lv_at hl 0 rfl) ?_
    refine fm_getI (a := 60) (j := 52) (T := TX12) (N := 79) hx hb hts hinX12 hown hc hw hI kl_60 sh_60 rfl (by decide) rfl bd_60_52 (hts (.fieldLink RX12 323 "RedTentModel" "tapeMany" "I") (List.mem_cons_of_mem _ tw_5_172)) (fun _ h9 => h9) dX12_count_137 (fun x14 ex14 bx14 => ?_)
    exact W.iret (v := x14) hx hb hr (fun t ht hW => ⟨x14, rfl, trivial, ht⟩) (fun _ h => absurd h List.not_mem_nil) dX12_count_140
  · refine lv_tableIn (off := 140) (tgt := 141) hx hb dX12_count_1 (by rw [c1]; decide) (by rw [c1]; decide) (by rw [c1]; decide) (by decide) ?_
    have zc1 : p0.toInt = 13 := by rw [c1]; rfl
    refine lv_aload_n hx hb dX12_count_141 rfl (lv_at hl 0 rfl) ?_
    refine fm_getI (a := 60) (j := 56) (T := TX12) (N := 79) hx hb hts hinX12 hown hc hw hI kl_60 sh_60 rfl (by decide) rfl bd_60_56 (hts (.fieldLink RX12 431 "RedTentModel" "order" "I") (List.mem_cons_of_mem _ tw_5_176)) (fun _ h9 => h9) dX12_count_142 (fun x15 ex15 bx15 => ?_)
    exact W.iret (v := x15) hx hb hr (fun t ht hW => ⟨x15, rfl, trivial, ht⟩) (fun _ h => absurd h List.not_mem_nil) dX12_count_145
  · refine lv_tableIn (off := 145) (tgt := 146) hx hb dX12_count_1 (by rw [c1]; decide) (by rw [c1]; decide) (by rw [c1]; decide) (by decide) ?_
    have zc1 : p0.toInt = 14 := by rw [c1]; rfl
    refine lv_aload_n hx hb dX12_count_146 rfl (lv_at hl 0 rfl) ?_
    refine fm_getI (a := 60) (j := 1) (T := TX12) (N := 79) hx hb hts hinX12 hown hc hw hI kl_60 sh_60 rfl (by decide) rfl bd_60_1 (hts (.fieldLink RX12 307 "RedTentModel" "stay" "I") (List.mem_cons_of_mem _ tw_5_121)) (fun _ h9 => h9) dX12_count_147 (fun x16 ex16 bx16 => ?_)
    exact W.iret (v := x16) hx hb hr (fun t ht hW => ⟨x16, rfl, trivial, ht⟩) (fun _ h => absurd h List.not_mem_nil) dX12_count_150
set_option maxHeartbeats 400000 in
set_option maxRecDepth 20000 in
theorem fc_X12_sheet (l : Launch) (D : va_G) (ad : Nat → Nat → Nat) (C : Nat → Nat → ClassId) (nb : Nat) (M : fm_M) (hI : fm_I nb ad M) (p0 p1 p2 : Int32) : Met l yX12_sheet wsX12_sheet ({ frames := 2, cells := 0, slots := 0, locals := 42 }) (va_Pc [.ref (ad 60 0), .int p0, .int p1, .int p2] (fm_P D ad C nb M)) (va_Qi (fun (r : Int32) (u : fm_M) => fm_I nb ad u ∧ fm_same [175000, 176000, 177000] M u ∧ (((¬ (0 ≤ p0.toInt ∧ p0.toInt ≤ 3 ∧ -1 ≤ p1.toInt ∧ p1.toInt ≤ 2) ∨ (0 ≤ p1.toInt ∧ 40 < p2.toInt)) ∧ r.toInt = -2 ∧ (∀ j : Nat, u.1 175 0 j = M.1 175 0 j) ∧ (∀ j : Nat, u.1 176 0 j = M.1 176 0 j)) ∨ ((0 ≤ p0.toInt ∧ p0.toInt ≤ 3 ∧ 0 ≤ p1.toInt ∧ p1.toInt ≤ 2 ∧ p2.toInt < 0) ∧ r.toInt = -14 ∧ (∀ j : Nat, u.1 175 0 j = M.1 175 0 j) ∧ (∀ j : Nat, u.1 176 0 j = M.1 176 0 j)) ∨ ((0 ≤ p0.toInt ∧ p0.toInt ≤ 3 ∧ -1 ≤ p1.toInt ∧ p1.toInt ≤ 2 ∧ (p1.toInt = -1 ∨ (0 ≤ p2.toInt ∧ p2.toInt ≤ 40))) ∧ r.toInt = 1 ∧ (∀ j : Nat, u.1 175 0 j = if j = p0.toNatClampNeg then p1 else M.1 175 0 j) ∧ (∀ j : Nat, u.1 176 0 j = if j = p0.toNatClampNeg then (if p1.toInt < 0 then 0 else p2) else M.1 176 0 j)))) (fun u t => fm_at D ad C nb u t.heap) (fm_A nb ad)) 0 0 (fm_A nb ad) := by
  refine Met.ofW (cc := cX12_sheet) (maxL := 5) (ret := (some .int)) (by decide) rfl ?_
  intro p e s m args below meth c s₁ B hml hv
  obtain ⟨rfl, hw, hc⟩ := hv
  have hx := B.exec
  have hb := B.bytes
  have hr := B.returns
  have hts := atoms_spec (ws := wsX12_sheet) B.pre
  have hown : s.vm.findClass RX12 = some m.cls := findClass_of_methodNamed B.named
  have hinX12 : ∀ w ∈ u_ws RX12 TX12 79, w ∈ wsX12_sheet := fun w h => List.mem_cons_of_mem _ (iT_X12 w h)
  have hS : va_S (fm_A nb ad) s.heap s.heap [] := va_S.rf
  have hE : fm_same [175000, 176000, 177000] M M := fm_same.rf
  have hl := lv_entry ([.ref (ad 60 0), .int p0, .int p1, .int p2]) (n := 5) (Nat.le_of_ble_eq_true rfl)
  rw [lg_entry_eq]
  generalize (lg_sl ([.ref (ad 60 0), .int p0, .int p1, .int p2]) ++ List.replicate (5 - (lg_sl ([.ref (ad 60 0), .int p0, .int p1, .int p2])).length) Slot.unset).toArray = ls at hl ⊢
  have hl : lv_has ls 5 [(0, .ref (ad 60 0)), (1, .int p0), (2, .int p1), (3, .int p2)] := hl
  refine lv_iload_n hx hb dX12_sheet_0 rfl (lv_at hl 1 rfl) ?_
  refine vp_callSi (va_Run.run (va_runS (As := [.int p0]) (rest := []) ⟨hx, hb, hml, hown, hts⟩ (fc_X12_isSheet l p0) (va_cwS 1 hts gX12_sheet_X12_isSheet rfl rfl rfl (by decide +kernel) ⟨Nat.le_of_ble_eq_true rfl, Nat.le_of_ble_eq_true rfl⟩) ⟨fun a U g mk q => q, fun U hU hW => ⟨rfl, trivial⟩⟩ rfl rfl hl.1 rfl (lv_room (Nat.le_of_ble_eq_true rfl)) dX12_sheet_1 ⟨by decide +kernel, by decide +kernel⟩)) (fun r1 hr1 => ?_)
  rcases hr1 with ⟨rfl, c2⟩ | ⟨rfl, c2⟩
  · refine fx_if_eq (tgt := 26) hx hb dX12_sheet_4 (by decide) zk_1 (fun c3 => by exfalso; omega) (fun c3 => ?_)
    refine lv_iload_n hx hb dX12_sheet_7 rfl (lv_at hl 2 rfl) ?_
    refine lv_iconst (v := (-1)) hx hb dX12_sheet_8 (by decide) ?_
    refine lv_iconst (v := 2) hx hb dX12_sheet_9 (by decide) ?_
    have zz4 := zk_m1
    have zz5 := zk_2
    refine vp_callSi (va_Run.run (va_runS (As := [.int p1, .int (-1), .int 2]) (rest := []) ⟨hx, hb, hml, hown, hts⟩ (fc_X12_within l p1 (-1) 2) (va_cwS 3 hts gX12_sheet_X12_within rfl rfl rfl (by decide +kernel) ⟨Nat.le_of_ble_eq_true rfl, Nat.le_of_ble_eq_true rfl⟩) ⟨fun a U g mk q => q, fun U hU hW => ⟨rfl, trivial⟩⟩ rfl rfl hl.1 rfl (lv_room (Nat.le_of_ble_eq_true rfl)) dX12_sheet_10 ⟨by decide +kernel, by decide +kernel⟩)) (fun r6 hr6 => ?_)
    rcases hr6 with ⟨rfl, c7⟩ | ⟨rfl, c7⟩
    · refine fx_if_eq (tgt := 26) hx hb dX12_sheet_13 (by decide) zk_1 (fun c8 => by exfalso; omega) (fun c8 => ?_)
      refine lv_iload_n hx hb dX12_sheet_16 rfl (lv_at hl 2 rfl) ?_
      refine fx_if_lt (tgt := 29) hx hb dX12_sheet_17 (by decide) rfl (fun c9 => ?_) (fun c9 => ?_)
      · refine lv_iload_n hx hb dX12_sheet_29 rfl (lv_at hl 2 rfl) ?_
        refine fx_if_lt (tgt := 40) hx hb dX12_sheet_30 (by decide) rfl (fun c10 => ?_) (fun c10 => by exfalso; omega)
        refine lv_aload_n hx hb dX12_sheet_40 rfl (lv_at hl 0 rfl) ?_
        refine fm_getG (a := 60) (j := 75) (T := TX12) (N := 79) hx hb hts hinX12 hown hc hw kl_60 sh_60 rfl (by decide) rfl (hI.to kl_60 tg_60_75) (hts (.fieldLink RX12 158 "RedTentModel" "sort" "[I") (List.mem_cons_of_mem _ tw_5_195)) (fun _ h9 => h9) dX12_sheet_41 ?_
        refine lv_iload_n hx hb dX12_sheet_44 rfl (lv_at hl 1 rfl) ?_
        refine lv_iload_n hx hb dX12_sheet_45 rfl (lv_at hl 2 rfl) ?_
        refine fm_iast (a := 175) hx hb hc hw hI hE hS kl_175 sh_175 ty_175 bd_175 (by omega) (by omega) cd_175 (by decide) dX12_sheet_46 (fun M11 H locs eM11 hw hI hE hS => ?_)
        refine lv_aload_n hx hb dX12_sheet_47 rfl (lv_at hl 0 rfl) ?_
        refine fm_getG (a := 60) (j := 76) (T := TX12) (N := 79) hx hb hts hinX12 hown hc hw kl_60 sh_60 rfl (by decide) rfl (hI.to kl_60 tg_60_76) (hts (.fieldLink RX12 161 "RedTentModel" "many" "[I") (List.mem_cons_of_mem _ tw_5_196)) (fun _ h9 => h9) dX12_sheet_48 ?_
        refine lv_iload_n hx hb dX12_sheet_51 rfl (lv_at hl 1 rfl) ?_
        refine lv_iload_n hx hb dX12_sheet_52 rfl (lv_at hl 2 rfl) ?_
        refine fx_if_ge (tgt := 60) hx hb dX12_sheet_53 (by decide) rfl (fun c12 => by exfalso; omega) (fun c12 => ?_)
        refine lv_iconst (v := 0) hx hb dX12_sheet_56 (by decide) ?_
        refine lv_goto (tgt := 61) hx hb dX12_sheet_57 (by decide) ?_
        refine fm_iast (a := 176) hx hb hc hw hI hE hS kl_176 sh_176 ty_176 bd_176 (by omega) (by decide) cd_176 (by decide) dX12_sheet_61 (fun M13 H locs eM13 hw hI hE hS => ?_)
        refine lv_bipush (v := 40) hx hb dX12_sheet_62 (by decide) ?_
        refine lv_iload_n hx hb dX12_sheet_64 rfl (lv_at hl 1 rfl) ?_
        refine fx_imul hx hb dX12_sheet_65 zk_40 rfl (by omega) (fun y14 ey14 ty14 => ?_)
        refine lv_istore (lv' := [(4, .int y14), (0, .ref (ad 60 0)), (1, .int p0), (2, .int p1), (3, .int p2)]) hx hb dX12_sheet_66 hl (by decide) rfl (fun ls hl => ?_)
        have lp : ∀ (n_lp : Nat) (lp_4 : Int32) (M_lp : fm_M), (160 - lp_4.toInt).toNat < n_lp → (0 ≤ lp_4.toInt ∧ lp_4.toInt ≤ 160) → (0 ≤ p0.toInt ∧ p0.toInt ≤ 3 ∧ -1 ≤ p1.toInt ∧ p1.toInt ≤ 2 ∧ (p1.toInt = -1 ∨ (0 ≤ p2.toInt ∧ p2.toInt ≤ 40))) → (∀ j : Nat, M_lp.1 175 0 j = if j = p0.toNatClampNeg then p1 else M.1 175 0 j) → (∀ j : Nat, M_lp.1 176 0 j = if j = p0.toNatClampNeg then (if p1.toInt < 0 then 0 else p2) else M.1 176 0 j) → fm_I nb ad M_lp → fm_same [175000, 176000, 177000] M M_lp → ∀ (H : Heap) (locs : List Loc), fm_at D ad C nb M_lp H → va_S (fm_A nb ad) s.heap H locs → ∀ (ls : Array Slot), lv_has ls 5 [(4, .int lp_4), (0, .ref (ad 60 0)), (1, .int p0), (2, .int p1), (3, .int p2)] → W p l e (headSpec wsX12_sheet ({ frames := 2, cells := 0, slots := 0, locals := 42 })).room s m ([.ref (ad 60 0), .int p0, .int p1, .int p2] : List Value).toArray below meth c H locs 0 0 (MQ below (va_Qi (fun (r : Int32) (u : fm_M) => fm_I nb ad u ∧ fm_same [175000, 176000, 177000] M u ∧ (((¬ (0 ≤ p0.toInt ∧ p0.toInt ≤ 3 ∧ -1 ≤ p1.toInt ∧ p1.toInt ≤ 2) ∨ (0 ≤ p1.toInt ∧ 40 < p2.toInt)) ∧ r.toInt = -2 ∧ (∀ j : Nat, u.1 175 0 j = M.1 175 0 j) ∧ (∀ j : Nat, u.1 176 0 j = M.1 176 0 j)) ∨ ((0 ≤ p0.toInt ∧ p0.toInt ≤ 3 ∧ 0 ≤ p1.toInt ∧ p1.toInt ≤ 2 ∧ p2.toInt < 0) ∧ r.toInt = -14 ∧ (∀ j : Nat, u.1 175 0 j = M.1 175 0 j) ∧ (∀ j : Nat, u.1 176 0 j = M.1 176 0 j)) ∨ ((0 ≤ p0.toInt ∧ p0.toInt ≤ 3 ∧ -1 ≤ p1.toInt ∧ p1.toInt ≤ 2 ∧ (p1.toInt = -1 ∨ (0 ≤ p2.toInt ∧ p2.toInt ≤ 40))) ∧ r.toInt = 1 ∧ (∀ j : Nat, u.1 175 0 j = if j = p0.toNatClampNeg then p1 else M.1 175 0 j) ∧ (∀ j : Nat, u.1 176 0 j = if j = p0.toNatClampNeg then (if p1.toInt < 0 then 0 else p2) else M.1 176 0 j)))) (fun u t => fm_at D ad C nb u t.heap) (fm_A nb ad)) ([.ref (ad 60 0), .int p0, .int p1, .int p2] : List Value).toArray s 0 0 (fm_A nb ad)) (F0 m 68 ls []) := by
          intro n_lp
          induction n_lp with
          | zero => intro lp_4 M_lp hm_lp b_lp_4 hg hk1 hk2 hI hE H locs hw hS ls hl; exact absurd hm_lp (Nat.not_lt_zero _)
          | succ n_lp ih_lp =>
            intro lp_4 M_lp hm_lp b_lp_4 hg hk1 hk2 hI hE H locs hw hS ls hl
            refine lv_iload hx hb dX12_sheet_68 (lv_at hl 0 rfl) ?_
            refine lv_bipush (v := 40) hx hb dX12_sheet_70 (by decide) ?_
            refine lv_iload_n hx hb dX12_sheet_72 rfl (lv_at hl 2 rfl) ?_
            refine fx_imul hx hb dX12_sheet_73 zk_40 rfl (by omega) (fun y15 ey15 ty15 => ?_)
            refine lv_bipush (v := 40) hx hb dX12_sheet_74 (by decide) ?_
            refine fx_iadd hx hb dX12_sheet_76 rfl zk_40 (by omega) (fun y16 ey16 ty16 => ?_)
            refine fx_icmp_ge (tgt := 94) hx hb dX12_sheet_77 (by decide) rfl rfl (fun c17 => ?_) (fun c17 => ?_)
            · refine lv_iconst (v := 1) hx hb dX12_sheet_94 (by decide) ?_
              exact W.iret (v := 1) hx hb hr (fun t ht hW => ⟨⟨1, M_lp, rfl, ⟨hI, hE, Or.inr (Or.inr ⟨by omega, zk_1, hk1, hk2⟩)⟩, by show fm_at D ad C nb _ t.heap; rw [ht]; exact hw⟩, hS.F ht⟩) hS.2.2 dX12_sheet_95
            · refine lv_aload_n hx hb dX12_sheet_80 rfl (lv_at hl 1 rfl) ?_
              refine fm_getG (a := 60) (j := 77) (T := TX12) (N := 79) hx hb hts hinX12 hown hc hw kl_60 sh_60 rfl (by decide) rfl (hI.to kl_60 tg_60_77) (hts (.fieldLink RX12 164 "RedTentModel" "items" "[I") (List.mem_cons_of_mem _ tw_5_197)) (fun _ h9 => h9) dX12_sheet_81 ?_
              refine lv_iload hx hb dX12_sheet_84 (lv_at hl 0 rfl) ?_
              refine lv_iconst (v := 0) hx hb dX12_sheet_86 (by decide) ?_
              refine fm_iast (a := 177) hx hb hc hw hI hE hS kl_177 sh_177 ty_177 bd_177 (by omega) (by decide) cd_177 (by decide) dX12_sheet_87 (fun M18 H locs eM18 hw hI hE hS => ?_)
              obtain ⟨y19, ey19⟩ : ∃ y : Int32, y = lp_4 + 1 := ⟨_, rfl⟩
              have ty19 : y19.toInt = lp_4.toInt + 1 := by rw [ey19, zi_add _ _ (by rw [zk_1]; omega) (by rw [zk_1]; omega), zk_1]
              refine lv_iinc (v := y19) (lv' := [(4, .int y19), (0, .ref (ad 60 0)), (1, .int p0), (2, .int p1), (3, .int p2)]) hx hb dX12_sheet_88 hl (k := 0) rfl (by rw [ey19]; rfl) (by decide) rfl (fun ls hl => ?_)
              refine lv_goto (tgt := 68) hx hb dX12_sheet_91 (by decide) ?_
              exact ih_lp y19 M18 (by omega) (by omega) (by omega) (fun j => by rw [eM18, fm_wI_nj (fun z => absurd z.1 (by decide))]; exact hk1 j) (fun j => by rw [eM18, fm_wI_nj (fun z => absurd z.1 (by decide))]; exact hk2 j) hI hE _ _ hw hS ls (lv_sub hl [0, 1, 2, 3, 4] rfl)
        exact lp _ y14 M13 (Nat.lt_succ_self _) (by omega) (by omega) (fun j => by rw [eM13, fm_wI_nj (fun z => absurd z.1 (by decide)), eM11, fm_wI_ar]) (fun j => by rw [eM13, fm_wI_ar, eM11, fm_wI_nj (fun z => absurd z.1 (by decide)), if_pos (show p1.toInt < 0 by omega)]) hI hE _ _ hw hS ls (lv_sub hl [0, 1, 2, 3, 4] rfl)
      · refine lv_iload_n hx hb dX12_sheet_20 rfl (lv_at hl 3 rfl) ?_
        refine lv_bipush (v := 40) hx hb dX12_sheet_21 (by decide) ?_
        refine fx_icmp_le (tgt := 29) hx hb dX12_sheet_23 (by decide) rfl zk_40 (fun c20 => ?_) (fun c20 => ?_)
        · refine lv_iload_n hx hb dX12_sheet_29 rfl (lv_at hl 2 rfl) ?_
          refine fx_if_lt (tgt := 40) hx hb dX12_sheet_30 (by decide) rfl (fun c21 => by exfalso; omega) (fun c21 => ?_)
          refine lv_iload_n hx hb dX12_sheet_33 rfl (lv_at hl 3 rfl) ?_
          refine fx_if_ge (tgt := 40) hx hb dX12_sheet_34 (by decide) rfl (fun c22 => ?_) (fun c22 => ?_)
          · refine lv_aload_n hx hb dX12_sheet_40 rfl (lv_at hl 0 rfl) ?_
            refine fm_getG (a := 60) (j := 75) (T := TX12) (N := 79) hx hb hts hinX12 hown hc hw kl_60 sh_60 rfl (by decide) rfl (hI.to kl_60 tg_60_75) (hts (.fieldLink RX12 158 "RedTentModel" "sort" "[I") (List.mem_cons_of_mem _ tw_5_195)) (fun _ h9 => h9) dX12_sheet_41 ?_
            refine lv_iload_n hx hb dX12_sheet_44 rfl (lv_at hl 1 rfl) ?_
            refine lv_iload_n hx hb dX12_sheet_45 rfl (lv_at hl 2 rfl) ?_
            refine fm_iast (a := 175) hx hb hc hw hI hE hS kl_175 sh_175 ty_175 bd_175 (by omega) (by omega) cd_175 (by decide) dX12_sheet_46 (fun M23 H locs eM23 hw hI hE hS => ?_)
            refine lv_aload_n hx hb dX12_sheet_47 rfl (lv_at hl 0 rfl) ?_
            refine fm_getG (a := 60) (j := 76) (T := TX12) (N := 79) hx hb hts hinX12 hown hc hw kl_60 sh_60 rfl (by decide) rfl (hI.to kl_60 tg_60_76) (hts (.fieldLink RX12 161 "RedTentModel" "many" "[I") (List.mem_cons_of_mem _ tw_5_196)) (fun _ h9 => h9) dX12_sheet_48 ?_
            refine lv_iload_n hx hb dX12_sheet_51 rfl (lv_at hl 1 rfl) ?_
            refine lv_iload_n hx hb dX12_sheet_52 rfl (lv_at hl 2 rfl) ?_
            refine fx_if_ge (tgt := 60) hx hb dX12_sheet_53 (by decide) rfl (fun c24 => ?_) (fun c24 => by exfalso; omega)
            refine lv_iload_n hx hb dX12_sheet_60 rfl (lv_at hl 3 rfl) ?_
            refine fm_iast (a := 176) hx hb hc hw hI hE hS kl_176 sh_176 ty_176 bd_176 (by omega) (by omega) cd_176 (by decide) dX12_sheet_61 (fun M25 H locs eM25 hw hI hE hS => ?_)
            refine lv_bipush (v := 40) hx hb dX12_sheet_62 (by decide) ?_
            refine lv_iload_n hx hb dX12_sheet_64 rfl (lv_at hl 1 rfl) ?_
            refine fx_imul hx hb dX12_sheet_65 zk_40 rfl (by omega) (fun y26 ey26 ty26 => ?_)
            refine lv_istore (lv' := [(4, .int y26), (0, .ref (ad 60 0)), (1, .int p0), (2, .int p1), (3, .int p2)]) hx hb dX12_sheet_66 hl (by decide) rfl (fun ls hl => ?_)
            have lp : ∀ (n_lp : Nat) (lp_4 : Int32) (M_lp : fm_M), (160 - lp_4.toInt).toNat < n_lp → (0 ≤ lp_4.toInt ∧ lp_4.toInt ≤ 160) → (0 ≤ p0.toInt ∧ p0.toInt ≤ 3 ∧ -1 ≤ p1.toInt ∧ p1.toInt ≤ 2 ∧ (p1.toInt = -1 ∨ (0 ≤ p2.toInt ∧ p2.toInt ≤ 40))) → (∀ j : Nat, M_lp.1 175 0 j = if j = p0.toNatClampNeg then p1 else M.1 175 0 j) → (∀ j : Nat, M_lp.1 176 0 j = if j = p0.toNatClampNeg then (if p1.toInt < 0 then 0 else p2) else M.1 176 0 j) → fm_I nb ad M_lp → fm_same [175000, 176000, 177000] M M_lp → ∀ (H : Heap) (locs : List Loc), fm_at D ad C nb M_lp H → va_S (fm_A nb ad) s.heap H locs → ∀ (ls : Array Slot), lv_has ls 5 [(4, .int lp_4), (0, .ref (ad 60 0)), (1, .int p0), (2, .int p1), (3, .int p2)] → W p l e (headSpec wsX12_sheet ({ frames := 2, cells := 0, slots := 0, locals := 42 })).room s m ([.ref (ad 60 0), .int p0, .int p1, .int p2] : List Value).toArray below meth c H locs 0 0 (MQ below (va_Qi (fun (r : Int32) (u : fm_M) => fm_I nb ad u ∧ fm_same [175000, 176000, 177000] M u ∧ (((¬ (0 ≤ p0.toInt ∧ p0.toInt ≤ 3 ∧ -1 ≤ p1.toInt ∧ p1.toInt ≤ 2) ∨ (0 ≤ p1.toInt ∧ 40 < p2.toInt)) ∧ r.toInt = -2 ∧ (∀ j : Nat, u.1 175 0 j = M.1 175 0 j) ∧ (∀ j : Nat, u.1 176 0 j = M.1 176 0 j)) ∨ ((0 ≤ p0.toInt ∧ p0.toInt ≤ 3 ∧ 0 ≤ p1.toInt ∧ p1.toInt ≤ 2 ∧ p2.toInt < 0) ∧ r.toInt = -14 ∧ (∀ j : Nat, u.1 175 0 j = M.1 175 0 j) ∧ (∀ j : Nat, u.1 176 0 j = M.1 176 0 j)) ∨ ((0 ≤ p0.toInt ∧ p0.toInt ≤ 3 ∧ -1 ≤ p1.toInt ∧ p1.toInt ≤ 2 ∧ (p1.toInt = -1 ∨ (0 ≤ p2.toInt ∧ p2.toInt ≤ 40))) ∧ r.toInt = 1 ∧ (∀ j : Nat, u.1 175 0 j = if j = p0.toNatClampNeg then p1 else M.1 175 0 j) ∧ (∀ j : Nat, u.1 176 0 j = if j = p0.toNatClampNeg then (if p1.toInt < 0 then 0 else p2) else M.1 176 0 j)))) (fun u t => fm_at D ad C nb u t.heap) (fm_A nb ad)) ([.ref (ad 60 0), .int p0, .int p1, .int p2] : List Value).toArray s 0 0 (fm_A nb ad)) (F0 m 68 ls []) := by
              intro n_lp
              induction n_lp with
              | zero => intro lp_4 M_lp hm_lp b_lp_4 hg hk1 hk2 hI hE H locs hw hS ls hl; exact absurd hm_lp (Nat.not_lt_zero _)
              | succ n_lp ih_lp =>
                intro lp_4 M_lp hm_lp b_lp_4 hg hk1 hk2 hI hE H locs hw hS ls hl
                refine lv_iload hx hb dX12_sheet_68 (lv_at hl 0 rfl) ?_
                refine lv_bipush (v := 40) hx hb dX12_sheet_70 (by decide) ?_
                refine lv_iload_n hx hb dX12_sheet_72 rfl (lv_at hl 2 rfl) ?_
                refine fx_imul hx hb dX12_sheet_73 zk_40 rfl (by omega) (fun y27 ey27 ty27 => ?_)
                refine lv_bipush (v := 40) hx hb dX12_sheet_74 (by decide) ?_
                refine fx_iadd hx hb dX12_sheet_76 rfl zk_40 (by omega) (fun y28 ey28 ty28 => ?_)
                refine fx_icmp_ge (tgt := 94) hx hb dX12_sheet_77 (by decide) rfl rfl (fun c29 => ?_) (fun c29 => ?_)
                · refine lv_iconst (v := 1) hx hb dX12_sheet_94 (by decide) ?_
                  exact W.iret (v := 1) hx hb hr (fun t ht hW => ⟨⟨1, M_lp, rfl, ⟨hI, hE, Or.inr (Or.inr ⟨by omega, zk_1, hk1, hk2⟩)⟩, by show fm_at D ad C nb _ t.heap; rw [ht]; exact hw⟩, hS.F ht⟩) hS.2.2 dX12_sheet_95
                · refine lv_aload_n hx hb dX12_sheet_80 rfl (lv_at hl 1 rfl) ?_
                  refine fm_getG (a := 60) (j := 77) (T := TX12) (N := 79) hx hb hts hinX12 hown hc hw kl_60 sh_60 rfl (by decide) rfl (hI.to kl_60 tg_60_77) (hts (.fieldLink RX12 164 "RedTentModel" "items" "[I") (List.mem_cons_of_mem _ tw_5_197)) (fun _ h9 => h9) dX12_sheet_81 ?_
                  refine lv_iload hx hb dX12_sheet_84 (lv_at hl 0 rfl) ?_
                  refine lv_iconst (v := 0) hx hb dX12_sheet_86 (by decide) ?_
                  refine fm_iast (a := 177) hx hb hc hw hI hE hS kl_177 sh_177 ty_177 bd_177 (by omega) (by decide) cd_177 (by decide) dX12_sheet_87 (fun M30 H locs eM30 hw hI hE hS => ?_)
                  obtain ⟨y31, ey31⟩ : ∃ y : Int32, y = lp_4 + 1 := ⟨_, rfl⟩
                  have ty31 : y31.toInt = lp_4.toInt + 1 := by rw [ey31, zi_add _ _ (by rw [zk_1]; omega) (by rw [zk_1]; omega), zk_1]
                  refine lv_iinc (v := y31) (lv' := [(4, .int y31), (0, .ref (ad 60 0)), (1, .int p0), (2, .int p1), (3, .int p2)]) hx hb dX12_sheet_88 hl (k := 0) rfl (by rw [ey31]; rfl) (by decide) rfl (fun ls hl => ?_)
                  refine lv_goto (tgt := 68) hx hb dX12_sheet_91 (by decide) ?_
                  exact ih_lp y31 M30 (by omega) (by omega) (by omega) (fun j => by rw [eM30, fm_wI_nj (fun z => absurd z.1 (by decide))]; exact hk1 j) (fun j => by rw [eM30, fm_wI_nj (fun z => absurd z.1 (by decide))]; exact hk2 j) hI hE _ _ hw hS ls (lv_sub hl [0, 1, 2, 3, 4] rfl)
            exact lp _ y26 M25 (Nat.lt_succ_self _) (by omega) (by omega) (fun j => by rw [eM25, fm_wI_nj (fun z => absurd z.1 (by decide)), eM23, fm_wI_ar]) (fun j => by rw [eM25, fm_wI_ar, eM23, fm_wI_nj (fun z => absurd z.1 (by decide)), if_neg (show ¬ p1.toInt < 0 by omega)]) hI hE _ _ hw hS ls (lv_sub hl [0, 1, 2, 3, 4] rfl)
          · refine lv_bipush (v := (-14)) hx hb dX12_sheet_37 (by decide) ?_
            exact W.iret (v := (-14)) hx hb hr (fun t ht hW => ⟨⟨(-14), M, rfl, ⟨hI, hE, Or.inr (Or.inl ⟨by omega, zk_m14, fun _ => rfl, fun _ => rfl⟩)⟩, by show fm_at D ad C nb _ t.heap; rw [ht]; exact hw⟩, hS.F ht⟩) hS.2.2 dX12_sheet_39
        · refine lv_bipush (v := (-2)) hx hb dX12_sheet_26 (by decide) ?_
          exact W.iret (v := (-2)) hx hb hr (fun t ht hW => ⟨⟨(-2), M, rfl, ⟨hI, hE, Or.inl ⟨by omega, zk_m2, fun _ => rfl, fun _ => rfl⟩⟩, by show fm_at D ad C nb _ t.heap; rw [ht]; exact hw⟩, hS.F ht⟩) hS.2.2 dX12_sheet_28
    · refine fx_if_eq (tgt := 26) hx hb dX12_sheet_13 (by decide) zk_0 (fun c32 => ?_) (fun c32 => by exfalso; omega)
      refine lv_bipush (v := (-2)) hx hb dX12_sheet_26 (by decide) ?_
      exact W.iret (v := (-2)) hx hb hr (fun t ht hW => ⟨⟨(-2), M, rfl, ⟨hI, hE, Or.inl ⟨by omega, zk_m2, fun _ => rfl, fun _ => rfl⟩⟩, by show fm_at D ad C nb _ t.heap; rw [ht]; exact hw⟩, hS.F ht⟩) hS.2.2 dX12_sheet_28
  · refine fx_if_eq (tgt := 26) hx hb dX12_sheet_4 (by decide) zk_0 (fun c33 => ?_) (fun c33 => by exfalso; omega)
    refine lv_bipush (v := (-2)) hx hb dX12_sheet_26 (by decide) ?_
    exact W.iret (v := (-2)) hx hb hr (fun t ht hW => ⟨⟨(-2), M, rfl, ⟨hI, hE, Or.inl ⟨by omega, zk_m2, fun _ => rfl, fun _ => rfl⟩⟩, by show fm_at D ad C nb _ t.heap; rw [ht]; exact hw⟩, hS.F ht⟩) hS.2.2 dX12_sheet_28
set_option maxHeartbeats 400000 in
set_option maxRecDepth 20000 in
theorem fc_X12_cell (l : Launch) (D : va_G) (ad : Nat → Nat → Nat) (C : Nat → Nat → ClassId) (nb : Nat) (M : fm_M) (hI : fm_I nb ad M) (p0 p1 p2 : Int32) : Met l yX12_cell wsX12_cell ({ frames := 2, cells := 0, slots := 0, locals := 42 }) (va_Pc [.ref (ad 60 0), .int p0, .int p1, .int p2] (fm_P D ad C nb M)) (va_Qi (fun (r : Int32) (u : fm_M) => fm_I nb ad u ∧ fm_same [177000] M u ∧ ((¬ (0 ≤ p0.toInt ∧ p0.toInt ≤ 3) ∧ r.toInt = -2) ∨ ((0 ≤ p0.toInt ∧ p0.toInt ≤ 3) ∧ (M.1 175 0 p0.toNatClampNeg).toInt < 0 ∧ r.toInt = -11) ∨ ((0 ≤ p0.toInt ∧ p0.toInt ≤ 3) ∧ 0 ≤ (M.1 175 0 p0.toNatClampNeg).toInt ∧ ¬ (0 ≤ p1.toInt ∧ p1.toInt < (M.1 176 0 p0.toNatClampNeg).toInt) ∧ r.toInt = -12) ∨ ((0 ≤ p0.toInt ∧ p0.toInt ≤ 3) ∧ 0 ≤ (M.1 175 0 p0.toNatClampNeg).toInt ∧ (0 ≤ p1.toInt ∧ p1.toInt < (M.1 176 0 p0.toNatClampNeg).toInt) ∧ r.toInt = 1))) (fun u t => fm_at D ad C nb u t.heap) (fm_A nb ad)) 0 0 (fm_A nb ad) := by
  refine Met.ofW (cc := cX12_cell) (maxL := 4) (ret := (some .int)) (by decide) rfl ?_
  intro p e s m args below meth c s₁ B hml hv
  obtain ⟨rfl, hw, hc⟩ := hv
  have hx := B.exec
  have hb := B.bytes
  have hr := B.returns
  have hts := atoms_spec (ws := wsX12_cell) B.pre
  have hown : s.vm.findClass RX12 = some m.cls := findClass_of_methodNamed B.named
  have hinX12 : ∀ w ∈ u_ws RX12 TX12 79, w ∈ wsX12_cell := fun w h => List.mem_cons_of_mem _ (iT_X12 w h)
  have hS : va_S (fm_A nb ad) s.heap s.heap [] := va_S.rf
  have hE : fm_same [177000] M M := fm_same.rf
  have hl := lv_entry ([.ref (ad 60 0), .int p0, .int p1, .int p2]) (n := 4) (Nat.le_of_ble_eq_true rfl)
  rw [lg_entry_eq]
  generalize (lg_sl ([.ref (ad 60 0), .int p0, .int p1, .int p2]) ++ List.replicate (4 - (lg_sl ([.ref (ad 60 0), .int p0, .int p1, .int p2])).length) Slot.unset).toArray = ls at hl ⊢
  have hl : lv_has ls 4 [(0, .ref (ad 60 0)), (1, .int p0), (2, .int p1), (3, .int p2)] := hl
  refine lv_iload_n hx hb dX12_cell_0 rfl (lv_at hl 1 rfl) ?_
  refine vp_callSi (va_Run.run (va_runS (As := [.int p0]) (rest := []) ⟨hx, hb, hml, hown, hts⟩ (fc_X12_isSheet l p0) (va_cwS 1 hts gX12_cell_X12_isSheet rfl rfl rfl (by decide +kernel) ⟨Nat.le_of_ble_eq_true rfl, Nat.le_of_ble_eq_true rfl⟩) ⟨fun a U g mk q => q, fun U hU hW => ⟨rfl, trivial⟩⟩ rfl rfl hl.1 rfl (lv_room (Nat.le_of_ble_eq_true rfl)) dX12_cell_1 ⟨by decide +kernel, by decide +kernel⟩)) (fun r1 hr1 => ?_)
  rcases hr1 with ⟨rfl, c2⟩ | ⟨rfl, c2⟩
  · refine fx_if_ne (tgt := 10) hx hb dX12_cell_4 (by decide) zk_1 (fun c3 => ?_) (fun c3 => by exfalso; omega)
    refine lv_aload_n hx hb dX12_cell_10 rfl (lv_at hl 0 rfl) ?_
    refine fm_getG (a := 60) (j := 75) (T := TX12) (N := 79) hx hb hts hinX12 hown hc hw kl_60 sh_60 rfl (by decide) rfl (hI.to kl_60 tg_60_75) (hts (.fieldLink RX12 158 "RedTentModel" "sort" "[I") (List.mem_cons_of_mem _ tw_5_195)) (fun _ h9 => h9) dX12_cell_11 ?_
    refine lv_iload_n hx hb dX12_cell_14 rfl (lv_at hl 1 rfl) ?_
    refine fm_iald (a := 175) hx hb hc hw hI kl_175 sh_175 ty_175 bd_175 (by omega) dX12_cell_15 (fun x4 ex4 bx4 => ?_)
    refine fx_if_ge (tgt := 22) hx hb dX12_cell_16 (by decide) rfl (fun c5 => ?_) (fun c5 => ?_)
    · refine lv_aload_n hx hb dX12_cell_22 rfl (lv_at hl 0 rfl) ?_
      refine lv_iload_n hx hb dX12_cell_23 rfl (lv_at hl 1 rfl) ?_
      refine lv_iload_n hx hb dX12_cell_24 rfl (lv_at hl 2 rfl) ?_
      refine fx_i2l hx hb dX12_cell_25 rfl (fun y6 ey6 ty6 => ?_)
      refine vp_callSi (va_Run.run (va_runV (As := [.int p0, .long y6]) (rest := []) ⟨hx, hb, hml, hown, hts⟩ (fc_X12_isItem l D ad C nb M hI p0 y6 (by omega)) (cwV 2 hts gX12_cell_X12_isItem rfl rfl rfl (by decide +kernel) ⟨Nat.le_of_ble_eq_true rfl, Nat.le_of_ble_eq_true rfl⟩) (fm_preV hc hw hS kl_60 sh_60 rfl) rfl rfl hl.1 rfl (lv_room (Nat.le_of_ble_eq_true rfl)) dX12_cell_26 ⟨by decide +kernel, by decide +kernel⟩)) (fun r7 hr7 => ?_)
      have bqq8 := hI.bd (k := 0) (bd_176 p0.toNatClampNeg)
      rcases hr7 with ⟨rfl, c9⟩ | ⟨rfl, c9⟩
      · refine fx_if_ne (tgt := 35) hx hb dX12_cell_29 (by decide) zk_1 (fun c10 => ?_) (fun c10 => by exfalso; omega)
        refine lv_aload_n hx hb dX12_cell_35 rfl (lv_at hl 0 rfl) ?_
        refine fm_getG (a := 60) (j := 77) (T := TX12) (N := 79) hx hb hts hinX12 hown hc hw kl_60 sh_60 rfl (by decide) rfl (hI.to kl_60 tg_60_77) (hts (.fieldLink RX12 164 "RedTentModel" "items" "[I") (List.mem_cons_of_mem _ tw_5_197)) (fun _ h9 => h9) dX12_cell_36 ?_
        refine lv_bipush (v := 40) hx hb dX12_cell_39 (by decide) ?_
        refine lv_iload_n hx hb dX12_cell_41 rfl (lv_at hl 1 rfl) ?_
        refine fx_imul hx hb dX12_cell_42 zk_40 rfl (by omega) (fun y11 ey11 ty11 => ?_)
        refine lv_iload_n hx hb dX12_cell_43 rfl (lv_at hl 2 rfl) ?_
        refine fx_iadd hx hb dX12_cell_44 rfl rfl (by omega) (fun y12 ey12 ty12 => ?_)
        refine lv_aload_n hx hb dX12_cell_45 rfl (lv_at hl 0 rfl) ?_
        refine fm_getG (a := 60) (j := 75) (T := TX12) (N := 79) hx hb hts hinX12 hown hc hw kl_60 sh_60 rfl (by decide) rfl (hI.to kl_60 tg_60_75) (hts (.fieldLink RX12 158 "RedTentModel" "sort" "[I") (List.mem_cons_of_mem _ tw_5_195)) (fun _ h9 => h9) dX12_cell_46 ?_
        refine lv_iload_n hx hb dX12_cell_49 rfl (lv_at hl 1 rfl) ?_
        refine fm_iald (a := 175) hx hb hc hw hI kl_175 sh_175 ty_175 bd_175 (by omega) dX12_cell_50 (fun x13 ex13 bx13 => ?_)
        obtain rfl : x4 = x13 := by rw [ex13]; exact ex4
        refine fx_if_ne (tgt := 59) hx hb dX12_cell_51 (by decide) rfl (fun c14 => ?_) (fun c14 => ?_)
        · refine lv_aload_n hx hb dX12_cell_59 rfl (lv_at hl 0 rfl) ?_
          refine fm_getG (a := 60) (j := 75) (T := TX12) (N := 79) hx hb hts hinX12 hown hc hw kl_60 sh_60 rfl (by decide) rfl (hI.to kl_60 tg_60_75) (hts (.fieldLink RX12 158 "RedTentModel" "sort" "[I") (List.mem_cons_of_mem _ tw_5_195)) (fun _ h9 => h9) dX12_cell_60 ?_
          refine lv_iload_n hx hb dX12_cell_63 rfl (lv_at hl 1 rfl) ?_
          refine fm_iald (a := 175) hx hb hc hw hI kl_175 sh_175 ty_175 bd_175 (by omega) dX12_cell_64 (fun x15 ex15 bx15 => ?_)
          obtain rfl : x4 = x15 := by rw [ex15]; exact ex4
          refine lv_iconst (v := 1) hx hb dX12_cell_65 (by decide) ?_
          refine fx_icmp_ne (tgt := 74) hx hb dX12_cell_66 (by decide) rfl zk_1 (fun c16 => ?_) (fun c16 => ?_)
          · refine lv_iload_n hx hb dX12_cell_74 rfl (lv_at hl 3 rfl) ?_
            refine fm_iast (a := 177) hx hb hc hw hI hE hS kl_177 sh_177 ty_177 bd_177 (by omega) (zi_lt _) cd_177 (by decide) dX12_cell_75 (fun M17 H locs eM17 hw hI hE hS => ?_)
            refine lv_iconst (v := 1) hx hb dX12_cell_76 (by decide) ?_
            have qx4 : x4.toInt = (M.1 175 0 p0.toNatClampNeg).toInt := by rw [ex4]
            exact W.iret (v := 1) hx hb hr (fun t ht hW => ⟨⟨1, M17, rfl, ⟨hI, hE, Or.inr (Or.inr (Or.inr (⟨by omega, by omega, by omega, zk_1⟩)))⟩, by show fm_at D ad C nb _ t.heap; rw [ht]; exact hw⟩, hS.F ht⟩) hS.2.2 dX12_cell_77
          · refine lv_iload_n hx hb dX12_cell_69 rfl (lv_at hl 3 rfl) ?_
            refine lv_i2s (v := p2.toInt16.toInt32) hx hb dX12_cell_70 rfl ?_
            refine lv_topi (fun y18 ey18 => ?_)
            refine lv_goto (tgt := 75) hx hb dX12_cell_71 (by decide) ?_
            refine fm_iast (a := 177) hx hb hc hw hI hE hS kl_177 sh_177 ty_177 bd_177 (by omega) (zi_lt _) cd_177 (by decide) dX12_cell_75 (fun M19 H locs eM19 hw hI hE hS => ?_)
            refine lv_iconst (v := 1) hx hb dX12_cell_76 (by decide) ?_
            have qx4 : x4.toInt = (M.1 175 0 p0.toNatClampNeg).toInt := by rw [ex4]
            exact W.iret (v := 1) hx hb hr (fun t ht hW => ⟨⟨1, M19, rfl, ⟨hI, hE, Or.inr (Or.inr (Or.inr (⟨by omega, by omega, by omega, zk_1⟩)))⟩, by show fm_at D ad C nb _ t.heap; rw [ht]; exact hw⟩, hS.F ht⟩) hS.2.2 dX12_cell_77
        · refine lv_iload_n hx hb dX12_cell_54 rfl (lv_at hl 3 rfl) ?_
          refine lv_i2b (v := p2.toInt8.toInt32) hx hb dX12_cell_55 rfl ?_
          refine lv_topi (fun y20 ey20 => ?_)
          refine lv_goto (tgt := 75) hx hb dX12_cell_56 (by decide) ?_
          refine fm_iast (a := 177) hx hb hc hw hI hE hS kl_177 sh_177 ty_177 bd_177 (by omega) (zi_lt _) cd_177 (by decide) dX12_cell_75 (fun M21 H locs eM21 hw hI hE hS => ?_)
          refine lv_iconst (v := 1) hx hb dX12_cell_76 (by decide) ?_
          have qx4 : x4.toInt = (M.1 175 0 p0.toNatClampNeg).toInt := by rw [ex4]
          exact W.iret (v := 1) hx hb hr (fun t ht hW => ⟨⟨1, M21, rfl, ⟨hI, hE, Or.inr (Or.inr (Or.inr (⟨by omega, by omega, by omega, zk_1⟩)))⟩, by show fm_at D ad C nb _ t.heap; rw [ht]; exact hw⟩, hS.F ht⟩) hS.2.2 dX12_cell_77
      · refine fx_if_ne (tgt := 35) hx hb dX12_cell_29 (by decide) zk_0 (fun c22 => by exfalso; omega) (fun c22 => ?_)
        refine lv_bipush (v := (-12)) hx hb dX12_cell_32 (by decide) ?_
        have qx4 : x4.toInt = (M.1 175 0 p0.toNatClampNeg).toInt := by rw [ex4]
        exact W.iret (v := (-12)) hx hb hr (fun t ht hW => ⟨⟨(-12), M, rfl, ⟨hI, hE, Or.inr (Or.inr (Or.inl ⟨by omega, by omega, by omega, zk_m12⟩))⟩, by show fm_at D ad C nb _ t.heap; rw [ht]; exact hw⟩, hS.F ht⟩) hS.2.2 dX12_cell_34
    · refine lv_bipush (v := (-11)) hx hb dX12_cell_19 (by decide) ?_
      have qx4 : x4.toInt = (M.1 175 0 p0.toNatClampNeg).toInt := by rw [ex4]
      exact W.iret (v := (-11)) hx hb hr (fun t ht hW => ⟨⟨(-11), M, rfl, ⟨hI, hE, Or.inr (Or.inl ⟨by omega, by omega, zk_m11⟩)⟩, by show fm_at D ad C nb _ t.heap; rw [ht]; exact hw⟩, hS.F ht⟩) hS.2.2 dX12_cell_21
  · refine fx_if_ne (tgt := 10) hx hb dX12_cell_4 (by decide) zk_0 (fun c23 => by exfalso; omega) (fun c23 => ?_)
    refine lv_bipush (v := (-2)) hx hb dX12_cell_7 (by decide) ?_
    exact W.iret (v := (-2)) hx hb hr (fun t ht hW => ⟨⟨(-2), M, rfl, ⟨hI, hE, Or.inl ⟨by omega, zk_m2⟩⟩, by show fm_at D ad C nb _ t.heap; rw [ht]; exact hw⟩, hS.F ht⟩) hS.2.2 dX12_cell_9
set_option maxHeartbeats 400000 in
set_option maxRecDepth 20000 in
theorem fc_X12_copy (l : Launch) (D : va_G) (ad : Nat → Nat → Nat) (C : Nat → Nat → ClassId) (nb : Nat) (M : fm_M) (hI : fm_I nb ad M) (p0 p1 p2 p3 p4 : Int32) : Met l yX12_copy wsX12_copy ({ frames := 2, cells := 0, slots := 0, locals := 42 }) (va_Pc [.ref (ad 60 0), .int p0, .int p1, .int p2, .int p3, .int p4] (fm_P D ad C nb M)) (va_Qi (fun (r : Int32) (u : fm_M) => fm_I nb ad u ∧ fm_same [177000, 178000] M u ∧ ((¬ (0 ≤ p0.toInt ∧ p0.toInt ≤ 3 ∧ 0 ≤ p2.toInt ∧ p2.toInt ≤ 3) ∧ r.toInt = -2) ∨ ((0 ≤ p0.toInt ∧ p0.toInt ≤ 3 ∧ 0 ≤ p2.toInt ∧ p2.toInt ≤ 3) ∧ ((M.1 175 0 p0.toNatClampNeg).toInt < 0 ∨ (M.1 175 0 p2.toNatClampNeg).toInt < 0) ∧ r.toInt = -11) ∨ ((0 ≤ p0.toInt ∧ p0.toInt ≤ 3 ∧ 0 ≤ p2.toInt ∧ p2.toInt ≤ 3) ∧ 0 ≤ (M.1 175 0 p0.toNatClampNeg).toInt ∧ 0 ≤ (M.1 175 0 p2.toNatClampNeg).toInt ∧ ¬ (M.1 175 0 p0.toNatClampNeg).toInt = (M.1 175 0 p2.toNatClampNeg).toInt ∧ r.toInt = -13) ∨ ((0 ≤ p0.toInt ∧ p0.toInt ≤ 3 ∧ 0 ≤ p2.toInt ∧ p2.toInt ≤ 3) ∧ 0 ≤ (M.1 175 0 p0.toNatClampNeg).toInt ∧ (M.1 175 0 p0.toNatClampNeg).toInt = (M.1 175 0 p2.toNatClampNeg).toInt ∧ ¬ (0 ≤ p4.toInt ∧ 0 ≤ p1.toInt ∧ 0 ≤ p3.toInt ∧ p1.toInt + p4.toInt ≤ (M.1 176 0 p0.toNatClampNeg).toInt ∧ p3.toInt + p4.toInt ≤ (M.1 176 0 p2.toNatClampNeg).toInt) ∧ r.toInt = -12) ∨ ((0 ≤ p0.toInt ∧ p0.toInt ≤ 3 ∧ 0 ≤ p2.toInt ∧ p2.toInt ≤ 3) ∧ 0 ≤ (M.1 175 0 p0.toNatClampNeg).toInt ∧ (M.1 175 0 p0.toNatClampNeg).toInt = (M.1 175 0 p2.toNatClampNeg).toInt ∧ (0 ≤ p4.toInt ∧ 0 ≤ p1.toInt ∧ 0 ≤ p3.toInt ∧ p1.toInt + p4.toInt ≤ (M.1 176 0 p0.toNatClampNeg).toInt ∧ p3.toInt + p4.toInt ≤ (M.1 176 0 p2.toNatClampNeg).toInt) ∧ r.toInt = p4.toInt))) (fun u t => fm_at D ad C nb u t.heap) (fm_A nb ad)) 0 0 (fm_A nb ad) := by
  refine Met.ofW (cc := cX12_copy) (maxL := 7) (ret := (some .int)) (by decide) rfl ?_
  intro p e s m args below meth c s₁ B hml hv
  obtain ⟨rfl, hw, hc⟩ := hv
  have hx := B.exec
  have hb := B.bytes
  have hr := B.returns
  have hts := atoms_spec (ws := wsX12_copy) B.pre
  have hown : s.vm.findClass RX12 = some m.cls := findClass_of_methodNamed B.named
  have hinX12 : ∀ w ∈ u_ws RX12 TX12 79, w ∈ wsX12_copy := fun w h => List.mem_cons_of_mem _ (iT_X12 w h)
  have hS : va_S (fm_A nb ad) s.heap s.heap [] := va_S.rf
  have hE : fm_same [177000, 178000] M M := fm_same.rf
  have hl := lv_entry ([.ref (ad 60 0), .int p0, .int p1, .int p2, .int p3, .int p4]) (n := 7) (Nat.le_of_ble_eq_true rfl)
  rw [lg_entry_eq]
  generalize (lg_sl ([.ref (ad 60 0), .int p0, .int p1, .int p2, .int p3, .int p4]) ++ List.replicate (7 - (lg_sl ([.ref (ad 60 0), .int p0, .int p1, .int p2, .int p3, .int p4])).length) Slot.unset).toArray = ls at hl ⊢
  have hl : lv_has ls 7 [(0, .ref (ad 60 0)), (1, .int p0), (2, .int p1), (3, .int p2), (4, .int p3), (5, .int p4)] := hl
  refine lv_iload_n hx hb dX12_copy_0 rfl (lv_at hl 1 rfl) ?_
  refine vp_callSi (va_Run.run (va_runS (As := [.int p0]) (rest := []) ⟨hx, hb, hml, hown, hts⟩ (fc_X12_isSheet l p0) (va_cwS 1 hts gX12_copy_X12_isSheet rfl rfl rfl (by decide +kernel) ⟨Nat.le_of_ble_eq_true rfl, Nat.le_of_ble_eq_true rfl⟩) ⟨fun a U g mk q => q, fun U hU hW => ⟨rfl, trivial⟩⟩ rfl rfl hl.1 rfl (lv_room (Nat.le_of_ble_eq_true rfl)) dX12_copy_1 ⟨by decide +kernel, by decide +kernel⟩)) (fun r1 hr1 => ?_)
  rcases hr1 with ⟨rfl, c2⟩ | ⟨rfl, c2⟩
  · refine fx_if_eq (tgt := 14) hx hb dX12_copy_4 (by decide) zk_1 (fun c3 => by exfalso; omega) (fun c3 => ?_)
    refine lv_iload_n hx hb dX12_copy_7 rfl (lv_at hl 3 rfl) ?_
    refine vp_callSi (va_Run.run (va_runS (As := [.int p2]) (rest := []) ⟨hx, hb, hml, hown, hts⟩ (fc_X12_isSheet l p2) (va_cwS 1 hts gX12_copy_X12_isSheet rfl rfl rfl (by decide +kernel) ⟨Nat.le_of_ble_eq_true rfl, Nat.le_of_ble_eq_true rfl⟩) ⟨fun a U g mk q => q, fun U hU hW => ⟨rfl, trivial⟩⟩ rfl rfl hl.1 rfl (lv_room (Nat.le_of_ble_eq_true rfl)) dX12_copy_8 ⟨by decide +kernel, by decide +kernel⟩)) (fun r4 hr4 => ?_)
    rcases hr4 with ⟨rfl, c5⟩ | ⟨rfl, c5⟩
    · refine fx_if_ne (tgt := 17) hx hb dX12_copy_11 (by decide) zk_1 (fun c6 => ?_) (fun c6 => by exfalso; omega)
      refine lv_aload_n hx hb dX12_copy_17 rfl (lv_at hl 0 rfl) ?_
      refine fm_getG (a := 60) (j := 75) (T := TX12) (N := 79) hx hb hts hinX12 hown hc hw kl_60 sh_60 rfl (by decide) rfl (hI.to kl_60 tg_60_75) (hts (.fieldLink RX12 158 "RedTentModel" "sort" "[I") (List.mem_cons_of_mem _ tw_5_195)) (fun _ h9 => h9) dX12_copy_18 ?_
      refine lv_iload_n hx hb dX12_copy_21 rfl (lv_at hl 1 rfl) ?_
      refine fm_iald (a := 175) hx hb hc hw hI kl_175 sh_175 ty_175 bd_175 (by omega) dX12_copy_22 (fun x7 ex7 bx7 => ?_)
      refine fx_if_lt (tgt := 35) hx hb dX12_copy_23 (by decide) rfl (fun c8 => ?_) (fun c8 => ?_)
      · refine lv_bipush (v := (-11)) hx hb dX12_copy_35 (by decide) ?_
        have qx7 : x7.toInt = (M.1 175 0 p0.toNatClampNeg).toInt := by rw [ex7]
        exact W.iret (v := (-11)) hx hb hr (fun t ht hW => ⟨⟨(-11), M, rfl, ⟨hI, hE, Or.inr (Or.inl ⟨by omega, by omega, zk_m11⟩)⟩, by show fm_at D ad C nb _ t.heap; rw [ht]; exact hw⟩, hS.F ht⟩) hS.2.2 dX12_copy_37
      · refine lv_aload_n hx hb dX12_copy_26 rfl (lv_at hl 0 rfl) ?_
        refine fm_getG (a := 60) (j := 75) (T := TX12) (N := 79) hx hb hts hinX12 hown hc hw kl_60 sh_60 rfl (by decide) rfl (hI.to kl_60 tg_60_75) (hts (.fieldLink RX12 158 "RedTentModel" "sort" "[I") (List.mem_cons_of_mem _ tw_5_195)) (fun _ h9 => h9) dX12_copy_27 ?_
        refine lv_iload_n hx hb dX12_copy_30 rfl (lv_at hl 3 rfl) ?_
        refine fm_iald (a := 175) hx hb hc hw hI kl_175 sh_175 ty_175 bd_175 (by omega) dX12_copy_31 (fun x9 ex9 bx9 => ?_)
        refine fx_if_ge (tgt := 38) hx hb dX12_copy_32 (by decide) rfl (fun c10 => ?_) (fun c10 => ?_)
        · refine lv_aload_n hx hb dX12_copy_38 rfl (lv_at hl 0 rfl) ?_
          refine fm_getG (a := 60) (j := 75) (T := TX12) (N := 79) hx hb hts hinX12 hown hc hw kl_60 sh_60 rfl (by decide) rfl (hI.to kl_60 tg_60_75) (hts (.fieldLink RX12 158 "RedTentModel" "sort" "[I") (List.mem_cons_of_mem _ tw_5_195)) (fun _ h9 => h9) dX12_copy_39 ?_
          refine lv_iload_n hx hb dX12_copy_42 rfl (lv_at hl 1 rfl) ?_
          refine fm_iald (a := 175) hx hb hc hw hI kl_175 sh_175 ty_175 bd_175 (by omega) dX12_copy_43 (fun x11 ex11 bx11 => ?_)
          obtain rfl : x7 = x11 := by rw [ex11]; exact ex7
          refine lv_aload_n hx hb dX12_copy_44 rfl (lv_at hl 0 rfl) ?_
          refine fm_getG (a := 60) (j := 75) (T := TX12) (N := 79) hx hb hts hinX12 hown hc hw kl_60 sh_60 rfl (by decide) rfl (hI.to kl_60 tg_60_75) (hts (.fieldLink RX12 158 "RedTentModel" "sort" "[I") (List.mem_cons_of_mem _ tw_5_195)) (fun _ h9 => h9) dX12_copy_45 ?_
          refine lv_iload_n hx hb dX12_copy_48 rfl (lv_at hl 3 rfl) ?_
          refine fm_iald (a := 175) hx hb hc hw hI kl_175 sh_175 ty_175 bd_175 (by omega) dX12_copy_49 (fun x12 ex12 bx12 => ?_)
          obtain rfl : x9 = x12 := by rw [ex12]; exact ex9
          refine fx_icmp_eq (tgt := 56) hx hb dX12_copy_50 (by decide) rfl rfl (fun c13 => ?_) (fun c13 => ?_)
          · refine lv_iload hx hb dX12_copy_56 (lv_at hl 5 rfl) ?_
            refine fx_if_lt (tgt := 97) hx hb dX12_copy_58 (by decide) rfl (fun c14 => ?_) (fun c14 => ?_)
            · refine lv_bipush (v := (-12)) hx hb dX12_copy_97 (by decide) ?_
              have qx7 : x7.toInt = (M.1 175 0 p0.toNatClampNeg).toInt := by rw [ex7]
              have qx9 : x9.toInt = (M.1 175 0 p2.toNatClampNeg).toInt := by rw [ex9]
              exact W.iret (v := (-12)) hx hb hr (fun t ht hW => ⟨⟨(-12), M, rfl, ⟨hI, hE, Or.inr (Or.inr (Or.inr (Or.inl ⟨by omega, by omega, by omega, by omega, zk_m12⟩)))⟩, by show fm_at D ad C nb _ t.heap; rw [ht]; exact hw⟩, hS.F ht⟩) hS.2.2 dX12_copy_99
            · refine lv_iload_n hx hb dX12_copy_61 rfl (lv_at hl 2 rfl) ?_
              refine fx_if_lt (tgt := 97) hx hb dX12_copy_62 (by decide) rfl (fun c15 => ?_) (fun c15 => ?_)
              · refine lv_bipush (v := (-12)) hx hb dX12_copy_97 (by decide) ?_
                have qx7 : x7.toInt = (M.1 175 0 p0.toNatClampNeg).toInt := by rw [ex7]
                have qx9 : x9.toInt = (M.1 175 0 p2.toNatClampNeg).toInt := by rw [ex9]
                exact W.iret (v := (-12)) hx hb hr (fun t ht hW => ⟨⟨(-12), M, rfl, ⟨hI, hE, Or.inr (Or.inr (Or.inr (Or.inl ⟨by omega, by omega, by omega, by omega, zk_m12⟩)))⟩, by show fm_at D ad C nb _ t.heap; rw [ht]; exact hw⟩, hS.F ht⟩) hS.2.2 dX12_copy_99
              · refine lv_iload hx hb dX12_copy_65 (lv_at hl 4 rfl) ?_
                refine fx_if_lt (tgt := 97) hx hb dX12_copy_67 (by decide) rfl (fun c16 => ?_) (fun c16 => ?_)
                · refine lv_bipush (v := (-12)) hx hb dX12_copy_97 (by decide) ?_
                  have qx7 : x7.toInt = (M.1 175 0 p0.toNatClampNeg).toInt := by rw [ex7]
                  have qx9 : x9.toInt = (M.1 175 0 p2.toNatClampNeg).toInt := by rw [ex9]
                  exact W.iret (v := (-12)) hx hb hr (fun t ht hW => ⟨⟨(-12), M, rfl, ⟨hI, hE, Or.inr (Or.inr (Or.inr (Or.inl ⟨by omega, by omega, by omega, by omega, zk_m12⟩)))⟩, by show fm_at D ad C nb _ t.heap; rw [ht]; exact hw⟩, hS.F ht⟩) hS.2.2 dX12_copy_99
                · refine lv_iload_n hx hb dX12_copy_70 rfl (lv_at hl 2 rfl) ?_
                  refine lv_aload_n hx hb dX12_copy_71 rfl (lv_at hl 0 rfl) ?_
                  refine fm_getG (a := 60) (j := 76) (T := TX12) (N := 79) hx hb hts hinX12 hown hc hw kl_60 sh_60 rfl (by decide) rfl (hI.to kl_60 tg_60_76) (hts (.fieldLink RX12 161 "RedTentModel" "many" "[I") (List.mem_cons_of_mem _ tw_5_196)) (fun _ h9 => h9) dX12_copy_72 ?_
                  refine lv_iload_n hx hb dX12_copy_75 rfl (lv_at hl 1 rfl) ?_
                  refine fm_iald (a := 176) hx hb hc hw hI kl_176 sh_176 ty_176 bd_176 (by omega) dX12_copy_76 (fun x17 ex17 bx17 => ?_)
                  refine lv_iload hx hb dX12_copy_77 (lv_at hl 5 rfl) ?_
                  refine fx_isub hx hb dX12_copy_79 rfl rfl (by have hp4 := zi_lt p4; omega) (fun y18 ey18 ty18 => ?_)
                  refine fx_icmp_gt (tgt := 97) hx hb dX12_copy_80 (by decide) rfl rfl (fun c19 => ?_) (fun c19 => ?_)
                  · refine lv_bipush (v := (-12)) hx hb dX12_copy_97 (by decide) ?_
                    have qx7 : x7.toInt = (M.1 175 0 p0.toNatClampNeg).toInt := by rw [ex7]
                    have qx9 : x9.toInt = (M.1 175 0 p2.toNatClampNeg).toInt := by rw [ex9]
                    have qx17 : x17.toInt = (M.1 176 0 p0.toNatClampNeg).toInt := by rw [ex17]
                    exact W.iret (v := (-12)) hx hb hr (fun t ht hW => ⟨⟨(-12), M, rfl, ⟨hI, hE, Or.inr (Or.inr (Or.inr (Or.inl ⟨by omega, by omega, by omega, by omega, zk_m12⟩)))⟩, by show fm_at D ad C nb _ t.heap; rw [ht]; exact hw⟩, hS.F ht⟩) hS.2.2 dX12_copy_99
                  · refine lv_iload hx hb dX12_copy_83 (lv_at hl 4 rfl) ?_
                    refine lv_aload_n hx hb dX12_copy_85 rfl (lv_at hl 0 rfl) ?_
                    refine fm_getG (a := 60) (j := 76) (T := TX12) (N := 79) hx hb hts hinX12 hown hc hw kl_60 sh_60 rfl (by decide) rfl (hI.to kl_60 tg_60_76) (hts (.fieldLink RX12 161 "RedTentModel" "many" "[I") (List.mem_cons_of_mem _ tw_5_196)) (fun _ h9 => h9) dX12_copy_86 ?_
                    refine lv_iload_n hx hb dX12_copy_89 rfl (lv_at hl 3 rfl) ?_
                    refine fm_iald (a := 176) hx hb hc hw hI kl_176 sh_176 ty_176 bd_176 (by omega) dX12_copy_90 (fun x20 ex20 bx20 => ?_)
                    refine lv_iload hx hb dX12_copy_91 (lv_at hl 5 rfl) ?_
                    refine fx_isub hx hb dX12_copy_93 rfl rfl (by have hp4 := zi_lt p4; omega) (fun y21 ey21 ty21 => ?_)
                    refine fx_icmp_le (tgt := 100) hx hb dX12_copy_94 (by decide) rfl rfl (fun c22 => ?_) (fun c22 => ?_)
                    · refine lv_iconst (v := 0) hx hb dX12_copy_100 (by decide) ?_
                      refine lv_istore (lv' := [(6, .int 0), (0, .ref (ad 60 0)), (1, .int p0), (2, .int p1), (3, .int p2), (4, .int p3), (5, .int p4)]) hx hb dX12_copy_101 hl (by decide) rfl (fun ls hl => ?_)
                      have lp : ∀ (n_lp : Nat) (lp_6 : Int32) (M_lp : fm_M), (40 - lp_6.toInt).toNat < n_lp → (0 ≤ lp_6.toInt ∧ lp_6.toInt ≤ 40) → (0 ≤ p0.toInt ∧ p0.toInt ≤ 3 ∧ 0 ≤ p2.toInt ∧ p2.toInt ≤ 3 ∧ 0 ≤ (M.1 175 0 p0.toNatClampNeg).toInt ∧ (M.1 175 0 p0.toNatClampNeg).toInt = (M.1 175 0 p2.toNatClampNeg).toInt ∧ 0 ≤ p4.toInt ∧ 0 ≤ p1.toInt ∧ 0 ≤ p3.toInt ∧ p1.toInt + p4.toInt ≤ (M.1 176 0 p0.toNatClampNeg).toInt ∧ p3.toInt + p4.toInt ≤ (M.1 176 0 p2.toNatClampNeg).toInt) → fm_I nb ad M_lp → fm_same [177000, 178000] M M_lp → ∀ (H : Heap) (locs : List Loc), fm_at D ad C nb M_lp H → va_S (fm_A nb ad) s.heap H locs → ∀ (ls : Array Slot), lv_has ls 7 [(6, .int lp_6), (0, .ref (ad 60 0)), (1, .int p0), (2, .int p1), (3, .int p2), (4, .int p3), (5, .int p4)] → W p l e (headSpec wsX12_copy ({ frames := 2, cells := 0, slots := 0, locals := 42 })).room s m ([.ref (ad 60 0), .int p0, .int p1, .int p2, .int p3, .int p4] : List Value).toArray below meth c H locs 0 0 (MQ below (va_Qi (fun (r : Int32) (u : fm_M) => fm_I nb ad u ∧ fm_same [177000, 178000] M u ∧ ((¬ (0 ≤ p0.toInt ∧ p0.toInt ≤ 3 ∧ 0 ≤ p2.toInt ∧ p2.toInt ≤ 3) ∧ r.toInt = -2) ∨ ((0 ≤ p0.toInt ∧ p0.toInt ≤ 3 ∧ 0 ≤ p2.toInt ∧ p2.toInt ≤ 3) ∧ ((M.1 175 0 p0.toNatClampNeg).toInt < 0 ∨ (M.1 175 0 p2.toNatClampNeg).toInt < 0) ∧ r.toInt = -11) ∨ ((0 ≤ p0.toInt ∧ p0.toInt ≤ 3 ∧ 0 ≤ p2.toInt ∧ p2.toInt ≤ 3) ∧ 0 ≤ (M.1 175 0 p0.toNatClampNeg).toInt ∧ 0 ≤ (M.1 175 0 p2.toNatClampNeg).toInt ∧ ¬ (M.1 175 0 p0.toNatClampNeg).toInt = (M.1 175 0 p2.toNatClampNeg).toInt ∧ r.toInt = -13) ∨ ((0 ≤ p0.toInt ∧ p0.toInt ≤ 3 ∧ 0 ≤ p2.toInt ∧ p2.toInt ≤ 3) ∧ 0 ≤ (M.1 175 0 p0.toNatClampNeg).toInt ∧ (M.1 175 0 p0.toNatClampNeg).toInt = (M.1 175 0 p2.toNatClampNeg).toInt ∧ ¬ (0 ≤ p4.toInt ∧ 0 ≤ p1.toInt ∧ 0 ≤ p3.toInt ∧ p1.toInt + p4.toInt ≤ (M.1 176 0 p0.toNatClampNeg).toInt ∧ p3.toInt + p4.toInt ≤ (M.1 176 0 p2.toNatClampNeg).toInt) ∧ r.toInt = -12) ∨ ((0 ≤ p0.toInt ∧ p0.toInt ≤ 3 ∧ 0 ≤ p2.toInt ∧ p2.toInt ≤ 3) ∧ 0 ≤ (M.1 175 0 p0.toNatClampNeg).toInt ∧ (M.1 175 0 p0.toNatClampNeg).toInt = (M.1 175 0 p2.toNatClampNeg).toInt ∧ (0 ≤ p4.toInt ∧ 0 ≤ p1.toInt ∧ 0 ≤ p3.toInt ∧ p1.toInt + p4.toInt ≤ (M.1 176 0 p0.toNatClampNeg).toInt ∧ p3.toInt + p4.toInt ≤ (M.1 176 0 p2.toNatClampNeg).toInt) ∧ r.toInt = p4.toInt))) (fun u t => fm_at D ad C nb u t.heap) (fm_A nb ad)) ([.ref (ad 60 0), .int p0, .int p1, .int p2, .int p3, .int p4] : List Value).toArray s 0 0 (fm_A nb ad)) (F0 m 103 ls []) := by
                        intro n_lp
                        induction n_lp with
                        | zero => intro lp_6 M_lp hm_lp b_lp_6 hg hI hE H locs hw hS ls hl; exact absurd hm_lp (Nat.not_lt_zero _)
                        | succ n_lp ih_lp =>
                          intro lp_6 M_lp hm_lp b_lp_6 hg hI hE H locs hw hS ls hl
                          refine lv_iload hx hb dX12_copy_103 (lv_at hl 0 rfl) ?_
                          refine lv_iload hx hb dX12_copy_105 (lv_at hl 6 rfl) ?_
                          refine fx_icmp_ge (tgt := 137) hx hb dX12_copy_107 (by decide) rfl rfl (fun c23 => ?_) (fun c23 => ?_)
                          · refine lv_iconst (v := 0) hx hb dX12_copy_137 (by decide) ?_
                            refine lv_istore (lv' := [(6, .int 0), (0, .ref (ad 60 0)), (1, .int p0), (2, .int p1), (3, .int p2), (4, .int p3), (5, .int p4)]) hx hb dX12_copy_138 hl (by decide) rfl (fun ls hl => ?_)
                            have lq : ∀ (n_lq : Nat) (lq_6 : Int32) (M_lq : fm_M), (40 - lq_6.toInt).toNat < n_lq → (0 ≤ lq_6.toInt ∧ lq_6.toInt ≤ 40) → (0 ≤ p0.toInt ∧ p0.toInt ≤ 3 ∧ 0 ≤ p2.toInt ∧ p2.toInt ≤ 3 ∧ 0 ≤ (M.1 175 0 p0.toNatClampNeg).toInt ∧ (M.1 175 0 p0.toNatClampNeg).toInt = (M.1 175 0 p2.toNatClampNeg).toInt ∧ 0 ≤ p4.toInt ∧ 0 ≤ p1.toInt ∧ 0 ≤ p3.toInt ∧ p1.toInt + p4.toInt ≤ (M.1 176 0 p0.toNatClampNeg).toInt ∧ p3.toInt + p4.toInt ≤ (M.1 176 0 p2.toNatClampNeg).toInt) → fm_I nb ad M_lq → fm_same [177000, 178000] M M_lq → ∀ (H : Heap) (locs : List Loc), fm_at D ad C nb M_lq H → va_S (fm_A nb ad) s.heap H locs → ∀ (ls : Array Slot), lv_has ls 7 [(6, .int lq_6), (0, .ref (ad 60 0)), (1, .int p0), (2, .int p1), (3, .int p2), (4, .int p3), (5, .int p4)] → W p l e (headSpec wsX12_copy ({ frames := 2, cells := 0, slots := 0, locals := 42 })).room s m ([.ref (ad 60 0), .int p0, .int p1, .int p2, .int p3, .int p4] : List Value).toArray below meth c H locs 0 0 (MQ below (va_Qi (fun (r : Int32) (u : fm_M) => fm_I nb ad u ∧ fm_same [177000, 178000] M u ∧ ((¬ (0 ≤ p0.toInt ∧ p0.toInt ≤ 3 ∧ 0 ≤ p2.toInt ∧ p2.toInt ≤ 3) ∧ r.toInt = -2) ∨ ((0 ≤ p0.toInt ∧ p0.toInt ≤ 3 ∧ 0 ≤ p2.toInt ∧ p2.toInt ≤ 3) ∧ ((M.1 175 0 p0.toNatClampNeg).toInt < 0 ∨ (M.1 175 0 p2.toNatClampNeg).toInt < 0) ∧ r.toInt = -11) ∨ ((0 ≤ p0.toInt ∧ p0.toInt ≤ 3 ∧ 0 ≤ p2.toInt ∧ p2.toInt ≤ 3) ∧ 0 ≤ (M.1 175 0 p0.toNatClampNeg).toInt ∧ 0 ≤ (M.1 175 0 p2.toNatClampNeg).toInt ∧ ¬ (M.1 175 0 p0.toNatClampNeg).toInt = (M.1 175 0 p2.toNatClampNeg).toInt ∧ r.toInt = -13) ∨ ((0 ≤ p0.toInt ∧ p0.toInt ≤ 3 ∧ 0 ≤ p2.toInt ∧ p2.toInt ≤ 3) ∧ 0 ≤ (M.1 175 0 p0.toNatClampNeg).toInt ∧ (M.1 175 0 p0.toNatClampNeg).toInt = (M.1 175 0 p2.toNatClampNeg).toInt ∧ ¬ (0 ≤ p4.toInt ∧ 0 ≤ p1.toInt ∧ 0 ≤ p3.toInt ∧ p1.toInt + p4.toInt ≤ (M.1 176 0 p0.toNatClampNeg).toInt ∧ p3.toInt + p4.toInt ≤ (M.1 176 0 p2.toNatClampNeg).toInt) ∧ r.toInt = -12) ∨ ((0 ≤ p0.toInt ∧ p0.toInt ≤ 3 ∧ 0 ≤ p2.toInt ∧ p2.toInt ≤ 3) ∧ 0 ≤ (M.1 175 0 p0.toNatClampNeg).toInt ∧ (M.1 175 0 p0.toNatClampNeg).toInt = (M.1 175 0 p2.toNatClampNeg).toInt ∧ (0 ≤ p4.toInt ∧ 0 ≤ p1.toInt ∧ 0 ≤ p3.toInt ∧ p1.toInt + p4.toInt ≤ (M.1 176 0 p0.toNatClampNeg).toInt ∧ p3.toInt + p4.toInt ≤ (M.1 176 0 p2.toNatClampNeg).toInt) ∧ r.toInt = p4.toInt))) (fun u t => fm_at D ad C nb u t.heap) (fm_A nb ad)) ([.ref (ad 60 0), .int p0, .int p1, .int p2, .int p3, .int p4] : List Value).toArray s 0 0 (fm_A nb ad)) (F0 m 140 ls []) := by
                              intro n_lq
                              induction n_lq with
                              | zero => intro lq_6 M_lq hm_lq b_lq_6 hg hI hE H locs hw hS ls hl; exact absurd hm_lq (Nat.not_lt_zero _)
                              | succ n_lq ih_lq =>
                                intro lq_6 M_lq hm_lq b_lq_6 hg hI hE H locs hw hS ls hl
                                refine lv_iload hx hb dX12_copy_140 (lv_at hl 0 rfl) ?_
                                refine lv_iload hx hb dX12_copy_142 (lv_at hl 6 rfl) ?_
                                refine fx_icmp_ge (tgt := 175) hx hb dX12_copy_144 (by decide) rfl rfl (fun c24 => ?_) (fun c24 => ?_)
                                · refine lv_iload hx hb dX12_copy_175 (lv_at hl 6 rfl) ?_
                                  exact W.iret (v := p4) hx hb hr (fun t ht hW => ⟨⟨p4, M_lq, rfl, ⟨hI, hE, Or.inr (Or.inr (Or.inr (Or.inr (⟨by omega, by omega, by omega, by omega, rfl⟩))))⟩, by show fm_at D ad C nb _ t.heap; rw [ht]; exact hw⟩, hS.F ht⟩) hS.2.2 dX12_copy_177
                                · refine lv_aload_n hx hb dX12_copy_147 rfl (lv_at hl 1 rfl) ?_
                                  refine fm_getG (a := 60) (j := 77) (T := TX12) (N := 79) hx hb hts hinX12 hown hc hw kl_60 sh_60 rfl (by decide) rfl (hI.to kl_60 tg_60_77) (hts (.fieldLink RX12 164 "RedTentModel" "items" "[I") (List.mem_cons_of_mem _ tw_5_197)) (fun _ h9 => h9) dX12_copy_148 ?_
                                  refine lv_bipush (v := 40) hx hb dX12_copy_151 (by decide) ?_
                                  refine lv_iload_n hx hb dX12_copy_153 rfl (lv_at hl 4 rfl) ?_
                                  refine fx_imul hx hb dX12_copy_154 zk_40 rfl (by omega) (fun y25 ey25 ty25 => ?_)
                                  refine lv_iload hx hb dX12_copy_155 (lv_at hl 5 rfl) ?_
                                  refine fx_iadd hx hb dX12_copy_157 rfl rfl (by omega) (fun y26 ey26 ty26 => ?_)
                                  refine lv_iload hx hb dX12_copy_158 (lv_at hl 0 rfl) ?_
                                  refine fx_iadd hx hb dX12_copy_160 rfl rfl (by omega) (fun y27 ey27 ty27 => ?_)
                                  refine lv_aload_n hx hb dX12_copy_161 rfl (lv_at hl 1 rfl) ?_
                                  refine fm_getG (a := 60) (j := 78) (T := TX12) (N := 79) hx hb hts hinX12 hown hc hw kl_60 sh_60 rfl (by decide) rfl (hI.to kl_60 tg_60_78) (hts (.fieldLink RX12 167 "RedTentModel" "carried" "[I") (List.mem_cons_of_mem _ tw_5_198)) (fun _ h9 => h9) dX12_copy_162 ?_
                                  refine lv_iload hx hb dX12_copy_165 (lv_at hl 0 rfl) ?_
                                  refine fm_iald (a := 178) hx hb hc hw hI kl_178 sh_178 ty_178 bd_178 (by omega) dX12_copy_167 (fun x28 ex28 bx28 => ?_)
                                  refine fm_iast (a := 177) hx hb hc hw hI hE hS kl_177 sh_177 ty_177 bd_177 (by omega) (zi_lt _) cd_177 (by decide) dX12_copy_168 (fun M29 H locs eM29 hw hI hE hS => ?_)
                                  obtain ⟨y30, ey30⟩ : ∃ y : Int32, y = lq_6 + 1 := ⟨_, rfl⟩
                                  have ty30 : y30.toInt = lq_6.toInt + 1 := by rw [ey30, zi_add _ _ (by rw [zk_1]; omega) (by rw [zk_1]; omega), zk_1]
                                  refine lv_iinc (v := y30) (lv' := [(6, .int y30), (0, .ref (ad 60 0)), (1, .int p0), (2, .int p1), (3, .int p2), (4, .int p3), (5, .int p4)]) hx hb dX12_copy_169 hl (k := 0) rfl (by rw [ey30]; rfl) (by decide) rfl (fun ls hl => ?_)
                                  refine lv_goto (tgt := 140) hx hb dX12_copy_172 (by decide) ?_
                                  exact ih_lq y30 M29 (by omega) (by omega) hg hI hE _ _ hw hS ls (lv_sub hl [0, 1, 2, 3, 4, 5, 6] rfl)
                            exact lq _ 0 M_lp (Nat.lt_succ_self _) (by decide) hg hI hE _ _ hw hS ls (lv_sub hl [0, 1, 2, 3, 4, 5, 6] rfl)
                          · refine lv_aload_n hx hb dX12_copy_110 rfl (lv_at hl 1 rfl) ?_
                            refine fm_getG (a := 60) (j := 78) (T := TX12) (N := 79) hx hb hts hinX12 hown hc hw kl_60 sh_60 rfl (by decide) rfl (hI.to kl_60 tg_60_78) (hts (.fieldLink RX12 167 "RedTentModel" "carried" "[I") (List.mem_cons_of_mem _ tw_5_198)) (fun _ h9 => h9) dX12_copy_111 ?_
                            refine lv_iload hx hb dX12_copy_114 (lv_at hl 0 rfl) ?_
                            refine lv_aload_n hx hb dX12_copy_116 rfl (lv_at hl 1 rfl) ?_
                            refine fm_getG (a := 60) (j := 77) (T := TX12) (N := 79) hx hb hts hinX12 hown hc hw kl_60 sh_60 rfl (by decide) rfl (hI.to kl_60 tg_60_77) (hts (.fieldLink RX12 164 "RedTentModel" "items" "[I") (List.mem_cons_of_mem _ tw_5_197)) (fun _ h9 => h9) dX12_copy_117 ?_
                            refine lv_bipush (v := 40) hx hb dX12_copy_120 (by decide) ?_
                            refine lv_iload_n hx hb dX12_copy_122 rfl (lv_at hl 2 rfl) ?_
                            refine fx_imul hx hb dX12_copy_123 zk_40 rfl (by omega) (fun y31 ey31 ty31 => ?_)
                            refine lv_iload_n hx hb dX12_copy_124 rfl (lv_at hl 3 rfl) ?_
                            refine fx_iadd hx hb dX12_copy_125 rfl rfl (by omega) (fun y32 ey32 ty32 => ?_)
                            refine lv_iload hx hb dX12_copy_126 (lv_at hl 0 rfl) ?_
                            refine fx_iadd hx hb dX12_copy_128 rfl rfl (by omega) (fun y33 ey33 ty33 => ?_)
                            refine fm_iald (a := 177) hx hb hc hw hI kl_177 sh_177 ty_177 bd_177 (by omega) dX12_copy_129 (fun x34 ex34 bx34 => ?_)
                            refine fm_iast (a := 178) hx hb hc hw hI hE hS kl_178 sh_178 ty_178 bd_178 (by omega) (zi_lt _) cd_178 (by decide) dX12_copy_130 (fun M35 H locs eM35 hw hI hE hS => ?_)
                            obtain ⟨y36, ey36⟩ : ∃ y : Int32, y = lp_6 + 1 := ⟨_, rfl⟩
                            have ty36 : y36.toInt = lp_6.toInt + 1 := by rw [ey36, zi_add _ _ (by rw [zk_1]; omega) (by rw [zk_1]; omega), zk_1]
                            refine lv_iinc (v := y36) (lv' := [(6, .int y36), (0, .ref (ad 60 0)), (1, .int p0), (2, .int p1), (3, .int p2), (4, .int p3), (5, .int p4)]) hx hb dX12_copy_131 hl (k := 0) rfl (by rw [ey36]; rfl) (by decide) rfl (fun ls hl => ?_)
                            refine lv_goto (tgt := 103) hx hb dX12_copy_134 (by decide) ?_
                            exact ih_lp y36 M35 (by omega) (by omega) hg hI hE _ _ hw hS ls (lv_sub hl [0, 1, 2, 3, 4, 5, 6] rfl)
                      exact lp _ 0 M (Nat.lt_succ_self _) (by decide) (by have qx7 : x7.toInt = (M.1 175 0 p0.toNatClampNeg).toInt := (by rw [ex7]); have qx9 : x9.toInt = (M.1 175 0 p2.toNatClampNeg).toInt := (by rw [ex9]); have qx17 : x17.toInt = (M.1 176 0 p0.toNatClampNeg).toInt := (by rw [ex17]); have qx20 : x20.toInt = (M.1 176 0 p2.toNatClampNeg).toInt := (by rw [ex20]); omega) hI hE _ _ hw hS ls (lv_sub hl [0, 1, 2, 3, 4, 5, 6] rfl)
                    · refine lv_bipush (v := (-12)) hx hb dX12_copy_97 (by decide) ?_
                      have qx7 : x7.toInt = (M.1 175 0 p0.toNatClampNeg).toInt := by rw [ex7]
                      have qx9 : x9.toInt = (M.1 175 0 p2.toNatClampNeg).toInt := by rw [ex9]
                      have qx17 : x17.toInt = (M.1 176 0 p0.toNatClampNeg).toInt := by rw [ex17]
                      have qx20 : x20.toInt = (M.1 176 0 p2.toNatClampNeg).toInt := by rw [ex20]
                      exact W.iret (v := (-12)) hx hb hr (fun t ht hW => ⟨⟨(-12), M, rfl, ⟨hI, hE, Or.inr (Or.inr (Or.inr (Or.inl ⟨by omega, by omega, by omega, by omega, zk_m12⟩)))⟩, by show fm_at D ad C nb _ t.heap; rw [ht]; exact hw⟩, hS.F ht⟩) hS.2.2 dX12_copy_99
          · refine lv_bipush (v := (-13)) hx hb dX12_copy_53 (by decide) ?_
            have qx7 : x7.toInt = (M.1 175 0 p0.toNatClampNeg).toInt := by rw [ex7]
            have qx9 : x9.toInt = (M.1 175 0 p2.toNatClampNeg).toInt := by rw [ex9]
            exact W.iret (v := (-13)) hx hb hr (fun t ht hW => ⟨⟨(-13), M, rfl, ⟨hI, hE, Or.inr (Or.inr (Or.inl ⟨by omega, by omega, by omega, by omega, zk_m13⟩))⟩, by show fm_at D ad C nb _ t.heap; rw [ht]; exact hw⟩, hS.F ht⟩) hS.2.2 dX12_copy_55
        · refine lv_bipush (v := (-11)) hx hb dX12_copy_35 (by decide) ?_
          have qx7 : x7.toInt = (M.1 175 0 p0.toNatClampNeg).toInt := by rw [ex7]
          have qx9 : x9.toInt = (M.1 175 0 p2.toNatClampNeg).toInt := by rw [ex9]
          exact W.iret (v := (-11)) hx hb hr (fun t ht hW => ⟨⟨(-11), M, rfl, ⟨hI, hE, Or.inr (Or.inl ⟨by omega, by omega, zk_m11⟩)⟩, by show fm_at D ad C nb _ t.heap; rw [ht]; exact hw⟩, hS.F ht⟩) hS.2.2 dX12_copy_37
    · refine fx_if_ne (tgt := 17) hx hb dX12_copy_11 (by decide) zk_0 (fun c37 => by exfalso; omega) (fun c37 => ?_)
      refine lv_bipush (v := (-2)) hx hb dX12_copy_14 (by decide) ?_
      exact W.iret (v := (-2)) hx hb hr (fun t ht hW => ⟨⟨(-2), M, rfl, ⟨hI, hE, Or.inl ⟨by omega, zk_m2⟩⟩, by show fm_at D ad C nb _ t.heap; rw [ht]; exact hw⟩, hS.F ht⟩) hS.2.2 dX12_copy_16
  · refine fx_if_eq (tgt := 14) hx hb dX12_copy_4 (by decide) zk_0 (fun c38 => ?_) (fun c38 => by exfalso; omega)
    refine lv_bipush (v := (-2)) hx hb dX12_copy_14 (by decide) ?_
    exact W.iret (v := (-2)) hx hb hr (fun t ht hW => ⟨⟨(-2), M, rfl, ⟨hI, hE, Or.inl ⟨by omega, zk_m2⟩⟩, by show fm_at D ad C nb _ t.heap; rw [ht]; exact hw⟩, hS.F ht⟩) hS.2.2 dX12_copy_16
set_option maxHeartbeats 400000 in
set_option maxRecDepth 20000 in
theorem fc_X12_fixes (l : Launch) (D : va_G) (ad : Nat → Nat → Nat) (C : Nat → Nat → ClassId) (nb : Nat) (M : fm_M) (hI : fm_I nb ad M) (p0 p1 p2 p3 p4 : Int32) : Met l yX12_fixes wsX12_fixes ({ frames := 2, cells := 0, slots := 0, locals := 42 }) (va_Pc [.ref (ad 60 0), .int p0, .int p1, .int p2, .int p3, .int p4] (fm_P D ad C nb M)) (va_Qi (fun (r : Int32) (u : fm_M) => fm_I nb ad u ∧ fm_same [60021, 117000, 118000, 119000, 120000] M u ∧ True) (fun u t => fm_at D ad C nb u t.heap) (fm_A nb ad)) 0 0 (fm_A nb ad) := by
  refine Met.ofW (cc := cX12_fixes) (maxL := 12) (ret := (some .int)) (by decide) rfl ?_
  intro p e s m args below meth c s₁ B hml hv
  obtain ⟨rfl, hw, hc⟩ := hv
  have hx := B.exec
  have hb := B.bytes
  have hr := B.returns
  have hts := atoms_spec (ws := wsX12_fixes) B.pre
  have hown : s.vm.findClass RX12 = some m.cls := findClass_of_methodNamed B.named
  have hinX12 : ∀ w ∈ u_ws RX12 TX12 79, w ∈ wsX12_fixes := fun w h => List.mem_cons_of_mem _ (iT_X12 w h)
  have hS : va_S (fm_A nb ad) s.heap s.heap [] := va_S.rf
  have hE : fm_same [60021, 117000, 118000, 119000, 120000] M M := fm_same.rf
  have hl := lv_entry ([.ref (ad 60 0), .int p0, .int p1, .int p2, .int p3, .int p4]) (n := 12) (Nat.le_of_ble_eq_true rfl)
  rw [lg_entry_eq]
  generalize (lg_sl ([.ref (ad 60 0), .int p0, .int p1, .int p2, .int p3, .int p4]) ++ List.replicate (12 - (lg_sl ([.ref (ad 60 0), .int p0, .int p1, .int p2, .int p3, .int p4])).length) Slot.unset).toArray = ls at hl ⊢
  have hl : lv_has ls 12 [(0, .ref (ad 60 0)), (1, .int p0), (2, .int p1), (3, .int p2), (4, .int p3), (5, .int p4)] := hl
  refine lv_aload_n hx hb dX12_fixes_0 rfl (lv_at hl 0 rfl) ?_
  refine lv_iload_n hx hb dX12_fixes_1 rfl (lv_at hl 1 rfl) ?_
  refine vp_callSi (va_Run.run (va_runV (As := [.int p0]) (rest := []) ⟨hx, hb, hml, hown, hts⟩ (fc_X12_isBody l D ad C nb M hI p0) (cwV 1 hts gX12_fixes_X12_isBody rfl rfl rfl (by decide +kernel) ⟨Nat.le_of_ble_eq_true rfl, Nat.le_of_ble_eq_true rfl⟩) (fm_preV hc hw hS kl_60 sh_60 rfl) rfl rfl hl.1 rfl (lv_room (Nat.le_of_ble_eq_true rfl)) dX12_fixes_2 ⟨by decide +kernel, by decide +kernel⟩)) (fun r1 hr1 => ?_)
  have bqq2 := hI.bd (k := 0) bd_60_16
  rcases hr1 with ⟨rfl, c3⟩ | ⟨rfl, c3⟩
  · refine fx_if_eq (tgt := 35) hx hb dX12_fixes_5 (by decide) zk_1 (fun c4 => by exfalso; omega) (fun c4 => ?_)
    refine lv_iload_n hx hb dX12_fixes_8 rfl (lv_at hl 2 rfl) ?_
    refine vp_callSi (va_Run.run (va_runS (As := [.int p1]) (rest := []) ⟨hx, hb, hml, hown, hts⟩ (fc_X12_isSheet l p1) (va_cwS 1 hts gX12_fixes_X12_isSheet rfl rfl rfl (by decide +kernel) ⟨Nat.le_of_ble_eq_true rfl, Nat.le_of_ble_eq_true rfl⟩) ⟨fun a U g mk q => q, fun U hU hW => ⟨rfl, trivial⟩⟩ rfl rfl hl.1 rfl (lv_room (Nat.le_of_ble_eq_true rfl)) dX12_fixes_9 ⟨by decide +kernel, by decide +kernel⟩)) (fun r5 hr5 => ?_)
    rcases hr5 with ⟨rfl, c6⟩ | ⟨rfl, c6⟩
    · refine fx_if_eq (tgt := 35) hx hb dX12_fixes_12 (by decide) zk_1 (fun c7 => by exfalso; omega) (fun c7 => ?_)
      refine lv_iload_n hx hb dX12_fixes_15 rfl (lv_at hl 3 rfl) ?_
      refine lv_iconst (v := 0) hx hb dX12_fixes_16 (by decide) ?_
      refine lv_iconst (v := 2) hx hb dX12_fixes_17 (by decide) ?_
      have zz8 := zk_0
      have zz9 := zk_2
      refine vp_callSi (va_Run.run (va_runS (As := [.int p2, .int 0, .int 2]) (rest := []) ⟨hx, hb, hml, hown, hts⟩ (fc_X12_within l p2 0 2) (va_cwS 3 hts gX12_fixes_X12_within rfl rfl rfl (by decide +kernel) ⟨Nat.le_of_ble_eq_true rfl, Nat.le_of_ble_eq_true rfl⟩) ⟨fun a U g mk q => q, fun U hU hW => ⟨rfl, trivial⟩⟩ rfl rfl hl.1 rfl (lv_room (Nat.le_of_ble_eq_true rfl)) dX12_fixes_18 ⟨by decide +kernel, by decide +kernel⟩)) (fun r10 hr10 => ?_)
      rcases hr10 with ⟨rfl, c11⟩ | ⟨rfl, c11⟩
      · refine fx_if_eq (tgt := 35) hx hb dX12_fixes_21 (by decide) zk_1 (fun c12 => by exfalso; omega) (fun c12 => ?_)
        refine lv_iload hx hb dX12_fixes_24 (lv_at hl 5 rfl) ?_
        refine lv_iconst (v := 0) hx hb dX12_fixes_26 (by decide) ?_
        refine lv_bipush (v := 20) hx hb dX12_fixes_27 (by decide) ?_
        have zz13 := zk_0
        have zz14 := zk_20
        refine vp_callSi (va_Run.run (va_runS (As := [.int p4, .int 0, .int 20]) (rest := []) ⟨hx, hb, hml, hown, hts⟩ (fc_X12_within l p4 0 20) (va_cwS 3 hts gX12_fixes_X12_within rfl rfl rfl (by decide +kernel) ⟨Nat.le_of_ble_eq_true rfl, Nat.le_of_ble_eq_true rfl⟩) ⟨fun a U g mk q => q, fun U hU hW => ⟨rfl, trivial⟩⟩ rfl rfl hl.1 rfl (lv_room (Nat.le_of_ble_eq_true rfl)) dX12_fixes_29 ⟨by decide +kernel, by decide +kernel⟩)) (fun r15 hr15 => ?_)
        rcases hr15 with ⟨rfl, c16⟩ | ⟨rfl, c16⟩
        · refine fx_if_ne (tgt := 38) hx hb dX12_fixes_32 (by decide) zk_1 (fun c17 => ?_) (fun c17 => by exfalso; omega)
          refine lv_aload_n hx hb dX12_fixes_38 rfl (lv_at hl 0 rfl) ?_
          refine fm_getG (a := 60) (j := 75) (T := TX12) (N := 79) hx hb hts hinX12 hown hc hw kl_60 sh_60 rfl (by decide) rfl (hI.to kl_60 tg_60_75) (hts (.fieldLink RX12 158 "RedTentModel" "sort" "[I") (List.mem_cons_of_mem _ tw_5_195)) (fun _ h9 => h9) dX12_fixes_39 ?_
          refine lv_iload_n hx hb dX12_fixes_42 rfl (lv_at hl 2 rfl) ?_
          refine fm_iald (a := 175) hx hb hc hw hI kl_175 sh_175 ty_175 bd_175 (by omega) dX12_fixes_43 (fun x18 ex18 bx18 => ?_)
          refine fx_if_ge (tgt := 50) hx hb dX12_fixes_44 (by decide) rfl (fun c19 => ?_) (fun c19 => ?_)
          · refine lv_aload_n hx hb dX12_fixes_50 rfl (lv_at hl 0 rfl) ?_
            refine fm_getG (a := 60) (j := 75) (T := TX12) (N := 79) hx hb hts hinX12 hown hc hw kl_60 sh_60 rfl (by decide) rfl (hI.to kl_60 tg_60_75) (hts (.fieldLink RX12 158 "RedTentModel" "sort" "[I") (List.mem_cons_of_mem _ tw_5_195)) (fun _ h9 => h9) dX12_fixes_51 ?_
            refine lv_iload_n hx hb dX12_fixes_54 rfl (lv_at hl 2 rfl) ?_
            refine fm_iald (a := 175) hx hb hc hw hI kl_175 sh_175 ty_175 bd_175 (by omega) dX12_fixes_55 (fun x20 ex20 bx20 => ?_)
            obtain rfl : x18 = x20 := by rw [ex20]; exact ex18
            refine lv_iload_n hx hb dX12_fixes_56 rfl (lv_at hl 3 rfl) ?_
            refine fx_icmp_eq (tgt := 63) hx hb dX12_fixes_57 (by decide) rfl rfl (fun c21 => ?_) (fun c21 => ?_)
            · refine lv_iconst (v := 0) hx hb dX12_fixes_63 (by decide) ?_
              refine lv_istore (lv' := [(6, .int 0), (0, .ref (ad 60 0)), (1, .int p0), (2, .int p1), (3, .int p2), (4, .int p3), (5, .int p4)]) hx hb dX12_fixes_64 hl (by decide) rfl (fun ls hl => ?_)
              refine lv_iconst (v := 0) hx hb dX12_fixes_66 (by decide) ?_
              refine lv_istore (lv' := [(7, .int 0), (6, .int 0), (0, .ref (ad 60 0)), (1, .int p0), (2, .int p1), (3, .int p2), (4, .int p3), (5, .int p4)]) hx hb dX12_fixes_67 hl (by decide) rfl (fun ls hl => ?_)
              have lp : ∀ (n_lp : Nat) (lp_7 : Int32) (lp_6 : Int32) (M_lp : fm_M), (20 - lp_7.toInt).toNat < n_lp → (0 ≤ lp_7.toInt ∧ lp_7.toInt ≤ 20) → (0 ≤ lp_6.toInt ∧ lp_6.toInt ≤ 20) → (lp_6.toInt ≤ lp_7.toInt) → fm_I nb ad M_lp → fm_same [60021, 117000, 118000, 119000, 120000] M M_lp → ∀ (H : Heap) (locs : List Loc), fm_at D ad C nb M_lp H → va_S (fm_A nb ad) s.heap H locs → ∀ (ls : Array Slot), lv_has ls 12 [(7, .int lp_7), (6, .int lp_6), (0, .ref (ad 60 0)), (1, .int p0), (2, .int p1), (3, .int p2), (4, .int p3), (5, .int p4)] → W p l e (headSpec wsX12_fixes ({ frames := 2, cells := 0, slots := 0, locals := 42 })).room s m ([.ref (ad 60 0), .int p0, .int p1, .int p2, .int p3, .int p4] : List Value).toArray below meth c H locs 0 0 (MQ below (va_Qi (fun (r : Int32) (u : fm_M) => fm_I nb ad u ∧ fm_same [60021, 117000, 118000, 119000, 120000] M u ∧ True) (fun u t => fm_at D ad C nb u t.heap) (fm_A nb ad)) ([.ref (ad 60 0), .int p0, .int p1, .int p2, .int p3, .int p4] : List Value).toArray s 0 0 (fm_A nb ad)) (F0 m 69 ls []) := by
                intro n_lp
                induction n_lp with
                | zero => intro lp_7 lp_6 M_lp hm_lp b_lp_7 b_lp_6 h8 hI hE H locs hw hS ls hl; exact absurd hm_lp (Nat.not_lt_zero _)
                | succ n_lp ih_lp =>
                  intro lp_7 lp_6 M_lp hm_lp b_lp_7 b_lp_6 h8 hI hE H locs hw hS ls hl
                  refine lv_iload hx hb dX12_fixes_69 (lv_at hl 0 rfl) ?_
                  refine lv_iload hx hb dX12_fixes_71 (lv_at hl 7 rfl) ?_
                  refine fx_icmp_ge (tgt := 202) hx hb dX12_fixes_73 (by decide) rfl rfl (fun c22 => ?_) (fun c22 => ?_)
                  · refine lv_iload hx hb dX12_fixes_202 (lv_at hl 1 rfl) ?_
                    exact W.iret (v := lp_6) hx hb hr (fun t ht hW => ⟨⟨lp_6, M_lp, rfl, ⟨hI, hE, trivial⟩, by show fm_at D ad C nb _ t.heap; rw [ht]; exact hw⟩, hS.F ht⟩) hS.2.2 dX12_fixes_204
                  · refine lv_iload hx hb dX12_fixes_76 (lv_at hl 6 rfl) ?_
                    refine fx_i2l hx hb dX12_fixes_78 rfl (fun y23 ey23 ty23 => ?_)
                    refine lv_ldc2 (v := 2) hx hb hown (hts (.constantLong RX12 464 (2)) (List.mem_cons_of_mem _ tw_7_223)) dX12_fixes_79 ?_
                    refine lv_iload hx hb dX12_fixes_82 (lv_at hl 0 rfl) ?_
                    refine fx_i2l hx hb dX12_fixes_84 rfl (fun y24 ey24 ty24 => ?_)
                    refine lv_lmul hx hb dX12_fixes_85 ?_
                    refine lv_topl (fun y25 ey25 => ?_)
                    refine lv_ladd hx hb dX12_fixes_86 ?_
                    refine lv_topl (fun y26 ey26 => ?_)
                    refine lv_lstore (lv' := [(8, .long y26), (7, .int lp_7), (6, .int lp_6), (0, .ref (ad 60 0)), (1, .int p0), (2, .int p1), (3, .int p2), (4, .int p3), (5, .int p4)]) hx hb dX12_fixes_87 hl (by decide) rfl (fun ls hl => ?_)
                    refine lv_aload_n hx hb dX12_fixes_89 rfl (lv_at hl 3 rfl) ?_
                    refine lv_iload_n hx hb dX12_fixes_90 rfl (lv_at hl 5 rfl) ?_
                    refine lv_lload hx hb dX12_fixes_91 (lv_at hl 0 rfl) ?_
                    refine vp_callSi (va_Run.run (va_runV (As := [.int p1, .long y26]) (rest := []) ⟨hx, hb, hml, hown, hts⟩ (fc_X12_isItem l D ad C nb M_lp hI p1 y26 (by omega)) (cwV 2 hts gX12_fixes_X12_isItem rfl rfl rfl (by decide +kernel) ⟨Nat.le_of_ble_eq_true rfl, Nat.le_of_ble_eq_true rfl⟩) (fm_preV hc hw hS kl_60 sh_60 rfl) rfl rfl hl.1 rfl (lv_room (Nat.le_of_ble_eq_true rfl)) dX12_fixes_93 ⟨by decide +kernel, by decide +kernel⟩)) (fun r27 hr27 => ?_)
                    have bqq28 := hI.bd (k := 0) (bd_176 p1.toNatClampNeg)
                    rcases hr27 with ⟨rfl, c29⟩ | ⟨rfl, c29⟩
                    · refine fx_if_eq (tgt := 111) hx hb dX12_fixes_96 (by decide) zk_1 (fun c30 => by exfalso; omega) (fun c30 => ?_)
                      refine lv_aload_n hx hb dX12_fixes_99 rfl (lv_at hl 3 rfl) ?_
                      refine lv_iload_n hx hb dX12_fixes_100 rfl (lv_at hl 5 rfl) ?_
                      refine lv_lload hx hb dX12_fixes_101 (lv_at hl 0 rfl) ?_
                      refine lv_lconst (v := 1) hx hb dX12_fixes_103 (by decide) ?_
                      refine lv_ladd hx hb dX12_fixes_104 ?_
                      refine lv_topl (fun y31 ey31 => ?_)
                      have ty31 : y31.toInt = y26.toInt + 1 := by rw [ey31]; exact zl_inc (by omega)
                      refine vp_callSi (va_Run.run (va_runV (As := [.int p1, .long y31]) (rest := []) ⟨hx, hb, hml, hown, hts⟩ (fc_X12_isItem l D ad C nb M_lp hI p1 y31 (by omega)) (cwV 2 hts gX12_fixes_X12_isItem rfl rfl rfl (by decide +kernel) ⟨Nat.le_of_ble_eq_true rfl, Nat.le_of_ble_eq_true rfl⟩) (fm_preV hc hw hS kl_60 sh_60 rfl) rfl rfl hl.1 rfl (lv_room (Nat.le_of_ble_eq_true rfl)) dX12_fixes_105 ⟨by decide +kernel, by decide +kernel⟩)) (fun r32 hr32 => ?_)
                      have bqq33 := hI.bd (k := 0) (bd_176 p1.toNatClampNeg)
                      rcases hr32 with ⟨rfl, c34⟩ | ⟨rfl, c34⟩
                      · refine fx_if_ne (tgt := 114) hx hb dX12_fixes_108 (by decide) zk_1 (fun c35 => ?_) (fun c35 => by exfalso; omega)
                        refine lv_aload_n hx hb dX12_fixes_114 rfl (lv_at hl 3 rfl) ?_
                        refine fm_getG (a := 60) (j := 77) (T := TX12) (N := 79) hx hb hts hinX12 hown hc hw kl_60 sh_60 rfl (by decide) rfl (hI.to kl_60 tg_60_77) (hts (.fieldLink RX12 164 "RedTentModel" "items" "[I") (List.mem_cons_of_mem _ tw_5_197)) (fun _ h9 => h9) dX12_fixes_115 ?_
                        refine lv_bipush (v := 40) hx hb dX12_fixes_118 (by decide) ?_
                        refine lv_iload_n hx hb dX12_fixes_120 rfl (lv_at hl 5 rfl) ?_
                        refine fx_imul hx hb dX12_fixes_121 zk_40 rfl (by omega) (fun y36 ey36 ty36 => ?_)
                        refine lv_lload hx hb dX12_fixes_122 (lv_at hl 0 rfl) ?_
                        refine fx_l2i hx hb dX12_fixes_124 (by omega) (fun y37 ey37 ty37 => ?_)
                        refine fx_iadd hx hb dX12_fixes_125 rfl rfl (by omega) (fun y38 ey38 ty38 => ?_)
                        refine fm_iald (a := 177) hx hb hc hw hI kl_177 sh_177 ty_177 bd_177 (by omega) dX12_fixes_126 (fun x39 ex39 bx39 => ?_)
                        refine lv_istore (lv' := [(10, .int x39), (8, .long y26), (7, .int lp_7), (6, .int lp_6), (0, .ref (ad 60 0)), (1, .int p0), (2, .int p1), (3, .int p2), (4, .int p3), (5, .int p4)]) hx hb dX12_fixes_127 hl (by decide) rfl (fun ls hl => ?_)
                        refine lv_aload_n hx hb dX12_fixes_129 rfl (lv_at hl 4 rfl) ?_
                        refine fm_getG (a := 60) (j := 77) (T := TX12) (N := 79) hx hb hts hinX12 hown hc hw kl_60 sh_60 rfl (by decide) rfl (hI.to kl_60 tg_60_77) (hts (.fieldLink RX12 164 "RedTentModel" "items" "[I") (List.mem_cons_of_mem _ tw_5_197)) (fun _ h9 => h9) dX12_fixes_130 ?_
                        refine lv_bipush (v := 40) hx hb dX12_fixes_133 (by decide) ?_
                        refine lv_iload_n hx hb dX12_fixes_135 rfl (lv_at hl 6 rfl) ?_
                        refine fx_imul hx hb dX12_fixes_136 zk_40 rfl (by omega) (fun y40 ey40 ty40 => ?_)
                        refine lv_lload hx hb dX12_fixes_137 (lv_at hl 1 rfl) ?_
                        refine fx_l2i hx hb dX12_fixes_139 (by omega) (fun y41 ey41 ty41 => ?_)
                        refine fx_iadd hx hb dX12_fixes_140 rfl rfl (by omega) (fun y42 ey42 ty42 => ?_)
                        refine lv_iconst (v := 1) hx hb dX12_fixes_141 (by decide) ?_
                        refine fx_iadd hx hb dX12_fixes_142 rfl zk_1 (by omega) (fun y43 ey43 ty43 => ?_)
                        refine fm_iald (a := 177) hx hb hc hw hI kl_177 sh_177 ty_177 bd_177 (by omega) dX12_fixes_143 (fun x44 ex44 bx44 => ?_)
                        refine lv_istore (lv' := [(11, .int x44), (10, .int x39), (8, .long y26), (7, .int lp_7), (6, .int lp_6), (0, .ref (ad 60 0)), (1, .int p0), (2, .int p1), (3, .int p2), (4, .int p3), (5, .int p4)]) hx hb dX12_fixes_144 hl (by decide) rfl (fun ls hl => ?_)
                        refine lv_iload hx hb dX12_fixes_146 (lv_at hl 1 rfl) ?_
                        refine lv_aload_n hx hb dX12_fixes_148 rfl (lv_at hl 5 rfl) ?_
                        refine fm_getG (a := 60) (j := 11) (T := TX12) (N := 79) hx hb hts hinX12 hown hc hw kl_60 sh_60 rfl (by decide) rfl (hI.to kl_60 tg_60_11) (hts (.fieldLink RX12 31 "RedTentModel" "began" "[I") (List.mem_cons_of_mem _ tw_5_131)) (fun _ h9 => h9) dX12_fixes_149 ?_
                        refine lv_iload_n hx hb dX12_fixes_152 rfl (lv_at hl 6 rfl) ?_
                        refine fm_iald (a := 111) hx hb hc hw hI kl_111 sh_111 ty_111 bd_111 (by omega) dX12_fixes_153 (fun x45 ex45 bx45 => ?_)
                        refine lv_aload_n hx hb dX12_fixes_154 rfl (lv_at hl 5 rfl) ?_
                        refine fm_getI (a := 60) (j := 0) (T := TX12) (N := 79) hx hb hts hinX12 hown hc hw hI kl_60 sh_60 rfl (by decide) rfl bd_60_0 (hts (.fieldLink RX12 201 "RedTentModel" "hour" "I") (List.mem_cons_of_mem _ tw_5_120)) (fun _ h9 => h9) dX12_fixes_155 (fun x46 ex46 bx46 => ?_)
                        refine vp_callSi (va_Run.run (va_runS (As := [.int x39, .int x45, .int x46]) (rest := []) ⟨hx, hb, hml, hown, hts⟩ (fc_X12_within l x39 x45 x46) (va_cwS 3 hts gX12_fixes_X12_within rfl rfl rfl (by decide +kernel) ⟨Nat.le_of_ble_eq_true rfl, Nat.le_of_ble_eq_true rfl⟩) ⟨fun a U g mk q => q, fun U hU hW => ⟨rfl, trivial⟩⟩ rfl rfl hl.1 rfl (lv_room (Nat.le_of_ble_eq_true rfl)) dX12_fixes_158 ⟨by decide +kernel, by decide +kernel⟩)) (fun r47 hr47 => ?_)
                        rcases hr47 with ⟨rfl, c48⟩ | ⟨rfl, c48⟩
                        · refine fx_if_eq (tgt := 196) hx hb dX12_fixes_161 (by decide) zk_1 (fun c49 => by exfalso; omega) (fun c49 => ?_)
                          refine lv_iload hx hb dX12_fixes_164 (lv_at hl 0 rfl) ?_
                          refine vp_callSi (va_Run.run (va_runS (As := [.int x44]) (rest := []) ⟨hx, hb, hml, hown, hts⟩ (fc_X12_isCell l x44) (va_cwS 1 hts gX12_fixes_X12_isCell rfl rfl rfl (by decide +kernel) ⟨Nat.le_of_ble_eq_true rfl, Nat.le_of_ble_eq_true rfl⟩) ⟨fun a U g mk q => q, fun U hU hW => ⟨rfl, trivial⟩⟩ rfl rfl hl.1 rfl (lv_room (Nat.le_of_ble_eq_true rfl)) dX12_fixes_166 ⟨by decide +kernel, by decide +kernel⟩)) (fun r50 hr50 => ?_)
                          rcases hr50 with ⟨rfl, c51⟩ | ⟨rfl, c51⟩
                          · refine fx_if_eq (tgt := 196) hx hb dX12_fixes_169 (by decide) zk_1 (fun c52 => by exfalso; omega) (fun c52 => ?_)
                            refine lv_iload hx hb dX12_fixes_172 (lv_at hl 4 rfl) ?_
                            refine lv_aload_n hx hb dX12_fixes_174 rfl (lv_at hl 5 rfl) ?_
                            refine lv_iload_n hx hb dX12_fixes_175 rfl (lv_at hl 6 rfl) ?_
                            refine lv_iload hx hb dX12_fixes_176 (lv_at hl 1 rfl) ?_
                            refine lv_lconst (v := 1) hx hb dX12_fixes_178 (by decide) ?_
                            refine lv_iload hx hb dX12_fixes_179 (lv_at hl 0 rfl) ?_
                            refine lv_lshl (v := (1 : Int64) <<< (x44.toInt64 &&& 63)) hx hb dX12_fixes_181 rfl ?_
                            refine lv_topl (fun y53 ey53 => ?_)
                            refine fm_ci (va_runV (As := [.int p0, .int x39, .long y53]) (rest := [.int lp_6]) ⟨hx, hb, hml, hown, hts⟩ (fc_X12_addFix l D ad C nb M_lp hI p0 x39 y53 (by omega) (by omega)) (cwV 3 hts gX12_fixes_X12_addFix rfl rfl rfl (by decide +kernel) ⟨Nat.le_of_ble_eq_true rfl, Nat.le_of_ble_eq_true rfl⟩) (fm_preV hc hw hS kl_60 sh_60 rfl) rfl rfl hl.1 rfl (lv_room (Nat.le_of_ble_eq_true rfl)) dX12_fixes_182 ⟨by decide +kernel, by decide +kernel⟩) hS hc (fun r54 M55 H locs hr54 hw hS => ?_)
                            obtain ⟨hI, hEM55, hr54⟩ := hr54
                            have hE := hE.tr hEM55 (by decide)
                            refine fx_if_le (tgt := 192) hx hb dX12_fixes_185 (by decide) rfl (fun c56 => ?_) (fun c56 => ?_)
                            · refine lv_iconst (v := 0) hx hb dX12_fixes_192 (by decide) ?_
                              refine fx_iadd hx hb dX12_fixes_193 rfl zk_0 (by omega) (fun y57 ey57 ty57 => ?_)
                              refine lv_istore (lv' := [(6, .int y57), (11, .int x44), (10, .int x39), (8, .long y26), (7, .int lp_7), (0, .ref (ad 60 0)), (1, .int p0), (2, .int p1), (3, .int p2), (4, .int p3), (5, .int p4)]) hx hb dX12_fixes_194 hl (by decide) rfl (fun ls hl => ?_)
                              obtain ⟨y58, ey58⟩ : ∃ y : Int32, y = lp_7 + 1 := ⟨_, rfl⟩
                              have ty58 : y58.toInt = lp_7.toInt + 1 := by rw [ey58, zi_add _ _ (by rw [zk_1]; omega) (by rw [zk_1]; omega), zk_1]
                              refine lv_iinc (v := y58) (lv' := [(7, .int y58), (6, .int y57), (11, .int x44), (10, .int x39), (8, .long y26), (0, .ref (ad 60 0)), (1, .int p0), (2, .int p1), (3, .int p2), (4, .int p3), (5, .int p4)]) hx hb dX12_fixes_196 hl (k := 4) rfl (by rw [ey58]; rfl) (by decide) rfl (fun ls hl => ?_)
                              refine lv_goto (tgt := 69) hx hb dX12_fixes_199 (by decide) ?_
                              exact ih_lp y58 y57 M55 (by omega) (by omega) (by omega) (by omega) hI hE _ _ hw hS ls (lv_sub hl [0, 1, 5, 6, 7, 8, 9, 10] rfl)
                            · refine lv_iconst (v := 1) hx hb dX12_fixes_188 (by decide) ?_
                              refine lv_goto (tgt := 193) hx hb dX12_fixes_189 (by decide) ?_
                              refine fx_iadd hx hb dX12_fixes_193 rfl zk_1 (by omega) (fun y59 ey59 ty59 => ?_)
                              refine lv_istore (lv' := [(6, .int y59), (11, .int x44), (10, .int x39), (8, .long y26), (7, .int lp_7), (0, .ref (ad 60 0)), (1, .int p0), (2, .int p1), (3, .int p2), (4, .int p3), (5, .int p4)]) hx hb dX12_fixes_194 hl (by decide) rfl (fun ls hl => ?_)
                              obtain ⟨y60, ey60⟩ : ∃ y : Int32, y = lp_7 + 1 := ⟨_, rfl⟩
                              have ty60 : y60.toInt = lp_7.toInt + 1 := by rw [ey60, zi_add _ _ (by rw [zk_1]; omega) (by rw [zk_1]; omega), zk_1]
                              refine lv_iinc (v := y60) (lv' := [(7, .int y60), (6, .int y59), (11, .int x44), (10, .int x39), (8, .long y26), (0, .ref (ad 60 0)), (1, .int p0), (2, .int p1), (3, .int p2), (4, .int p3), (5, .int p4)]) hx hb dX12_fixes_196 hl (k := 4) rfl (by rw [ey60]; rfl) (by decide) rfl (fun ls hl => ?_)
                              refine lv_goto (tgt := 69) hx hb dX12_fixes_199 (by decide) ?_
                              exact ih_lp y60 y59 M55 (by omega) (by omega) (by omega) (by omega) hI hE _ _ hw hS ls (lv_sub hl [0, 1, 5, 6, 7, 8, 9, 10] rfl)
                          · refine fx_if_eq (tgt := 196) hx hb dX12_fixes_169 (by decide) zk_0 (fun c61 => ?_) (fun c61 => by exfalso; omega)
                            obtain ⟨y62, ey62⟩ : ∃ y : Int32, y = lp_7 + 1 := ⟨_, rfl⟩
                            have ty62 : y62.toInt = lp_7.toInt + 1 := by rw [ey62, zi_add _ _ (by rw [zk_1]; omega) (by rw [zk_1]; omega), zk_1]
                            refine lv_iinc (v := y62) (lv' := [(7, .int y62), (11, .int x44), (10, .int x39), (8, .long y26), (6, .int lp_6), (0, .ref (ad 60 0)), (1, .int p0), (2, .int p1), (3, .int p2), (4, .int p3), (5, .int p4)]) hx hb dX12_fixes_196 hl (k := 3) rfl (by rw [ey62]; rfl) (by decide) rfl (fun ls hl => ?_)
                            refine lv_goto (tgt := 69) hx hb dX12_fixes_199 (by decide) ?_
                            exact ih_lp y62 lp_6 M_lp (by omega) (by omega) (by omega) (by omega) hI hE _ _ hw hS ls (lv_sub hl [0, 4, 5, 6, 7, 8, 9, 10] rfl)
                        · refine fx_if_eq (tgt := 196) hx hb dX12_fixes_161 (by decide) zk_0 (fun c63 => ?_) (fun c63 => by exfalso; omega)
                          obtain ⟨y64, ey64⟩ : ∃ y : Int32, y = lp_7 + 1 := ⟨_, rfl⟩
                          have ty64 : y64.toInt = lp_7.toInt + 1 := by rw [ey64, zi_add _ _ (by rw [zk_1]; omega) (by rw [zk_1]; omega), zk_1]
                          refine lv_iinc (v := y64) (lv' := [(7, .int y64), (11, .int x44), (10, .int x39), (8, .long y26), (6, .int lp_6), (0, .ref (ad 60 0)), (1, .int p0), (2, .int p1), (3, .int p2), (4, .int p3), (5, .int p4)]) hx hb dX12_fixes_196 hl (k := 3) rfl (by rw [ey64]; rfl) (by decide) rfl (fun ls hl => ?_)
                          refine lv_goto (tgt := 69) hx hb dX12_fixes_199 (by decide) ?_
                          exact ih_lp y64 lp_6 M_lp (by omega) (by omega) (by omega) (by omega) hI hE _ _ hw hS ls (lv_sub hl [0, 4, 5, 6, 7, 8, 9, 10] rfl)
                      · refine fx_if_ne (tgt := 114) hx hb dX12_fixes_108 (by decide) zk_0 (fun c65 => by exfalso; omega) (fun c65 => ?_)
                        refine lv_bipush (v := (-12)) hx hb dX12_fixes_111 (by decide) ?_
                        exact W.iret (v := (-12)) hx hb hr (fun t ht hW => ⟨⟨(-12), M_lp, rfl, ⟨hI, hE, trivial⟩, by show fm_at D ad C nb _ t.heap; rw [ht]; exact hw⟩, hS.F ht⟩) hS.2.2 dX12_fixes_113
                    · refine fx_if_eq (tgt := 111) hx hb dX12_fixes_96 (by decide) zk_0 (fun c66 => ?_) (fun c66 => by exfalso; omega)
                      refine lv_bipush (v := (-12)) hx hb dX12_fixes_111 (by decide) ?_
                      exact W.iret (v := (-12)) hx hb hr (fun t ht hW => ⟨⟨(-12), M_lp, rfl, ⟨hI, hE, trivial⟩, by show fm_at D ad C nb _ t.heap; rw [ht]; exact hw⟩, hS.F ht⟩) hS.2.2 dX12_fixes_113
              exact lp _ 0 0 M (Nat.lt_succ_self _) (by decide) (by decide) (by have zlp_7 := zk_0; have zlp_6 := zk_0; omega) hI hE _ _ hw hS ls (lv_sub hl [0, 1, 2, 3, 4, 5, 6, 7] rfl)
            · refine lv_bipush (v := (-13)) hx hb dX12_fixes_60 (by decide) ?_
              exact W.iret (v := (-13)) hx hb hr (fun t ht hW => ⟨⟨(-13), M, rfl, ⟨hI, hE, trivial⟩, by show fm_at D ad C nb _ t.heap; rw [ht]; exact hw⟩, hS.F ht⟩) hS.2.2 dX12_fixes_62
          · refine lv_bipush (v := (-11)) hx hb dX12_fixes_47 (by decide) ?_
            exact W.iret (v := (-11)) hx hb hr (fun t ht hW => ⟨⟨(-11), M, rfl, ⟨hI, hE, trivial⟩, by show fm_at D ad C nb _ t.heap; rw [ht]; exact hw⟩, hS.F ht⟩) hS.2.2 dX12_fixes_49
        · refine fx_if_ne (tgt := 38) hx hb dX12_fixes_32 (by decide) zk_0 (fun c67 => by exfalso; omega) (fun c67 => ?_)
          refine lv_bipush (v := (-2)) hx hb dX12_fixes_35 (by decide) ?_
          exact W.iret (v := (-2)) hx hb hr (fun t ht hW => ⟨⟨(-2), M, rfl, ⟨hI, hE, trivial⟩, by show fm_at D ad C nb _ t.heap; rw [ht]; exact hw⟩, hS.F ht⟩) hS.2.2 dX12_fixes_37
      · refine fx_if_eq (tgt := 35) hx hb dX12_fixes_21 (by decide) zk_0 (fun c68 => ?_) (fun c68 => by exfalso; omega)
        refine lv_bipush (v := (-2)) hx hb dX12_fixes_35 (by decide) ?_
        exact W.iret (v := (-2)) hx hb hr (fun t ht hW => ⟨⟨(-2), M, rfl, ⟨hI, hE, trivial⟩, by show fm_at D ad C nb _ t.heap; rw [ht]; exact hw⟩, hS.F ht⟩) hS.2.2 dX12_fixes_37
    · refine fx_if_eq (tgt := 35) hx hb dX12_fixes_12 (by decide) zk_0 (fun c69 => ?_) (fun c69 => by exfalso; omega)
      refine lv_bipush (v := (-2)) hx hb dX12_fixes_35 (by decide) ?_
      exact W.iret (v := (-2)) hx hb hr (fun t ht hW => ⟨⟨(-2), M, rfl, ⟨hI, hE, trivial⟩, by show fm_at D ad C nb _ t.heap; rw [ht]; exact hw⟩, hS.F ht⟩) hS.2.2 dX12_fixes_37
  · refine fx_if_eq (tgt := 35) hx hb dX12_fixes_5 (by decide) zk_0 (fun c70 => ?_) (fun c70 => by exfalso; omega)
    refine lv_bipush (v := (-2)) hx hb dX12_fixes_35 (by decide) ?_
    exact W.iret (v := (-2)) hx hb hr (fun t ht hW => ⟨⟨(-2), M, rfl, ⟨hI, hE, trivial⟩, by show fm_at D ad C nb _ t.heap; rw [ht]; exact hw⟩, hS.F ht⟩) hS.2.2 dX12_fixes_37
set_option maxHeartbeats 400000 in
set_option maxRecDepth 20000 in
theorem fc_X12_taken (l : Launch) (D : va_G) (ad : Nat → Nat → Nat) (C : Nat → Nat → ClassId) (nb : Nat) (M : fm_M) (hI : fm_I nb ad M) (p0 p1 : Int32) : Met l yX12_taken wsX12_taken ({ frames := 1, cells := 0, slots := 0, locals := 22 }) (va_Pc [.ref (ad 60 0), .int p0, .int p1] (fm_P D ad C nb M)) (vp_Si (fun r : Int32 => ((¬ (0 ≤ p1.toInt ∧ p1.toInt ≤ 5) ∧ r.toInt = -2) ∨ ((0 ≤ p1.toInt ∧ p1.toInt ≤ 5) ∧ ¬ (0 ≤ p0.toInt ∧ p0.toInt < (M.1 60 0 16).toInt) ∧ r.toInt = -11) ∨ ((0 ≤ p1.toInt ∧ p1.toInt ≤ 5) ∧ (0 ≤ p0.toInt ∧ p0.toInt < (M.1 60 0 16).toInt) ∧ (p1.toInt = 0 ∨ (M.1 110 0 p0.toNatClampNeg).toInt = p1.toInt ∨ ((M.1 110 0 p0.toNatClampNeg).toInt = 5 ∧ p1.toInt = 2) ∨ (((M.1 110 0 p0.toNatClampNeg).toInt = 3 ∨ (M.1 110 0 p0.toNatClampNeg).toInt = 4) ∧ p1.toInt = 1)) ∧ r.toInt = (M.1 113 0 p0.toNatClampNeg).toInt) ∨ ((0 ≤ p1.toInt ∧ p1.toInt ≤ 5) ∧ (0 ≤ p0.toInt ∧ p0.toInt < (M.1 60 0 16).toInt) ∧ ¬ (p1.toInt = 0 ∨ (M.1 110 0 p0.toNatClampNeg).toInt = p1.toInt ∨ ((M.1 110 0 p0.toNatClampNeg).toInt = 5 ∧ p1.toInt = 2) ∨ (((M.1 110 0 p0.toNatClampNeg).toInt = 3 ∨ (M.1 110 0 p0.toNatClampNeg).toInt = 4) ∧ p1.toInt = 1)) ∧ r.toInt = -13)))) 0 0 (fun _ => False) := by
  refine Met.ofW (cc := cX12_taken) (maxL := 3) (ret := (some .int)) (by decide) rfl ?_
  intro p e s m args below meth c s₁ B hml hv
  obtain ⟨rfl, hw, hc⟩ := hv
  have hx := B.exec
  have hb := B.bytes
  have hr := B.returns
  have hts := atoms_spec (ws := wsX12_taken) B.pre
  have hown : s.vm.findClass RX12 = some m.cls := findClass_of_methodNamed B.named
  have hinX12 : ∀ w ∈ u_ws RX12 TX12 79, w ∈ wsX12_taken := fun w h => List.mem_cons_of_mem _ (iT_X12 w h)
  have hS : va_S (fm_A nb ad) s.heap s.heap [] := va_S.rf
  have hl := lv_entry ([.ref (ad 60 0), .int p0, .int p1]) (n := 3) (Nat.le_of_ble_eq_true rfl)
  rw [lg_entry_eq]
  generalize (lg_sl ([.ref (ad 60 0), .int p0, .int p1]) ++ List.replicate (3 - (lg_sl ([.ref (ad 60 0), .int p0, .int p1])).length) Slot.unset).toArray = ls at hl ⊢
  have hl : lv_has ls 3 [(0, .ref (ad 60 0)), (1, .int p0), (2, .int p1)] := hl
  refine lv_iload_n hx hb dX12_taken_0 rfl (lv_at hl 2 rfl) ?_
  refine lv_iconst (v := 0) hx hb dX12_taken_1 (by decide) ?_
  refine lv_iconst (v := 5) hx hb dX12_taken_2 (by decide) ?_
  have zz1 := zk_0
  have zz2 := zk_5
  refine vp_callSi (va_Run.run (va_runS (As := [.int p1, .int 0, .int 5]) (rest := []) ⟨hx, hb, hml, hown, hts⟩ (fc_X12_within l p1 0 5) (va_cwS 3 hts gX12_taken_X12_within rfl rfl rfl (by decide +kernel) ⟨Nat.le_of_ble_eq_true rfl, Nat.le_of_ble_eq_true rfl⟩) ⟨fun a U g mk q => q, fun U hU hW => ⟨rfl, trivial⟩⟩ rfl rfl hl.1 rfl (lv_room (Nat.le_of_ble_eq_true rfl)) dX12_taken_3 ⟨by decide +kernel, by decide +kernel⟩)) (fun r3 hr3 => ?_)
  rcases hr3 with ⟨rfl, c4⟩ | ⟨rfl, c4⟩
  · refine fx_if_ne (tgt := 12) hx hb dX12_taken_6 (by decide) zk_1 (fun c5 => ?_) (fun c5 => by exfalso; omega)
    refine lv_aload_n hx hb dX12_taken_12 rfl (lv_at hl 0 rfl) ?_
    refine lv_iload_n hx hb dX12_taken_13 rfl (lv_at hl 1 rfl) ?_
    refine vp_callSi (va_Run.run (va_runV (As := [.int p0]) (rest := []) ⟨hx, hb, hml, hown, hts⟩ (fc_X12_isBody l D ad C nb M hI p0) (cwV 1 hts gX12_taken_X12_isBody rfl rfl rfl (by decide +kernel) ⟨Nat.le_of_ble_eq_true rfl, Nat.le_of_ble_eq_true rfl⟩) (fm_preV hc hw hS kl_60 sh_60 rfl) rfl rfl hl.1 rfl (lv_room (Nat.le_of_ble_eq_true rfl)) dX12_taken_14 ⟨by decide +kernel, by decide +kernel⟩)) (fun r6 hr6 => ?_)
    have bqq7 := hI.bd (k := 0) bd_60_16
    rcases hr6 with ⟨rfl, c8⟩ | ⟨rfl, c8⟩
    · refine fx_if_ne (tgt := 23) hx hb dX12_taken_17 (by decide) zk_1 (fun c9 => ?_) (fun c9 => by exfalso; omega)
      refine lv_iload_n hx hb dX12_taken_23 rfl (lv_at hl 2 rfl) ?_
      refine fx_if_eq (tgt := 50) hx hb dX12_taken_24 (by decide) rfl (fun c10 => ?_) (fun c10 => ?_)
      · refine lv_aload_n hx hb dX12_taken_50 rfl (lv_at hl 0 rfl) ?_
        refine fm_getG (a := 60) (j := 13) (T := TX12) (N := 79) hx hb hts hinX12 hown hc hw kl_60 sh_60 rfl (by decide) rfl (hI.to kl_60 tg_60_13) (hts (.fieldLink RX12 37 "RedTentModel" "menOf" "[I") (List.mem_cons_of_mem _ tw_5_133)) (fun _ h9 => h9) dX12_taken_51 ?_
        refine lv_iload_n hx hb dX12_taken_54 rfl (lv_at hl 1 rfl) ?_
        refine fm_iald (a := 113) hx hb hc hw hI kl_113 sh_113 ty_113 bd_113 (by omega) dX12_taken_55 (fun x11 ex11 bx11 => ?_)
        refine lv_goto (tgt := 61) hx hb dX12_taken_56 (by decide) ?_
        have qx11 : x11.toInt = (M.1 113 0 p0.toNatClampNeg).toInt := by rw [ex11]
        exact W.iret (v := x11) hx hb hr (fun t ht hW => ⟨x11, rfl, Or.inr (Or.inr (Or.inl ⟨by omega, by omega, by first | assumption | omega, by omega⟩)), ht⟩) (fun _ h => absurd h List.not_mem_nil) dX12_taken_61
      · refine lv_aload_n hx hb dX12_taken_27 rfl (lv_at hl 0 rfl) ?_
        refine fm_getG (a := 60) (j := 10) (T := TX12) (N := 79) hx hb hts hinX12 hown hc hw kl_60 sh_60 rfl (by decide) rfl (hI.to kl_60 tg_60_10) (hts (.fieldLink RX12 28 "RedTentModel" "kind" "[I") (List.mem_cons_of_mem _ tw_5_130)) (fun _ h9 => h9) dX12_taken_28 ?_
        refine lv_iload_n hx hb dX12_taken_31 rfl (lv_at hl 1 rfl) ?_
        refine fm_iald (a := 110) hx hb hc hw hI kl_110 sh_110 ty_110 bd_110 (by omega) dX12_taken_32 (fun x12 ex12 bx12 => ?_)
        refine lv_iload_n hx hb dX12_taken_33 rfl (lv_at hl 2 rfl) ?_
        refine fx_icmp_eq (tgt := 50) hx hb dX12_taken_34 (by decide) rfl rfl (fun c13 => ?_) (fun c13 => ?_)
        · refine lv_aload_n hx hb dX12_taken_50 rfl (lv_at hl 0 rfl) ?_
          refine fm_getG (a := 60) (j := 13) (T := TX12) (N := 79) hx hb hts hinX12 hown hc hw kl_60 sh_60 rfl (by decide) rfl (hI.to kl_60 tg_60_13) (hts (.fieldLink RX12 37 "RedTentModel" "menOf" "[I") (List.mem_cons_of_mem _ tw_5_133)) (fun _ h9 => h9) dX12_taken_51 ?_
          refine lv_iload_n hx hb dX12_taken_54 rfl (lv_at hl 1 rfl) ?_
          refine fm_iald (a := 113) hx hb hc hw hI kl_113 sh_113 ty_113 bd_113 (by omega) dX12_taken_55 (fun x14 ex14 bx14 => ?_)
          refine lv_goto (tgt := 61) hx hb dX12_taken_56 (by decide) ?_
          have qx12 : x12.toInt = (M.1 110 0 p0.toNatClampNeg).toInt := by rw [ex12]
          have qx14 : x14.toInt = (M.1 113 0 p0.toNatClampNeg).toInt := by rw [ex14]
          exact W.iret (v := x14) hx hb hr (fun t ht hW => ⟨x14, rfl, Or.inr (Or.inr (Or.inl ⟨by omega, by omega, by first | assumption | omega, by omega⟩)), ht⟩) (fun _ h => absurd h List.not_mem_nil) dX12_taken_61
        · refine lv_aload_n hx hb dX12_taken_37 rfl (lv_at hl 0 rfl) ?_
          refine fm_getG (a := 60) (j := 10) (T := TX12) (N := 79) hx hb hts hinX12 hown hc hw kl_60 sh_60 rfl (by decide) rfl (hI.to kl_60 tg_60_10) (hts (.fieldLink RX12 28 "RedTentModel" "kind" "[I") (List.mem_cons_of_mem _ tw_5_130)) (fun _ h9 => h9) dX12_taken_38 ?_
          refine lv_iload_n hx hb dX12_taken_41 rfl (lv_at hl 1 rfl) ?_
          refine fm_iald (a := 110) hx hb hc hw hI kl_110 sh_110 ty_110 bd_110 (by omega) dX12_taken_42 (fun x15 ex15 bx15 => ?_)
          obtain rfl : x12 = x15 := by rw [ex15]; exact ex12
          refine vp_callSi (va_Run.run (va_runS (As := [.int x12]) (rest := []) ⟨hx, hb, hml, hown, hts⟩ (fc_X12_above l x12) (va_cwS 1 hts gX12_taken_X12_above rfl rfl rfl (by decide +kernel) ⟨Nat.le_of_ble_eq_true rfl, Nat.le_of_ble_eq_true rfl⟩) ⟨fun a U g mk q => q, fun U hU hW => ⟨rfl, trivial⟩⟩ rfl rfl hl.1 rfl (lv_room (Nat.le_of_ble_eq_true rfl)) dX12_taken_43 ⟨by decide +kernel, by decide +kernel⟩)) (fun r16 hr16 => ?_)
          refine lv_iload_n hx hb dX12_taken_46 rfl (lv_at hl 2 rfl) ?_
          refine fx_icmp_ne (tgt := 59) hx hb dX12_taken_47 (by decide) rfl rfl (fun c17 => ?_) (fun c17 => ?_)
          · refine lv_bipush (v := (-13)) hx hb dX12_taken_59 (by decide) ?_
            have qx12 : x12.toInt = (M.1 110 0 p0.toNatClampNeg).toInt := by rw [ex12]
            exact W.iret (v := (-13)) hx hb hr (fun t ht hW => ⟨(-13), rfl, Or.inr (Or.inr (Or.inr (⟨by omega, by omega, by first | assumption | omega, zk_m13⟩))), ht⟩) (fun _ h => absurd h List.not_mem_nil) dX12_taken_61
          · refine lv_aload_n hx hb dX12_taken_50 rfl (lv_at hl 0 rfl) ?_
            refine fm_getG (a := 60) (j := 13) (T := TX12) (N := 79) hx hb hts hinX12 hown hc hw kl_60 sh_60 rfl (by decide) rfl (hI.to kl_60 tg_60_13) (hts (.fieldLink RX12 37 "RedTentModel" "menOf" "[I") (List.mem_cons_of_mem _ tw_5_133)) (fun _ h9 => h9) dX12_taken_51 ?_
            refine lv_iload_n hx hb dX12_taken_54 rfl (lv_at hl 1 rfl) ?_
            refine fm_iald (a := 113) hx hb hc hw hI kl_113 sh_113 ty_113 bd_113 (by omega) dX12_taken_55 (fun x18 ex18 bx18 => ?_)
            refine lv_goto (tgt := 61) hx hb dX12_taken_56 (by decide) ?_
            have qx12 : x12.toInt = (M.1 110 0 p0.toNatClampNeg).toInt := by rw [ex12]
            have qx18 : x18.toInt = (M.1 113 0 p0.toNatClampNeg).toInt := by rw [ex18]
            exact W.iret (v := x18) hx hb hr (fun t ht hW => ⟨x18, rfl, Or.inr (Or.inr (Or.inl ⟨by omega, by omega, by first | assumption | omega, by omega⟩)), ht⟩) (fun _ h => absurd h List.not_mem_nil) dX12_taken_61
    · refine fx_if_ne (tgt := 23) hx hb dX12_taken_17 (by decide) zk_0 (fun c19 => by exfalso; omega) (fun c19 => ?_)
      refine lv_bipush (v := (-11)) hx hb dX12_taken_20 (by decide) ?_
      exact W.iret (v := (-11)) hx hb hr (fun t ht hW => ⟨(-11), rfl, Or.inr (Or.inl ⟨by omega, by omega, zk_m11⟩), ht⟩) (fun _ h => absurd h List.not_mem_nil) dX12_taken_22
  · refine fx_if_ne (tgt := 12) hx hb dX12_taken_6 (by decide) zk_0 (fun c20 => by exfalso; omega) (fun c20 => ?_)
    refine lv_bipush (v := (-2)) hx hb dX12_taken_9 (by decide) ?_
    exact W.iret (v := (-2)) hx hb hr (fun t ht hW => ⟨(-2), rfl, Or.inl ⟨by omega, zk_m2⟩, ht⟩) (fun _ h => absurd h List.not_mem_nil) dX12_taken_11

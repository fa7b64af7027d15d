theorem zb_X12_within_0 : (decode cX12_within 0 = .ok (.iload_n 0, 1)) ∧ (decode cX12_within 1 = .ok (.iload_n 1, 1)) ∧ (decode cX12_within 2 = .ok (.if_icmp .lt 12, 3)) ∧ (decode cX12_within 14 = .ok (.iconst 0, 1)) ∧ (decode cX12_within 15 = .ok (.ireturn, 1)) ∧ (decode cX12_within 5 = .ok (.iload_n 0, 1)) ∧ (decode cX12_within 6 = .ok (.iload_n 2, 1)) ∧ (decode cX12_within 7 = .ok (.if_icmp .gt 7, 3)) ∧ (decode cX12_within 10 = .ok (.iconst 1, 1)) ∧ (decode cX12_within 11 = .ok (.goto 4, 3)) := by decide +kernel
theorem dX12_within_0 : decode cX12_within 0 = .ok (.iload_n 0, 1) := zb_X12_within_0.1
theorem dX12_within_1 : decode cX12_within 1 = .ok (.iload_n 1, 1) := zb_X12_within_0.2.1
theorem dX12_within_2 : decode cX12_within 2 = .ok (.if_icmp .lt 12, 3) := zb_X12_within_0.2.2.1
theorem dX12_within_14 : decode cX12_within 14 = .ok (.iconst 0, 1) := zb_X12_within_0.2.2.2.1
theorem dX12_within_15 : decode cX12_within 15 = .ok (.ireturn, 1) := zb_X12_within_0.2.2.2.2.1
theorem dX12_within_5 : decode cX12_within 5 = .ok (.iload_n 0, 1) := zb_X12_within_0.2.2.2.2.2.1
theorem dX12_within_6 : decode cX12_within 6 = .ok (.iload_n 2, 1) := zb_X12_within_0.2.2.2.2.2.2.1
theorem dX12_within_7 : decode cX12_within 7 = .ok (.if_icmp .gt 7, 3) := zb_X12_within_0.2.2.2.2.2.2.2.1
theorem dX12_within_10 : decode cX12_within 10 = .ok (.iconst 1, 1) := zb_X12_within_0.2.2.2.2.2.2.2.2.1
theorem dX12_within_11 : decode cX12_within 11 = .ok (.goto 4, 3) := zb_X12_within_0.2.2.2.2.2.2.2.2.2
theorem zb_X12_areHours_0 : (decode cX12_areHours 0 = .ok (.iload_n 0, 1)) ∧ (decode cX12_areHours 1 = .ok (.iconst 0, 1)) ∧ (decode cX12_areHours 2 = .ok (.sipush 240, 3)) ∧ (decode cX12_areHours 5 = .ok (.invokestatic 186, 3)) ∧ (decode cX12_areHours 8 = .ok (.ifCond .eq 20, 3)) ∧ (decode cX12_areHours 11 = .ok (.iload_n 1, 1)) ∧ (decode cX12_areHours 12 = .ok (.iload_n 0, 1)) ∧ (decode cX12_areHours 13 = .ok (.iconst 1, 1)) := by decide +kernel
theorem dX12_areHours_0 : decode cX12_areHours 0 = .ok (.iload_n 0, 1) := zb_X12_areHours_0.1
theorem dX12_areHours_1 : decode cX12_areHours 1 = .ok (.iconst 0, 1) := zb_X12_areHours_0.2.1
theorem dX12_areHours_2 : decode cX12_areHours 2 = .ok (.sipush 240, 3) := zb_X12_areHours_0.2.2.1
theorem dX12_areHours_5 : decode cX12_areHours 5 = .ok (.invokestatic 186, 3) := zb_X12_areHours_0.2.2.2.1
theorem dX12_areHours_8 : decode cX12_areHours 8 = .ok (.ifCond .eq 20, 3) := zb_X12_areHours_0.2.2.2.2.1
theorem dX12_areHours_11 : decode cX12_areHours 11 = .ok (.iload_n 1, 1) := zb_X12_areHours_0.2.2.2.2.2.1
theorem dX12_areHours_12 : decode cX12_areHours 12 = .ok (.iload_n 0, 1) := zb_X12_areHours_0.2.2.2.2.2.2.1
theorem dX12_areHours_13 : decode cX12_areHours 13 = .ok (.iconst 1, 1) := zb_X12_areHours_0.2.2.2.2.2.2.2
theorem zb_X12_areHours_14 : (decode cX12_areHours 14 = .ok (.iadd, 1)) ∧ (decode cX12_areHours 15 = .ok (.sipush 240, 3)) ∧ (decode cX12_areHours 18 = .ok (.invokestatic 186, 3)) ∧ (decode cX12_areHours 21 = .ok (.ifCond .eq 7, 3)) ∧ (decode cX12_areHours 24 = .ok (.iconst 1, 1)) ∧ (decode cX12_areHours 25 = .ok (.goto 4, 3)) ∧ (decode cX12_areHours 29 = .ok (.ireturn, 1)) ∧ (decode cX12_areHours 28 = .ok (.iconst 0, 1)) := by decide +kernel
theorem dX12_areHours_14 : decode cX12_areHours 14 = .ok (.iadd, 1) := zb_X12_areHours_14.1
theorem dX12_areHours_15 : decode cX12_areHours 15 = .ok (.sipush 240, 3) := zb_X12_areHours_14.2.1
theorem dX12_areHours_18 : decode cX12_areHours 18 = .ok (.invokestatic 186, 3) := zb_X12_areHours_14.2.2.1
theorem dX12_areHours_21 : decode cX12_areHours 21 = .ok (.ifCond .eq 7, 3) := zb_X12_areHours_14.2.2.2.1
theorem dX12_areHours_24 : decode cX12_areHours 24 = .ok (.iconst 1, 1) := zb_X12_areHours_14.2.2.2.2.1
theorem dX12_areHours_25 : decode cX12_areHours 25 = .ok (.goto 4, 3) := zb_X12_areHours_14.2.2.2.2.2.1
theorem dX12_areHours_29 : decode cX12_areHours 29 = .ok (.ireturn, 1) := zb_X12_areHours_14.2.2.2.2.2.2.1
theorem dX12_areHours_28 : decode cX12_areHours 28 = .ok (.iconst 0, 1) := zb_X12_areHours_14.2.2.2.2.2.2.2
theorem zb_X12_size_0 : (decode cX12_size 0 = .ok (.iload_n 0, 1)) ∧ (decode cX12_size 1 = .ok (.ifCond .ge 8, 3)) ∧ (decode cX12_size 9 = .ok (.iload_n 0, 1)) ∧ (decode cX12_size 10 = .ok (.ireturn, 1)) ∧ (decode cX12_size 4 = .ok (.iload_n 0, 1)) ∧ (decode cX12_size 5 = .ok (.ineg, 1)) ∧ (decode cX12_size 6 = .ok (.goto 4, 3)) := by decide +kernel
theorem dX12_size_0 : decode cX12_size 0 = .ok (.iload_n 0, 1) := zb_X12_size_0.1
theorem dX12_size_1 : decode cX12_size 1 = .ok (.ifCond .ge 8, 3) := zb_X12_size_0.2.1
theorem dX12_size_9 : decode cX12_size 9 = .ok (.iload_n 0, 1) := zb_X12_size_0.2.2.1
theorem dX12_size_10 : decode cX12_size 10 = .ok (.ireturn, 1) := zb_X12_size_0.2.2.2.1
theorem dX12_size_4 : decode cX12_size 4 = .ok (.iload_n 0, 1) := zb_X12_size_0.2.2.2.2.1
theorem dX12_size_5 : decode cX12_size 5 = .ok (.ineg, 1) := zb_X12_size_0.2.2.2.2.2.1
theorem dX12_size_6 : decode cX12_size 6 = .ok (.goto 4, 3) := zb_X12_size_0.2.2.2.2.2.2
theorem zb_X12_apart_0 : (decode cX12_apart 0 = .ok (.iload_n 0, 1)) ∧ (decode cX12_apart 1 = .ok (.bipush 8, 2)) ∧ (decode cX12_apart 3 = .ok (.irem, 1)) ∧ (decode cX12_apart 4 = .ok (.iload_n 1, 1)) ∧ (decode cX12_apart 5 = .ok (.bipush 8, 2)) ∧ (decode cX12_apart 7 = .ok (.irem, 1)) ∧ (decode cX12_apart 8 = .ok (.isub, 1)) ∧ (decode cX12_apart 9 = .ok (.invokestatic 197, 3)) ∧ (decode cX12_apart 12 = .ok (.istore_n 2, 1)) := by decide +kernel
theorem dX12_apart_0 : decode cX12_apart 0 = .ok (.iload_n 0, 1) := zb_X12_apart_0.1
theorem dX12_apart_1 : decode cX12_apart 1 = .ok (.bipush 8, 2) := zb_X12_apart_0.2.1
theorem dX12_apart_3 : decode cX12_apart 3 = .ok (.irem, 1) := zb_X12_apart_0.2.2.1
theorem dX12_apart_4 : decode cX12_apart 4 = .ok (.iload_n 1, 1) := zb_X12_apart_0.2.2.2.1
theorem dX12_apart_5 : decode cX12_apart 5 = .ok (.bipush 8, 2) := zb_X12_apart_0.2.2.2.2.1
theorem dX12_apart_7 : decode cX12_apart 7 = .ok (.irem, 1) := zb_X12_apart_0.2.2.2.2.2.1
theorem dX12_apart_8 : decode cX12_apart 8 = .ok (.isub, 1) := zb_X12_apart_0.2.2.2.2.2.2.1
theorem dX12_apart_9 : decode cX12_apart 9 = .ok (.invokestatic 197, 3) := zb_X12_apart_0.2.2.2.2.2.2.2.1
theorem dX12_apart_12 : decode cX12_apart 12 = .ok (.istore_n 2, 1) := zb_X12_apart_0.2.2.2.2.2.2.2.2
theorem zb_X12_apart_13 : (decode cX12_apart 13 = .ok (.iload_n 0, 1)) ∧ (decode cX12_apart 14 = .ok (.bipush 8, 2)) ∧ (decode cX12_apart 16 = .ok (.idiv, 1)) ∧ (decode cX12_apart 17 = .ok (.iload_n 1, 1)) ∧ (decode cX12_apart 18 = .ok (.bipush 8, 2)) ∧ (decode cX12_apart 20 = .ok (.idiv, 1)) ∧ (decode cX12_apart 21 = .ok (.isub, 1)) ∧ (decode cX12_apart 22 = .ok (.invokestatic 197, 3)) ∧ (decode cX12_apart 25 = .ok (.istore_n 3, 1)) := by decide +kernel
theorem dX12_apart_13 : decode cX12_apart 13 = .ok (.iload_n 0, 1) := zb_X12_apart_13.1
theorem dX12_apart_14 : decode cX12_apart 14 = .ok (.bipush 8, 2) := zb_X12_apart_13.2.1
theorem dX12_apart_16 : decode cX12_apart 16 = .ok (.idiv, 1) := zb_X12_apart_13.2.2.1
theorem dX12_apart_17 : decode cX12_apart 17 = .ok (.iload_n 1, 1) := zb_X12_apart_13.2.2.2.1
theorem dX12_apart_18 : decode cX12_apart 18 = .ok (.bipush 8, 2) := zb_X12_apart_13.2.2.2.2.1
theorem dX12_apart_20 : decode cX12_apart 20 = .ok (.idiv, 1) := zb_X12_apart_13.2.2.2.2.2.1
theorem dX12_apart_21 : decode cX12_apart 21 = .ok (.isub, 1) := zb_X12_apart_13.2.2.2.2.2.2.1
theorem dX12_apart_22 : decode cX12_apart 22 = .ok (.invokestatic 197, 3) := zb_X12_apart_13.2.2.2.2.2.2.2.1
theorem dX12_apart_25 : decode cX12_apart 25 = .ok (.istore_n 3, 1) := zb_X12_apart_13.2.2.2.2.2.2.2.2
theorem zb_X12_apart_26 : (decode cX12_apart 26 = .ok (.iload_n 2, 1)) ∧ (decode cX12_apart 27 = .ok (.iload_n 3, 1)) ∧ (decode cX12_apart 28 = .ok (.if_icmp .le 7, 3)) ∧ (decode cX12_apart 35 = .ok (.iload_n 3, 1)) ∧ (decode cX12_apart 36 = .ok (.ireturn, 1)) ∧ (decode cX12_apart 31 = .ok (.iload_n 2, 1)) ∧ (decode cX12_apart 32 = .ok (.goto 4, 3)) := by decide +kernel
theorem dX12_apart_26 : decode cX12_apart 26 = .ok (.iload_n 2, 1) := zb_X12_apart_26.1
theorem dX12_apart_27 : decode cX12_apart 27 = .ok (.iload_n 3, 1) := zb_X12_apart_26.2.1
theorem dX12_apart_28 : decode cX12_apart 28 = .ok (.if_icmp .le 7, 3) := zb_X12_apart_26.2.2.1
theorem dX12_apart_35 : decode cX12_apart 35 = .ok (.iload_n 3, 1) := zb_X12_apart_26.2.2.2.1
theorem dX12_apart_36 : decode cX12_apart 36 = .ok (.ireturn, 1) := zb_X12_apart_26.2.2.2.2.1
theorem dX12_apart_31 : decode cX12_apart 31 = .ok (.iload_n 2, 1) := zb_X12_apart_26.2.2.2.2.2.1
theorem dX12_apart_32 : decode cX12_apart 32 = .ok (.goto 4, 3) := zb_X12_apart_26.2.2.2.2.2.2
theorem zb_X12_above_0 : (decode cX12_above 0 = .ok (.iload_n 0, 1)) ∧ (decode cX12_above 1 = .ok (.iconst 3, 1)) ∧ (decode cX12_above 2 = .ok (.if_icmp .eq 8, 3)) ∧ (decode cX12_above 10 = .ok (.iconst 1, 1)) ∧ (decode cX12_above 11 = .ok (.goto 13, 3)) ∧ (decode cX12_above 24 = .ok (.ireturn, 1)) ∧ (decode cX12_above 5 = .ok (.iload_n 0, 1)) ∧ (decode cX12_above 6 = .ok (.iconst 4, 1)) := by decide +kernel
theorem dX12_above_0 : decode cX12_above 0 = .ok (.iload_n 0, 1) := zb_X12_above_0.1
theorem dX12_above_1 : decode cX12_above 1 = .ok (.iconst 3, 1) := zb_X12_above_0.2.1
theorem dX12_above_2 : decode cX12_above 2 = .ok (.if_icmp .eq 8, 3) := zb_X12_above_0.2.2.1
theorem dX12_above_10 : decode cX12_above 10 = .ok (.iconst 1, 1) := zb_X12_above_0.2.2.2.1
theorem dX12_above_11 : decode cX12_above 11 = .ok (.goto 13, 3) := zb_X12_above_0.2.2.2.2.1
theorem dX12_above_24 : decode cX12_above 24 = .ok (.ireturn, 1) := zb_X12_above_0.2.2.2.2.2.1
theorem dX12_above_5 : decode cX12_above 5 = .ok (.iload_n 0, 1) := zb_X12_above_0.2.2.2.2.2.2.1
theorem dX12_above_6 : decode cX12_above 6 = .ok (.iconst 4, 1) := zb_X12_above_0.2.2.2.2.2.2.2
theorem zb_X12_above_7 : (decode cX12_above 7 = .ok (.if_icmp .ne 7, 3)) ∧ (decode cX12_above 14 = .ok (.iload_n 0, 1)) ∧ (decode cX12_above 15 = .ok (.iconst 5, 1)) ∧ (decode cX12_above 16 = .ok (.if_icmp .ne 7, 3)) ∧ (decode cX12_above 23 = .ok (.iconst 0, 1)) ∧ (decode cX12_above 19 = .ok (.iconst 2, 1)) ∧ (decode cX12_above 20 = .ok (.goto 4, 3)) := by decide +kernel
theorem dX12_above_7 : decode cX12_above 7 = .ok (.if_icmp .ne 7, 3) := zb_X12_above_7.1
theorem dX12_above_14 : decode cX12_above 14 = .ok (.iload_n 0, 1) := zb_X12_above_7.2.1
theorem dX12_above_15 : decode cX12_above 15 = .ok (.iconst 5, 1) := zb_X12_above_7.2.2.1
theorem dX12_above_16 : decode cX12_above 16 = .ok (.if_icmp .ne 7, 3) := zb_X12_above_7.2.2.2.1
theorem dX12_above_23 : decode cX12_above 23 = .ok (.iconst 0, 1) := zb_X12_above_7.2.2.2.2.1
theorem dX12_above_19 : decode cX12_above 19 = .ok (.iconst 2, 1) := zb_X12_above_7.2.2.2.2.2.1
theorem dX12_above_20 : decode cX12_above 20 = .ok (.goto 4, 3) := zb_X12_above_7.2.2.2.2.2.2
theorem zb_X12_wordOf_0 : (decode cX12_wordOf 0 = .ok (.lload_n 0, 1)) ∧ (decode cX12_wordOf 1 = .ok (.iconst 4, 1)) ∧ (decode cX12_wordOf 2 = .ok (.iload_n 2, 1)) ∧ (decode cX12_wordOf 3 = .ok (.imul, 1)) ∧ (decode cX12_wordOf 4 = .ok (.lushr, 1)) ∧ (decode cX12_wordOf 5 = .ok (.ldc2_w 266, 3)) ∧ (decode cX12_wordOf 8 = .ok (.land, 1)) ∧ (decode cX12_wordOf 9 = .ok (.l2i, 1)) ∧ (decode cX12_wordOf 10 = .ok (.ireturn, 1)) := by decide +kernel
theorem dX12_wordOf_0 : decode cX12_wordOf 0 = .ok (.lload_n 0, 1) := zb_X12_wordOf_0.1
theorem dX12_wordOf_1 : decode cX12_wordOf 1 = .ok (.iconst 4, 1) := zb_X12_wordOf_0.2.1
theorem dX12_wordOf_2 : decode cX12_wordOf 2 = .ok (.iload_n 2, 1) := zb_X12_wordOf_0.2.2.1
theorem dX12_wordOf_3 : decode cX12_wordOf 3 = .ok (.imul, 1) := zb_X12_wordOf_0.2.2.2.1
theorem dX12_wordOf_4 : decode cX12_wordOf 4 = .ok (.lushr, 1) := zb_X12_wordOf_0.2.2.2.2.1
theorem dX12_wordOf_5 : decode cX12_wordOf 5 = .ok (.ldc2_w 266, 3) := zb_X12_wordOf_0.2.2.2.2.2.1
theorem dX12_wordOf_8 : decode cX12_wordOf 8 = .ok (.land, 1) := zb_X12_wordOf_0.2.2.2.2.2.2.1
theorem dX12_wordOf_9 : decode cX12_wordOf 9 = .ok (.l2i, 1) := zb_X12_wordOf_0.2.2.2.2.2.2.2.1
theorem dX12_wordOf_10 : decode cX12_wordOf 10 = .ok (.ireturn, 1) := zb_X12_wordOf_0.2.2.2.2.2.2.2.2
theorem zb_X12_countOf_0 : (decode cX12_countOf 0 = .ok (.iconst 0, 1)) ∧ (decode cX12_countOf 1 = .ok (.istore_n 1, 1)) ∧ (decode cX12_countOf 2 = .ok (.iconst 0, 1)) ∧ (decode cX12_countOf 3 = .ok (.istore_n 2, 1)) ∧ (decode cX12_countOf 4 = .ok (.iload_n 2, 1)) ∧ (decode cX12_countOf 5 = .ok (.bipush 32, 2)) ∧ (decode cX12_countOf 7 = .ok (.if_icmp .ge 17, 3)) ∧ (decode cX12_countOf 24 = .ok (.iload_n 1, 1)) ∧ (decode cX12_countOf 25 = .ok (.ireturn, 1)) ∧ (decode cX12_countOf 10 = .ok (.iload_n 1, 1)) := by decide +kernel
theorem dX12_countOf_0 : decode cX12_countOf 0 = .ok (.iconst 0, 1) := zb_X12_countOf_0.1
theorem dX12_countOf_1 : decode cX12_countOf 1 = .ok (.istore_n 1, 1) := zb_X12_countOf_0.2.1
theorem dX12_countOf_2 : decode cX12_countOf 2 = .ok (.iconst 0, 1) := zb_X12_countOf_0.2.2.1
theorem dX12_countOf_3 : decode cX12_countOf 3 = .ok (.istore_n 2, 1) := zb_X12_countOf_0.2.2.2.1
theorem dX12_countOf_4 : decode cX12_countOf 4 = .ok (.iload_n 2, 1) := zb_X12_countOf_0.2.2.2.2.1
theorem dX12_countOf_5 : decode cX12_countOf 5 = .ok (.bipush 32, 2) := zb_X12_countOf_0.2.2.2.2.2.1
theorem dX12_countOf_7 : decode cX12_countOf 7 = .ok (.if_icmp .ge 17, 3) := zb_X12_countOf_0.2.2.2.2.2.2.1
theorem dX12_countOf_24 : decode cX12_countOf 24 = .ok (.iload_n 1, 1) := zb_X12_countOf_0.2.2.2.2.2.2.2.1
theorem dX12_countOf_25 : decode cX12_countOf 25 = .ok (.ireturn, 1) := zb_X12_countOf_0.2.2.2.2.2.2.2.2.1
theorem dX12_countOf_10 : decode cX12_countOf 10 = .ok (.iload_n 1, 1) := zb_X12_countOf_0.2.2.2.2.2.2.2.2.2
theorem zb_X12_countOf_11 : (decode cX12_countOf 11 = .ok (.iload_n 0, 1)) ∧ (decode cX12_countOf 12 = .ok (.iload_n 2, 1)) ∧ (decode cX12_countOf 13 = .ok (.iushr, 1)) ∧ (decode cX12_countOf 14 = .ok (.iconst 1, 1)) ∧ (decode cX12_countOf 15 = .ok (.iand, 1)) ∧ (decode cX12_countOf 16 = .ok (.iadd, 1)) ∧ (decode cX12_countOf 17 = .ok (.istore_n 1, 1)) ∧ (decode cX12_countOf 18 = .ok (.iinc 2 1, 3)) ∧ (decode cX12_countOf 21 = .ok (.goto (-17), 3)) := by decide +kernel
theorem dX12_countOf_11 : decode cX12_countOf 11 = .ok (.iload_n 0, 1) := zb_X12_countOf_11.1
theorem dX12_countOf_12 : decode cX12_countOf 12 = .ok (.iload_n 2, 1) := zb_X12_countOf_11.2.1
theorem dX12_countOf_13 : decode cX12_countOf 13 = .ok (.iushr, 1) := zb_X12_countOf_11.2.2.1
theorem dX12_countOf_14 : decode cX12_countOf 14 = .ok (.iconst 1, 1) := zb_X12_countOf_11.2.2.2.1
theorem dX12_countOf_15 : decode cX12_countOf 15 = .ok (.iand, 1) := zb_X12_countOf_11.2.2.2.2.1
theorem dX12_countOf_16 : decode cX12_countOf 16 = .ok (.iadd, 1) := zb_X12_countOf_11.2.2.2.2.2.1
theorem dX12_countOf_17 : decode cX12_countOf 17 = .ok (.istore_n 1, 1) := zb_X12_countOf_11.2.2.2.2.2.2.1
theorem dX12_countOf_18 : decode cX12_countOf 18 = .ok (.iinc 2 1, 3) := zb_X12_countOf_11.2.2.2.2.2.2.2.1
theorem dX12_countOf_21 : decode cX12_countOf 21 = .ok (.goto (-17), 3) := zb_X12_countOf_11.2.2.2.2.2.2.2.2
theorem zb_X12_divisor_0 : (decode cX12_divisor 0 = .ok (.lload_n 0, 1)) ∧ (decode cX12_divisor 1 = .ok (.lstore 4, 2)) ∧ (decode cX12_divisor 3 = .ok (.lload_n 2, 1)) ∧ (decode cX12_divisor 4 = .ok (.lstore 6, 2)) ∧ (decode cX12_divisor 6 = .ok (.lload 6, 2)) ∧ (decode cX12_divisor 8 = .ok (.lconst 0, 1)) ∧ (decode cX12_divisor 9 = .ok (.lcmp, 1)) ∧ (decode cX12_divisor 10 = .ok (.ifCond .eq 21, 3)) ∧ (decode cX12_divisor 31 = .ok (.lload 4, 2)) ∧ (decode cX12_divisor 33 = .ok (.lreturn, 1)) := by decide +kernel
theorem dX12_divisor_0 : decode cX12_divisor 0 = .ok (.lload_n 0, 1) := zb_X12_divisor_0.1
theorem dX12_divisor_1 : decode cX12_divisor 1 = .ok (.lstore 4, 2) := zb_X12_divisor_0.2.1
theorem dX12_divisor_3 : decode cX12_divisor 3 = .ok (.lload_n 2, 1) := zb_X12_divisor_0.2.2.1
theorem dX12_divisor_4 : decode cX12_divisor 4 = .ok (.lstore 6, 2) := zb_X12_divisor_0.2.2.2.1
theorem dX12_divisor_6 : decode cX12_divisor 6 = .ok (.lload 6, 2) := zb_X12_divisor_0.2.2.2.2.1
theorem dX12_divisor_8 : decode cX12_divisor 8 = .ok (.lconst 0, 1) := zb_X12_divisor_0.2.2.2.2.2.1
theorem dX12_divisor_9 : decode cX12_divisor 9 = .ok (.lcmp, 1) := zb_X12_divisor_0.2.2.2.2.2.2.1
theorem dX12_divisor_10 : decode cX12_divisor 10 = .ok (.ifCond .eq 21, 3) := zb_X12_divisor_0.2.2.2.2.2.2.2.1
theorem dX12_divisor_31 : decode cX12_divisor 31 = .ok (.lload 4, 2) := zb_X12_divisor_0.2.2.2.2.2.2.2.2.1
theorem dX12_divisor_33 : decode cX12_divisor 33 = .ok (.lreturn, 1) := zb_X12_divisor_0.2.2.2.2.2.2.2.2.2
theorem zb_X12_divisor_13 : (decode cX12_divisor 13 = .ok (.lload 4, 2)) ∧ (decode cX12_divisor 15 = .ok (.lload 6, 2)) ∧ (decode cX12_divisor 17 = .ok (.lrem, 1)) ∧ (decode cX12_divisor 18 = .ok (.lstore 8, 2)) ∧ (decode cX12_divisor 20 = .ok (.lload 6, 2)) ∧ (decode cX12_divisor 22 = .ok (.lstore 4, 2)) ∧ (decode cX12_divisor 24 = .ok (.lload 8, 2)) ∧ (decode cX12_divisor 26 = .ok (.lstore 6, 2)) ∧ (decode cX12_divisor 28 = .ok (.goto (-22), 3)) := by decide +kernel
theorem dX12_divisor_13 : decode cX12_divisor 13 = .ok (.lload 4, 2) := zb_X12_divisor_13.1
theorem dX12_divisor_15 : decode cX12_divisor 15 = .ok (.lload 6, 2) := zb_X12_divisor_13.2.1
theorem dX12_divisor_17 : decode cX12_divisor 17 = .ok (.lrem, 1) := zb_X12_divisor_13.2.2.1
theorem dX12_divisor_18 : decode cX12_divisor 18 = .ok (.lstore 8, 2) := zb_X12_divisor_13.2.2.2.1
theorem dX12_divisor_20 : decode cX12_divisor 20 = .ok (.lload 6, 2) := zb_X12_divisor_13.2.2.2.2.1
theorem dX12_divisor_22 : decode cX12_divisor 22 = .ok (.lstore 4, 2) := zb_X12_divisor_13.2.2.2.2.2.1
theorem dX12_divisor_24 : decode cX12_divisor 24 = .ok (.lload 8, 2) := zb_X12_divisor_13.2.2.2.2.2.2.1
theorem dX12_divisor_26 : decode cX12_divisor 26 = .ok (.lstore 6, 2) := zb_X12_divisor_13.2.2.2.2.2.2.2.1
theorem dX12_divisor_28 : decode cX12_divisor 28 = .ok (.goto (-22), 3) := zb_X12_divisor_13.2.2.2.2.2.2.2.2
theorem zb_X12_isBody_0 : (decode cX12_isBody 0 = .ok (.iload_n 1, 1)) ∧ (decode cX12_isBody 1 = .ok (.ifCond .lt 15, 3)) ∧ (decode cX12_isBody 16 = .ok (.iconst 0, 1)) ∧ (decode cX12_isBody 17 = .ok (.ireturn, 1)) ∧ (decode cX12_isBody 4 = .ok (.iload_n 1, 1)) ∧ (decode cX12_isBody 5 = .ok (.aload_n 0, 1)) ∧ (decode cX12_isBody 6 = .ok (.getfield 190, 3)) ∧ (decode cX12_isBody 9 = .ok (.if_icmp .ge 7, 3)) ∧ (decode cX12_isBody 12 = .ok (.iconst 1, 1)) ∧ (decode cX12_isBody 13 = .ok (.goto 4, 3)) := by decide +kernel
theorem dX12_isBody_0 : decode cX12_isBody 0 = .ok (.iload_n 1, 1) := zb_X12_isBody_0.1
theorem dX12_isBody_1 : decode cX12_isBody 1 = .ok (.ifCond .lt 15, 3) := zb_X12_isBody_0.2.1
theorem dX12_isBody_16 : decode cX12_isBody 16 = .ok (.iconst 0, 1) := zb_X12_isBody_0.2.2.1
theorem dX12_isBody_17 : decode cX12_isBody 17 = .ok (.ireturn, 1) := zb_X12_isBody_0.2.2.2.1
theorem dX12_isBody_4 : decode cX12_isBody 4 = .ok (.iload_n 1, 1) := zb_X12_isBody_0.2.2.2.2.1
theorem dX12_isBody_5 : decode cX12_isBody 5 = .ok (.aload_n 0, 1) := zb_X12_isBody_0.2.2.2.2.2.1
theorem dX12_isBody_6 : decode cX12_isBody 6 = .ok (.getfield 190, 3) := zb_X12_isBody_0.2.2.2.2.2.2.1
theorem dX12_isBody_9 : decode cX12_isBody 9 = .ok (.if_icmp .ge 7, 3) := zb_X12_isBody_0.2.2.2.2.2.2.2.1
theorem dX12_isBody_12 : decode cX12_isBody 12 = .ok (.iconst 1, 1) := zb_X12_isBody_0.2.2.2.2.2.2.2.2.1
theorem dX12_isBody_13 : decode cX12_isBody 13 = .ok (.goto 4, 3) := zb_X12_isBody_0.2.2.2.2.2.2.2.2.2
theorem zb_X12_isSeeker_0 : (decode cX12_isSeeker 0 = .ok (.aload_n 0, 1)) ∧ (decode cX12_isSeeker 1 = .ok (.iload_n 1, 1)) ∧ (decode cX12_isSeeker 2 = .ok (.invokevirtual 193, 3)) ∧ (decode cX12_isSeeker 5 = .ok (.ifCond .eq 27, 3)) ∧ (decode cX12_isSeeker 8 = .ok (.aload_n 0, 1)) ∧ (decode cX12_isSeeker 9 = .ok (.getfield 28, 3)) ∧ (decode cX12_isSeeker 12 = .ok (.iload_n 1, 1)) ∧ (decode cX12_isSeeker 13 = .ok (.iaload, 1)) ∧ (decode cX12_isSeeker 14 = .ok (.iconst 2, 1)) ∧ (decode cX12_isSeeker 15 = .ok (.if_icmp .eq 13, 3)) := by decide +kernel
theorem dX12_isSeeker_0 : decode cX12_isSeeker 0 = .ok (.aload_n 0, 1) := zb_X12_isSeeker_0.1
theorem dX12_isSeeker_1 : decode cX12_isSeeker 1 = .ok (.iload_n 1, 1) := zb_X12_isSeeker_0.2.1
theorem dX12_isSeeker_2 : decode cX12_isSeeker 2 = .ok (.invokevirtual 193, 3) := zb_X12_isSeeker_0.2.2.1
theorem dX12_isSeeker_5 : decode cX12_isSeeker 5 = .ok (.ifCond .eq 27, 3) := zb_X12_isSeeker_0.2.2.2.1
theorem dX12_isSeeker_8 : decode cX12_isSeeker 8 = .ok (.aload_n 0, 1) := zb_X12_isSeeker_0.2.2.2.2.1
theorem dX12_isSeeker_9 : decode cX12_isSeeker 9 = .ok (.getfield 28, 3) := zb_X12_isSeeker_0.2.2.2.2.2.1
theorem dX12_isSeeker_12 : decode cX12_isSeeker 12 = .ok (.iload_n 1, 1) := zb_X12_isSeeker_0.2.2.2.2.2.2.1
theorem dX12_isSeeker_13 : decode cX12_isSeeker 13 = .ok (.iaload, 1) := zb_X12_isSeeker_0.2.2.2.2.2.2.2.1
theorem dX12_isSeeker_14 : decode cX12_isSeeker 14 = .ok (.iconst 2, 1) := zb_X12_isSeeker_0.2.2.2.2.2.2.2.2.1
theorem dX12_isSeeker_15 : decode cX12_isSeeker 15 = .ok (.if_icmp .eq 13, 3) := zb_X12_isSeeker_0.2.2.2.2.2.2.2.2.2
theorem zb_X12_isSeeker_28 : (decode cX12_isSeeker 28 = .ok (.iconst 1, 1)) ∧ (decode cX12_isSeeker 29 = .ok (.goto 4, 3)) ∧ (decode cX12_isSeeker 33 = .ok (.ireturn, 1)) ∧ (decode cX12_isSeeker 18 = .ok (.aload_n 0, 1)) ∧ (decode cX12_isSeeker 19 = .ok (.getfield 28, 3)) ∧ (decode cX12_isSeeker 22 = .ok (.iload_n 1, 1)) ∧ (decode cX12_isSeeker 23 = .ok (.iaload, 1)) ∧ (decode cX12_isSeeker 24 = .ok (.iconst 5, 1)) ∧ (decode cX12_isSeeker 25 = .ok (.if_icmp .ne 7, 3)) ∧ (decode cX12_isSeeker 32 = .ok (.iconst 0, 1)) := by decide +kernel
theorem dX12_isSeeker_28 : decode cX12_isSeeker 28 = .ok (.iconst 1, 1) := zb_X12_isSeeker_28.1
theorem dX12_isSeeker_29 : decode cX12_isSeeker 29 = .ok (.goto 4, 3) := zb_X12_isSeeker_28.2.1
theorem dX12_isSeeker_33 : decode cX12_isSeeker 33 = .ok (.ireturn, 1) := zb_X12_isSeeker_28.2.2.1
theorem dX12_isSeeker_18 : decode cX12_isSeeker 18 = .ok (.aload_n 0, 1) := zb_X12_isSeeker_28.2.2.2.1
theorem dX12_isSeeker_19 : decode cX12_isSeeker 19 = .ok (.getfield 28, 3) := zb_X12_isSeeker_28.2.2.2.2.1
theorem dX12_isSeeker_22 : decode cX12_isSeeker 22 = .ok (.iload_n 1, 1) := zb_X12_isSeeker_28.2.2.2.2.2.1
theorem dX12_isSeeker_23 : decode cX12_isSeeker 23 = .ok (.iaload, 1) := zb_X12_isSeeker_28.2.2.2.2.2.2.1
theorem dX12_isSeeker_24 : decode cX12_isSeeker 24 = .ok (.iconst 5, 1) := zb_X12_isSeeker_28.2.2.2.2.2.2.2.1
theorem dX12_isSeeker_25 : decode cX12_isSeeker 25 = .ok (.if_icmp .ne 7, 3) := zb_X12_isSeeker_28.2.2.2.2.2.2.2.2.1
theorem dX12_isSeeker_32 : decode cX12_isSeeker 32 = .ok (.iconst 0, 1) := zb_X12_isSeeker_28.2.2.2.2.2.2.2.2.2
theorem zb_X12_isCall_0 : (decode cX12_isCall 0 = .ok (.iload_n 1, 1)) ∧ (decode cX12_isCall 1 = .ok (.ifCond .lt 15, 3)) ∧ (decode cX12_isCall 16 = .ok (.iconst 0, 1)) ∧ (decode cX12_isCall 17 = .ok (.ireturn, 1)) ∧ (decode cX12_isCall 4 = .ok (.iload_n 1, 1)) ∧ (decode cX12_isCall 5 = .ok (.aload_n 0, 1)) ∧ (decode cX12_isCall 6 = .ok (.getfield 252, 3)) ∧ (decode cX12_isCall 9 = .ok (.if_icmp .ge 7, 3)) ∧ (decode cX12_isCall 12 = .ok (.iconst 1, 1)) ∧ (decode cX12_isCall 13 = .ok (.goto 4, 3)) := by decide +kernel
theorem dX12_isCall_0 : decode cX12_isCall 0 = .ok (.iload_n 1, 1) := zb_X12_isCall_0.1
theorem dX12_isCall_1 : decode cX12_isCall 1 = .ok (.ifCond .lt 15, 3) := zb_X12_isCall_0.2.1
theorem dX12_isCall_16 : decode cX12_isCall 16 = .ok (.iconst 0, 1) := zb_X12_isCall_0.2.2.1
theorem dX12_isCall_17 : decode cX12_isCall 17 = .ok (.ireturn, 1) := zb_X12_isCall_0.2.2.2.1
theorem dX12_isCall_4 : decode cX12_isCall 4 = .ok (.iload_n 1, 1) := zb_X12_isCall_0.2.2.2.2.1
theorem dX12_isCall_5 : decode cX12_isCall 5 = .ok (.aload_n 0, 1) := zb_X12_isCall_0.2.2.2.2.2.1
theorem dX12_isCall_6 : decode cX12_isCall 6 = .ok (.getfield 252, 3) := zb_X12_isCall_0.2.2.2.2.2.2.1
theorem dX12_isCall_9 : decode cX12_isCall 9 = .ok (.if_icmp .ge 7, 3) := zb_X12_isCall_0.2.2.2.2.2.2.2.1
theorem dX12_isCall_12 : decode cX12_isCall 12 = .ok (.iconst 1, 1) := zb_X12_isCall_0.2.2.2.2.2.2.2.2.1
theorem dX12_isCall_13 : decode cX12_isCall 13 = .ok (.goto 4, 3) := zb_X12_isCall_0.2.2.2.2.2.2.2.2.2
theorem zb_X12_isStory_0 : (decode cX12_isStory 0 = .ok (.iload_n 1, 1)) ∧ (decode cX12_isStory 1 = .ok (.ifCond .lt 15, 3)) ∧ (decode cX12_isStory 16 = .ok (.iconst 0, 1)) ∧ (decode cX12_isStory 17 = .ok (.ireturn, 1)) ∧ (decode cX12_isStory 4 = .ok (.iload_n 1, 1)) ∧ (decode cX12_isStory 5 = .ok (.aload_n 0, 1)) ∧ (decode cX12_isStory 6 = .ok (.getfield 440, 3)) ∧ (decode cX12_isStory 9 = .ok (.if_icmp .ge 7, 3)) ∧ (decode cX12_isStory 12 = .ok (.iconst 1, 1)) ∧ (decode cX12_isStory 13 = .ok (.goto 4, 3)) := by decide +kernel
theorem dX12_isStory_0 : decode cX12_isStory 0 = .ok (.iload_n 1, 1) := zb_X12_isStory_0.1
theorem dX12_isStory_1 : decode cX12_isStory 1 = .ok (.ifCond .lt 15, 3) := zb_X12_isStory_0.2.1
theorem dX12_isStory_16 : decode cX12_isStory 16 = .ok (.iconst 0, 1) := zb_X12_isStory_0.2.2.1
theorem dX12_isStory_17 : decode cX12_isStory 17 = .ok (.ireturn, 1) := zb_X12_isStory_0.2.2.2.1
theorem dX12_isStory_4 : decode cX12_isStory 4 = .ok (.iload_n 1, 1) := zb_X12_isStory_0.2.2.2.2.1
theorem dX12_isStory_5 : decode cX12_isStory 5 = .ok (.aload_n 0, 1) := zb_X12_isStory_0.2.2.2.2.2.1
theorem dX12_isStory_6 : decode cX12_isStory 6 = .ok (.getfield 440, 3) := zb_X12_isStory_0.2.2.2.2.2.2.1
theorem dX12_isStory_9 : decode cX12_isStory 9 = .ok (.if_icmp .ge 7, 3) := zb_X12_isStory_0.2.2.2.2.2.2.2.1
theorem dX12_isStory_12 : decode cX12_isStory 12 = .ok (.iconst 1, 1) := zb_X12_isStory_0.2.2.2.2.2.2.2.2.1
theorem dX12_isStory_13 : decode cX12_isStory 13 = .ok (.goto 4, 3) := zb_X12_isStory_0.2.2.2.2.2.2.2.2.2
theorem zb_X12_isItem_0 : (decode cX12_isItem 0 = .ok (.lload_n 2, 1)) ∧ (decode cX12_isItem 1 = .ok (.lconst 0, 1)) ∧ (decode cX12_isItem 2 = .ok (.lcmp, 1)) ∧ (decode cX12_isItem 3 = .ok (.ifCond .lt 19, 3)) ∧ (decode cX12_isItem 22 = .ok (.iconst 0, 1)) ∧ (decode cX12_isItem 23 = .ok (.ireturn, 1)) ∧ (decode cX12_isItem 6 = .ok (.lload_n 2, 1)) ∧ (decode cX12_isItem 7 = .ok (.aload_n 0, 1)) := by decide +kernel
theorem dX12_isItem_0 : decode cX12_isItem 0 = .ok (.lload_n 2, 1) := zb_X12_isItem_0.1
theorem dX12_isItem_1 : decode cX12_isItem 1 = .ok (.lconst 0, 1) := zb_X12_isItem_0.2.1
theorem dX12_isItem_2 : decode cX12_isItem 2 = .ok (.lcmp, 1) := zb_X12_isItem_0.2.2.1
theorem dX12_isItem_3 : decode cX12_isItem 3 = .ok (.ifCond .lt 19, 3) := zb_X12_isItem_0.2.2.2.1
theorem dX12_isItem_22 : decode cX12_isItem 22 = .ok (.iconst 0, 1) := zb_X12_isItem_0.2.2.2.2.1
theorem dX12_isItem_23 : decode cX12_isItem 23 = .ok (.ireturn, 1) := zb_X12_isItem_0.2.2.2.2.2.1
theorem dX12_isItem_6 : decode cX12_isItem 6 = .ok (.lload_n 2, 1) := zb_X12_isItem_0.2.2.2.2.2.2.1
theorem dX12_isItem_7 : decode cX12_isItem 7 = .ok (.aload_n 0, 1) := zb_X12_isItem_0.2.2.2.2.2.2.2
theorem zb_X12_isItem_8 : (decode cX12_isItem 8 = .ok (.getfield 161, 3)) ∧ (decode cX12_isItem 11 = .ok (.iload_n 1, 1)) ∧ (decode cX12_isItem 12 = .ok (.iaload, 1)) ∧ (decode cX12_isItem 13 = .ok (.i2l, 1)) ∧ (decode cX12_isItem 14 = .ok (.lcmp, 1)) ∧ (decode cX12_isItem 15 = .ok (.ifCond .ge 7, 3)) ∧ (decode cX12_isItem 18 = .ok (.iconst 1, 1)) ∧ (decode cX12_isItem 19 = .ok (.goto 4, 3)) := by decide +kernel
theorem dX12_isItem_8 : decode cX12_isItem 8 = .ok (.getfield 161, 3) := zb_X12_isItem_8.1
theorem dX12_isItem_11 : decode cX12_isItem 11 = .ok (.iload_n 1, 1) := zb_X12_isItem_8.2.1
theorem dX12_isItem_12 : decode cX12_isItem 12 = .ok (.iaload, 1) := zb_X12_isItem_8.2.2.1
theorem dX12_isItem_13 : decode cX12_isItem 13 = .ok (.i2l, 1) := zb_X12_isItem_8.2.2.2.1
theorem dX12_isItem_14 : decode cX12_isItem 14 = .ok (.lcmp, 1) := zb_X12_isItem_8.2.2.2.2.1
theorem dX12_isItem_15 : decode cX12_isItem 15 = .ok (.ifCond .ge 7, 3) := zb_X12_isItem_8.2.2.2.2.2.1
theorem dX12_isItem_18 : decode cX12_isItem 18 = .ok (.iconst 1, 1) := zb_X12_isItem_8.2.2.2.2.2.2.1
theorem dX12_isItem_19 : decode cX12_isItem 19 = .ok (.goto 4, 3) := zb_X12_isItem_8.2.2.2.2.2.2.2
theorem zb_X12_eats_0 : (decode cX12_eats 0 = .ok (.aload_n 0, 1)) ∧ (decode cX12_eats 1 = .ok (.getfield 37, 3)) ∧ (decode cX12_eats 4 = .ok (.iload_n 1, 1)) ∧ (decode cX12_eats 5 = .ok (.iaload, 1)) ∧ (decode cX12_eats 6 = .ok (.istore_n 2, 1)) ∧ (decode cX12_eats 7 = .ok (.aload_n 0, 1)) ∧ (decode cX12_eats 8 = .ok (.getfield 28, 3)) ∧ (decode cX12_eats 11 = .ok (.iload_n 1, 1)) ∧ (decode cX12_eats 12 = .ok (.iaload, 1)) ∧ (decode cX12_eats 13 = .ok (.tableswitch 47 1 5 #[35, 47, 37, 41, 45], 35)) ∧ (decode cX12_eats 60 = .ok (.iconst 0, 1)) ∧ (decode cX12_eats 61 = .ok (.ireturn, 1)) := by decide +kernel
theorem dX12_eats_0 : decode cX12_eats 0 = .ok (.aload_n 0, 1) := zb_X12_eats_0.1
theorem dX12_eats_1 : decode cX12_eats 1 = .ok (.getfield 37, 3) := zb_X12_eats_0.2.1
theorem dX12_eats_4 : decode cX12_eats 4 = .ok (.iload_n 1, 1) := zb_X12_eats_0.2.2.1
theorem dX12_eats_5 : decode cX12_eats 5 = .ok (.iaload, 1) := zb_X12_eats_0.2.2.2.1
theorem dX12_eats_6 : decode cX12_eats 6 = .ok (.istore_n 2, 1) := zb_X12_eats_0.2.2.2.2.1
theorem dX12_eats_7 : decode cX12_eats 7 = .ok (.aload_n 0, 1) := zb_X12_eats_0.2.2.2.2.2.1
theorem dX12_eats_8 : decode cX12_eats 8 = .ok (.getfield 28, 3) := zb_X12_eats_0.2.2.2.2.2.2.1
theorem dX12_eats_11 : decode cX12_eats 11 = .ok (.iload_n 1, 1) := zb_X12_eats_0.2.2.2.2.2.2.2.1
theorem dX12_eats_12 : decode cX12_eats 12 = .ok (.iaload, 1) := zb_X12_eats_0.2.2.2.2.2.2.2.2.1
theorem dX12_eats_13 : decode cX12_eats 13 = .ok (.tableswitch 47 1 5 #[35, 47, 37, 41, 45], 35) := zb_X12_eats_0.2.2.2.2.2.2.2.2.2.1
theorem dX12_eats_60 : decode cX12_eats 60 = .ok (.iconst 0, 1) := zb_X12_eats_0.2.2.2.2.2.2.2.2.2.2.1
theorem dX12_eats_61 : decode cX12_eats 61 = .ok (.ireturn, 1) := zb_X12_eats_0.2.2.2.2.2.2.2.2.2.2.2
theorem zb_X12_eats_48 : (decode cX12_eats 48 = .ok (.iload_n 2, 1)) ∧ (decode cX12_eats 49 = .ok (.ireturn, 1)) ∧ (decode cX12_eats 50 = .ok (.iload_n 2, 1)) ∧ (decode cX12_eats 51 = .ok (.iconst 1, 1)) ∧ (decode cX12_eats 52 = .ok (.iadd, 1)) ∧ (decode cX12_eats 53 = .ok (.ireturn, 1)) ∧ (decode cX12_eats 54 = .ok (.iconst 2, 1)) ∧ (decode cX12_eats 55 = .ok (.iload_n 2, 1)) ∧ (decode cX12_eats 56 = .ok (.imul, 1)) ∧ (decode cX12_eats 57 = .ok (.ireturn, 1)) ∧ (decode cX12_eats 58 = .ok (.iconst 1, 1)) ∧ (decode cX12_eats 59 = .ok (.ireturn, 1)) := by decide +kernel
theorem dX12_eats_48 : decode cX12_eats 48 = .ok (.iload_n 2, 1) := zb_X12_eats_48.1
theorem dX12_eats_49 : decode cX12_eats 49 = .ok (.ireturn, 1) := zb_X12_eats_48.2.1
theorem dX12_eats_50 : decode cX12_eats 50 = .ok (.iload_n 2, 1) := zb_X12_eats_48.2.2.1
theorem dX12_eats_51 : decode cX12_eats 51 = .ok (.iconst 1, 1) := zb_X12_eats_48.2.2.2.1
theorem dX12_eats_52 : decode cX12_eats 52 = .ok (.iadd, 1) := zb_X12_eats_48.2.2.2.2.1
theorem dX12_eats_53 : decode cX12_eats 53 = .ok (.ireturn, 1) := zb_X12_eats_48.2.2.2.2.2.1
theorem dX12_eats_54 : decode cX12_eats 54 = .ok (.iconst 2, 1) := zb_X12_eats_48.2.2.2.2.2.2.1
theorem dX12_eats_55 : decode cX12_eats 55 = .ok (.iload_n 2, 1) := zb_X12_eats_48.2.2.2.2.2.2.2.1
theorem dX12_eats_56 : decode cX12_eats 56 = .ok (.imul, 1) := zb_X12_eats_48.2.2.2.2.2.2.2.2.1
theorem dX12_eats_57 : decode cX12_eats 57 = .ok (.ireturn, 1) := zb_X12_eats_48.2.2.2.2.2.2.2.2.2.1
theorem dX12_eats_58 : decode cX12_eats 58 = .ok (.iconst 1, 1) := zb_X12_eats_48.2.2.2.2.2.2.2.2.2.2.1
theorem dX12_eats_59 : decode cX12_eats 59 = .ok (.ireturn, 1) := zb_X12_eats_48.2.2.2.2.2.2.2.2.2.2.2
theorem zb_X12_burns_0 : (decode cX12_burns 0 = .ok (.aload_n 0, 1)) ∧ (decode cX12_burns 1 = .ok (.getfield 28, 3)) ∧ (decode cX12_burns 4 = .ok (.iload_n 1, 1)) ∧ (decode cX12_burns 5 = .ok (.iaload, 1)) ∧ (decode cX12_burns 6 = .ok (.iconst 2, 1)) ∧ (decode cX12_burns 7 = .ok (.if_icmp .ne 7, 3)) ∧ (decode cX12_burns 14 = .ok (.aload_n 0, 1)) ∧ (decode cX12_burns 15 = .ok (.getfield 28, 3)) ∧ (decode cX12_burns 18 = .ok (.iload_n 1, 1)) := by decide +kernel
theorem dX12_burns_0 : decode cX12_burns 0 = .ok (.aload_n 0, 1) := zb_X12_burns_0.1
theorem dX12_burns_1 : decode cX12_burns 1 = .ok (.getfield 28, 3) := zb_X12_burns_0.2.1
theorem dX12_burns_4 : decode cX12_burns 4 = .ok (.iload_n 1, 1) := zb_X12_burns_0.2.2.1
theorem dX12_burns_5 : decode cX12_burns 5 = .ok (.iaload, 1) := zb_X12_burns_0.2.2.2.1
theorem dX12_burns_6 : decode cX12_burns 6 = .ok (.iconst 2, 1) := zb_X12_burns_0.2.2.2.2.1
theorem dX12_burns_7 : decode cX12_burns 7 = .ok (.if_icmp .ne 7, 3) := zb_X12_burns_0.2.2.2.2.2.1
theorem dX12_burns_14 : decode cX12_burns 14 = .ok (.aload_n 0, 1) := zb_X12_burns_0.2.2.2.2.2.2.1
theorem dX12_burns_15 : decode cX12_burns 15 = .ok (.getfield 28, 3) := zb_X12_burns_0.2.2.2.2.2.2.2.1
theorem dX12_burns_18 : decode cX12_burns 18 = .ok (.iload_n 1, 1) := zb_X12_burns_0.2.2.2.2.2.2.2.2
theorem zb_X12_burns_19 : (decode cX12_burns 19 = .ok (.iaload, 1)) ∧ (decode cX12_burns 20 = .ok (.iconst 5, 1)) ∧ (decode cX12_burns 21 = .ok (.if_icmp .ne 8, 3)) ∧ (decode cX12_burns 29 = .ok (.iconst 1, 1)) ∧ (decode cX12_burns 30 = .ok (.ireturn, 1)) ∧ (decode cX12_burns 24 = .ok (.bipush 6, 2)) ∧ (decode cX12_burns 26 = .ok (.goto 4, 3)) ∧ (decode cX12_burns 10 = .ok (.iconst 3, 1)) ∧ (decode cX12_burns 11 = .ok (.goto 19, 3)) := by decide +kernel
theorem dX12_burns_19 : decode cX12_burns 19 = .ok (.iaload, 1) := zb_X12_burns_19.1
theorem dX12_burns_20 : decode cX12_burns 20 = .ok (.iconst 5, 1) := zb_X12_burns_19.2.1
theorem dX12_burns_21 : decode cX12_burns 21 = .ok (.if_icmp .ne 8, 3) := zb_X12_burns_19.2.2.1
theorem dX12_burns_29 : decode cX12_burns 29 = .ok (.iconst 1, 1) := zb_X12_burns_19.2.2.2.1
theorem dX12_burns_30 : decode cX12_burns 30 = .ok (.ireturn, 1) := zb_X12_burns_19.2.2.2.2.1
theorem dX12_burns_24 : decode cX12_burns 24 = .ok (.bipush 6, 2) := zb_X12_burns_19.2.2.2.2.2.1
theorem dX12_burns_26 : decode cX12_burns 26 = .ok (.goto 4, 3) := zb_X12_burns_19.2.2.2.2.2.2.1
theorem dX12_burns_10 : decode cX12_burns 10 = .ok (.iconst 3, 1) := zb_X12_burns_19.2.2.2.2.2.2.2.1
theorem dX12_burns_11 : decode cX12_burns 11 = .ok (.goto 19, 3) := zb_X12_burns_19.2.2.2.2.2.2.2.2
theorem zb_X12_fogIn_0 : (decode cX12_fogIn 0 = .ok (.iconst 0, 1)) ∧ (decode cX12_fogIn 1 = .ok (.istore_n 2, 1)) ∧ (decode cX12_fogIn 2 = .ok (.iconst 0, 1)) ∧ (decode cX12_fogIn 3 = .ok (.istore_n 3, 1)) ∧ (decode cX12_fogIn 4 = .ok (.iload_n 3, 1)) ∧ (decode cX12_fogIn 5 = .ok (.aload_n 0, 1)) ∧ (decode cX12_fogIn 6 = .ok (.getfield 214, 3)) ∧ (decode cX12_fogIn 9 = .ok (.if_icmp .ge 40, 3)) ∧ (decode cX12_fogIn 49 = .ok (.iload_n 2, 1)) ∧ (decode cX12_fogIn 50 = .ok (.ireturn, 1)) ∧ (decode cX12_fogIn 12 = .ok (.iload_n 1, 1)) := by decide +kernel
theorem dX12_fogIn_0 : decode cX12_fogIn 0 = .ok (.iconst 0, 1) := zb_X12_fogIn_0.1
theorem dX12_fogIn_1 : decode cX12_fogIn 1 = .ok (.istore_n 2, 1) := zb_X12_fogIn_0.2.1
theorem dX12_fogIn_2 : decode cX12_fogIn 2 = .ok (.iconst 0, 1) := zb_X12_fogIn_0.2.2.1
theorem dX12_fogIn_3 : decode cX12_fogIn 3 = .ok (.istore_n 3, 1) := zb_X12_fogIn_0.2.2.2.1
theorem dX12_fogIn_4 : decode cX12_fogIn 4 = .ok (.iload_n 3, 1) := zb_X12_fogIn_0.2.2.2.2.1
theorem dX12_fogIn_5 : decode cX12_fogIn 5 = .ok (.aload_n 0, 1) := zb_X12_fogIn_0.2.2.2.2.2.1
theorem dX12_fogIn_6 : decode cX12_fogIn 6 = .ok (.getfield 214, 3) := zb_X12_fogIn_0.2.2.2.2.2.2.1
theorem dX12_fogIn_9 : decode cX12_fogIn 9 = .ok (.if_icmp .ge 40, 3) := zb_X12_fogIn_0.2.2.2.2.2.2.2.1
theorem dX12_fogIn_49 : decode cX12_fogIn 49 = .ok (.iload_n 2, 1) := zb_X12_fogIn_0.2.2.2.2.2.2.2.2.1
theorem dX12_fogIn_50 : decode cX12_fogIn 50 = .ok (.ireturn, 1) := zb_X12_fogIn_0.2.2.2.2.2.2.2.2.2.1
theorem dX12_fogIn_12 : decode cX12_fogIn 12 = .ok (.iload_n 1, 1) := zb_X12_fogIn_0.2.2.2.2.2.2.2.2.2.2
theorem zb_X12_fogIn_13 : (decode cX12_fogIn 13 = .ok (.aload_n 0, 1)) ∧ (decode cX12_fogIn 14 = .ok (.getfield 19, 3)) ∧ (decode cX12_fogIn 17 = .ok (.iload_n 3, 1)) ∧ (decode cX12_fogIn 18 = .ok (.iaload, 1)) ∧ (decode cX12_fogIn 19 = .ok (.if_icmp .lt 22, 3)) ∧ (decode cX12_fogIn 41 = .ok (.iload_n 2, 1)) ∧ (decode cX12_fogIn 42 = .ok (.istore_n 2, 1)) ∧ (decode cX12_fogIn 43 = .ok (.iinc 3 1, 3)) ∧ (decode cX12_fogIn 46 = .ok (.goto (-42), 3)) ∧ (decode cX12_fogIn 22 = .ok (.iload_n 1, 1)) ∧ (decode cX12_fogIn 23 = .ok (.aload_n 0, 1)) := by decide +kernel
theorem dX12_fogIn_13 : decode cX12_fogIn 13 = .ok (.aload_n 0, 1) := zb_X12_fogIn_13.1
theorem dX12_fogIn_14 : decode cX12_fogIn 14 = .ok (.getfield 19, 3) := zb_X12_fogIn_13.2.1
theorem dX12_fogIn_17 : decode cX12_fogIn 17 = .ok (.iload_n 3, 1) := zb_X12_fogIn_13.2.2.1
theorem dX12_fogIn_18 : decode cX12_fogIn 18 = .ok (.iaload, 1) := zb_X12_fogIn_13.2.2.2.1
theorem dX12_fogIn_19 : decode cX12_fogIn 19 = .ok (.if_icmp .lt 22, 3) := zb_X12_fogIn_13.2.2.2.2.1
theorem dX12_fogIn_41 : decode cX12_fogIn 41 = .ok (.iload_n 2, 1) := zb_X12_fogIn_13.2.2.2.2.2.1
theorem dX12_fogIn_42 : decode cX12_fogIn 42 = .ok (.istore_n 2, 1) := zb_X12_fogIn_13.2.2.2.2.2.2.1
theorem dX12_fogIn_43 : decode cX12_fogIn 43 = .ok (.iinc 3 1, 3) := zb_X12_fogIn_13.2.2.2.2.2.2.2.1
theorem dX12_fogIn_46 : decode cX12_fogIn 46 = .ok (.goto (-42), 3) := zb_X12_fogIn_13.2.2.2.2.2.2.2.2.1
theorem dX12_fogIn_22 : decode cX12_fogIn 22 = .ok (.iload_n 1, 1) := zb_X12_fogIn_13.2.2.2.2.2.2.2.2.2.1
theorem dX12_fogIn_23 : decode cX12_fogIn 23 = .ok (.aload_n 0, 1) := zb_X12_fogIn_13.2.2.2.2.2.2.2.2.2.2
theorem zb_X12_fogIn_24 : (decode cX12_fogIn 24 = .ok (.getfield 22, 3)) ∧ (decode cX12_fogIn 27 = .ok (.iload_n 3, 1)) ∧ (decode cX12_fogIn 28 = .ok (.iaload, 1)) ∧ (decode cX12_fogIn 29 = .ok (.if_icmp .ge 12, 3)) ∧ (decode cX12_fogIn 32 = .ok (.aload_n 0, 1)) ∧ (decode cX12_fogIn 33 = .ok (.getfield 25, 3)) ∧ (decode cX12_fogIn 36 = .ok (.iload_n 3, 1)) ∧ (decode cX12_fogIn 37 = .ok (.iaload, 1)) ∧ (decode cX12_fogIn 38 = .ok (.goto 4, 3)) := by decide +kernel
theorem dX12_fogIn_24 : decode cX12_fogIn 24 = .ok (.getfield 22, 3) := zb_X12_fogIn_24.1
theorem dX12_fogIn_27 : decode cX12_fogIn 27 = .ok (.iload_n 3, 1) := zb_X12_fogIn_24.2.1
theorem dX12_fogIn_28 : decode cX12_fogIn 28 = .ok (.iaload, 1) := zb_X12_fogIn_24.2.2.1
theorem dX12_fogIn_29 : decode cX12_fogIn 29 = .ok (.if_icmp .ge 12, 3) := zb_X12_fogIn_24.2.2.2.1
theorem dX12_fogIn_32 : decode cX12_fogIn 32 = .ok (.aload_n 0, 1) := zb_X12_fogIn_24.2.2.2.2.1
theorem dX12_fogIn_33 : decode cX12_fogIn 33 = .ok (.getfield 25, 3) := zb_X12_fogIn_24.2.2.2.2.2.1
theorem dX12_fogIn_36 : decode cX12_fogIn 36 = .ok (.iload_n 3, 1) := zb_X12_fogIn_24.2.2.2.2.2.2.1
theorem dX12_fogIn_37 : decode cX12_fogIn 37 = .ok (.iaload, 1) := zb_X12_fogIn_24.2.2.2.2.2.2.2.1
theorem dX12_fogIn_38 : decode cX12_fogIn 38 = .ok (.goto 4, 3) := zb_X12_fogIn_24.2.2.2.2.2.2.2.2
theorem zb_X12_drifted_3 : (decode cX12_drifted 3 = .ok (.istore 5, 2)) ∧ (decode cX12_drifted 6 = .ok (.istore 6, 2)) ∧ (decode cX12_drifted 8 = .ok (.iload 6, 2)) ∧ (decode cX12_drifted 201 = .ok (.lstore 12, 2)) ∧ (decode cX12_drifted 204 = .ok (.istore 14, 2)) ∧ (decode cX12_drifted 206 = .ok (.iload 14, 2)) ∧ (decode cX12_drifted 329 = .ok (.lload 12, 2)) ∧ (decode cX12_drifted 331 = .ok (.lreturn, 1)) ∧ (decode cX12_drifted 213 = .ok (.lload_n 3, 1)) ∧ (decode cX12_drifted 214 = .ok (.iload 14, 2)) ∧ (decode cX12_drifted 216 = .ok (.lushr, 1)) ∧ (decode cX12_drifted 323 = .ok (.iinc 14 1, 3)) := by decide +kernel
theorem dX12_drifted_3 : decode cX12_drifted 3 = .ok (.istore 5, 2) := zb_X12_drifted_3.1
theorem dX12_drifted_6 : decode cX12_drifted 6 = .ok (.istore 6, 2) := zb_X12_drifted_3.2.1
theorem dX12_drifted_8 : decode cX12_drifted 8 = .ok (.iload 6, 2) := zb_X12_drifted_3.2.2.1
theorem dX12_drifted_201 : decode cX12_drifted 201 = .ok (.lstore 12, 2) := zb_X12_drifted_3.2.2.2.1
theorem dX12_drifted_204 : decode cX12_drifted 204 = .ok (.istore 14, 2) := zb_X12_drifted_3.2.2.2.2.1
theorem dX12_drifted_206 : decode cX12_drifted 206 = .ok (.iload 14, 2) := zb_X12_drifted_3.2.2.2.2.2.1
theorem dX12_drifted_329 : decode cX12_drifted 329 = .ok (.lload 12, 2) := zb_X12_drifted_3.2.2.2.2.2.2.1
theorem dX12_drifted_331 : decode cX12_drifted 331 = .ok (.lreturn, 1) := zb_X12_drifted_3.2.2.2.2.2.2.2.1
theorem dX12_drifted_213 : decode cX12_drifted 213 = .ok (.lload_n 3, 1) := zb_X12_drifted_3.2.2.2.2.2.2.2.2.1
theorem dX12_drifted_214 : decode cX12_drifted 214 = .ok (.iload 14, 2) := zb_X12_drifted_3.2.2.2.2.2.2.2.2.2.1
theorem dX12_drifted_216 : decode cX12_drifted 216 = .ok (.lushr, 1) := zb_X12_drifted_3.2.2.2.2.2.2.2.2.2.2.1
theorem dX12_drifted_323 : decode cX12_drifted 323 = .ok (.iinc 14 1, 3) := zb_X12_drifted_3.2.2.2.2.2.2.2.2.2.2.2
theorem zb_X12_drifted_224 : (decode cX12_drifted 224 = .ok (.iload 14, 2)) ∧ (decode cX12_drifted 228 = .ok (.irem, 1)) ∧ (decode cX12_drifted 229 = .ok (.iload 8, 2)) ∧ (decode cX12_drifted 232 = .ok (.istore 15, 2)) ∧ (decode cX12_drifted 234 = .ok (.iload 15, 2)) ∧ (decode cX12_drifted 236 = .ok (.iload 14, 2)) ∧ (decode cX12_drifted 240 = .ok (.irem, 1)) ∧ (decode cX12_drifted 241 = .ok (.iload 9, 2)) ∧ (decode cX12_drifted 247 = .ok (.iload 14, 2)) ∧ (decode cX12_drifted 251 = .ok (.idiv, 1)) ∧ (decode cX12_drifted 252 = .ok (.iload 10, 2)) ∧ (decode cX12_drifted 255 = .ok (.istore 16, 2)) := by decide +kernel
theorem dX12_drifted_224 : decode cX12_drifted 224 = .ok (.iload 14, 2) := zb_X12_drifted_224.1
theorem dX12_drifted_228 : decode cX12_drifted 228 = .ok (.irem, 1) := zb_X12_drifted_224.2.1
theorem dX12_drifted_229 : decode cX12_drifted 229 = .ok (.iload 8, 2) := zb_X12_drifted_224.2.2.1
theorem dX12_drifted_232 : decode cX12_drifted 232 = .ok (.istore 15, 2) := zb_X12_drifted_224.2.2.2.1
theorem dX12_drifted_234 : decode cX12_drifted 234 = .ok (.iload 15, 2) := zb_X12_drifted_224.2.2.2.2.1
theorem dX12_drifted_236 : decode cX12_drifted 236 = .ok (.iload 14, 2) := zb_X12_drifted_224.2.2.2.2.2.1
theorem dX12_drifted_240 : decode cX12_drifted 240 = .ok (.irem, 1) := zb_X12_drifted_224.2.2.2.2.2.2.1
theorem dX12_drifted_241 : decode cX12_drifted 241 = .ok (.iload 9, 2) := zb_X12_drifted_224.2.2.2.2.2.2.2.1
theorem dX12_drifted_247 : decode cX12_drifted 247 = .ok (.iload 14, 2) := zb_X12_drifted_224.2.2.2.2.2.2.2.2.1
theorem dX12_drifted_251 : decode cX12_drifted 251 = .ok (.idiv, 1) := zb_X12_drifted_224.2.2.2.2.2.2.2.2.2.1
theorem dX12_drifted_252 : decode cX12_drifted 252 = .ok (.iload 10, 2) := zb_X12_drifted_224.2.2.2.2.2.2.2.2.2.2.1
theorem dX12_drifted_255 : decode cX12_drifted 255 = .ok (.istore 16, 2) := zb_X12_drifted_224.2.2.2.2.2.2.2.2.2.2.2
theorem zb_X12_drifted_257 : (decode cX12_drifted 257 = .ok (.iload 16, 2)) ∧ (decode cX12_drifted 259 = .ok (.iload 14, 2)) ∧ (decode cX12_drifted 263 = .ok (.idiv, 1)) ∧ (decode cX12_drifted 264 = .ok (.iload 11, 2)) ∧ (decode cX12_drifted 317 = .ok (.iinc 15 1, 3)) ∧ (decode cX12_drifted 270 = .ok (.lload 12, 2)) ∧ (decode cX12_drifted 272 = .ok (.iload 15, 2)) ∧ (decode cX12_drifted 283 = .ok (.iload 16, 2)) ∧ (decode cX12_drifted 297 = .ok (.iload 16, 2)) ∧ (decode cX12_drifted 299 = .ok (.imul, 1)) ∧ (decode cX12_drifted 300 = .ok (.iload 15, 2)) ∧ (decode cX12_drifted 309 = .ok (.lstore 12, 2)) := by decide +kernel
theorem dX12_drifted_257 : decode cX12_drifted 257 = .ok (.iload 16, 2) := zb_X12_drifted_257.1
theorem dX12_drifted_259 : decode cX12_drifted 259 = .ok (.iload 14, 2) := zb_X12_drifted_257.2.1
theorem dX12_drifted_263 : decode cX12_drifted 263 = .ok (.idiv, 1) := zb_X12_drifted_257.2.2.1
theorem dX12_drifted_264 : decode cX12_drifted 264 = .ok (.iload 11, 2) := zb_X12_drifted_257.2.2.2.1
theorem dX12_drifted_317 : decode cX12_drifted 317 = .ok (.iinc 15 1, 3) := zb_X12_drifted_257.2.2.2.2.1
theorem dX12_drifted_270 : decode cX12_drifted 270 = .ok (.lload 12, 2) := zb_X12_drifted_257.2.2.2.2.2.1
theorem dX12_drifted_272 : decode cX12_drifted 272 = .ok (.iload 15, 2) := zb_X12_drifted_257.2.2.2.2.2.2.1
theorem dX12_drifted_283 : decode cX12_drifted 283 = .ok (.iload 16, 2) := zb_X12_drifted_257.2.2.2.2.2.2.2.1
theorem dX12_drifted_297 : decode cX12_drifted 297 = .ok (.iload 16, 2) := zb_X12_drifted_257.2.2.2.2.2.2.2.2.1
theorem dX12_drifted_299 : decode cX12_drifted 299 = .ok (.imul, 1) := zb_X12_drifted_257.2.2.2.2.2.2.2.2.2.1
theorem dX12_drifted_300 : decode cX12_drifted 300 = .ok (.iload 15, 2) := zb_X12_drifted_257.2.2.2.2.2.2.2.2.2.2.1
theorem dX12_drifted_309 : decode cX12_drifted 309 = .ok (.lstore 12, 2) := zb_X12_drifted_257.2.2.2.2.2.2.2.2.2.2.2
theorem zb_X12_drifted_311 : (decode cX12_drifted 311 = .ok (.iinc 16 1, 3)) ∧ (decode cX12_drifted 179 = .ok (.iload 7, 2)) ∧ (decode cX12_drifted 188 = .ok (.iload 5, 2)) ∧ (decode cX12_drifted 192 = .ok (.irem, 1)) ∧ (decode cX12_drifted 195 = .ok (.iload 6, 2)) ∧ (decode cX12_drifted 198 = .ok (.istore 11, 2)) ∧ (decode cX12_drifted 155 = .ok (.iload 7, 2)) ∧ (decode cX12_drifted 164 = .ok (.iload 5, 2)) ∧ (decode cX12_drifted 168 = .ok (.idiv, 1)) ∧ (decode cX12_drifted 171 = .ok (.irem, 1)) ∧ (decode cX12_drifted 174 = .ok (.iload 6, 2)) ∧ (decode cX12_drifted 177 = .ok (.istore 10, 2)) := by decide +kernel
theorem dX12_drifted_311 : decode cX12_drifted 311 = .ok (.iinc 16 1, 3) := zb_X12_drifted_311.1
theorem dX12_drifted_179 : decode cX12_drifted 179 = .ok (.iload 7, 2) := zb_X12_drifted_311.2.1
theorem dX12_drifted_188 : decode cX12_drifted 188 = .ok (.iload 5, 2) := zb_X12_drifted_311.2.2.1
theorem dX12_drifted_192 : decode cX12_drifted 192 = .ok (.irem, 1) := zb_X12_drifted_311.2.2.2.1
theorem dX12_drifted_195 : decode cX12_drifted 195 = .ok (.iload 6, 2) := zb_X12_drifted_311.2.2.2.2.1
theorem dX12_drifted_198 : decode cX12_drifted 198 = .ok (.istore 11, 2) := zb_X12_drifted_311.2.2.2.2.2.1
theorem dX12_drifted_155 : decode cX12_drifted 155 = .ok (.iload 7, 2) := zb_X12_drifted_311.2.2.2.2.2.2.1
theorem dX12_drifted_164 : decode cX12_drifted 164 = .ok (.iload 5, 2) := zb_X12_drifted_311.2.2.2.2.2.2.2.1
theorem dX12_drifted_168 : decode cX12_drifted 168 = .ok (.idiv, 1) := zb_X12_drifted_311.2.2.2.2.2.2.2.2.1
theorem dX12_drifted_171 : decode cX12_drifted 171 = .ok (.irem, 1) := zb_X12_drifted_311.2.2.2.2.2.2.2.2.2.1
theorem dX12_drifted_174 : decode cX12_drifted 174 = .ok (.iload 6, 2) := zb_X12_drifted_311.2.2.2.2.2.2.2.2.2.2.1
theorem dX12_drifted_177 : decode cX12_drifted 177 = .ok (.istore 10, 2) := zb_X12_drifted_311.2.2.2.2.2.2.2.2.2.2.2
theorem zb_X12_drifted_131 : (decode cX12_drifted 131 = .ok (.iload 7, 2)) ∧ (decode cX12_drifted 140 = .ok (.iload 5, 2)) ∧ (decode cX12_drifted 144 = .ok (.idiv, 1)) ∧ (decode cX12_drifted 147 = .ok (.irem, 1)) ∧ (decode cX12_drifted 150 = .ok (.iload 6, 2)) ∧ (decode cX12_drifted 153 = .ok (.istore 9, 2)) ∧ (decode cX12_drifted 109 = .ok (.iload 7, 2)) ∧ (decode cX12_drifted 118 = .ok (.iload 5, 2)) ∧ (decode cX12_drifted 123 = .ok (.idiv, 1)) ∧ (decode cX12_drifted 126 = .ok (.iload 6, 2)) ∧ (decode cX12_drifted 129 = .ok (.istore 8, 2)) ∧ (decode cX12_drifted 107 = .ok (.istore 7, 2)) := by decide +kernel
theorem dX12_drifted_131 : decode cX12_drifted 131 = .ok (.iload 7, 2) := zb_X12_drifted_131.1
theorem dX12_drifted_140 : decode cX12_drifted 140 = .ok (.iload 5, 2) := zb_X12_drifted_131.2.1
theorem dX12_drifted_144 : decode cX12_drifted 144 = .ok (.idiv, 1) := zb_X12_drifted_131.2.2.1
theorem dX12_drifted_147 : decode cX12_drifted 147 = .ok (.irem, 1) := zb_X12_drifted_131.2.2.2.1
theorem dX12_drifted_150 : decode cX12_drifted 150 = .ok (.iload 6, 2) := zb_X12_drifted_131.2.2.2.2.1
theorem dX12_drifted_153 : decode cX12_drifted 153 = .ok (.istore 9, 2) := zb_X12_drifted_131.2.2.2.2.2.1
theorem dX12_drifted_109 : decode cX12_drifted 109 = .ok (.iload 7, 2) := zb_X12_drifted_131.2.2.2.2.2.2.1
theorem dX12_drifted_118 : decode cX12_drifted 118 = .ok (.iload 5, 2) := zb_X12_drifted_131.2.2.2.2.2.2.2.1
theorem dX12_drifted_123 : decode cX12_drifted 123 = .ok (.idiv, 1) := zb_X12_drifted_131.2.2.2.2.2.2.2.2.1
theorem dX12_drifted_126 : decode cX12_drifted 126 = .ok (.iload 6, 2) := zb_X12_drifted_131.2.2.2.2.2.2.2.2.2.1
theorem dX12_drifted_129 : decode cX12_drifted 129 = .ok (.istore 8, 2) := zb_X12_drifted_131.2.2.2.2.2.2.2.2.2.2.1
theorem dX12_drifted_107 : decode cX12_drifted 107 = .ok (.istore 7, 2) := zb_X12_drifted_131.2.2.2.2.2.2.2.2.2.2.2
theorem zb_X12_drifted_90 : (decode cX12_drifted 90 = .ok (.istore 6, 2)) ∧ (decode cX12_drifted 81 = .ok (.irem, 1)) ∧ (decode cX12_drifted 22 = .ok (.iload 6, 2)) ∧ (decode cX12_drifted 49 = .ok (.iload 5, 2)) ∧ (decode cX12_drifted 51 = .ok (.istore 5, 2)) ∧ (decode cX12_drifted 53 = .ok (.iinc 6 1, 3)) ∧ (decode cX12_drifted 33 = .ok (.iload 6, 2)) ∧ (decode cX12_drifted 43 = .ok (.iload 6, 2)) := by decide +kernel
theorem dX12_drifted_90 : decode cX12_drifted 90 = .ok (.istore 6, 2) := zb_X12_drifted_90.1
theorem dX12_drifted_81 : decode cX12_drifted 81 = .ok (.irem, 1) := zb_X12_drifted_90.2.1
theorem dX12_drifted_22 : decode cX12_drifted 22 = .ok (.iload 6, 2) := zb_X12_drifted_90.2.2.1
theorem dX12_drifted_49 : decode cX12_drifted 49 = .ok (.iload 5, 2) := zb_X12_drifted_90.2.2.2.1
theorem dX12_drifted_51 : decode cX12_drifted 51 = .ok (.istore 5, 2) := zb_X12_drifted_90.2.2.2.2.1
theorem dX12_drifted_53 : decode cX12_drifted 53 = .ok (.iinc 6 1, 3) := zb_X12_drifted_90.2.2.2.2.2.1
theorem dX12_drifted_33 : decode cX12_drifted 33 = .ok (.iload 6, 2) := zb_X12_drifted_90.2.2.2.2.2.2.1
theorem dX12_drifted_43 : decode cX12_drifted 43 = .ok (.iload 6, 2) := zb_X12_drifted_90.2.2.2.2.2.2.2
theorem zb_X12_narrowed_0 : (decode cX12_narrowed 0 = .ok (.lload 4, 2)) ∧ (decode cX12_narrowed 2 = .ok (.lstore 6, 2)) ∧ (decode cX12_narrowed 4 = .ok (.iconst 0, 1)) ∧ (decode cX12_narrowed 5 = .ok (.istore 8, 2)) ∧ (decode cX12_narrowed 7 = .ok (.iload 8, 2)) ∧ (decode cX12_narrowed 9 = .ok (.aload_n 0, 1)) ∧ (decode cX12_narrowed 10 = .ok (.getfield 223, 3)) ∧ (decode cX12_narrowed 13 = .ok (.if_icmp .ge 60, 3)) ∧ (decode cX12_narrowed 73 = .ok (.lload 6, 2)) ∧ (decode cX12_narrowed 75 = .ok (.lreturn, 1)) := by decide +kernel
theorem dX12_narrowed_0 : decode cX12_narrowed 0 = .ok (.lload 4, 2) := zb_X12_narrowed_0.1
theorem dX12_narrowed_2 : decode cX12_narrowed 2 = .ok (.lstore 6, 2) := zb_X12_narrowed_0.2.1
theorem dX12_narrowed_4 : decode cX12_narrowed 4 = .ok (.iconst 0, 1) := zb_X12_narrowed_0.2.2.1
theorem dX12_narrowed_5 : decode cX12_narrowed 5 = .ok (.istore 8, 2) := zb_X12_narrowed_0.2.2.2.1
theorem dX12_narrowed_7 : decode cX12_narrowed 7 = .ok (.iload 8, 2) := zb_X12_narrowed_0.2.2.2.2.1
theorem dX12_narrowed_9 : decode cX12_narrowed 9 = .ok (.aload_n 0, 1) := zb_X12_narrowed_0.2.2.2.2.2.1
theorem dX12_narrowed_10 : decode cX12_narrowed 10 = .ok (.getfield 223, 3) := zb_X12_narrowed_0.2.2.2.2.2.2.1
theorem dX12_narrowed_13 : decode cX12_narrowed 13 = .ok (.if_icmp .ge 60, 3) := zb_X12_narrowed_0.2.2.2.2.2.2.2.1
theorem dX12_narrowed_73 : decode cX12_narrowed 73 = .ok (.lload 6, 2) := zb_X12_narrowed_0.2.2.2.2.2.2.2.2.1
theorem dX12_narrowed_75 : decode cX12_narrowed 75 = .ok (.lreturn, 1) := zb_X12_narrowed_0.2.2.2.2.2.2.2.2.2
theorem zb_X12_narrowed_16 : (decode cX12_narrowed 16 = .ok (.lload 6, 2)) ∧ (decode cX12_narrowed 18 = .ok (.aload_n 0, 1)) ∧ (decode cX12_narrowed 19 = .ok (.getfield 46, 3)) ∧ (decode cX12_narrowed 22 = .ok (.iload 8, 2)) ∧ (decode cX12_narrowed 24 = .ok (.iaload, 1)) ∧ (decode cX12_narrowed 25 = .ok (.iload_n 1, 1)) ∧ (decode cX12_narrowed 26 = .ok (.if_icmp .ne 35, 3)) ∧ (decode cX12_narrowed 61 = .ok (.ldc2_w 226, 3)) ∧ (decode cX12_narrowed 64 = .ok (.land, 1)) ∧ (decode cX12_narrowed 65 = .ok (.lstore 6, 2)) := by decide +kernel
theorem dX12_narrowed_16 : decode cX12_narrowed 16 = .ok (.lload 6, 2) := zb_X12_narrowed_16.1
theorem dX12_narrowed_18 : decode cX12_narrowed 18 = .ok (.aload_n 0, 1) := zb_X12_narrowed_16.2.1
theorem dX12_narrowed_19 : decode cX12_narrowed 19 = .ok (.getfield 46, 3) := zb_X12_narrowed_16.2.2.1
theorem dX12_narrowed_22 : decode cX12_narrowed 22 = .ok (.iload 8, 2) := zb_X12_narrowed_16.2.2.2.1
theorem dX12_narrowed_24 : decode cX12_narrowed 24 = .ok (.iaload, 1) := zb_X12_narrowed_16.2.2.2.2.1
theorem dX12_narrowed_25 : decode cX12_narrowed 25 = .ok (.iload_n 1, 1) := zb_X12_narrowed_16.2.2.2.2.2.1
theorem dX12_narrowed_26 : decode cX12_narrowed 26 = .ok (.if_icmp .ne 35, 3) := zb_X12_narrowed_16.2.2.2.2.2.2.1
theorem dX12_narrowed_61 : decode cX12_narrowed 61 = .ok (.ldc2_w 226, 3) := zb_X12_narrowed_16.2.2.2.2.2.2.2.1
theorem dX12_narrowed_64 : decode cX12_narrowed 64 = .ok (.land, 1) := zb_X12_narrowed_16.2.2.2.2.2.2.2.2.1
theorem dX12_narrowed_65 : decode cX12_narrowed 65 = .ok (.lstore 6, 2) := zb_X12_narrowed_16.2.2.2.2.2.2.2.2.2
theorem zb_X12_narrowed_67 : (decode cX12_narrowed 67 = .ok (.iinc 8 1, 3)) ∧ (decode cX12_narrowed 70 = .ok (.goto (-63), 3)) ∧ (decode cX12_narrowed 29 = .ok (.aload_n 0, 1)) ∧ (decode cX12_narrowed 30 = .ok (.getfield 49, 3)) ∧ (decode cX12_narrowed 33 = .ok (.iload 8, 2)) ∧ (decode cX12_narrowed 35 = .ok (.iaload, 1)) ∧ (decode cX12_narrowed 36 = .ok (.iload_n 2, 1)) ∧ (decode cX12_narrowed 37 = .ok (.if_icmp .ne 24, 3)) ∧ (decode cX12_narrowed 40 = .ok (.aload_n 0, 1)) ∧ (decode cX12_narrowed 41 = .ok (.getfield 56, 3)) := by decide +kernel
theorem dX12_narrowed_67 : decode cX12_narrowed 67 = .ok (.iinc 8 1, 3) := zb_X12_narrowed_67.1
theorem dX12_narrowed_70 : decode cX12_narrowed 70 = .ok (.goto (-63), 3) := zb_X12_narrowed_67.2.1
theorem dX12_narrowed_29 : decode cX12_narrowed 29 = .ok (.aload_n 0, 1) := zb_X12_narrowed_67.2.2.1
theorem dX12_narrowed_30 : decode cX12_narrowed 30 = .ok (.getfield 49, 3) := zb_X12_narrowed_67.2.2.2.1
theorem dX12_narrowed_33 : decode cX12_narrowed 33 = .ok (.iload 8, 2) := zb_X12_narrowed_67.2.2.2.2.1
theorem dX12_narrowed_35 : decode cX12_narrowed 35 = .ok (.iaload, 1) := zb_X12_narrowed_67.2.2.2.2.2.1
theorem dX12_narrowed_36 : decode cX12_narrowed 36 = .ok (.iload_n 2, 1) := zb_X12_narrowed_67.2.2.2.2.2.2.1
theorem dX12_narrowed_37 : decode cX12_narrowed 37 = .ok (.if_icmp .ne 24, 3) := zb_X12_narrowed_67.2.2.2.2.2.2.2.1
theorem dX12_narrowed_40 : decode cX12_narrowed 40 = .ok (.aload_n 0, 1) := zb_X12_narrowed_67.2.2.2.2.2.2.2.2.1
theorem dX12_narrowed_41 : decode cX12_narrowed 41 = .ok (.getfield 56, 3) := zb_X12_narrowed_67.2.2.2.2.2.2.2.2.2
theorem zb_X12_narrowed_44 : (decode cX12_narrowed 44 = .ok (.iload 8, 2)) ∧ (decode cX12_narrowed 46 = .ok (.iaload, 1)) ∧ (decode cX12_narrowed 47 = .ok (.iload_n 3, 1)) ∧ (decode cX12_narrowed 48 = .ok (.if_icmp .gt 13, 3)) ∧ (decode cX12_narrowed 51 = .ok (.aload_n 0, 1)) ∧ (decode cX12_narrowed 52 = .ok (.getfield 52, 3)) ∧ (decode cX12_narrowed 55 = .ok (.iload 8, 2)) ∧ (decode cX12_narrowed 57 = .ok (.laload, 1)) ∧ (decode cX12_narrowed 58 = .ok (.goto 6, 3)) := by decide +kernel
theorem dX12_narrowed_44 : decode cX12_narrowed 44 = .ok (.iload 8, 2) := zb_X12_narrowed_44.1
theorem dX12_narrowed_46 : decode cX12_narrowed 46 = .ok (.iaload, 1) := zb_X12_narrowed_44.2.1
theorem dX12_narrowed_47 : decode cX12_narrowed 47 = .ok (.iload_n 3, 1) := zb_X12_narrowed_44.2.2.1
theorem dX12_narrowed_48 : decode cX12_narrowed 48 = .ok (.if_icmp .gt 13, 3) := zb_X12_narrowed_44.2.2.2.1
theorem dX12_narrowed_51 : decode cX12_narrowed 51 = .ok (.aload_n 0, 1) := zb_X12_narrowed_44.2.2.2.2.1
theorem dX12_narrowed_52 : decode cX12_narrowed 52 = .ok (.getfield 52, 3) := zb_X12_narrowed_44.2.2.2.2.2.1
theorem dX12_narrowed_55 : decode cX12_narrowed 55 = .ok (.iload 8, 2) := zb_X12_narrowed_44.2.2.2.2.2.2.1
theorem dX12_narrowed_57 : decode cX12_narrowed 57 = .ok (.laload, 1) := zb_X12_narrowed_44.2.2.2.2.2.2.2.1
theorem dX12_narrowed_58 : decode cX12_narrowed 58 = .ok (.goto 6, 3) := zb_X12_narrowed_44.2.2.2.2.2.2.2.2
theorem zb_X12_patchOf_0 : (decode cX12_patchOf 0 = .ok (.aload_n 0, 1)) ∧ (decode cX12_patchOf 1 = .ok (.iload_n 1, 1)) ∧ (decode cX12_patchOf 2 = .ok (.aload_n 0, 1)) ∧ (decode cX12_patchOf 3 = .ok (.getfield 31, 3)) ∧ (decode cX12_patchOf 6 = .ok (.iload_n 1, 1)) ∧ (decode cX12_patchOf 7 = .ok (.iaload, 1)) ∧ (decode cX12_patchOf 8 = .ok (.iload_n 3, 1)) ∧ (decode cX12_patchOf 9 = .ok (.lconst 1, 1)) ∧ (decode cX12_patchOf 10 = .ok (.aload_n 0, 1)) ∧ (decode cX12_patchOf 11 = .ok (.getfield 34, 3)) := by decide +kernel
theorem dX12_patchOf_0 : decode cX12_patchOf 0 = .ok (.aload_n 0, 1) := zb_X12_patchOf_0.1
theorem dX12_patchOf_1 : decode cX12_patchOf 1 = .ok (.iload_n 1, 1) := zb_X12_patchOf_0.2.1
theorem dX12_patchOf_2 : decode cX12_patchOf 2 = .ok (.aload_n 0, 1) := zb_X12_patchOf_0.2.2.1
theorem dX12_patchOf_3 : decode cX12_patchOf 3 = .ok (.getfield 31, 3) := zb_X12_patchOf_0.2.2.2.1
theorem dX12_patchOf_6 : decode cX12_patchOf 6 = .ok (.iload_n 1, 1) := zb_X12_patchOf_0.2.2.2.2.1
theorem dX12_patchOf_7 : decode cX12_patchOf 7 = .ok (.iaload, 1) := zb_X12_patchOf_0.2.2.2.2.2.1
theorem dX12_patchOf_8 : decode cX12_patchOf 8 = .ok (.iload_n 3, 1) := zb_X12_patchOf_0.2.2.2.2.2.2.1
theorem dX12_patchOf_9 : decode cX12_patchOf 9 = .ok (.lconst 1, 1) := zb_X12_patchOf_0.2.2.2.2.2.2.2.1
theorem dX12_patchOf_10 : decode cX12_patchOf 10 = .ok (.aload_n 0, 1) := zb_X12_patchOf_0.2.2.2.2.2.2.2.2.1
theorem dX12_patchOf_11 : decode cX12_patchOf 11 = .ok (.getfield 34, 3) := zb_X12_patchOf_0.2.2.2.2.2.2.2.2.2
theorem zb_X12_patchOf_14 : (decode cX12_patchOf 14 = .ok (.iload_n 1, 1)) ∧ (decode cX12_patchOf 15 = .ok (.iaload, 1)) ∧ (decode cX12_patchOf 16 = .ok (.lshl, 1)) ∧ (decode cX12_patchOf 17 = .ok (.invokevirtual 228, 3)) ∧ (decode cX12_patchOf 20 = .ok (.lstore 4, 2)) ∧ (decode cX12_patchOf 22 = .ok (.aload_n 0, 1)) ∧ (decode cX12_patchOf 23 = .ok (.getfield 31, 3)) ∧ (decode cX12_patchOf 26 = .ok (.iload_n 1, 1)) ∧ (decode cX12_patchOf 27 = .ok (.iaload, 1)) ∧ (decode cX12_patchOf 28 = .ok (.istore 6, 2)) := by decide +kernel
theorem dX12_patchOf_14 : decode cX12_patchOf 14 = .ok (.iload_n 1, 1) := zb_X12_patchOf_14.1
theorem dX12_patchOf_15 : decode cX12_patchOf 15 = .ok (.iaload, 1) := zb_X12_patchOf_14.2.1
theorem dX12_patchOf_16 : decode cX12_patchOf 16 = .ok (.lshl, 1) := zb_X12_patchOf_14.2.2.1
theorem dX12_patchOf_17 : decode cX12_patchOf 17 = .ok (.invokevirtual 228, 3) := zb_X12_patchOf_14.2.2.2.1
theorem dX12_patchOf_20 : decode cX12_patchOf 20 = .ok (.lstore 4, 2) := zb_X12_patchOf_14.2.2.2.2.1
theorem dX12_patchOf_22 : decode cX12_patchOf 22 = .ok (.aload_n 0, 1) := zb_X12_patchOf_14.2.2.2.2.2.1
theorem dX12_patchOf_23 : decode cX12_patchOf 23 = .ok (.getfield 31, 3) := zb_X12_patchOf_14.2.2.2.2.2.2.1
theorem dX12_patchOf_26 : decode cX12_patchOf 26 = .ok (.iload_n 1, 1) := zb_X12_patchOf_14.2.2.2.2.2.2.2.1
theorem dX12_patchOf_27 : decode cX12_patchOf 27 = .ok (.iaload, 1) := zb_X12_patchOf_14.2.2.2.2.2.2.2.2.1
theorem dX12_patchOf_28 : decode cX12_patchOf 28 = .ok (.istore 6, 2) := zb_X12_patchOf_14.2.2.2.2.2.2.2.2.2
theorem zb_X12_patchOf_30 : (decode cX12_patchOf 30 = .ok (.iload 6, 2)) ∧ (decode cX12_patchOf 32 = .ok (.iload_n 2, 1)) ∧ (decode cX12_patchOf 33 = .ok (.if_icmp .ge 30, 3)) ∧ (decode cX12_patchOf 63 = .ok (.lload 4, 2)) ∧ (decode cX12_patchOf 65 = .ok (.lreturn, 1)) ∧ (decode cX12_patchOf 36 = .ok (.aload_n 0, 1)) ∧ (decode cX12_patchOf 37 = .ok (.iload_n 1, 1)) ∧ (decode cX12_patchOf 38 = .ok (.iload 6, 2)) ∧ (decode cX12_patchOf 40 = .ok (.iconst 1, 1)) ∧ (decode cX12_patchOf 41 = .ok (.iadd, 1)) := by decide +kernel
theorem dX12_patchOf_30 : decode cX12_patchOf 30 = .ok (.iload 6, 2) := zb_X12_patchOf_30.1
theorem dX12_patchOf_32 : decode cX12_patchOf 32 = .ok (.iload_n 2, 1) := zb_X12_patchOf_30.2.1
theorem dX12_patchOf_33 : decode cX12_patchOf 33 = .ok (.if_icmp .ge 30, 3) := zb_X12_patchOf_30.2.2.1
theorem dX12_patchOf_63 : decode cX12_patchOf 63 = .ok (.lload 4, 2) := zb_X12_patchOf_30.2.2.2.1
theorem dX12_patchOf_65 : decode cX12_patchOf 65 = .ok (.lreturn, 1) := zb_X12_patchOf_30.2.2.2.2.1
theorem dX12_patchOf_36 : decode cX12_patchOf 36 = .ok (.aload_n 0, 1) := zb_X12_patchOf_30.2.2.2.2.2.1
theorem dX12_patchOf_37 : decode cX12_patchOf 37 = .ok (.iload_n 1, 1) := zb_X12_patchOf_30.2.2.2.2.2.2.1
theorem dX12_patchOf_38 : decode cX12_patchOf 38 = .ok (.iload 6, 2) := zb_X12_patchOf_30.2.2.2.2.2.2.2.1
theorem dX12_patchOf_40 : decode cX12_patchOf 40 = .ok (.iconst 1, 1) := zb_X12_patchOf_30.2.2.2.2.2.2.2.2.1
theorem dX12_patchOf_41 : decode cX12_patchOf 41 = .ok (.iadd, 1) := zb_X12_patchOf_30.2.2.2.2.2.2.2.2.2
theorem zb_X12_patchOf_42 : (decode cX12_patchOf 42 = .ok (.iload_n 3, 1)) ∧ (decode cX12_patchOf 43 = .ok (.aload_n 0, 1)) ∧ (decode cX12_patchOf 44 = .ok (.iload_n 1, 1)) ∧ (decode cX12_patchOf 45 = .ok (.iload 6, 2)) ∧ (decode cX12_patchOf 47 = .ok (.lload 4, 2)) ∧ (decode cX12_patchOf 49 = .ok (.invokevirtual 232, 3)) ∧ (decode cX12_patchOf 52 = .ok (.invokevirtual 228, 3)) ∧ (decode cX12_patchOf 55 = .ok (.lstore 4, 2)) ∧ (decode cX12_patchOf 57 = .ok (.iinc 6 1, 3)) ∧ (decode cX12_patchOf 60 = .ok (.goto (-30), 3)) := by decide +kernel
theorem dX12_patchOf_42 : decode cX12_patchOf 42 = .ok (.iload_n 3, 1) := zb_X12_patchOf_42.1
theorem dX12_patchOf_43 : decode cX12_patchOf 43 = .ok (.aload_n 0, 1) := zb_X12_patchOf_42.2.1
theorem dX12_patchOf_44 : decode cX12_patchOf 44 = .ok (.iload_n 1, 1) := zb_X12_patchOf_42.2.2.1
theorem dX12_patchOf_45 : decode cX12_patchOf 45 = .ok (.iload 6, 2) := zb_X12_patchOf_42.2.2.2.1
theorem dX12_patchOf_47 : decode cX12_patchOf 47 = .ok (.lload 4, 2) := zb_X12_patchOf_42.2.2.2.2.1
theorem dX12_patchOf_49 : decode cX12_patchOf 49 = .ok (.invokevirtual 232, 3) := zb_X12_patchOf_42.2.2.2.2.2.1
theorem dX12_patchOf_52 : decode cX12_patchOf 52 = .ok (.invokevirtual 228, 3) := zb_X12_patchOf_42.2.2.2.2.2.2.1
theorem dX12_patchOf_55 : decode cX12_patchOf 55 = .ok (.lstore 4, 2) := zb_X12_patchOf_42.2.2.2.2.2.2.2.1
theorem dX12_patchOf_57 : decode cX12_patchOf 57 = .ok (.iinc 6 1, 3) := zb_X12_patchOf_42.2.2.2.2.2.2.2.2.1
theorem dX12_patchOf_60 : decode cX12_patchOf 60 = .ok (.goto (-30), 3) := zb_X12_patchOf_42.2.2.2.2.2.2.2.2.2
theorem zb_X12_canFly_0 : (decode cX12_canFly 0 = .ok (.iload_n 1, 1)) ∧ (decode cX12_canFly 1 = .ok (.iload_n 2, 1)) ∧ (decode cX12_canFly 2 = .ok (.iadd, 1)) ∧ (decode cX12_canFly 3 = .ok (.sipush 239, 3)) ∧ (decode cX12_canFly 6 = .ok (.if_icmp .gt 7, 3)) ∧ (decode cX12_canFly 13 = .ok (.iconst 0, 1)) ∧ (decode cX12_canFly 14 = .ok (.istore_n 3, 1)) ∧ (decode cX12_canFly 15 = .ok (.iload_n 1, 1)) ∧ (decode cX12_canFly 16 = .ok (.istore 4, 2)) ∧ (decode cX12_canFly 18 = .ok (.iload 4, 2)) ∧ (decode cX12_canFly 20 = .ok (.iload_n 1, 1)) := by decide +kernel
theorem dX12_canFly_0 : decode cX12_canFly 0 = .ok (.iload_n 1, 1) := zb_X12_canFly_0.1
theorem dX12_canFly_1 : decode cX12_canFly 1 = .ok (.iload_n 2, 1) := zb_X12_canFly_0.2.1
theorem dX12_canFly_2 : decode cX12_canFly 2 = .ok (.iadd, 1) := zb_X12_canFly_0.2.2.1
theorem dX12_canFly_3 : decode cX12_canFly 3 = .ok (.sipush 239, 3) := zb_X12_canFly_0.2.2.2.1
theorem dX12_canFly_6 : decode cX12_canFly 6 = .ok (.if_icmp .gt 7, 3) := zb_X12_canFly_0.2.2.2.2.1
theorem dX12_canFly_13 : decode cX12_canFly 13 = .ok (.iconst 0, 1) := zb_X12_canFly_0.2.2.2.2.2.1
theorem dX12_canFly_14 : decode cX12_canFly 14 = .ok (.istore_n 3, 1) := zb_X12_canFly_0.2.2.2.2.2.2.1
theorem dX12_canFly_15 : decode cX12_canFly 15 = .ok (.iload_n 1, 1) := zb_X12_canFly_0.2.2.2.2.2.2.2.1
theorem dX12_canFly_16 : decode cX12_canFly 16 = .ok (.istore 4, 2) := zb_X12_canFly_0.2.2.2.2.2.2.2.2.1
theorem dX12_canFly_18 : decode cX12_canFly 18 = .ok (.iload 4, 2) := zb_X12_canFly_0.2.2.2.2.2.2.2.2.2.1
theorem dX12_canFly_20 : decode cX12_canFly 20 = .ok (.iload_n 1, 1) := zb_X12_canFly_0.2.2.2.2.2.2.2.2.2.2
theorem zb_X12_canFly_21 : (decode cX12_canFly 21 = .ok (.iload_n 2, 1)) ∧ (decode cX12_canFly 22 = .ok (.iadd, 1)) ∧ (decode cX12_canFly 23 = .ok (.if_icmp .ge 30, 3)) ∧ (decode cX12_canFly 53 = .ok (.iload_n 3, 1)) ∧ (decode cX12_canFly 54 = .ok (.ireturn, 1)) ∧ (decode cX12_canFly 26 = .ok (.iload_n 3, 1)) ∧ (decode cX12_canFly 27 = .ok (.ifCond .eq 26, 3)) ∧ (decode cX12_canFly 30 = .ok (.aload_n 0, 1)) ∧ (decode cX12_canFly 31 = .ok (.iload 4, 2)) ∧ (decode cX12_canFly 33 = .ok (.invokevirtual 278, 3)) ∧ (decode cX12_canFly 36 = .ok (.bipush 8, 2)) := by decide +kernel
theorem dX12_canFly_21 : decode cX12_canFly 21 = .ok (.iload_n 2, 1) := zb_X12_canFly_21.1
theorem dX12_canFly_22 : decode cX12_canFly 22 = .ok (.iadd, 1) := zb_X12_canFly_21.2.1
theorem dX12_canFly_23 : decode cX12_canFly 23 = .ok (.if_icmp .ge 30, 3) := zb_X12_canFly_21.2.2.1
theorem dX12_canFly_53 : decode cX12_canFly 53 = .ok (.iload_n 3, 1) := zb_X12_canFly_21.2.2.2.1
theorem dX12_canFly_54 : decode cX12_canFly 54 = .ok (.ireturn, 1) := zb_X12_canFly_21.2.2.2.2.1
theorem dX12_canFly_26 : decode cX12_canFly 26 = .ok (.iload_n 3, 1) := zb_X12_canFly_21.2.2.2.2.2.1
theorem dX12_canFly_27 : decode cX12_canFly 27 = .ok (.ifCond .eq 26, 3) := zb_X12_canFly_21.2.2.2.2.2.2.1
theorem dX12_canFly_30 : decode cX12_canFly 30 = .ok (.aload_n 0, 1) := zb_X12_canFly_21.2.2.2.2.2.2.2.1
theorem dX12_canFly_31 : decode cX12_canFly 31 = .ok (.iload 4, 2) := zb_X12_canFly_21.2.2.2.2.2.2.2.2.1
theorem dX12_canFly_33 : decode cX12_canFly 33 = .ok (.invokevirtual 278, 3) := zb_X12_canFly_21.2.2.2.2.2.2.2.2.2.1
theorem dX12_canFly_36 : decode cX12_canFly 36 = .ok (.bipush 8, 2) := zb_X12_canFly_21.2.2.2.2.2.2.2.2.2.2
theorem zb_X12_canFly_38 : (decode cX12_canFly 38 = .ok (.if_icmp .gt 7, 3)) ∧ (decode cX12_canFly 45 = .ok (.iconst 0, 1)) ∧ (decode cX12_canFly 46 = .ok (.istore_n 3, 1)) ∧ (decode cX12_canFly 47 = .ok (.iinc 4 1, 3)) ∧ (decode cX12_canFly 50 = .ok (.goto (-32), 3)) ∧ (decode cX12_canFly 41 = .ok (.iconst 1, 1)) ∧ (decode cX12_canFly 42 = .ok (.goto 4, 3)) ∧ (decode cX12_canFly 9 = .ok (.iconst 1, 1)) ∧ (decode cX12_canFly 10 = .ok (.goto 4, 3)) := by decide +kernel
theorem dX12_canFly_38 : decode cX12_canFly 38 = .ok (.if_icmp .gt 7, 3) := zb_X12_canFly_38.1
theorem dX12_canFly_45 : decode cX12_canFly 45 = .ok (.iconst 0, 1) := zb_X12_canFly_38.2.1
theorem dX12_canFly_46 : decode cX12_canFly 46 = .ok (.istore_n 3, 1) := zb_X12_canFly_38.2.2.1
theorem dX12_canFly_47 : decode cX12_canFly 47 = .ok (.iinc 4 1, 3) := zb_X12_canFly_38.2.2.2.1
theorem dX12_canFly_50 : decode cX12_canFly 50 = .ok (.goto (-32), 3) := zb_X12_canFly_38.2.2.2.2.1
theorem dX12_canFly_41 : decode cX12_canFly 41 = .ok (.iconst 1, 1) := zb_X12_canFly_38.2.2.2.2.2.1
theorem dX12_canFly_42 : decode cX12_canFly 42 = .ok (.goto 4, 3) := zb_X12_canFly_38.2.2.2.2.2.2.1
theorem dX12_canFly_9 : decode cX12_canFly 9 = .ok (.iconst 1, 1) := zb_X12_canFly_38.2.2.2.2.2.2.2.1
theorem dX12_canFly_10 : decode cX12_canFly 10 = .ok (.goto 4, 3) := zb_X12_canFly_38.2.2.2.2.2.2.2.2
theorem zb_X12_goesIn_0 : (decode cX12_goesIn 0 = .ok (.iload_n 3, 1)) ∧ (decode cX12_goesIn 1 = .ok (.istore 4, 2)) ∧ (decode cX12_goesIn 3 = .ok (.iconst 0, 1)) ∧ (decode cX12_goesIn 4 = .ok (.istore 5, 2)) ∧ (decode cX12_goesIn 6 = .ok (.iconst 0, 1)) ∧ (decode cX12_goesIn 7 = .ok (.istore 6, 2)) ∧ (decode cX12_goesIn 9 = .ok (.iload 6, 2)) ∧ (decode cX12_goesIn 11 = .ok (.iload_n 2, 1)) ∧ (decode cX12_goesIn 12 = .ok (.if_icmp .ge 59, 3)) ∧ (decode cX12_goesIn 71 = .ok (.iload 5, 2)) ∧ (decode cX12_goesIn 73 = .ok (.ireturn, 1)) := by decide +kernel
theorem dX12_goesIn_0 : decode cX12_goesIn 0 = .ok (.iload_n 3, 1) := zb_X12_goesIn_0.1
theorem dX12_goesIn_1 : decode cX12_goesIn 1 = .ok (.istore 4, 2) := zb_X12_goesIn_0.2.1
theorem dX12_goesIn_3 : decode cX12_goesIn 3 = .ok (.iconst 0, 1) := zb_X12_goesIn_0.2.2.1
theorem dX12_goesIn_4 : decode cX12_goesIn 4 = .ok (.istore 5, 2) := zb_X12_goesIn_0.2.2.2.1
theorem dX12_goesIn_6 : decode cX12_goesIn 6 = .ok (.iconst 0, 1) := zb_X12_goesIn_0.2.2.2.2.1
theorem dX12_goesIn_7 : decode cX12_goesIn 7 = .ok (.istore 6, 2) := zb_X12_goesIn_0.2.2.2.2.2.1
theorem dX12_goesIn_9 : decode cX12_goesIn 9 = .ok (.iload 6, 2) := zb_X12_goesIn_0.2.2.2.2.2.2.1
theorem dX12_goesIn_11 : decode cX12_goesIn 11 = .ok (.iload_n 2, 1) := zb_X12_goesIn_0.2.2.2.2.2.2.2.1
theorem dX12_goesIn_12 : decode cX12_goesIn 12 = .ok (.if_icmp .ge 59, 3) := zb_X12_goesIn_0.2.2.2.2.2.2.2.2.1
theorem dX12_goesIn_71 : decode cX12_goesIn 71 = .ok (.iload 5, 2) := zb_X12_goesIn_0.2.2.2.2.2.2.2.2.2.1
theorem dX12_goesIn_73 : decode cX12_goesIn 73 = .ok (.ireturn, 1) := zb_X12_goesIn_0.2.2.2.2.2.2.2.2.2.2
theorem zb_X12_goesIn_15 : (decode cX12_goesIn 15 = .ok (.aload_n 0, 1)) ∧ (decode cX12_goesIn 16 = .ok (.getfield 122, 3)) ∧ (decode cX12_goesIn 19 = .ok (.bipush 15, 2)) ∧ (decode cX12_goesIn 21 = .ok (.iload_n 1, 1)) ∧ (decode cX12_goesIn 22 = .ok (.imul, 1)) ∧ (decode cX12_goesIn 23 = .ok (.iconst 3, 1)) ∧ (decode cX12_goesIn 24 = .ok (.iload 6, 2)) ∧ (decode cX12_goesIn 26 = .ok (.imul, 1)) ∧ (decode cX12_goesIn 27 = .ok (.iadd, 1)) ∧ (decode cX12_goesIn 28 = .ok (.aload_n 0, 1)) ∧ (decode cX12_goesIn 29 = .ok (.getfield 152, 3)) := by decide +kernel
theorem dX12_goesIn_15 : decode cX12_goesIn 15 = .ok (.aload_n 0, 1) := zb_X12_goesIn_15.1
theorem dX12_goesIn_16 : decode cX12_goesIn 16 = .ok (.getfield 122, 3) := zb_X12_goesIn_15.2.1
theorem dX12_goesIn_19 : decode cX12_goesIn 19 = .ok (.bipush 15, 2) := zb_X12_goesIn_15.2.2.1
theorem dX12_goesIn_21 : decode cX12_goesIn 21 = .ok (.iload_n 1, 1) := zb_X12_goesIn_15.2.2.2.1
theorem dX12_goesIn_22 : decode cX12_goesIn 22 = .ok (.imul, 1) := zb_X12_goesIn_15.2.2.2.2.1
theorem dX12_goesIn_23 : decode cX12_goesIn 23 = .ok (.iconst 3, 1) := zb_X12_goesIn_15.2.2.2.2.2.1
theorem dX12_goesIn_24 : decode cX12_goesIn 24 = .ok (.iload 6, 2) := zb_X12_goesIn_15.2.2.2.2.2.2.1
theorem dX12_goesIn_26 : decode cX12_goesIn 26 = .ok (.imul, 1) := zb_X12_goesIn_15.2.2.2.2.2.2.2.1
theorem dX12_goesIn_27 : decode cX12_goesIn 27 = .ok (.iadd, 1) := zb_X12_goesIn_15.2.2.2.2.2.2.2.2.1
theorem dX12_goesIn_28 : decode cX12_goesIn 28 = .ok (.aload_n 0, 1) := zb_X12_goesIn_15.2.2.2.2.2.2.2.2.2.1
theorem dX12_goesIn_29 : decode cX12_goesIn 29 = .ok (.getfield 152, 3) := zb_X12_goesIn_15.2.2.2.2.2.2.2.2.2.2
theorem zb_X12_goesIn_32 : (decode cX12_goesIn 32 = .ok (.iload 6, 2)) ∧ (decode cX12_goesIn 34 = .ok (.iaload, 1)) ∧ (decode cX12_goesIn 35 = .ok (.iadd, 1)) ∧ (decode cX12_goesIn 36 = .ok (.iaload, 1)) ∧ (decode cX12_goesIn 37 = .ok (.istore 7, 2)) ∧ (decode cX12_goesIn 39 = .ok (.iload 4, 2)) ∧ (decode cX12_goesIn 41 = .ok (.iload 7, 2)) ∧ (decode cX12_goesIn 43 = .ok (.if_icmp .le 22, 3)) ∧ (decode cX12_goesIn 65 = .ok (.iinc 6 1, 3)) ∧ (decode cX12_goesIn 68 = .ok (.goto (-59), 3)) ∧ (decode cX12_goesIn 46 = .ok (.iload 4, 2)) := by decide +kernel
theorem dX12_goesIn_32 : decode cX12_goesIn 32 = .ok (.iload 6, 2) := zb_X12_goesIn_32.1
theorem dX12_goesIn_34 : decode cX12_goesIn 34 = .ok (.iaload, 1) := zb_X12_goesIn_32.2.1
theorem dX12_goesIn_35 : decode cX12_goesIn 35 = .ok (.iadd, 1) := zb_X12_goesIn_32.2.2.1
theorem dX12_goesIn_36 : decode cX12_goesIn 36 = .ok (.iaload, 1) := zb_X12_goesIn_32.2.2.2.1
theorem dX12_goesIn_37 : decode cX12_goesIn 37 = .ok (.istore 7, 2) := zb_X12_goesIn_32.2.2.2.2.1
theorem dX12_goesIn_39 : decode cX12_goesIn 39 = .ok (.iload 4, 2) := zb_X12_goesIn_32.2.2.2.2.2.1
theorem dX12_goesIn_41 : decode cX12_goesIn 41 = .ok (.iload 7, 2) := zb_X12_goesIn_32.2.2.2.2.2.2.1
theorem dX12_goesIn_43 : decode cX12_goesIn 43 = .ok (.if_icmp .le 22, 3) := zb_X12_goesIn_32.2.2.2.2.2.2.2.1
theorem dX12_goesIn_65 : decode cX12_goesIn 65 = .ok (.iinc 6 1, 3) := zb_X12_goesIn_32.2.2.2.2.2.2.2.2.1
theorem dX12_goesIn_68 : decode cX12_goesIn 68 = .ok (.goto (-59), 3) := zb_X12_goesIn_32.2.2.2.2.2.2.2.2.2.1
theorem dX12_goesIn_46 : decode cX12_goesIn 46 = .ok (.iload 4, 2) := zb_X12_goesIn_32.2.2.2.2.2.2.2.2.2.2
theorem zb_X12_goesIn_48 : (decode cX12_goesIn 48 = .ok (.iload 7, 2)) ∧ (decode cX12_goesIn 50 = .ok (.iconst 1, 1)) ∧ (decode cX12_goesIn 51 = .ok (.iadd, 1)) ∧ (decode cX12_goesIn 52 = .ok (.isub, 1)) ∧ (decode cX12_goesIn 53 = .ok (.istore 4, 2)) ∧ (decode cX12_goesIn 55 = .ok (.iload 5, 2)) ∧ (decode cX12_goesIn 57 = .ok (.bipush 9, 2)) ∧ (decode cX12_goesIn 59 = .ok (.iload 7, 2)) ∧ (decode cX12_goesIn 61 = .ok (.isub, 1)) ∧ (decode cX12_goesIn 62 = .ok (.iadd, 1)) ∧ (decode cX12_goesIn 63 = .ok (.istore 5, 2)) := by decide +kernel
theorem dX12_goesIn_48 : decode cX12_goesIn 48 = .ok (.iload 7, 2) := zb_X12_goesIn_48.1
theorem dX12_goesIn_50 : decode cX12_goesIn 50 = .ok (.iconst 1, 1) := zb_X12_goesIn_48.2.1
theorem dX12_goesIn_51 : decode cX12_goesIn 51 = .ok (.iadd, 1) := zb_X12_goesIn_48.2.2.1
theorem dX12_goesIn_52 : decode cX12_goesIn 52 = .ok (.isub, 1) := zb_X12_goesIn_48.2.2.2.1
theorem dX12_goesIn_53 : decode cX12_goesIn 53 = .ok (.istore 4, 2) := zb_X12_goesIn_48.2.2.2.2.1
theorem dX12_goesIn_55 : decode cX12_goesIn 55 = .ok (.iload 5, 2) := zb_X12_goesIn_48.2.2.2.2.2.1
theorem dX12_goesIn_57 : decode cX12_goesIn 57 = .ok (.bipush 9, 2) := zb_X12_goesIn_48.2.2.2.2.2.2.1
theorem dX12_goesIn_59 : decode cX12_goesIn 59 = .ok (.iload 7, 2) := zb_X12_goesIn_48.2.2.2.2.2.2.2.1
theorem dX12_goesIn_61 : decode cX12_goesIn 61 = .ok (.isub, 1) := zb_X12_goesIn_48.2.2.2.2.2.2.2.2.1
theorem dX12_goesIn_62 : decode cX12_goesIn 62 = .ok (.iadd, 1) := zb_X12_goesIn_48.2.2.2.2.2.2.2.2.2.1
theorem dX12_goesIn_63 : decode cX12_goesIn 63 = .ok (.istore 5, 2) := zb_X12_goesIn_48.2.2.2.2.2.2.2.2.2.2
theorem ck_X12_drifted_0_16mo : ((cX12_drifted.data.toList).drop 0).take 16 = [17, 8, 174, 54, 5, 3, 54, 6, 21, 6, 42, 180, 0, 211, 162, 0] := by decide +kernel
theorem ck_X12_drifted_1_16mo : ((cX12_drifted.data.toList).drop 16).take 16 = [45, 28, 42, 180, 0, 9, 21, 6, 46, 161, 0, 24, 28, 42, 180, 0] := by decide +kernel
theorem ck_X12_drifted_2_16mo : ((cX12_drifted.data.toList).drop 32).take 16 = [13, 21, 6, 46, 162, 0, 13, 42, 180, 0, 16, 21, 6, 46, 167, 0] := by decide +kernel
theorem ck_X12_drifted_3_16mo : ((cX12_drifted.data.toList).drop 48).take 16 = [5, 21, 5, 54, 5, 132, 6, 1, 167, 255, 208, 42, 180, 0, 28, 27] := by decide +kernel
theorem ck_X12_drifted_4_16mo : ((cX12_drifted.data.toList).drop 64).take 16 = [46, 6, 159, 0, 19, 42, 180, 0, 28, 27, 46, 7, 160, 0, 13, 28] := by decide +kernel
theorem ck_X12_drifted_5_16mo : ((cX12_drifted.data.toList).drop 80).take 16 = [7, 112, 154, 0, 7, 4, 167, 0, 4, 3, 54, 6, 42, 180, 0, 28] := by decide +kernel
theorem ck_X12_drifted_6_16mo : ((cX12_drifted.data.toList).drop 96).take 16 = [27, 46, 5, 160, 0, 7, 4, 167, 0, 4, 3, 54, 7, 21, 7, 153] := by decide +kernel
theorem ck_X12_drifted_7_16mo : ((cX12_drifted.data.toList).drop 112).take 16 = [0, 7, 3, 167, 0, 14, 21, 5, 17, 3, 232, 108, 5, 100, 21, 6] := by decide +kernel
theorem ck_X12_drifted_8_16mo : ((cX12_drifted.data.toList).drop 128).take 16 = [100, 54, 8, 21, 7, 153, 0, 7, 3, 167, 0, 16, 21, 5, 16, 100] := by decide +kernel
theorem ck_X12_drifted_9_16mo : ((cX12_drifted.data.toList).drop 144).take 16 = [108, 16, 10, 112, 5, 100, 21, 6, 96, 54, 9, 21, 7, 153, 0, 7] := by decide +kernel
theorem ck_X12_drifted_10_16mo : ((cX12_drifted.data.toList).drop 160).take 16 = [3, 167, 0, 16, 21, 5, 16, 10, 108, 16, 10, 112, 5, 100, 21, 6] := by decide +kernel
theorem ck_X12_drifted_11_16mo : ((cX12_drifted.data.toList).drop 176).take 16 = [100, 54, 10, 21, 7, 153, 0, 7, 3, 167, 0, 13, 21, 5, 16, 10] := by decide +kernel
theorem ck_X12_drifted_12_16mo : ((cX12_drifted.data.toList).drop 192).take 16 = [112, 5, 100, 21, 6, 96, 54, 11, 9, 55, 12, 3, 54, 14, 21, 14] := by decide +kernel
theorem ck_X12_drifted_13_16mo : ((cX12_drifted.data.toList).drop 208).take 16 = [16, 64, 162, 0, 119, 33, 21, 14, 125, 10, 127, 10, 148, 154, 0, 102] := by decide +kernel
theorem ck_X12_drifted_14_16mo : ((cX12_drifted.data.toList).drop 224).take 16 = [21, 14, 16, 8, 112, 21, 8, 96, 54, 15, 21, 15, 21, 14, 16, 8] := by decide +kernel
theorem ck_X12_drifted_15_16mo : ((cX12_drifted.data.toList).drop 240).take 16 = [112, 21, 9, 96, 163, 0, 79, 21, 14, 16, 8, 108, 21, 10, 96, 54] := by decide +kernel
theorem ck_X12_drifted_16_16mo : ((cX12_drifted.data.toList).drop 256).take 16 = [16, 21, 16, 21, 14, 16, 8, 108, 21, 11, 96, 163, 0, 50, 22, 12] := by decide +kernel
theorem ck_X12_drifted_17_16mo : ((cX12_drifted.data.toList).drop 272).take 16 = [21, 15, 3, 16, 7, 184, 0, 186, 153, 0, 27, 21, 16, 3, 16, 7] := by decide +kernel
theorem ck_X12_drifted_18_16mo : ((cX12_drifted.data.toList).drop 288).take 16 = [184, 0, 186, 153, 0, 16, 10, 16, 8, 21, 16, 104, 21, 15, 96, 121] := by decide +kernel
theorem ck_X12_drifted_19_16mo : ((cX12_drifted.data.toList).drop 304).take 16 = [167, 0, 4, 9, 129, 55, 12, 132, 16, 1, 167, 255, 199, 132, 15, 1] := by decide +kernel
theorem ck_X12_drifted_20_16mo : ((cX12_drifted.data.toList).drop 320).take 16 = [167, 255, 170, 132, 14, 1, 167, 255, 136, 22, 12, 173] := by decide +kernel
theorem dX12_isHour_0 : decode cX12_isHour 0 = .ok (.iload_n 0, 1) := by decide +kernel
theorem dX12_isHour_1 : decode cX12_isHour 1 = .ok (.iconst 0, 1) := by decide +kernel
theorem dX12_isHour_2 : decode cX12_isHour 2 = .ok (.sipush 239, 3) := by decide +kernel
theorem gX12_isHour_X12_within : GoodIn wsX12_isHour (va_wsS RX12 186 yX12_within wsX12_within) := ru_gG (ru_gS tw_6_122 tw_6_123 tw_1_12 mT_X12_within)
theorem dX12_isHour_5 : decode cX12_isHour 5 = .ok (.invokestatic 186, 3) := by decide +kernel
theorem dX12_isHour_8 : decode cX12_isHour 8 = .ok (.ireturn, 1) := by decide +kernel
theorem dX12_isCell_0 : decode cX12_isCell 0 = .ok (.iload_n 0, 1) := by decide +kernel
theorem dX12_isCell_1 : decode cX12_isCell 1 = .ok (.iconst 0, 1) := by decide +kernel
theorem dX12_isCell_2 : decode cX12_isCell 2 = .ok (.bipush 63, 2) := by decide +kernel
theorem gX12_isCell_X12_within : GoodIn wsX12_isCell (va_wsS RX12 186 yX12_within wsX12_within) := ru_gG (ru_gS tw_6_122 tw_6_123 tw_1_12 mT_X12_within)
theorem dX12_isCell_4 : decode cX12_isCell 4 = .ok (.invokestatic 186, 3) := by decide +kernel
theorem dX12_isCell_7 : decode cX12_isCell 7 = .ok (.ireturn, 1) := by decide +kernel
theorem dX12_isWave_0 : decode cX12_isWave 0 = .ok (.iload_n 0, 1) := by decide +kernel
theorem dX12_isWave_1 : decode cX12_isWave 1 = .ok (.iconst 0, 1) := by decide +kernel
theorem dX12_isWave_2 : decode cX12_isWave 2 = .ok (.iconst 3, 1) := by decide +kernel
theorem gX12_isWave_X12_within : GoodIn wsX12_isWave (va_wsS RX12 186 yX12_within wsX12_within) := ru_gG (ru_gS tw_6_122 tw_6_123 tw_1_12 mT_X12_within)
theorem dX12_isWave_3 : decode cX12_isWave 3 = .ok (.invokestatic 186, 3) := by decide +kernel
theorem dX12_isWave_6 : decode cX12_isWave 6 = .ok (.ireturn, 1) := by decide +kernel
theorem dX12_isSheet_0 : decode cX12_isSheet 0 = .ok (.iload_n 0, 1) := by decide +kernel
theorem dX12_isSheet_1 : decode cX12_isSheet 1 = .ok (.iconst 0, 1) := by decide +kernel
theorem dX12_isSheet_2 : decode cX12_isSheet 2 = .ok (.iconst 3, 1) := by decide +kernel
theorem gX12_isSheet_X12_within : GoodIn wsX12_isSheet (va_wsS RX12 186 yX12_within wsX12_within) := ru_gG (ru_gS tw_6_122 tw_6_123 tw_1_12 mT_X12_within)
theorem dX12_isSheet_3 : decode cX12_isSheet 3 = .ok (.invokestatic 186, 3) := by decide +kernel
theorem dX12_isSheet_6 : decode cX12_isSheet 6 = .ok (.ireturn, 1) := by decide +kernel
theorem gX12_areHours_X12_within : GoodIn wsX12_areHours (va_wsS RX12 186 yX12_within wsX12_within) := ru_gG (ru_gS tw_6_122 tw_6_123 tw_1_12 mT_X12_within)
theorem gX12_apart_X12_size : GoodIn wsX12_apart (va_wsS RX12 197 yX12_size wsX12_size) := ru_gG (ru_gS tw_6_211 tw_6_212 tw_1_12 mT_X12_size)
theorem gX12_isSeeker_X12_isBody : GoodIn wsX12_isSeeker (wsV RX12 193 RX12 yX12_isBody wsX12_isBody) := ru_gG (ru_gV tw_6_151 tw_6_153 tw_0_30 tw_1_12 mT_X12_isBody)
theorem dX12_drifted_0 : decode cX12_drifted 0 = .ok (.sipush 2222, 3) := dk_s (dk_k17 0) (dk_by (j := 0) rfl ck_X12_drifted_0_16mo rfl rfl rfl) (dk_by (j := 1) rfl ck_X12_drifted_0_16mo rfl rfl rfl) (dk_by (j := 2) rfl ck_X12_drifted_0_16mo rfl rfl rfl) (by decide)
theorem dX12_drifted_5 : decode cX12_drifted 5 = .ok (.iconst 0, 1) := dk_0 (dk_k3 5) (dk_by (j := 5) rfl ck_X12_drifted_0_16mo rfl rfl rfl)
theorem dX12_drifted_10 : decode cX12_drifted 10 = .ok (.aload_n 0, 1) := dk_0 (dk_k42 10) (dk_by (j := 10) rfl ck_X12_drifted_0_16mo rfl rfl rfl)
theorem dX12_drifted_11 : decode cX12_drifted 11 = .ok (.getfield 211, 3) := dk_2 (dk_k180 11) (dk_by (j := 11) rfl ck_X12_drifted_0_16mo rfl rfl rfl) (dk_by (j := 12) rfl ck_X12_drifted_0_16mo rfl rfl rfl) (dk_by (j := 13) rfl ck_X12_drifted_0_16mo rfl rfl rfl) (by decide)
theorem dX12_drifted_14 : decode cX12_drifted 14 = .ok (.if_icmp .ge 45, 3) := dk_s (dk_k162 14) (dk_by (j := 14) rfl ck_X12_drifted_0_16mo rfl rfl rfl) (dk_by (j := 15) rfl ck_X12_drifted_0_16mo rfl rfl rfl) (dk_by (j := 0) rfl ck_X12_drifted_1_16mo rfl rfl rfl) (by decide)
theorem dX12_drifted_200 : decode cX12_drifted 200 = .ok (.lconst 0, 1) := dk_0 (dk_k9 200) (dk_by (j := 8) rfl ck_X12_drifted_12_16mo rfl rfl rfl)
theorem dX12_drifted_203 : decode cX12_drifted 203 = .ok (.iconst 0, 1) := dk_0 (dk_k3 203) (dk_by (j := 11) rfl ck_X12_drifted_12_16mo rfl rfl rfl)
theorem dX12_drifted_208 : decode cX12_drifted 208 = .ok (.bipush 64, 2) := dk_1 (dk_k16 208) (dk_by (j := 0) rfl ck_X12_drifted_13_16mo rfl rfl rfl) (dk_by (j := 1) rfl ck_X12_drifted_13_16mo rfl rfl rfl) (by decide)
theorem dX12_drifted_210 : decode cX12_drifted 210 = .ok (.if_icmp .ge 119, 3) := dk_s (dk_k162 210) (dk_by (j := 2) rfl ck_X12_drifted_13_16mo rfl rfl rfl) (dk_by (j := 3) rfl ck_X12_drifted_13_16mo rfl rfl rfl) (dk_by (j := 4) rfl ck_X12_drifted_13_16mo rfl rfl rfl) (by decide)
theorem dX12_drifted_217 : decode cX12_drifted 217 = .ok (.lconst 1, 1) := dk_0 (dk_k10 217) (dk_by (j := 9) rfl ck_X12_drifted_13_16mo rfl rfl rfl)
theorem dX12_drifted_218 : decode cX12_drifted 218 = .ok (.land, 1) := dk_0 (dk_k127 218) (dk_by (j := 10) rfl ck_X12_drifted_13_16mo rfl rfl rfl)
theorem dX12_drifted_219 : decode cX12_drifted 219 = .ok (.lconst 1, 1) := dk_0 (dk_k10 219) (dk_by (j := 11) rfl ck_X12_drifted_13_16mo rfl rfl rfl)
theorem dX12_drifted_220 : decode cX12_drifted 220 = .ok (.lcmp, 1) := dk_0 (dk_k148 220) (dk_by (j := 12) rfl ck_X12_drifted_13_16mo rfl rfl rfl)
theorem dX12_drifted_221 : decode cX12_drifted 221 = .ok (.ifCond .ne 102, 3) := dk_s (dk_k154 221) (dk_by (j := 13) rfl ck_X12_drifted_13_16mo rfl rfl rfl) (dk_by (j := 14) rfl ck_X12_drifted_13_16mo rfl rfl rfl) (dk_by (j := 15) rfl ck_X12_drifted_13_16mo rfl rfl rfl) (by decide)
theorem dX12_drifted_326 : decode cX12_drifted 326 = .ok (.goto (-120), 3) := dk_s (dk_k167 326) (dk_by (j := 6) rfl ck_X12_drifted_20_16mo rfl rfl rfl) (dk_by (j := 7) rfl ck_X12_drifted_20_16mo rfl rfl rfl) (dk_by (j := 8) rfl ck_X12_drifted_20_16mo rfl rfl rfl) (by decide)
theorem dX12_drifted_226 : decode cX12_drifted 226 = .ok (.bipush 8, 2) := dk_1 (dk_k16 226) (dk_by (j := 2) rfl ck_X12_drifted_14_16mo rfl rfl rfl) (dk_by (j := 3) rfl ck_X12_drifted_14_16mo rfl rfl rfl) (by decide)
theorem dX12_drifted_231 : decode cX12_drifted 231 = .ok (.iadd, 1) := dk_0 (dk_k96 231) (dk_by (j := 7) rfl ck_X12_drifted_14_16mo rfl rfl rfl)
theorem dX12_drifted_238 : decode cX12_drifted 238 = .ok (.bipush 8, 2) := dk_1 (dk_k16 238) (dk_by (j := 14) rfl ck_X12_drifted_14_16mo rfl rfl rfl) (dk_by (j := 15) rfl ck_X12_drifted_14_16mo rfl rfl rfl) (by decide)
theorem dX12_drifted_243 : decode cX12_drifted 243 = .ok (.iadd, 1) := dk_0 (dk_k96 243) (dk_by (j := 3) rfl ck_X12_drifted_15_16mo rfl rfl rfl)
theorem dX12_drifted_244 : decode cX12_drifted 244 = .ok (.if_icmp .gt 79, 3) := dk_s (dk_k163 244) (dk_by (j := 4) rfl ck_X12_drifted_15_16mo rfl rfl rfl) (dk_by (j := 5) rfl ck_X12_drifted_15_16mo rfl rfl rfl) (dk_by (j := 6) rfl ck_X12_drifted_15_16mo rfl rfl rfl) (by decide)
theorem dX12_drifted_249 : decode cX12_drifted 249 = .ok (.bipush 8, 2) := dk_1 (dk_k16 249) (dk_by (j := 9) rfl ck_X12_drifted_15_16mo rfl rfl rfl) (dk_by (j := 10) rfl ck_X12_drifted_15_16mo rfl rfl rfl) (by decide)
theorem dX12_drifted_254 : decode cX12_drifted 254 = .ok (.iadd, 1) := dk_0 (dk_k96 254) (dk_by (j := 14) rfl ck_X12_drifted_15_16mo rfl rfl rfl)
theorem dX12_drifted_261 : decode cX12_drifted 261 = .ok (.bipush 8, 2) := dk_1 (dk_k16 261) (dk_by (j := 5) rfl ck_X12_drifted_16_16mo rfl rfl rfl) (dk_by (j := 6) rfl ck_X12_drifted_16_16mo rfl rfl rfl) (by decide)
theorem dX12_drifted_266 : decode cX12_drifted 266 = .ok (.iadd, 1) := dk_0 (dk_k96 266) (dk_by (j := 10) rfl ck_X12_drifted_16_16mo rfl rfl rfl)
theorem dX12_drifted_267 : decode cX12_drifted 267 = .ok (.if_icmp .gt 50, 3) := dk_s (dk_k163 267) (dk_by (j := 11) rfl ck_X12_drifted_16_16mo rfl rfl rfl) (dk_by (j := 12) rfl ck_X12_drifted_16_16mo rfl rfl rfl) (dk_by (j := 13) rfl ck_X12_drifted_16_16mo rfl rfl rfl) (by decide)
theorem dX12_drifted_320 : decode cX12_drifted 320 = .ok (.goto (-86), 3) := dk_s (dk_k167 320) (dk_by (j := 0) rfl ck_X12_drifted_20_16mo rfl rfl rfl) (dk_by (j := 1) rfl ck_X12_drifted_20_16mo rfl rfl rfl) (dk_by (j := 2) rfl ck_X12_drifted_20_16mo rfl rfl rfl) (by decide)
theorem dX12_drifted_274 : decode cX12_drifted 274 = .ok (.iconst 0, 1) := dk_0 (dk_k3 274) (dk_by (j := 2) rfl ck_X12_drifted_17_16mo rfl rfl rfl)
theorem dX12_drifted_275 : decode cX12_drifted 275 = .ok (.bipush 7, 2) := dk_1 (dk_k16 275) (dk_by (j := 3) rfl ck_X12_drifted_17_16mo rfl rfl rfl) (dk_by (j := 4) rfl ck_X12_drifted_17_16mo rfl rfl rfl) (by decide)
theorem gX12_drifted_X12_within : GoodIn wsX12_drifted (va_wsS RX12 186 yX12_within wsX12_within) := ru_gG (ru_gS tw_6_122 tw_6_123 tw_1_12 mT_X12_within)
theorem dX12_drifted_277 : decode cX12_drifted 277 = .ok (.invokestatic 186, 3) := dk_2 (dk_k184 277) (dk_by (j := 5) rfl ck_X12_drifted_17_16mo rfl rfl rfl) (dk_by (j := 6) rfl ck_X12_drifted_17_16mo rfl rfl rfl) (dk_by (j := 7) rfl ck_X12_drifted_17_16mo rfl rfl rfl) (by decide)
theorem dX12_drifted_280 : decode cX12_drifted 280 = .ok (.ifCond .eq 27, 3) := dk_s (dk_k153 280) (dk_by (j := 8) rfl ck_X12_drifted_17_16mo rfl rfl rfl) (dk_by (j := 9) rfl ck_X12_drifted_17_16mo rfl rfl rfl) (dk_by (j := 10) rfl ck_X12_drifted_17_16mo rfl rfl rfl) (by decide)
theorem dX12_drifted_285 : decode cX12_drifted 285 = .ok (.iconst 0, 1) := dk_0 (dk_k3 285) (dk_by (j := 13) rfl ck_X12_drifted_17_16mo rfl rfl rfl)
theorem dX12_drifted_286 : decode cX12_drifted 286 = .ok (.bipush 7, 2) := dk_1 (dk_k16 286) (dk_by (j := 14) rfl ck_X12_drifted_17_16mo rfl rfl rfl) (dk_by (j := 15) rfl ck_X12_drifted_17_16mo rfl rfl rfl) (by decide)
theorem dX12_drifted_288 : decode cX12_drifted 288 = .ok (.invokestatic 186, 3) := dk_2 (dk_k184 288) (dk_by (j := 0) rfl ck_X12_drifted_18_16mo rfl rfl rfl) (dk_by (j := 1) rfl ck_X12_drifted_18_16mo rfl rfl rfl) (dk_by (j := 2) rfl ck_X12_drifted_18_16mo rfl rfl rfl) (by decide)
theorem dX12_drifted_291 : decode cX12_drifted 291 = .ok (.ifCond .eq 16, 3) := dk_s (dk_k153 291) (dk_by (j := 3) rfl ck_X12_drifted_18_16mo rfl rfl rfl) (dk_by (j := 4) rfl ck_X12_drifted_18_16mo rfl rfl rfl) (dk_by (j := 5) rfl ck_X12_drifted_18_16mo rfl rfl rfl) (by decide)
theorem dX12_drifted_294 : decode cX12_drifted 294 = .ok (.lconst 1, 1) := dk_0 (dk_k10 294) (dk_by (j := 6) rfl ck_X12_drifted_18_16mo rfl rfl rfl)
theorem dX12_drifted_295 : decode cX12_drifted 295 = .ok (.bipush 8, 2) := dk_1 (dk_k16 295) (dk_by (j := 7) rfl ck_X12_drifted_18_16mo rfl rfl rfl) (dk_by (j := 8) rfl ck_X12_drifted_18_16mo rfl rfl rfl) (by decide)
theorem dX12_drifted_302 : decode cX12_drifted 302 = .ok (.iadd, 1) := dk_0 (dk_k96 302) (dk_by (j := 14) rfl ck_X12_drifted_18_16mo rfl rfl rfl)
theorem dX12_drifted_303 : decode cX12_drifted 303 = .ok (.lshl, 1) := dk_0 (dk_k121 303) (dk_by (j := 15) rfl ck_X12_drifted_18_16mo rfl rfl rfl)
theorem dX12_drifted_304 : decode cX12_drifted 304 = .ok (.goto 4, 3) := dk_s (dk_k167 304) (dk_by (j := 0) rfl ck_X12_drifted_19_16mo rfl rfl rfl) (dk_by (j := 1) rfl ck_X12_drifted_19_16mo rfl rfl rfl) (dk_by (j := 2) rfl ck_X12_drifted_19_16mo rfl rfl rfl) (by decide)
theorem dX12_drifted_308 : decode cX12_drifted 308 = .ok (.lor, 1) := dk_0 (dk_k129 308) (dk_by (j := 4) rfl ck_X12_drifted_19_16mo rfl rfl rfl)
theorem dX12_drifted_314 : decode cX12_drifted 314 = .ok (.goto (-57), 3) := dk_s (dk_k167 314) (dk_by (j := 10) rfl ck_X12_drifted_19_16mo rfl rfl rfl) (dk_by (j := 11) rfl ck_X12_drifted_19_16mo rfl rfl rfl) (dk_by (j := 12) rfl ck_X12_drifted_19_16mo rfl rfl rfl) (by decide)
theorem dX12_drifted_307 : decode cX12_drifted 307 = .ok (.lconst 0, 1) := dk_0 (dk_k9 307) (dk_by (j := 3) rfl ck_X12_drifted_19_16mo rfl rfl rfl)
theorem dX12_drifted_181 : decode cX12_drifted 181 = .ok (.ifCond .eq 7, 3) := dk_s (dk_k153 181) (dk_by (j := 5) rfl ck_X12_drifted_11_16mo rfl rfl rfl) (dk_by (j := 6) rfl ck_X12_drifted_11_16mo rfl rfl rfl) (dk_by (j := 7) rfl ck_X12_drifted_11_16mo rfl rfl rfl) (by decide)
theorem dX12_drifted_190 : decode cX12_drifted 190 = .ok (.bipush 10, 2) := dk_1 (dk_k16 190) (dk_by (j := 14) rfl ck_X12_drifted_11_16mo rfl rfl rfl) (dk_by (j := 15) rfl ck_X12_drifted_11_16mo rfl rfl rfl) (by decide)
theorem dX12_drifted_193 : decode cX12_drifted 193 = .ok (.iconst 2, 1) := dk_0 (dk_k5 193) (dk_by (j := 1) rfl ck_X12_drifted_12_16mo rfl rfl rfl)
theorem dX12_drifted_194 : decode cX12_drifted 194 = .ok (.isub, 1) := dk_0 (dk_k100 194) (dk_by (j := 2) rfl ck_X12_drifted_12_16mo rfl rfl rfl)
theorem dX12_drifted_197 : decode cX12_drifted 197 = .ok (.iadd, 1) := dk_0 (dk_k96 197) (dk_by (j := 5) rfl ck_X12_drifted_12_16mo rfl rfl rfl)
theorem dX12_drifted_184 : decode cX12_drifted 184 = .ok (.iconst 0, 1) := dk_0 (dk_k3 184) (dk_by (j := 8) rfl ck_X12_drifted_11_16mo rfl rfl rfl)
theorem dX12_drifted_185 : decode cX12_drifted 185 = .ok (.goto 13, 3) := dk_s (dk_k167 185) (dk_by (j := 9) rfl ck_X12_drifted_11_16mo rfl rfl rfl) (dk_by (j := 10) rfl ck_X12_drifted_11_16mo rfl rfl rfl) (dk_by (j := 11) rfl ck_X12_drifted_11_16mo rfl rfl rfl) (by decide)
theorem dX12_drifted_157 : decode cX12_drifted 157 = .ok (.ifCond .eq 7, 3) := dk_s (dk_k153 157) (dk_by (j := 13) rfl ck_X12_drifted_9_16mo rfl rfl rfl) (dk_by (j := 14) rfl ck_X12_drifted_9_16mo rfl rfl rfl) (dk_by (j := 15) rfl ck_X12_drifted_9_16mo rfl rfl rfl) (by decide)
theorem dX12_drifted_166 : decode cX12_drifted 166 = .ok (.bipush 10, 2) := dk_1 (dk_k16 166) (dk_by (j := 6) rfl ck_X12_drifted_10_16mo rfl rfl rfl) (dk_by (j := 7) rfl ck_X12_drifted_10_16mo rfl rfl rfl) (by decide)
theorem dX12_drifted_169 : decode cX12_drifted 169 = .ok (.bipush 10, 2) := dk_1 (dk_k16 169) (dk_by (j := 9) rfl ck_X12_drifted_10_16mo rfl rfl rfl) (dk_by (j := 10) rfl ck_X12_drifted_10_16mo rfl rfl rfl) (by decide)
theorem dX12_drifted_172 : decode cX12_drifted 172 = .ok (.iconst 2, 1) := dk_0 (dk_k5 172) (dk_by (j := 12) rfl ck_X12_drifted_10_16mo rfl rfl rfl)
theorem dX12_drifted_173 : decode cX12_drifted 173 = .ok (.isub, 1) := dk_0 (dk_k100 173) (dk_by (j := 13) rfl ck_X12_drifted_10_16mo rfl rfl rfl)
theorem dX12_drifted_176 : decode cX12_drifted 176 = .ok (.isub, 1) := dk_0 (dk_k100 176) (dk_by (j := 0) rfl ck_X12_drifted_11_16mo rfl rfl rfl)
theorem dX12_drifted_160 : decode cX12_drifted 160 = .ok (.iconst 0, 1) := dk_0 (dk_k3 160) (dk_by (j := 0) rfl ck_X12_drifted_10_16mo rfl rfl rfl)
theorem dX12_drifted_161 : decode cX12_drifted 161 = .ok (.goto 16, 3) := dk_s (dk_k167 161) (dk_by (j := 1) rfl ck_X12_drifted_10_16mo rfl rfl rfl) (dk_by (j := 2) rfl ck_X12_drifted_10_16mo rfl rfl rfl) (dk_by (j := 3) rfl ck_X12_drifted_10_16mo rfl rfl rfl) (by decide)
theorem dX12_drifted_133 : decode cX12_drifted 133 = .ok (.ifCond .eq 7, 3) := dk_s (dk_k153 133) (dk_by (j := 5) rfl ck_X12_drifted_8_16mo rfl rfl rfl) (dk_by (j := 6) rfl ck_X12_drifted_8_16mo rfl rfl rfl) (dk_by (j := 7) rfl ck_X12_drifted_8_16mo rfl rfl rfl) (by decide)
theorem dX12_drifted_142 : decode cX12_drifted 142 = .ok (.bipush 100, 2) := dk_1 (dk_k16 142) (dk_by (j := 14) rfl ck_X12_drifted_8_16mo rfl rfl rfl) (dk_by (j := 15) rfl ck_X12_drifted_8_16mo rfl rfl rfl) (by decide)
theorem dX12_drifted_145 : decode cX12_drifted 145 = .ok (.bipush 10, 2) := dk_1 (dk_k16 145) (dk_by (j := 1) rfl ck_X12_drifted_9_16mo rfl rfl rfl) (dk_by (j := 2) rfl ck_X12_drifted_9_16mo rfl rfl rfl) (by decide)
theorem dX12_drifted_148 : decode cX12_drifted 148 = .ok (.iconst 2, 1) := dk_0 (dk_k5 148) (dk_by (j := 4) rfl ck_X12_drifted_9_16mo rfl rfl rfl)
theorem dX12_drifted_149 : decode cX12_drifted 149 = .ok (.isub, 1) := dk_0 (dk_k100 149) (dk_by (j := 5) rfl ck_X12_drifted_9_16mo rfl rfl rfl)
theorem dX12_drifted_152 : decode cX12_drifted 152 = .ok (.iadd, 1) := dk_0 (dk_k96 152) (dk_by (j := 8) rfl ck_X12_drifted_9_16mo rfl rfl rfl)
theorem dX12_drifted_136 : decode cX12_drifted 136 = .ok (.iconst 0, 1) := dk_0 (dk_k3 136) (dk_by (j := 8) rfl ck_X12_drifted_8_16mo rfl rfl rfl)
theorem dX12_drifted_137 : decode cX12_drifted 137 = .ok (.goto 16, 3) := dk_s (dk_k167 137) (dk_by (j := 9) rfl ck_X12_drifted_8_16mo rfl rfl rfl) (dk_by (j := 10) rfl ck_X12_drifted_8_16mo rfl rfl rfl) (dk_by (j := 11) rfl ck_X12_drifted_8_16mo rfl rfl rfl) (by decide)
theorem dX12_drifted_111 : decode cX12_drifted 111 = .ok (.ifCond .eq 7, 3) := dk_s (dk_k153 111) (dk_by (j := 15) rfl ck_X12_drifted_6_16mo rfl rfl rfl) (dk_by (j := 0) rfl ck_X12_drifted_7_16mo rfl rfl rfl) (dk_by (j := 1) rfl ck_X12_drifted_7_16mo rfl rfl rfl) (by decide)
theorem dX12_drifted_120 : decode cX12_drifted 120 = .ok (.sipush 1000, 3) := dk_s (dk_k17 120) (dk_by (j := 8) rfl ck_X12_drifted_7_16mo rfl rfl rfl) (dk_by (j := 9) rfl ck_X12_drifted_7_16mo rfl rfl rfl) (dk_by (j := 10) rfl ck_X12_drifted_7_16mo rfl rfl rfl) (by decide)
theorem dX12_drifted_124 : decode cX12_drifted 124 = .ok (.iconst 2, 1) := dk_0 (dk_k5 124) (dk_by (j := 12) rfl ck_X12_drifted_7_16mo rfl rfl rfl)
theorem dX12_drifted_125 : decode cX12_drifted 125 = .ok (.isub, 1) := dk_0 (dk_k100 125) (dk_by (j := 13) rfl ck_X12_drifted_7_16mo rfl rfl rfl)
theorem dX12_drifted_128 : decode cX12_drifted 128 = .ok (.isub, 1) := dk_0 (dk_k100 128) (dk_by (j := 0) rfl ck_X12_drifted_8_16mo rfl rfl rfl)
theorem dX12_drifted_114 : decode cX12_drifted 114 = .ok (.iconst 0, 1) := dk_0 (dk_k3 114) (dk_by (j := 2) rfl ck_X12_drifted_7_16mo rfl rfl rfl)
theorem dX12_drifted_115 : decode cX12_drifted 115 = .ok (.goto 14, 3) := dk_s (dk_k167 115) (dk_by (j := 3) rfl ck_X12_drifted_7_16mo rfl rfl rfl) (dk_by (j := 4) rfl ck_X12_drifted_7_16mo rfl rfl rfl) (dk_by (j := 5) rfl ck_X12_drifted_7_16mo rfl rfl rfl) (by decide)
theorem dX12_drifted_92 : decode cX12_drifted 92 = .ok (.aload_n 0, 1) := dk_0 (dk_k42 92) (dk_by (j := 12) rfl ck_X12_drifted_5_16mo rfl rfl rfl)
theorem dX12_drifted_93 : decode cX12_drifted 93 = .ok (.getfield 28, 3) := dk_2 (dk_k180 93) (dk_by (j := 13) rfl ck_X12_drifted_5_16mo rfl rfl rfl) (dk_by (j := 14) rfl ck_X12_drifted_5_16mo rfl rfl rfl) (dk_by (j := 15) rfl ck_X12_drifted_5_16mo rfl rfl rfl) (by decide)
theorem dX12_drifted_96 : decode cX12_drifted 96 = .ok (.iload_n 1, 1) := dk_0 (dk_k27 96) (dk_by (j := 0) rfl ck_X12_drifted_6_16mo rfl rfl rfl)
theorem dX12_drifted_97 : decode cX12_drifted 97 = .ok (.iaload, 1) := dk_0 (dk_k46 97) (dk_by (j := 1) rfl ck_X12_drifted_6_16mo rfl rfl rfl)
theorem dX12_drifted_98 : decode cX12_drifted 98 = .ok (.iconst 2, 1) := dk_0 (dk_k5 98) (dk_by (j := 2) rfl ck_X12_drifted_6_16mo rfl rfl rfl)
theorem dX12_drifted_99 : decode cX12_drifted 99 = .ok (.if_icmp .ne 7, 3) := dk_s (dk_k160 99) (dk_by (j := 3) rfl ck_X12_drifted_6_16mo rfl rfl rfl) (dk_by (j := 4) rfl ck_X12_drifted_6_16mo rfl rfl rfl) (dk_by (j := 5) rfl ck_X12_drifted_6_16mo rfl rfl rfl) (by decide)
theorem dX12_drifted_106 : decode cX12_drifted 106 = .ok (.iconst 0, 1) := dk_0 (dk_k3 106) (dk_by (j := 10) rfl ck_X12_drifted_6_16mo rfl rfl rfl)
theorem dX12_drifted_102 : decode cX12_drifted 102 = .ok (.iconst 1, 1) := dk_0 (dk_k4 102) (dk_by (j := 6) rfl ck_X12_drifted_6_16mo rfl rfl rfl)
theorem dX12_drifted_103 : decode cX12_drifted 103 = .ok (.goto 4, 3) := dk_s (dk_k167 103) (dk_by (j := 7) rfl ck_X12_drifted_6_16mo rfl rfl rfl) (dk_by (j := 8) rfl ck_X12_drifted_6_16mo rfl rfl rfl) (dk_by (j := 9) rfl ck_X12_drifted_6_16mo rfl rfl rfl) (by decide)
theorem dX12_drifted_59 : decode cX12_drifted 59 = .ok (.aload_n 0, 1) := dk_0 (dk_k42 59) (dk_by (j := 11) rfl ck_X12_drifted_3_16mo rfl rfl rfl)
theorem dX12_drifted_60 : decode cX12_drifted 60 = .ok (.getfield 28, 3) := dk_2 (dk_k180 60) (dk_by (j := 12) rfl ck_X12_drifted_3_16mo rfl rfl rfl) (dk_by (j := 13) rfl ck_X12_drifted_3_16mo rfl rfl rfl) (dk_by (j := 14) rfl ck_X12_drifted_3_16mo rfl rfl rfl) (by decide)
theorem dX12_drifted_63 : decode cX12_drifted 63 = .ok (.iload_n 1, 1) := dk_0 (dk_k27 63) (dk_by (j := 15) rfl ck_X12_drifted_3_16mo rfl rfl rfl)
theorem dX12_drifted_64 : decode cX12_drifted 64 = .ok (.iaload, 1) := dk_0 (dk_k46 64) (dk_by (j := 0) rfl ck_X12_drifted_4_16mo rfl rfl rfl)
theorem dX12_drifted_65 : decode cX12_drifted 65 = .ok (.iconst 3, 1) := dk_0 (dk_k6 65) (dk_by (j := 1) rfl ck_X12_drifted_4_16mo rfl rfl rfl)
theorem dX12_drifted_66 : decode cX12_drifted 66 = .ok (.if_icmp .eq 19, 3) := dk_s (dk_k159 66) (dk_by (j := 2) rfl ck_X12_drifted_4_16mo rfl rfl rfl) (dk_by (j := 3) rfl ck_X12_drifted_4_16mo rfl rfl rfl) (dk_by (j := 4) rfl ck_X12_drifted_4_16mo rfl rfl rfl) (by decide)
theorem dX12_drifted_85 : decode cX12_drifted 85 = .ok (.iconst 1, 1) := dk_0 (dk_k4 85) (dk_by (j := 5) rfl ck_X12_drifted_5_16mo rfl rfl rfl)
theorem dX12_drifted_86 : decode cX12_drifted 86 = .ok (.goto 4, 3) := dk_s (dk_k167 86) (dk_by (j := 6) rfl ck_X12_drifted_5_16mo rfl rfl rfl) (dk_by (j := 7) rfl ck_X12_drifted_5_16mo rfl rfl rfl) (dk_by (j := 8) rfl ck_X12_drifted_5_16mo rfl rfl rfl) (by decide)
theorem dX12_drifted_69 : decode cX12_drifted 69 = .ok (.aload_n 0, 1) := dk_0 (dk_k42 69) (dk_by (j := 5) rfl ck_X12_drifted_4_16mo rfl rfl rfl)
theorem dX12_drifted_70 : decode cX12_drifted 70 = .ok (.getfield 28, 3) := dk_2 (dk_k180 70) (dk_by (j := 6) rfl ck_X12_drifted_4_16mo rfl rfl rfl) (dk_by (j := 7) rfl ck_X12_drifted_4_16mo rfl rfl rfl) (dk_by (j := 8) rfl ck_X12_drifted_4_16mo rfl rfl rfl) (by decide)
theorem dX12_drifted_73 : decode cX12_drifted 73 = .ok (.iload_n 1, 1) := dk_0 (dk_k27 73) (dk_by (j := 9) rfl ck_X12_drifted_4_16mo rfl rfl rfl)
theorem dX12_drifted_74 : decode cX12_drifted 74 = .ok (.iaload, 1) := dk_0 (dk_k46 74) (dk_by (j := 10) rfl ck_X12_drifted_4_16mo rfl rfl rfl)
theorem dX12_drifted_75 : decode cX12_drifted 75 = .ok (.iconst 4, 1) := dk_0 (dk_k7 75) (dk_by (j := 11) rfl ck_X12_drifted_4_16mo rfl rfl rfl)
theorem dX12_drifted_76 : decode cX12_drifted 76 = .ok (.if_icmp .ne 13, 3) := dk_s (dk_k160 76) (dk_by (j := 12) rfl ck_X12_drifted_4_16mo rfl rfl rfl) (dk_by (j := 13) rfl ck_X12_drifted_4_16mo rfl rfl rfl) (dk_by (j := 14) rfl ck_X12_drifted_4_16mo rfl rfl rfl) (by decide)
theorem dX12_drifted_89 : decode cX12_drifted 89 = .ok (.iconst 0, 1) := dk_0 (dk_k3 89) (dk_by (j := 9) rfl ck_X12_drifted_5_16mo rfl rfl rfl)
theorem dX12_drifted_79 : decode cX12_drifted 79 = .ok (.iload_n 2, 1) := dk_0 (dk_k28 79) (dk_by (j := 15) rfl ck_X12_drifted_4_16mo rfl rfl rfl)
theorem dX12_drifted_80 : decode cX12_drifted 80 = .ok (.iconst 4, 1) := dk_0 (dk_k7 80) (dk_by (j := 0) rfl ck_X12_drifted_5_16mo rfl rfl rfl)
theorem dX12_drifted_82 : decode cX12_drifted 82 = .ok (.ifCond .ne 7, 3) := dk_s (dk_k154 82) (dk_by (j := 2) rfl ck_X12_drifted_5_16mo rfl rfl rfl) (dk_by (j := 3) rfl ck_X12_drifted_5_16mo rfl rfl rfl) (dk_by (j := 4) rfl ck_X12_drifted_5_16mo rfl rfl rfl) (by decide)
theorem dX12_drifted_17 : decode cX12_drifted 17 = .ok (.iload_n 2, 1) := dk_0 (dk_k28 17) (dk_by (j := 1) rfl ck_X12_drifted_1_16mo rfl rfl rfl)
theorem dX12_drifted_18 : decode cX12_drifted 18 = .ok (.aload_n 0, 1) := dk_0 (dk_k42 18) (dk_by (j := 2) rfl ck_X12_drifted_1_16mo rfl rfl rfl)
theorem dX12_drifted_19 : decode cX12_drifted 19 = .ok (.getfield 9, 3) := dk_2 (dk_k180 19) (dk_by (j := 3) rfl ck_X12_drifted_1_16mo rfl rfl rfl) (dk_by (j := 4) rfl ck_X12_drifted_1_16mo rfl rfl rfl) (dk_by (j := 5) rfl ck_X12_drifted_1_16mo rfl rfl rfl) (by decide)
theorem dX12_drifted_24 : decode cX12_drifted 24 = .ok (.iaload, 1) := dk_0 (dk_k46 24) (dk_by (j := 8) rfl ck_X12_drifted_1_16mo rfl rfl rfl)
theorem dX12_drifted_25 : decode cX12_drifted 25 = .ok (.if_icmp .lt 24, 3) := dk_s (dk_k161 25) (dk_by (j := 9) rfl ck_X12_drifted_1_16mo rfl rfl rfl) (dk_by (j := 10) rfl ck_X12_drifted_1_16mo rfl rfl rfl) (dk_by (j := 11) rfl ck_X12_drifted_1_16mo rfl rfl rfl) (by decide)
theorem dX12_drifted_56 : decode cX12_drifted 56 = .ok (.goto (-48), 3) := dk_s (dk_k167 56) (dk_by (j := 8) rfl ck_X12_drifted_3_16mo rfl rfl rfl) (dk_by (j := 9) rfl ck_X12_drifted_3_16mo rfl rfl rfl) (dk_by (j := 10) rfl ck_X12_drifted_3_16mo rfl rfl rfl) (by decide)
theorem dX12_drifted_28 : decode cX12_drifted 28 = .ok (.iload_n 2, 1) := dk_0 (dk_k28 28) (dk_by (j := 12) rfl ck_X12_drifted_1_16mo rfl rfl rfl)
theorem dX12_drifted_29 : decode cX12_drifted 29 = .ok (.aload_n 0, 1) := dk_0 (dk_k42 29) (dk_by (j := 13) rfl ck_X12_drifted_1_16mo rfl rfl rfl)
theorem dX12_drifted_30 : decode cX12_drifted 30 = .ok (.getfield 13, 3) := dk_2 (dk_k180 30) (dk_by (j := 14) rfl ck_X12_drifted_1_16mo rfl rfl rfl) (dk_by (j := 15) rfl ck_X12_drifted_1_16mo rfl rfl rfl) (dk_by (j := 0) rfl ck_X12_drifted_2_16mo rfl rfl rfl) (by decide)
theorem dX12_drifted_35 : decode cX12_drifted 35 = .ok (.iaload, 1) := dk_0 (dk_k46 35) (dk_by (j := 3) rfl ck_X12_drifted_2_16mo rfl rfl rfl)
theorem dX12_drifted_36 : decode cX12_drifted 36 = .ok (.if_icmp .ge 13, 3) := dk_s (dk_k162 36) (dk_by (j := 4) rfl ck_X12_drifted_2_16mo rfl rfl rfl) (dk_by (j := 5) rfl ck_X12_drifted_2_16mo rfl rfl rfl) (dk_by (j := 6) rfl ck_X12_drifted_2_16mo rfl rfl rfl) (by decide)
theorem dX12_drifted_39 : decode cX12_drifted 39 = .ok (.aload_n 0, 1) := dk_0 (dk_k42 39) (dk_by (j := 7) rfl ck_X12_drifted_2_16mo rfl rfl rfl)
theorem dX12_drifted_40 : decode cX12_drifted 40 = .ok (.getfield 16, 3) := dk_2 (dk_k180 40) (dk_by (j := 8) rfl ck_X12_drifted_2_16mo rfl rfl rfl) (dk_by (j := 9) rfl ck_X12_drifted_2_16mo rfl rfl rfl) (dk_by (j := 10) rfl ck_X12_drifted_2_16mo rfl rfl rfl) (by decide)
theorem dX12_drifted_45 : decode cX12_drifted 45 = .ok (.iaload, 1) := dk_0 (dk_k46 45) (dk_by (j := 13) rfl ck_X12_drifted_2_16mo rfl rfl rfl)
theorem dX12_drifted_46 : decode cX12_drifted 46 = .ok (.goto 5, 3) := dk_s (dk_k167 46) (dk_by (j := 14) rfl ck_X12_drifted_2_16mo rfl rfl rfl) (dk_by (j := 15) rfl ck_X12_drifted_2_16mo rfl rfl rfl) (dk_by (j := 0) rfl ck_X12_drifted_3_16mo rfl rfl rfl) (by decide)
theorem gX12_patchOf_X12_narrowed : GoodIn wsX12_patchOf (wsV RX12 228 RX12 yX12_narrowed wsX12_narrowed) := ru_gG (ru_gV tw_6_168 tw_6_170 tw_0_33 tw_1_12 mT_X12_narrowed)
theorem gX12_patchOf_X12_drifted : GoodIn wsX12_patchOf (wsV RX12 232 RX12 yX12_drifted wsX12_drifted) := ru_gG (ru_gV tw_6_173 tw_6_175 tw_0_34 tw_1_12 mT_X12_drifted)
theorem gX12_canFly_X12_fogIn : GoodIn wsX12_canFly (wsV RX12 278 RX12 yX12_fogIn wsX12_fogIn) := ru_gG (ru_gV tw_7_3 tw_7_5 tw_0_38 tw_1_12 mT_X12_fogIn)
def rt_cnt (x : Int32) (n : Nat) : Int32 := match n with
  | 0 => 0
  | k + 1 => rt_cnt x k + (rt_sh x (Int32.ofNat k) &&& 1)
theorem rt_cnt_s {x n k j : Int32} (h : n = rt_cnt x k.toNatClampNeg) (hk : 0 ≤ k.toInt) (hj : j.toInt = k.toInt + 1) : n + (rt_sh x k &&& 1) = rt_cnt x j.toNatClampNeg := by
  have e1 : j.toNatClampNeg = k.toNatClampNeg + 1 := by rw [Int32.toNatClampNeg, Int32.toNatClampNeg]; omega
  have e2 : Int32.ofNat k.toNatClampNeg = k := by
    rw [fa_eq, Int32.toInt_ofNat_of_lt]
    · rw [Int32.toNatClampNeg]; omega
    · have := Int32.toInt_lt k; rw [Int32.toNatClampNeg]; omega
  rw [e1, rt_cnt, e2, ← h]
def rt_eat (k n : Int) : Int := if k = 1 then n else if k = 3 then n + 1 else if k = 4 then 2 * n else if k = 5 then 1 else 0
theorem zl_rem (x y : Int64) : (x - x / y * y).toInt = x.toInt.tmod y.toInt := by
  have h := Int64.toInt_mod x y
  have h1 := Int64.toInt_lt (x % y)
  have h2 := Int64.le_toInt (x % y)
  rw [Int64.toInt_sub, Int64.toInt_mul, Int64.toInt_div, Int.bmod_mul_bmod, Int.sub_bmod_bmod, Int.mul_comm, ← Int.tmod_def, ← h, Int.bmod_eq_of_le (by omega) (by omega)]
theorem zl_rem_lt {x y : Int64} (h : ¬ y = 0) : (x - x / y * y).toInt.natAbs < y.toInt.natAbs := by
  have hy : y.toInt ≠ 0 := fun q => h ((fa_eq64 _ _).mpr q)
  rw [zl_rem, Int.natAbs_tmod]
  exact Nat.mod_lt _ (by omega)
theorem zl_inc {a : Int64} (h : 0 ≤ a.toInt ∧ a.toInt < 1000) : (a + 1).toInt = a.toInt + 1 := by
  have e1 : (1 : Int64).toInt = 1 := rfl
  rw [zl_add (by rw [e1]; omega), e1]
set_option maxHeartbeats 400000 in
set_option maxRecDepth 20000 in
theorem fc_X12_within (l : Launch) (p0 p1 p2 : Int32) : Met l yX12_within wsX12_within ({ frames := 0, cells := 0, slots := 0, locals := 0 }) (va_Pc [.int p0, .int p1, .int p2] (fun _ => True)) (vp_Si (fun r : Int32 => ((r = 1 ∧ (p1.toInt ≤ p0.toInt ∧ p0.toInt ≤ p2.toInt)) ∨ (r = 0 ∧ ¬ (p1.toInt ≤ p0.toInt ∧ p0.toInt ≤ p2.toInt))))) 0 0 (fun _ => False) := by
  refine Met.ofW (cc := cX12_within) (maxL := 3) (ret := (some .boolean)) (by decide) rfl ?_
  intro p e s m args below meth c s₁ B hml hv
  obtain ⟨rfl, _⟩ := hv
  have hx := B.exec
  have hb := B.bytes
  have hr := B.returns
  have hts := atoms_spec (ws := wsX12_within) B.pre
  have hown : s.vm.findClass RX12 = some m.cls := findClass_of_methodNamed B.named
  have hl := lv_entry ([.int p0, .int p1, .int p2]) (n := 3) (Nat.le_of_ble_eq_true rfl)
  rw [lg_entry_eq]
  generalize (lg_sl ([.int p0, .int p1, .int p2]) ++ List.replicate (3 - (lg_sl ([.int p0, .int p1, .int p2])).length) Slot.unset).toArray = ls at hl ⊢
  have hl : lv_has ls 3 [(0, .int p0), (1, .int p1), (2, .int p2)] := hl
  refine lv_iload_n hx hb dX12_within_0 rfl (lv_at hl 0 rfl) ?_
  refine lv_iload_n hx hb dX12_within_1 rfl (lv_at hl 1 rfl) ?_
  refine fx_icmp_lt (tgt := 14) hx hb dX12_within_2 (by decide) rfl rfl (fun c1 => ?_) (fun c1 => ?_)
  · refine lv_iconst (v := 0) hx hb dX12_within_14 (by decide) ?_
    exact W.zret (v := 0) hx hb hr rfl (fun t ht hW => ⟨0, rfl, Or.inr ⟨rfl, by omega⟩, ht⟩) (fun _ h => absurd h List.not_mem_nil) dX12_within_15
  · refine lv_iload_n hx hb dX12_within_5 rfl (lv_at hl 0 rfl) ?_
    refine lv_iload_n hx hb dX12_within_6 rfl (lv_at hl 2 rfl) ?_
    refine fx_icmp_gt (tgt := 14) hx hb dX12_within_7 (by decide) rfl rfl (fun c2 => ?_) (fun c2 => ?_)
    · refine lv_iconst (v := 0) hx hb dX12_within_14 (by decide) ?_
      exact W.zret (v := 0) hx hb hr rfl (fun t ht hW => ⟨0, rfl, Or.inr ⟨rfl, by omega⟩, ht⟩) (fun _ h => absurd h List.not_mem_nil) dX12_within_15
    · refine lv_iconst (v := 1) hx hb dX12_within_10 (by decide) ?_
      refine lv_goto (tgt := 15) hx hb dX12_within_11 (by decide) ?_
      exact W.zret (v := 1) hx hb hr rfl (fun t ht hW => ⟨1, rfl, Or.inl ⟨rfl, by omega⟩, ht⟩) (fun _ h => absurd h List.not_mem_nil) dX12_within_15
set_option maxHeartbeats 400000 in
set_option maxRecDepth 20000 in
theorem fc_X12_isHour (l : Launch) (p0 : Int32) : Met l yX12_isHour wsX12_isHour ({ frames := 1, cells := 0, slots := 0, locals := 22 }) (va_Pc [.int p0] (fun _ => True)) (vp_Si (fun r : Int32 => ((r = 1 ∧ (0 ≤ p0.toInt ∧ p0.toInt ≤ 239)) ∨ (r = 0 ∧ ¬ (0 ≤ p0.toInt ∧ p0.toInt ≤ 239))))) 0 0 (fun _ => False) := by
  refine Met.ofW (cc := cX12_isHour) (maxL := 1) (ret := (some .boolean)) (by decide) rfl ?_
  intro p e s m args below meth c s₁ B hml hv
  obtain ⟨rfl, _⟩ := hv
  have hx := B.exec
  have hb := B.bytes
  have hr := B.returns
  have hts := atoms_spec (ws := wsX12_isHour) B.pre
  have hown : s.vm.findClass RX12 = some m.cls := findClass_of_methodNamed B.named
  have hl := lv_entry ([.int p0]) (n := 1) (Nat.le_of_ble_eq_true rfl)
  rw [lg_entry_eq]
  generalize (lg_sl ([.int p0]) ++ List.replicate (1 - (lg_sl ([.int p0])).length) Slot.unset).toArray = ls at hl ⊢
  have hl : lv_has ls 1 [(0, .int p0)] := hl
  refine lv_iload_n hx hb dX12_isHour_0 rfl (lv_at hl 0 rfl) ?_
  refine lv_iconst (v := 0) hx hb dX12_isHour_1 (by decide) ?_
  refine lv_sipush (v := 239) hx hb dX12_isHour_2 (by decide) ?_
  have zz1 := zk_0
  have zz2 := zk_239
  refine vp_callSi (va_Run.run (va_runS (As := [.int p0, .int 0, .int 239]) (rest := []) ⟨hx, hb, hml, hown, hts⟩ (fc_X12_within l p0 0 239) (va_cwS 3 hts gX12_isHour_X12_within rfl rfl rfl (by decide +kernel) ⟨Nat.le_of_ble_eq_true rfl, Nat.le_of_ble_eq_true rfl⟩) ⟨fun a U g mk q => q, fun U hU hW => ⟨rfl, trivial⟩⟩ rfl rfl hl.1 rfl (lv_room (Nat.le_of_ble_eq_true rfl)) dX12_isHour_5 ⟨by decide +kernel, by decide +kernel⟩)) (fun r3 hr3 => ?_)
  rcases hr3 with ⟨rfl, c4⟩ | ⟨rfl, c4⟩
  · exact W.zret (v := 1) hx hb hr rfl (fun t ht hW => ⟨1, rfl, Or.inl ⟨rfl, by omega⟩, ht⟩) (fun _ h => absurd h List.not_mem_nil) dX12_isHour_8
  · exact W.zret (v := 0) hx hb hr rfl (fun t ht hW => ⟨0, rfl, Or.inr ⟨rfl, by omega⟩, ht⟩) (fun _ h => absurd h List.not_mem_nil) dX12_isHour_8
set_option maxHeartbeats 400000 in
set_option maxRecDepth 20000 in
theorem fc_X12_isCell (l : Launch) (p0 : Int32) : Met l yX12_isCell wsX12_isCell ({ frames := 1, cells := 0, slots := 0, locals := 22 }) (va_Pc [.int p0] (fun _ => True)) (vp_Si (fun r : Int32 => ((r = 1 ∧ (0 ≤ p0.toInt ∧ p0.toInt ≤ 63)) ∨ (r = 0 ∧ ¬ (0 ≤ p0.toInt ∧ p0.toInt ≤ 63))))) 0 0 (fun _ => False) := by
  refine Met.ofW (cc := cX12_isCell) (maxL := 1) (ret := (some .boolean)) (by decide) rfl ?_
  intro p e s m args below meth c s₁ B hml hv
  obtain ⟨rfl, _⟩ := hv
  have hx := B.exec
  have hb := B.bytes
  have hr := B.returns
  have hts := atoms_spec (ws := wsX12_isCell) B.pre
  have hown : s.vm.findClass RX12 = some m.cls := findClass_of_methodNamed B.named
  have hl := lv_entry ([.int p0]) (n := 1) (Nat.le_of_ble_eq_true rfl)
  rw [lg_entry_eq]
  generalize (lg_sl ([.int p0]) ++ List.replicate (1 - (lg_sl ([.int p0])).length) Slot.unset).toArray = ls at hl ⊢
  have hl : lv_has ls 1 [(0, .int p0)] := hl
  refine lv_iload_n hx hb dX12_isCell_0 rfl (lv_at hl 0 rfl) ?_
  refine lv_iconst (v := 0) hx hb dX12_isCell_1 (by decide) ?_
  refine lv_bipush (v := 63) hx hb dX12_isCell_2 (by decide) ?_
  have zz1 := zk_0
  have zz2 := zk_63
  refine vp_callSi (va_Run.run (va_runS (As := [.int p0, .int 0, .int 63]) (rest := []) ⟨hx, hb, hml, hown, hts⟩ (fc_X12_within l p0 0 63) (va_cwS 3 hts gX12_isCell_X12_within rfl rfl rfl (by decide +kernel) ⟨Nat.le_of_ble_eq_true rfl, Nat.le_of_ble_eq_true rfl⟩) ⟨fun a U g mk q => q, fun U hU hW => ⟨rfl, trivial⟩⟩ rfl rfl hl.1 rfl (lv_room (Nat.le_of_ble_eq_true rfl)) dX12_isCell_4 ⟨by decide +kernel, by decide +kernel⟩)) (fun r3 hr3 => ?_)
  rcases hr3 with ⟨rfl, c4⟩ | ⟨rfl, c4⟩
  · exact W.zret (v := 1) hx hb hr rfl (fun t ht hW => ⟨1, rfl, Or.inl ⟨rfl, by omega⟩, ht⟩) (fun _ h => absurd h List.not_mem_nil) dX12_isCell_7
  · exact W.zret (v := 0) hx hb hr rfl (fun t ht hW => ⟨0, rfl, Or.inr ⟨rfl, by omega⟩, ht⟩) (fun _ h => absurd h List.not_mem_nil) dX12_isCell_7
set_option maxHeartbeats 400000 in
set_option maxRecDepth 20000 in
theorem fc_X12_isWave (l : Launch) (p0 : Int32) : Met l yX12_isWave wsX12_isWave ({ frames := 1, cells := 0, slots := 0, locals := 22 }) (va_Pc [.int p0] (fun _ => True)) (vp_Si (fun r : Int32 => ((r = 1 ∧ (0 ≤ p0.toInt ∧ p0.toInt ≤ 3)) ∨ (r = 0 ∧ ¬ (0 ≤ p0.toInt ∧ p0.toInt ≤ 3))))) 0 0 (fun _ => False) := by
  refine Met.ofW (cc := cX12_isWave) (maxL := 1) (ret := (some .boolean)) (by decide) rfl ?_
  intro p e s m args below meth c s₁ B hml hv
  obtain ⟨rfl, _⟩ := hv
  have hx := B.exec
  have hb := B.bytes
  have hr := B.returns
  have hts := atoms_spec (ws := wsX12_isWave) B.pre
  have hown : s.vm.findClass RX12 = some m.cls := findClass_of_methodNamed B.named
  have hl := lv_entry ([.int p0]) (n := 1) (Nat.le_of_ble_eq_true rfl)
  rw [lg_entry_eq]
  generalize (lg_sl ([.int p0]) ++ List.replicate (1 - (lg_sl ([.int p0])).length) Slot.unset).toArray = ls at hl ⊢
  have hl : lv_has ls 1 [(0, .int p0)] := hl
  refine lv_iload_n hx hb dX12_isWave_0 rfl (lv_at hl 0 rfl) ?_
  refine lv_iconst (v := 0) hx hb dX12_isWave_1 (by decide) ?_
  refine lv_iconst (v := 3) hx hb dX12_isWave_2 (by decide) ?_
  have zz1 := zk_0
  have zz2 := zk_3
  refine vp_callSi (va_Run.run (va_runS (As := [.int p0, .int 0, .int 3]) (rest := []) ⟨hx, hb, hml, hown, hts⟩ (fc_X12_within l p0 0 3) (va_cwS 3 hts gX12_isWave_X12_within rfl rfl rfl (by decide +kernel) ⟨Nat.le_of_ble_eq_true rfl, Nat.le_of_ble_eq_true rfl⟩) ⟨fun a U g mk q => q, fun U hU hW => ⟨rfl, trivial⟩⟩ rfl rfl hl.1 rfl (lv_room (Nat.le_of_ble_eq_true rfl)) dX12_isWave_3 ⟨by decide +kernel, by decide +kernel⟩)) (fun r3 hr3 => ?_)
  rcases hr3 with ⟨rfl, c4⟩ | ⟨rfl, c4⟩
  · exact W.zret (v := 1) hx hb hr rfl (fun t ht hW => ⟨1, rfl, Or.inl ⟨rfl, by omega⟩, ht⟩) (fun _ h => absurd h List.not_mem_nil) dX12_isWave_6
  · exact W.zret (v := 0) hx hb hr rfl (fun t ht hW => ⟨0, rfl, Or.inr ⟨rfl, by omega⟩, ht⟩) (fun _ h => absurd h List.not_mem_nil) dX12_isWave_6
set_option maxHeartbeats 400000 in
set_option maxRecDepth 20000 in
theorem fc_X12_isSheet (l : Launch) (p0 : Int32) : Met l yX12_isSheet wsX12_isSheet ({ frames := 1, cells := 0, slots := 0, locals := 22 }) (va_Pc [.int p0] (fun _ => True)) (vp_Si (fun r : Int32 => ((r = 1 ∧ (0 ≤ p0.toInt ∧ p0.toInt ≤ 3)) ∨ (r = 0 ∧ ¬ (0 ≤ p0.toInt ∧ p0.toInt ≤ 3))))) 0 0 (fun _ => False) := by
  refine Met.ofW (cc := cX12_isSheet) (maxL := 1) (ret := (some .boolean)) (by decide) rfl ?_
  intro p e s m args below meth c s₁ B hml hv
  obtain ⟨rfl, _⟩ := hv
  have hx := B.exec
  have hb := B.bytes
  have hr := B.returns
  have hts := atoms_spec (ws := wsX12_isSheet) B.pre
  have hown : s.vm.findClass RX12 = some m.cls := findClass_of_methodNamed B.named
  have hl := lv_entry ([.int p0]) (n := 1) (Nat.le_of_ble_eq_true rfl)
  rw [lg_entry_eq]
  generalize (lg_sl ([.int p0]) ++ List.replicate (1 - (lg_sl ([.int p0])).length) Slot.unset).toArray = ls at hl ⊢
  have hl : lv_has ls 1 [(0, .int p0)] := hl
  refine lv_iload_n hx hb dX12_isSheet_0 rfl (lv_at hl 0 rfl) ?_
  refine lv_iconst (v := 0) hx hb dX12_isSheet_1 (by decide) ?_
  refine lv_iconst (v := 3) hx hb dX12_isSheet_2 (by decide) ?_
  have zz1 := zk_0
  have zz2 := zk_3
  refine vp_callSi (va_Run.run (va_runS (As := [.int p0, .int 0, .int 3]) (rest := []) ⟨hx, hb, hml, hown, hts⟩ (fc_X12_within l p0 0 3) (va_cwS 3 hts gX12_isSheet_X12_within rfl rfl rfl (by decide +kernel) ⟨Nat.le_of_ble_eq_true rfl, Nat.le_of_ble_eq_true rfl⟩) ⟨fun a U g mk q => q, fun U hU hW => ⟨rfl, trivial⟩⟩ rfl rfl hl.1 rfl (lv_room (Nat.le_of_ble_eq_true rfl)) dX12_isSheet_3 ⟨by decide +kernel, by decide +kernel⟩)) (fun r3 hr3 => ?_)
  rcases hr3 with ⟨rfl, c4⟩ | ⟨rfl, c4⟩
  · exact W.zret (v := 1) hx hb hr rfl (fun t ht hW => ⟨1, rfl, Or.inl ⟨rfl, by omega⟩, ht⟩) (fun _ h => absurd h List.not_mem_nil) dX12_isSheet_6
  · exact W.zret (v := 0) hx hb hr rfl (fun t ht hW => ⟨0, rfl, Or.inr ⟨rfl, by omega⟩, ht⟩) (fun _ h => absurd h List.not_mem_nil) dX12_isSheet_6
set_option maxHeartbeats 400000 in
set_option maxRecDepth 20000 in
theorem fc_X12_areHours (l : Launch) (p0 p1 : Int32) : Met l yX12_areHours wsX12_areHours ({ frames := 1, cells := 0, slots := 0, locals := 22 }) (va_Pc [.int p0, .int p1] (fun _ => True)) (vp_Si (fun r : Int32 => ((r = 1 ∧ (0 ≤ p0.toInt ∧ p0.toInt < p1.toInt ∧ p1.toInt ≤ 240)) ∨ (r = 0 ∧ ¬ (0 ≤ p0.toInt ∧ p0.toInt < p1.toInt ∧ p1.toInt ≤ 240))))) 0 0 (fun _ => False) := by
  refine Met.ofW (cc := cX12_areHours) (maxL := 2) (ret := (some .boolean)) (by decide) rfl ?_
  intro p e s m args below meth c s₁ B hml hv
  obtain ⟨rfl, _⟩ := hv
  have hx := B.exec
  have hb := B.bytes
  have hr := B.returns
  have hts := atoms_spec (ws := wsX12_areHours) B.pre
  have hown : s.vm.findClass RX12 = some m.cls := findClass_of_methodNamed B.named
  have hl := lv_entry ([.int p0, .int p1]) (n := 2) (Nat.le_of_ble_eq_true rfl)
  rw [lg_entry_eq]
  generalize (lg_sl ([.int p0, .int p1]) ++ List.replicate (2 - (lg_sl ([.int p0, .int p1])).length) Slot.unset).toArray = ls at hl ⊢
  have hl : lv_has ls 2 [(0, .int p0), (1, .int p1)] := hl
  refine lv_iload_n hx hb dX12_areHours_0 rfl (lv_at hl 0 rfl) ?_
  refine lv_iconst (v := 0) hx hb dX12_areHours_1 (by decide) ?_
  refine lv_sipush (v := 240) hx hb dX12_areHours_2 (by decide) ?_
  have zz1 := zk_0
  have zz2 := zk_240
  refine vp_callSi (va_Run.run (va_runS (As := [.int p0, .int 0, .int 240]) (rest := []) ⟨hx, hb, hml, hown, hts⟩ (fc_X12_within l p0 0 240) (va_cwS 3 hts gX12_areHours_X12_within rfl rfl rfl (by decide +kernel) ⟨Nat.le_of_ble_eq_true rfl, Nat.le_of_ble_eq_true rfl⟩) ⟨fun a U g mk q => q, fun U hU hW => ⟨rfl, trivial⟩⟩ rfl rfl hl.1 rfl (lv_room (Nat.le_of_ble_eq_true rfl)) dX12_areHours_5 ⟨by decide +kernel, by decide +kernel⟩)) (fun r3 hr3 => ?_)
  rcases hr3 with ⟨rfl, c4⟩ | ⟨rfl, c4⟩
  · refine fx_if_eq (tgt := 28) hx hb dX12_areHours_8 (by decide) zk_1 (fun c5 => by exfalso; omega) (fun c5 => ?_)
    refine lv_iload_n hx hb dX12_areHours_11 rfl (lv_at hl 1 rfl) ?_
    refine lv_iload_n hx hb dX12_areHours_12 rfl (lv_at hl 0 rfl) ?_
    refine lv_iconst (v := 1) hx hb dX12_areHours_13 (by decide) ?_
    refine fx_iadd hx hb dX12_areHours_14 rfl zk_1 (by omega) (fun y6 ey6 ty6 => ?_)
    refine lv_sipush (v := 240) hx hb dX12_areHours_15 (by decide) ?_
    have zz7 := zk_240
    refine vp_callSi (va_Run.run (va_runS (As := [.int p1, .int y6, .int 240]) (rest := []) ⟨hx, hb, hml, hown, hts⟩ (fc_X12_within l p1 y6 240) (va_cwS 3 hts gX12_areHours_X12_within rfl rfl rfl (by decide +kernel) ⟨Nat.le_of_ble_eq_true rfl, Nat.le_of_ble_eq_true rfl⟩) ⟨fun a U g mk q => q, fun U hU hW => ⟨rfl, trivial⟩⟩ rfl rfl hl.1 rfl (lv_room (Nat.le_of_ble_eq_true rfl)) dX12_areHours_18 ⟨by decide +kernel, by decide +kernel⟩)) (fun r8 hr8 => ?_)
    rcases hr8 with ⟨rfl, c9⟩ | ⟨rfl, c9⟩
    · refine fx_if_eq (tgt := 28) hx hb dX12_areHours_21 (by decide) zk_1 (fun c10 => by exfalso; omega) (fun c10 => ?_)
      refine lv_iconst (v := 1) hx hb dX12_areHours_24 (by decide) ?_
      refine lv_goto (tgt := 29) hx hb dX12_areHours_25 (by decide) ?_
      exact W.zret (v := 1) hx hb hr rfl (fun t ht hW => ⟨1, rfl, Or.inl ⟨rfl, by omega⟩, ht⟩) (fun _ h => absurd h List.not_mem_nil) dX12_areHours_29
    · refine fx_if_eq (tgt := 28) hx hb dX12_areHours_21 (by decide) zk_0 (fun c11 => ?_) (fun c11 => by exfalso; omega)
      refine lv_iconst (v := 0) hx hb dX12_areHours_28 (by decide) ?_
      exact W.zret (v := 0) hx hb hr rfl (fun t ht hW => ⟨0, rfl, Or.inr ⟨rfl, by omega⟩, ht⟩) (fun _ h => absurd h List.not_mem_nil) dX12_areHours_29
  · refine fx_if_eq (tgt := 28) hx hb dX12_areHours_8 (by decide) zk_0 (fun c12 => ?_) (fun c12 => by exfalso; omega)
    refine lv_iconst (v := 0) hx hb dX12_areHours_28 (by decide) ?_
    exact W.zret (v := 0) hx hb hr rfl (fun t ht hW => ⟨0, rfl, Or.inr ⟨rfl, by omega⟩, ht⟩) (fun _ h => absurd h List.not_mem_nil) dX12_areHours_29
set_option maxHeartbeats 400000 in
set_option maxRecDepth 20000 in
theorem fc_X12_size (l : Launch) (p0 : Int32) (b_p0 : (-70) ≤ p0.toInt ∧ p0.toInt ≤ 70) : Met l yX12_size wsX12_size ({ frames := 0, cells := 0, slots := 0, locals := 0 }) (va_Pc [.int p0] (fun _ => True)) (vp_Si (fun r : Int32 => (0 ≤ r.toInt ∧ r.toInt ≤ 70) ∧ (r.toInt = if p0.toInt < 0 then -p0.toInt else p0.toInt))) 0 0 (fun _ => False) := by
  refine Met.ofW (cc := cX12_size) (maxL := 1) (ret := (some .int)) (by decide) rfl ?_
  intro p e s m args below meth c s₁ B hml hv
  obtain ⟨rfl, _⟩ := hv
  have hx := B.exec
  have hb := B.bytes
  have hr := B.returns
  have hts := atoms_spec (ws := wsX12_size) B.pre
  have hown : s.vm.findClass RX12 = some m.cls := findClass_of_methodNamed B.named
  have hl := lv_entry ([.int p0]) (n := 1) (Nat.le_of_ble_eq_true rfl)
  rw [lg_entry_eq]
  generalize (lg_sl ([.int p0]) ++ List.replicate (1 - (lg_sl ([.int p0])).length) Slot.unset).toArray = ls at hl ⊢
  have hl : lv_has ls 1 [(0, .int p0)] := hl
  refine lv_iload_n hx hb dX12_size_0 rfl (lv_at hl 0 rfl) ?_
  refine fx_if_ge (tgt := 9) hx hb dX12_size_1 (by decide) rfl (fun c1 => ?_) (fun c1 => ?_)
  · refine lv_iload_n hx hb dX12_size_9 rfl (lv_at hl 0 rfl) ?_
    exact W.iret (v := p0) hx hb hr (fun t ht hW => ⟨p0, rfl, ⟨(by omega), (by omega)⟩, ht⟩) (fun _ h => absurd h List.not_mem_nil) dX12_size_10
  · refine lv_iload_n hx hb dX12_size_4 rfl (lv_at hl 0 rfl) ?_
    refine fx_ineg hx hb dX12_size_5 rfl (by omega) (fun y2 ey2 ty2 => ?_)
    refine lv_goto (tgt := 10) hx hb dX12_size_6 (by decide) ?_
    exact W.iret (v := y2) hx hb hr (fun t ht hW => ⟨y2, rfl, ⟨(by omega), (by omega)⟩, ht⟩) (fun _ h => absurd h List.not_mem_nil) dX12_size_10
set_option maxHeartbeats 400000 in
set_option maxRecDepth 20000 in
theorem fc_X12_apart (l : Launch) (p0 p1 : Int32) (b_p0 : 0 ≤ p0.toInt ∧ p0.toInt ≤ 63) (b_p1 : 0 ≤ p1.toInt ∧ p1.toInt ≤ 63) : Met l yX12_apart wsX12_apart ({ frames := 1, cells := 0, slots := 0, locals := 20 }) (va_Pc [.int p0, .int p1] (fun _ => True)) (vp_Si (fun r : Int32 => (0 ≤ r.toInt ∧ r.toInt ≤ 7))) 0 0 (fun _ => False) := by
  refine Met.ofW (cc := cX12_apart) (maxL := 4) (ret := (some .int)) (by decide) rfl ?_
  intro p e s m args below meth c s₁ B hml hv
  obtain ⟨rfl, _⟩ := hv
  have hx := B.exec
  have hb := B.bytes
  have hr := B.returns
  have hts := atoms_spec (ws := wsX12_apart) B.pre
  have hown : s.vm.findClass RX12 = some m.cls := findClass_of_methodNamed B.named
  have hl := lv_entry ([.int p0, .int p1]) (n := 4) (Nat.le_of_ble_eq_true rfl)
  rw [lg_entry_eq]
  generalize (lg_sl ([.int p0, .int p1]) ++ List.replicate (4 - (lg_sl ([.int p0, .int p1])).length) Slot.unset).toArray = ls at hl ⊢
  have hl : lv_has ls 4 [(0, .int p0), (1, .int p1)] := hl
  refine lv_iload_n hx hb dX12_apart_0 rfl (lv_at hl 0 rfl) ?_
  refine lv_bipush (v := 8) hx hb dX12_apart_1 (by decide) ?_
  refine fx_irem hx hb dX12_apart_3 rfl zk_8 (by omega) (by omega) (fun y1 ey1 ty1 => ?_)
  refine lv_iload_n hx hb dX12_apart_4 rfl (lv_at hl 1 rfl) ?_
  refine lv_bipush (v := 8) hx hb dX12_apart_5 (by decide) ?_
  refine fx_irem hx hb dX12_apart_7 rfl zk_8 (by omega) (by omega) (fun y2 ey2 ty2 => ?_)
  refine fx_isub hx hb dX12_apart_8 rfl rfl (by omega) (fun y3 ey3 ty3 => ?_)
  refine vp_callSi (va_Run.run (va_runS (As := [.int y3]) (rest := []) ⟨hx, hb, hml, hown, hts⟩ (fc_X12_size l y3 (by omega)) (va_cwS 1 hts gX12_apart_X12_size rfl rfl rfl (by decide +kernel) ⟨Nat.le_of_ble_eq_true rfl, Nat.le_of_ble_eq_true rfl⟩) ⟨fun a U g mk q => q, fun U hU hW => ⟨rfl, trivial⟩⟩ rfl rfl hl.1 rfl (lv_room (Nat.le_of_ble_eq_true rfl)) dX12_apart_9 ⟨by decide +kernel, by decide +kernel⟩)) (fun r4 hr4 => ?_)
  refine lv_istore_n (lv' := [(2, .int r4), (0, .int p0), (1, .int p1)]) hx hb dX12_apart_12 rfl hl (by decide) rfl (fun ls hl => ?_)
  refine lv_iload_n hx hb dX12_apart_13 rfl (lv_at hl 1 rfl) ?_
  refine lv_bipush (v := 8) hx hb dX12_apart_14 (by decide) ?_
  refine fx_idiv hx hb dX12_apart_16 rfl zk_8 (by omega) (by omega) (fun y5 ey5 ty5 => ?_)
  refine lv_iload_n hx hb dX12_apart_17 rfl (lv_at hl 2 rfl) ?_
  refine lv_bipush (v := 8) hx hb dX12_apart_18 (by decide) ?_
  refine fx_idiv hx hb dX12_apart_20 rfl zk_8 (by omega) (by omega) (fun y6 ey6 ty6 => ?_)
  refine fx_isub hx hb dX12_apart_21 rfl rfl (by omega) (fun y7 ey7 ty7 => ?_)
  refine vp_callSi (va_Run.run (va_runS (As := [.int y7]) (rest := []) ⟨hx, hb, hml, hown, hts⟩ (fc_X12_size l y7 (by omega)) (va_cwS 1 hts gX12_apart_X12_size rfl rfl rfl (by decide +kernel) ⟨Nat.le_of_ble_eq_true rfl, Nat.le_of_ble_eq_true rfl⟩) ⟨fun a U g mk q => q, fun U hU hW => ⟨rfl, trivial⟩⟩ rfl rfl hl.1 rfl (lv_room (Nat.le_of_ble_eq_true rfl)) dX12_apart_22 ⟨by decide +kernel, by decide +kernel⟩)) (fun r8 hr8 => ?_)
  refine lv_istore_n (lv' := [(3, .int r8), (2, .int r4), (0, .int p0), (1, .int p1)]) hx hb dX12_apart_25 rfl hl (by decide) rfl (fun ls hl => ?_)
  refine lv_iload_n hx hb dX12_apart_26 rfl (lv_at hl 1 rfl) ?_
  refine lv_iload_n hx hb dX12_apart_27 rfl (lv_at hl 0 rfl) ?_
  refine fx_icmp_le (tgt := 35) hx hb dX12_apart_28 (by decide) rfl rfl (fun c9 => ?_) (fun c9 => ?_)
  · refine lv_iload_n hx hb dX12_apart_35 rfl (lv_at hl 0 rfl) ?_
    exact W.iret (v := r8) hx hb hr (fun t ht hW => ⟨r8, rfl, (by omega), ht⟩) (fun _ h => absurd h List.not_mem_nil) dX12_apart_36
  · refine lv_iload_n hx hb dX12_apart_31 rfl (lv_at hl 1 rfl) ?_
    refine lv_goto (tgt := 36) hx hb dX12_apart_32 (by decide) ?_
    exact W.iret (v := r4) hx hb hr (fun t ht hW => ⟨r4, rfl, (by omega), ht⟩) (fun _ h => absurd h List.not_mem_nil) dX12_apart_36
set_option maxHeartbeats 400000 in
set_option maxRecDepth 20000 in
theorem fc_X12_above (l : Launch) (p0 : Int32) : Met l yX12_above wsX12_above ({ frames := 0, cells := 0, slots := 0, locals := 0 }) (va_Pc [.int p0] (fun _ => True)) (vp_Si (fun r : Int32 => (((p0.toInt = 3 ∨ p0.toInt = 4) ∧ r.toInt = 1) ∨ (p0.toInt = 5 ∧ r.toInt = 2) ∨ (¬ (p0.toInt = 3 ∨ p0.toInt = 4 ∨ p0.toInt = 5) ∧ r.toInt = 0)))) 0 0 (fun _ => False) := by
  refine Met.ofW (cc := cX12_above) (maxL := 1) (ret := (some .int)) (by decide) rfl ?_
  intro p e s m args below meth c s₁ B hml hv
  obtain ⟨rfl, _⟩ := hv
  have hx := B.exec
  have hb := B.bytes
  have hr := B.returns
  have hts := atoms_spec (ws := wsX12_above) B.pre
  have hown : s.vm.findClass RX12 = some m.cls := findClass_of_methodNamed B.named
  have hl := lv_entry ([.int p0]) (n := 1) (Nat.le_of_ble_eq_true rfl)
  rw [lg_entry_eq]
  generalize (lg_sl ([.int p0]) ++ List.replicate (1 - (lg_sl ([.int p0])).length) Slot.unset).toArray = ls at hl ⊢
  have hl : lv_has ls 1 [(0, .int p0)] := hl
  refine lv_iload_n hx hb dX12_above_0 rfl (lv_at hl 0 rfl) ?_
  refine lv_iconst (v := 3) hx hb dX12_above_1 (by decide) ?_
  refine fx_icmp_eq (tgt := 10) hx hb dX12_above_2 (by decide) rfl zk_3 (fun c1 => ?_) (fun c1 => ?_)
  · refine lv_iconst (v := 1) hx hb dX12_above_10 (by decide) ?_
    refine lv_goto (tgt := 24) hx hb dX12_above_11 (by decide) ?_
    exact W.iret (v := 1) hx hb hr (fun t ht hW => ⟨1, rfl, (by have z9 := zk_1; omega), ht⟩) (fun _ h => absurd h List.not_mem_nil) dX12_above_24
  · refine lv_iload_n hx hb dX12_above_5 rfl (lv_at hl 0 rfl) ?_
    refine lv_iconst (v := 4) hx hb dX12_above_6 (by decide) ?_
    refine fx_icmp_ne (tgt := 14) hx hb dX12_above_7 (by decide) rfl zk_4 (fun c2 => ?_) (fun c2 => ?_)
    · refine lv_iload_n hx hb dX12_above_14 rfl (lv_at hl 0 rfl) ?_
      refine lv_iconst (v := 5) hx hb dX12_above_15 (by decide) ?_
      refine fx_icmp_ne (tgt := 23) hx hb dX12_above_16 (by decide) rfl zk_5 (fun c3 => ?_) (fun c3 => ?_)
      · refine lv_iconst (v := 0) hx hb dX12_above_23 (by decide) ?_
        exact W.iret (v := 0) hx hb hr (fun t ht hW => ⟨0, rfl, (by have z9 := zk_0; omega), ht⟩) (fun _ h => absurd h List.not_mem_nil) dX12_above_24
      · refine lv_iconst (v := 2) hx hb dX12_above_19 (by decide) ?_
        refine lv_goto (tgt := 24) hx hb dX12_above_20 (by decide) ?_
        exact W.iret (v := 2) hx hb hr (fun t ht hW => ⟨2, rfl, (by have z9 := zk_2; omega), ht⟩) (fun _ h => absurd h List.not_mem_nil) dX12_above_24
    · refine lv_iconst (v := 1) hx hb dX12_above_10 (by decide) ?_
      refine lv_goto (tgt := 24) hx hb dX12_above_11 (by decide) ?_
      exact W.iret (v := 1) hx hb hr (fun t ht hW => ⟨1, rfl, (by have z9 := zk_1; omega), ht⟩) (fun _ h => absurd h List.not_mem_nil) dX12_above_24
set_option maxHeartbeats 400000 in
set_option maxRecDepth 20000 in
theorem fc_X12_wordOf (l : Launch) (p0 : Int64) (p1 : Int32) : Met l yX12_wordOf wsX12_wordOf ({ frames := 0, cells := 0, slots := 0, locals := 0 }) (va_Pc [.long p0, .int p1] (fun _ => True)) (vp_Si (fun r : Int32 => (r = rt_dg p0 p1))) 0 0 (fun _ => False) := by
  refine Met.ofW (cc := cX12_wordOf) (maxL := 3) (ret := (some .int)) (by decide) rfl ?_
  intro p e s m args below meth c s₁ B hml hv
  obtain ⟨rfl, _⟩ := hv
  have hx := B.exec
  have hb := B.bytes
  have hr := B.returns
  have hts := atoms_spec (ws := wsX12_wordOf) B.pre
  have hown : s.vm.findClass RX12 = some m.cls := findClass_of_methodNamed B.named
  have hl := lv_entry ([.long p0, .int p1]) (n := 3) (Nat.le_of_ble_eq_true rfl)
  rw [lg_entry_eq]
  generalize (lg_sl ([.long p0, .int p1]) ++ List.replicate (3 - (lg_sl ([.long p0, .int p1])).length) Slot.unset).toArray = ls at hl ⊢
  have hl : lv_has ls 3 [(0, .long p0), (2, .int p1)] := hl
  refine lv_lload_n hx hb dX12_wordOf_0 rfl (lv_at hl 0 rfl) ?_
  refine lv_iconst (v := 4) hx hb dX12_wordOf_1 (by decide) ?_
  refine lv_iload_n hx hb dX12_wordOf_2 rfl (lv_at hl 1 rfl) ?_
  refine fx_imulU hx hb dX12_wordOf_3 (fun y1 ey1 => ?_)
  refine lv_lushr (v := (p0.toUInt64 >>> (y1.toInt64.toUInt64 &&& Int64.toUInt64 63)).toInt64) hx hb dX12_wordOf_4 rfl ?_
  refine lv_topl (fun y2 ey2 => ?_)
  refine lv_ldc2 (v := 15) hx hb hown (hts (.constantLong RX12 266 (15)) (List.mem_cons_of_mem _ tw_6_226)) dX12_wordOf_5 ?_
  refine lv_land hx hb dX12_wordOf_8 ?_
  refine lv_topl (fun y3 ey3 => ?_)
  refine lv_l2i (v := y3.toInt32) hx hb dX12_wordOf_9 rfl ?_
  refine lv_topi (fun y4 ey4 => ?_)
  exact W.iret (v := y4) hx hb hr (fun t ht hW => ⟨y4, rfl, (by subst_vars; rfl), ht⟩) (fun _ h => absurd h List.not_mem_nil) dX12_wordOf_10
set_option maxHeartbeats 400000 in
set_option maxRecDepth 20000 in
theorem fc_X12_countOf (l : Launch) (p0 : Int32) : Met l yX12_countOf wsX12_countOf ({ frames := 0, cells := 0, slots := 0, locals := 0 }) (va_Pc [.int p0] (fun _ => True)) (vp_Si (fun r : Int32 => (0 ≤ r.toInt ∧ r.toInt ≤ 32) ∧ (r = rt_cnt p0 32))) 0 0 (fun _ => False) := by
  refine Met.ofW (cc := cX12_countOf) (maxL := 3) (ret := (some .int)) (by decide) rfl ?_
  intro p e s m args below meth c s₁ B hml hv
  obtain ⟨rfl, _⟩ := hv
  have hx := B.exec
  have hb := B.bytes
  have hr := B.returns
  have hts := atoms_spec (ws := wsX12_countOf) B.pre
  have hown : s.vm.findClass RX12 = some m.cls := findClass_of_methodNamed B.named
  have hl := lv_entry ([.int p0]) (n := 3) (Nat.le_of_ble_eq_true rfl)
  rw [lg_entry_eq]
  generalize (lg_sl ([.int p0]) ++ List.replicate (3 - (lg_sl ([.int p0])).length) Slot.unset).toArray = ls at hl ⊢
  have hl : lv_has ls 3 [(0, .int p0)] := hl
  refine lv_iconst (v := 0) hx hb dX12_countOf_0 (by decide) ?_
  refine lv_istore_n (lv' := [(1, .int 0), (0, .int p0)]) hx hb dX12_countOf_1 rfl hl (by decide) rfl (fun ls hl => ?_)
  refine lv_iconst (v := 0) hx hb dX12_countOf_2 (by decide) ?_
  refine lv_istore_n (lv' := [(2, .int 0), (1, .int 0), (0, .int p0)]) hx hb dX12_countOf_3 rfl hl (by decide) rfl (fun ls hl => ?_)
  have lp : ∀ (n_lp : Nat) (lp_2 : Int32) (lp_1 : Int32), (32 - lp_2.toInt).toNat < n_lp → (0 ≤ lp_2.toInt ∧ lp_2.toInt ≤ 32) → (0 ≤ lp_1.toInt ∧ lp_1.toInt ≤ 32) → (lp_1 = rt_cnt p0 lp_2.toNatClampNeg) → (lp_1.toInt ≤ lp_2.toInt) → ∀ (ls : Array Slot), lv_has ls 3 [(2, .int lp_2), (1, .int lp_1), (0, .int p0)] → W p l e (headSpec wsX12_countOf ({ frames := 0, cells := 0, slots := 0, locals := 0 })).room s m ([.int p0] : List Value).toArray below meth c s.heap [] 0 0 (MQ below (vp_Si (fun r : Int32 => (0 ≤ r.toInt ∧ r.toInt ≤ 32) ∧ (r = rt_cnt p0 32))) ([.int p0] : List Value).toArray s 0 0 (fun _ => False)) (F0 m 4 ls []) := by
    intro n_lp
    induction n_lp with
    | zero => intro lp_2 lp_1 hm_lp b_lp_2 b_lp_1 hq hz ls hl; exact absurd hm_lp (Nat.not_lt_zero _)
    | succ n_lp ih_lp =>
      intro lp_2 lp_1 hm_lp b_lp_2 b_lp_1 hq hz ls hl
      refine lv_iload_n hx hb dX12_countOf_4 rfl (lv_at hl 0 rfl) ?_
      refine lv_bipush (v := 32) hx hb dX12_countOf_5 (by decide) ?_
      refine fx_icmp_ge (tgt := 24) hx hb dX12_countOf_7 (by decide) rfl zk_32 (fun c1 => ?_) (fun c1 => ?_)
      · refine lv_iload_n hx hb dX12_countOf_24 rfl (lv_at hl 1 rfl) ?_
        exact W.iret (v := lp_1) hx hb hr (fun t ht hW => ⟨lp_1, rfl, ⟨(by omega), (by rw [hq, show lp_2.toNatClampNeg = 32 by rw [Int32.toNatClampNeg]; omega])⟩, ht⟩) (fun _ h => absurd h List.not_mem_nil) dX12_countOf_25
      · refine lv_iload_n hx hb dX12_countOf_10 rfl (lv_at hl 1 rfl) ?_
        refine lv_iload_n hx hb dX12_countOf_11 rfl (lv_at hl 2 rfl) ?_
        refine lv_iload_n hx hb dX12_countOf_12 rfl (lv_at hl 0 rfl) ?_
        refine lv_iushr (v := (p0.toUInt32 >>> (lp_2.toUInt32 &&& Int32.toUInt32 31)).toInt32) hx hb dX12_countOf_13 rfl ?_
        refine lv_topi (fun y2 ey2 => ?_)
        refine lv_iconst (v := 1) hx hb dX12_countOf_14 (by decide) ?_
        refine fx_iand1 hx hb dX12_countOf_15 (fun y3 ey3 by3 => ?_)
        refine fx_iadd hx hb dX12_countOf_16 rfl rfl (by omega) (fun y4 ey4 ty4 => ?_)
        refine lv_istore_n (lv' := [(1, .int y4), (2, .int lp_2), (0, .int p0)]) hx hb dX12_countOf_17 rfl hl (by decide) rfl (fun ls hl => ?_)
        obtain ⟨y5, ey5⟩ : ∃ y : Int32, y = lp_2 + 1 := ⟨_, rfl⟩
        have ty5 : y5.toInt = lp_2.toInt + 1 := by rw [ey5, zi_add _ _ (by rw [zk_1]; omega) (by rw [zk_1]; omega), zk_1]
        refine lv_iinc (v := y5) (lv' := [(2, .int y5), (1, .int y4), (0, .int p0)]) hx hb dX12_countOf_18 hl (k := 1) rfl (by rw [ey5]; rfl) (by decide) rfl (fun ls hl => ?_)
        refine lv_goto (tgt := 4) hx hb dX12_countOf_21 (by decide) ?_
        exact ih_lp y5 y4 (by omega) (by omega) (by omega) (by rw [ey4, ey3, ey2]; exact rt_cnt_s hq (by omega) ty5) (by omega) ls (lv_sub hl [0, 1, 2] rfl)
  exact lp _ 0 0 (Nat.lt_succ_self _) (by decide) (by decide) rfl (by decide) ls (lv_sub hl [0, 1, 2] rfl)
set_option maxHeartbeats 400000 in
set_option maxRecDepth 20000 in
theorem fc_X12_divisor (l : Launch) (p0 p1 : Int64) : Met l yX12_divisor wsX12_divisor ({ frames := 0, cells := 0, slots := 0, locals := 0 }) (va_Pc [.long p0, .long p1] (fun _ => True)) (vp_Sl (fun r : Int64 => (¬ p1 = 0 → ¬ r = 0))) 0 0 (fun _ => False) := by
  refine Met.ofW (cc := cX12_divisor) (maxL := 10) (ret := (some .long)) (by decide) rfl ?_
  intro p e s m args below meth c s₁ B hml hv
  obtain ⟨rfl, _⟩ := hv
  have hx := B.exec
  have hb := B.bytes
  have hr := B.returns
  have hts := atoms_spec (ws := wsX12_divisor) B.pre
  have hown : s.vm.findClass RX12 = some m.cls := findClass_of_methodNamed B.named
  have hl := lv_entry ([.long p0, .long p1]) (n := 10) (Nat.le_of_ble_eq_true rfl)
  rw [lg_entry_eq]
  generalize (lg_sl ([.long p0, .long p1]) ++ List.replicate (10 - (lg_sl ([.long p0, .long p1])).length) Slot.unset).toArray = ls at hl ⊢
  have hl : lv_has ls 10 [(0, .long p0), (2, .long p1)] := hl
  refine lv_lload_n hx hb dX12_divisor_0 rfl (lv_at hl 0 rfl) ?_
  refine lv_lstore (lv' := [(4, .long p0), (0, .long p0), (2, .long p1)]) hx hb dX12_divisor_1 hl (by decide) rfl (fun ls hl => ?_)
  refine lv_lload_n hx hb dX12_divisor_3 rfl (lv_at hl 2 rfl) ?_
  refine lv_lstore (lv' := [(6, .long p1), (4, .long p0), (0, .long p0), (2, .long p1)]) hx hb dX12_divisor_4 hl (by decide) rfl (fun ls hl => ?_)
  have lp : ∀ (n_lp : Nat) (lp_6 : Int64) (lp_4 : Int64), (lp_6.toInt).natAbs < n_lp → (¬ p1 = 0 → (¬ lp_4 = 0 ∨ ¬ lp_6 = 0)) → ∀ (ls : Array Slot), lv_has ls 10 [(6, .long lp_6), (4, .long lp_4), (0, .long p0), (2, .long p1)] → W p l e (headSpec wsX12_divisor ({ frames := 0, cells := 0, slots := 0, locals := 0 })).room s m ([.long p0, .long p1] : List Value).toArray below meth c s.heap [] 0 0 (MQ below (vp_Sl (fun r : Int64 => (¬ p1 = 0 → ¬ r = 0))) ([.long p0, .long p1] : List Value).toArray s 0 0 (fun _ => False)) (F0 m 6 ls []) := by
    intro n_lp
    induction n_lp with
    | zero => intro lp_6 lp_4 hm_lp hz ls hl; exact absurd hm_lp (Nat.not_lt_zero _)
    | succ n_lp ih_lp =>
      intro lp_6 lp_4 hm_lp hz ls hl
      refine lv_lload hx hb dX12_divisor_6 (lv_at hl 0 rfl) ?_
      refine lv_lconst (v := 0) hx hb dX12_divisor_8 (by decide) ?_
      refine W.lcmp hx hb dX12_divisor_9 ?_
      refine fx_lif_eq (tgt := 31) hx hb dX12_divisor_10 (by decide) (fun c1 => ?_) (fun c1 => ?_)
      · refine lv_lload hx hb dX12_divisor_31 (lv_at hl 1 rfl) ?_
        exact W.lret (v := lp_4) hx hb hr (fun t ht hW => ⟨lp_4, rfl, (fun h => by rcases hz h with h8 | h8; exact h8; exact absurd (by assumption) h8), ht⟩) (fun _ h => absurd h List.not_mem_nil) dX12_divisor_33
      · refine lv_lload hx hb dX12_divisor_13 (lv_at hl 1 rfl) ?_
        refine lv_lload hx hb dX12_divisor_15 (lv_at hl 0 rfl) ?_
        refine lv_lrem hx hb dX12_divisor_17 (by assumption) ?_
        refine lv_topl (fun y2 ey2 => ?_)
        refine lv_lstore (lv' := [(8, .long y2), (6, .long lp_6), (4, .long lp_4), (0, .long p0), (2, .long p1)]) hx hb dX12_divisor_18 hl (by decide) rfl (fun ls hl => ?_)
        refine lv_lload hx hb dX12_divisor_20 (lv_at hl 1 rfl) ?_
        refine lv_lstore (lv' := [(4, .long lp_6), (8, .long y2), (6, .long lp_6), (0, .long p0), (2, .long p1)]) hx hb dX12_divisor_22 hl (by decide) rfl (fun ls hl => ?_)
        refine lv_lload hx hb dX12_divisor_24 (lv_at hl 1 rfl) ?_
        refine lv_lstore (lv' := [(6, .long y2), (4, .long lp_6), (8, .long y2), (0, .long p0), (2, .long p1)]) hx hb dX12_divisor_26 hl (by decide) rfl (fun ls hl => ?_)
        refine lv_goto (tgt := 6) hx hb dX12_divisor_28 (by decide) ?_
        exact ih_lp y2 lp_6 (by have h9 := zl_rem_lt (x := lp_4) (y := lp_6) (by assumption); rw [← ey2] at h9; omega) (fun _ => Or.inl (by assumption)) ls (lv_sub hl [0, 1, 3, 4] rfl)
  exact lp _ p1 p0 (Nat.lt_succ_self _) (fun h => Or.inr h) ls (lv_sub hl [0, 1, 2, 3] rfl)
set_option maxHeartbeats 400000 in
set_option maxRecDepth 20000 in
theorem fc_X12_isBody (l : Launch) (D : va_G) (ad : Nat → Nat → Nat) (C : Nat → Nat → ClassId) (nb : Nat) (M : fm_M) (hI : fm_I nb ad M) (p0 : Int32) : Met l yX12_isBody wsX12_isBody ({ frames := 0, cells := 0, slots := 0, locals := 0 }) (va_Pc [.ref (ad 60 0), .int p0] (fm_P D ad C nb M)) (vp_Si (fun r : Int32 => ((r = 1 ∧ (0 ≤ p0.toInt ∧ p0.toInt < (M.1 60 0 16).toInt)) ∨ (r = 0 ∧ ¬ (0 ≤ p0.toInt ∧ p0.toInt < (M.1 60 0 16).toInt))))) 0 0 (fun _ => False) := by
  refine Met.ofW (cc := cX12_isBody) (maxL := 2) (ret := (some .boolean)) (by decide) rfl ?_
  intro p e s m args below meth c s₁ B hml hv
  obtain ⟨rfl, hw, hc⟩ := hv
  have hx := B.exec
  have hb := B.bytes
  have hr := B.returns
  have hts := atoms_spec (ws := wsX12_isBody) B.pre
  have hown : s.vm.findClass RX12 = some m.cls := findClass_of_methodNamed B.named
  have hinX12 : ∀ w ∈ u_ws RX12 TX12 79, w ∈ wsX12_isBody := fun w h => List.mem_cons_of_mem _ (iT_X12 w h)
  have hS : va_S (fm_A nb ad) s.heap s.heap [] := va_S.rf
  have hl := lv_entry ([.ref (ad 60 0), .int p0]) (n := 2) (Nat.le_of_ble_eq_true rfl)
  rw [lg_entry_eq]
  generalize (lg_sl ([.ref (ad 60 0), .int p0]) ++ List.replicate (2 - (lg_sl ([.ref (ad 60 0), .int p0])).length) Slot.unset).toArray = ls at hl ⊢
  have hl : lv_has ls 2 [(0, .ref (ad 60 0)), (1, .int p0)] := hl
  refine lv_iload_n hx hb dX12_isBody_0 rfl (lv_at hl 1 rfl) ?_
  refine fx_if_lt (tgt := 16) hx hb dX12_isBody_1 (by decide) rfl (fun c1 => ?_) (fun c1 => ?_)
  · refine lv_iconst (v := 0) hx hb dX12_isBody_16 (by decide) ?_
    exact W.zret (v := 0) hx hb hr rfl (fun t ht hW => ⟨0, rfl, Or.inr ⟨rfl, by omega⟩, ht⟩) (fun _ h => absurd h List.not_mem_nil) dX12_isBody_17
  · refine lv_iload_n hx hb dX12_isBody_4 rfl (lv_at hl 1 rfl) ?_
    refine lv_aload_n hx hb dX12_isBody_5 rfl (lv_at hl 0 rfl) ?_
    refine fm_getI (a := 60) (j := 16) (T := TX12) (N := 79) hx hb hts hinX12 hown hc hw hI kl_60 sh_60 rfl (by decide) rfl bd_60_16 (hts (.fieldLink RX12 190 "RedTentModel" "bodies" "I") (List.mem_cons_of_mem _ tw_5_136)) (fun _ h9 => h9) dX12_isBody_6 (fun x2 ex2 bx2 => ?_)
    refine fx_icmp_ge (tgt := 16) hx hb dX12_isBody_9 (by decide) rfl rfl (fun c3 => ?_) (fun c3 => ?_)
    · refine lv_iconst (v := 0) hx hb dX12_isBody_16 (by decide) ?_
      have qx2 : x2.toInt = (M.1 60 0 16).toInt := by rw [ex2]
      exact W.zret (v := 0) hx hb hr rfl (fun t ht hW => ⟨0, rfl, Or.inr ⟨rfl, by omega⟩, ht⟩) (fun _ h => absurd h List.not_mem_nil) dX12_isBody_17
    · refine lv_iconst (v := 1) hx hb dX12_isBody_12 (by decide) ?_
      refine lv_goto (tgt := 17) hx hb dX12_isBody_13 (by decide) ?_
      have qx2 : x2.toInt = (M.1 60 0 16).toInt := by rw [ex2]
      exact W.zret (v := 1) hx hb hr rfl (fun t ht hW => ⟨1, rfl, Or.inl ⟨rfl, by omega⟩, ht⟩) (fun _ h => absurd h List.not_mem_nil) dX12_isBody_17
set_option maxHeartbeats 400000 in
set_option maxRecDepth 20000 in
theorem fc_X12_isSeeker (l : Launch) (D : va_G) (ad : Nat → Nat → Nat) (C : Nat → Nat → ClassId) (nb : Nat) (M : fm_M) (hI : fm_I nb ad M) (p0 : Int32) : Met l yX12_isSeeker wsX12_isSeeker ({ frames := 1, cells := 0, slots := 0, locals := 21 }) (va_Pc [.ref (ad 60 0), .int p0] (fm_P D ad C nb M)) (vp_Si (fun r : Int32 => ((r = 1 ∧ (0 ≤ p0.toInt ∧ p0.toInt < (M.1 60 0 16).toInt ∧ ((M.1 110 0 p0.toNatClampNeg).toInt = 2 ∨ (M.1 110 0 p0.toNatClampNeg).toInt = 5))) ∨ (r = 0 ∧ ¬ (0 ≤ p0.toInt ∧ p0.toInt < (M.1 60 0 16).toInt ∧ ((M.1 110 0 p0.toNatClampNeg).toInt = 2 ∨ (M.1 110 0 p0.toNatClampNeg).toInt = 5)))))) 0 0 (fun _ => False) := by
  refine Met.ofW (cc := cX12_isSeeker) (maxL := 2) (ret := (some .boolean)) (by decide) rfl ?_
  intro p e s m args below meth c s₁ B hml hv
  obtain ⟨rfl, hw, hc⟩ := hv
  have hx := B.exec
  have hb := B.bytes
  have hr := B.returns
  have hts := atoms_spec (ws := wsX12_isSeeker) B.pre
  have hown : s.vm.findClass RX12 = some m.cls := findClass_of_methodNamed B.named
  have hinX12 : ∀ w ∈ u_ws RX12 TX12 79, w ∈ wsX12_isSeeker := fun w h => List.mem_cons_of_mem _ (iT_X12 w h)
  have hS : va_S (fm_A nb ad) s.heap s.heap [] := va_S.rf
  have hl := lv_entry ([.ref (ad 60 0), .int p0]) (n := 2) (Nat.le_of_ble_eq_true rfl)
  rw [lg_entry_eq]
  generalize (lg_sl ([.ref (ad 60 0), .int p0]) ++ List.replicate (2 - (lg_sl ([.ref (ad 60 0), .int p0])).length) Slot.unset).toArray = ls at hl ⊢
  have hl : lv_has ls 2 [(0, .ref (ad 60 0)), (1, .int p0)] := hl
  refine lv_aload_n hx hb dX12_isSeeker_0 rfl (lv_at hl 0 rfl) ?_
  refine lv_iload_n hx hb dX12_isSeeker_1 rfl (lv_at hl 1 rfl) ?_
  refine vp_callSi (va_Run.run (va_runV (As := [.int p0]) (rest := []) ⟨hx, hb, hml, hown, hts⟩ (fc_X12_isBody l D ad C nb M hI p0) (cwV 1 hts gX12_isSeeker_X12_isBody rfl rfl rfl (by decide +kernel) ⟨Nat.le_of_ble_eq_true rfl, Nat.le_of_ble_eq_true rfl⟩) (fm_preV hc hw hS kl_60 sh_60 rfl) rfl rfl hl.1 rfl (lv_room (Nat.le_of_ble_eq_true rfl)) dX12_isSeeker_2 ⟨by decide +kernel, by decide +kernel⟩)) (fun r1 hr1 => ?_)
  have bqq2 := hI.bd (k := 0) bd_60_16
  rcases hr1 with ⟨rfl, c3⟩ | ⟨rfl, c3⟩
  · refine fx_if_eq (tgt := 32) hx hb dX12_isSeeker_5 (by decide) zk_1 (fun c4 => by exfalso; omega) (fun c4 => ?_)
    refine lv_aload_n hx hb dX12_isSeeker_8 rfl (lv_at hl 0 rfl) ?_
    refine fm_getG (a := 60) (j := 10) (T := TX12) (N := 79) hx hb hts hinX12 hown hc hw kl_60 sh_60 rfl (by decide) rfl (hI.to kl_60 tg_60_10) (hts (.fieldLink RX12 28 "RedTentModel" "kind" "[I") (List.mem_cons_of_mem _ tw_5_130)) (fun _ h9 => h9) dX12_isSeeker_9 ?_
    refine lv_iload_n hx hb dX12_isSeeker_12 rfl (lv_at hl 1 rfl) ?_
    refine fm_iald (a := 110) hx hb hc hw hI kl_110 sh_110 ty_110 bd_110 (by omega) dX12_isSeeker_13 (fun x5 ex5 bx5 => ?_)
    refine lv_iconst (v := 2) hx hb dX12_isSeeker_14 (by decide) ?_
    refine fx_icmp_eq (tgt := 28) hx hb dX12_isSeeker_15 (by decide) rfl zk_2 (fun c6 => ?_) (fun c6 => ?_)
    · refine lv_iconst (v := 1) hx hb dX12_isSeeker_28 (by decide) ?_
      refine lv_goto (tgt := 33) hx hb dX12_isSeeker_29 (by decide) ?_
      have qx5 : x5.toInt = (M.1 110 0 p0.toNatClampNeg).toInt := by rw [ex5]
      exact W.zret (v := 1) hx hb hr rfl (fun t ht hW => ⟨1, rfl, Or.inl ⟨rfl, by omega⟩, ht⟩) (fun _ h => absurd h List.not_mem_nil) dX12_isSeeker_33
    · refine lv_aload_n hx hb dX12_isSeeker_18 rfl (lv_at hl 0 rfl) ?_
      refine fm_getG (a := 60) (j := 10) (T := TX12) (N := 79) hx hb hts hinX12 hown hc hw kl_60 sh_60 rfl (by decide) rfl (hI.to kl_60 tg_60_10) (hts (.fieldLink RX12 28 "RedTentModel" "kind" "[I") (List.mem_cons_of_mem _ tw_5_130)) (fun _ h9 => h9) dX12_isSeeker_19 ?_
      refine lv_iload_n hx hb dX12_isSeeker_22 rfl (lv_at hl 1 rfl) ?_
      refine fm_iald (a := 110) hx hb hc hw hI kl_110 sh_110 ty_110 bd_110 (by omega) dX12_isSeeker_23 (fun x7 ex7 bx7 => ?_)
      obtain rfl : x5 = x7 := by rw [ex7]; exact ex5
      refine lv_iconst (v := 5) hx hb dX12_isSeeker_24 (by decide) ?_
      refine fx_icmp_ne (tgt := 32) hx hb dX12_isSeeker_25 (by decide) rfl zk_5 (fun c8 => ?_) (fun c8 => ?_)
      · refine lv_iconst (v := 0) hx hb dX12_isSeeker_32 (by decide) ?_
        have qx5 : x5.toInt = (M.1 110 0 p0.toNatClampNeg).toInt := by rw [ex5]
        exact W.zret (v := 0) hx hb hr rfl (fun t ht hW => ⟨0, rfl, Or.inr ⟨rfl, by omega⟩, ht⟩) (fun _ h => absurd h List.not_mem_nil) dX12_isSeeker_33
      · refine lv_iconst (v := 1) hx hb dX12_isSeeker_28 (by decide) ?_
        refine lv_goto (tgt := 33) hx hb dX12_isSeeker_29 (by decide) ?_
        have qx5 : x5.toInt = (M.1 110 0 p0.toNatClampNeg).toInt := by rw [ex5]
        exact W.zret (v := 1) hx hb hr rfl (fun t ht hW => ⟨1, rfl, Or.inl ⟨rfl, by omega⟩, ht⟩) (fun _ h => absurd h List.not_mem_nil) dX12_isSeeker_33
  · refine fx_if_eq (tgt := 32) hx hb dX12_isSeeker_5 (by decide) zk_0 (fun c9 => ?_) (fun c9 => by exfalso; omega)
    refine lv_iconst (v := 0) hx hb dX12_isSeeker_32 (by decide) ?_
    exact W.zret (v := 0) hx hb hr rfl (fun t ht hW => ⟨0, rfl, Or.inr ⟨rfl, by omega⟩, ht⟩) (fun _ h => absurd h List.not_mem_nil) dX12_isSeeker_33
set_option maxHeartbeats 400000 in
set_option maxRecDepth 20000 in
theorem fc_X12_isCall (l : Launch) (D : va_G) (ad : Nat → Nat → Nat) (C : Nat → Nat → ClassId) (nb : Nat) (M : fm_M) (hI : fm_I nb ad M) (p0 : Int32) : Met l yX12_isCall wsX12_isCall ({ frames := 0, cells := 0, slots := 0, locals := 0 }) (va_Pc [.ref (ad 60 0), .int p0] (fm_P D ad C nb M)) (vp_Si (fun r : Int32 => ((r = 1 ∧ (0 ≤ p0.toInt ∧ p0.toInt < (M.1 60 0 30).toInt)) ∨ (r = 0 ∧ ¬ (0 ≤ p0.toInt ∧ p0.toInt < (M.1 60 0 30).toInt))))) 0 0 (fun _ => False) := by
  refine Met.ofW (cc := cX12_isCall) (maxL := 2) (ret := (some .boolean)) (by decide) rfl ?_
  intro p e s m args below meth c s₁ B hml hv
  obtain ⟨rfl, hw, hc⟩ := hv
  have hx := B.exec
  have hb := B.bytes
  have hr := B.returns
  have hts := atoms_spec (ws := wsX12_isCall) B.pre
  have hown : s.vm.findClass RX12 = some m.cls := findClass_of_methodNamed B.named
  have hinX12 : ∀ w ∈ u_ws RX12 TX12 79, w ∈ wsX12_isCall := fun w h => List.mem_cons_of_mem _ (iT_X12 w h)
  have hS : va_S (fm_A nb ad) s.heap s.heap [] := va_S.rf
  have hl := lv_entry ([.ref (ad 60 0), .int p0]) (n := 2) (Nat.le_of_ble_eq_true rfl)
  rw [lg_entry_eq]
  generalize (lg_sl ([.ref (ad 60 0), .int p0]) ++ List.replicate (2 - (lg_sl ([.ref (ad 60 0), .int p0])).length) Slot.unset).toArray = ls at hl ⊢
  have hl : lv_has ls 2 [(0, .ref (ad 60 0)), (1, .int p0)] := hl
  refine lv_iload_n hx hb dX12_isCall_0 rfl (lv_at hl 1 rfl) ?_
  refine fx_if_lt (tgt := 16) hx hb dX12_isCall_1 (by decide) rfl (fun c1 => ?_) (fun c1 => ?_)
  · refine lv_iconst (v := 0) hx hb dX12_isCall_16 (by decide) ?_
    exact W.zret (v := 0) hx hb hr rfl (fun t ht hW => ⟨0, rfl, Or.inr ⟨rfl, by omega⟩, ht⟩) (fun _ h => absurd h List.not_mem_nil) dX12_isCall_17
  · refine lv_iload_n hx hb dX12_isCall_4 rfl (lv_at hl 1 rfl) ?_
    refine lv_aload_n hx hb dX12_isCall_5 rfl (lv_at hl 0 rfl) ?_
    refine fm_getI (a := 60) (j := 30) (T := TX12) (N := 79) hx hb hts hinX12 hown hc hw hI kl_60 sh_60 rfl (by decide) rfl bd_60_30 (hts (.fieldLink RX12 252 "RedTentModel" "calls" "I") (List.mem_cons_of_mem _ tw_5_150)) (fun _ h9 => h9) dX12_isCall_6 (fun x2 ex2 bx2 => ?_)
    refine fx_icmp_ge (tgt := 16) hx hb dX12_isCall_9 (by decide) rfl rfl (fun c3 => ?_) (fun c3 => ?_)
    · refine lv_iconst (v := 0) hx hb dX12_isCall_16 (by decide) ?_
      have qx2 : x2.toInt = (M.1 60 0 30).toInt := by rw [ex2]
      exact W.zret (v := 0) hx hb hr rfl (fun t ht hW => ⟨0, rfl, Or.inr ⟨rfl, by omega⟩, ht⟩) (fun _ h => absurd h List.not_mem_nil) dX12_isCall_17
    · refine lv_iconst (v := 1) hx hb dX12_isCall_12 (by decide) ?_
      refine lv_goto (tgt := 17) hx hb dX12_isCall_13 (by decide) ?_
      have qx2 : x2.toInt = (M.1 60 0 30).toInt := by rw [ex2]
      exact W.zret (v := 1) hx hb hr rfl (fun t ht hW => ⟨1, rfl, Or.inl ⟨rfl, by omega⟩, ht⟩) (fun _ h => absurd h List.not_mem_nil) dX12_isCall_17
set_option maxHeartbeats 400000 in
set_option maxRecDepth 20000 in
theorem fc_X12_isStory (l : Launch) (D : va_G) (ad : Nat → Nat → Nat) (C : Nat → Nat → ClassId) (nb : Nat) (M : fm_M) (hI : fm_I nb ad M) (p0 : Int32) : Met l yX12_isStory wsX12_isStory ({ frames := 0, cells := 0, slots := 0, locals := 0 }) (va_Pc [.ref (ad 60 0), .int p0] (fm_P D ad C nb M)) (vp_Si (fun r : Int32 => ((r = 1 ∧ (0 ≤ p0.toInt ∧ p0.toInt < (M.1 60 0 48).toInt)) ∨ (r = 0 ∧ ¬ (0 ≤ p0.toInt ∧ p0.toInt < (M.1 60 0 48).toInt))))) 0 0 (fun _ => False) := by
  refine Met.ofW (cc := cX12_isStory) (maxL := 2) (ret := (some .boolean)) (by decide) rfl ?_
  intro p e s m args below meth c s₁ B hml hv
  obtain ⟨rfl, hw, hc⟩ := hv
  have hx := B.exec
  have hb := B.bytes
  have hr := B.returns
  have hts := atoms_spec (ws := wsX12_isStory) B.pre
  have hown : s.vm.findClass RX12 = some m.cls := findClass_of_methodNamed B.named
  have hinX12 : ∀ w ∈ u_ws RX12 TX12 79, w ∈ wsX12_isStory := fun w h => List.mem_cons_of_mem _ (iT_X12 w h)
  have hS : va_S (fm_A nb ad) s.heap s.heap [] := va_S.rf
  have hl := lv_entry ([.ref (ad 60 0), .int p0]) (n := 2) (Nat.le_of_ble_eq_true rfl)
  rw [lg_entry_eq]
  generalize (lg_sl ([.ref (ad 60 0), .int p0]) ++ List.replicate (2 - (lg_sl ([.ref (ad 60 0), .int p0])).length) Slot.unset).toArray = ls at hl ⊢
  have hl : lv_has ls 2 [(0, .ref (ad 60 0)), (1, .int p0)] := hl
  refine lv_iload_n hx hb dX12_isStory_0 rfl (lv_at hl 1 rfl) ?_
  refine fx_if_lt (tgt := 16) hx hb dX12_isStory_1 (by decide) rfl (fun c1 => ?_) (fun c1 => ?_)
  · refine lv_iconst (v := 0) hx hb dX12_isStory_16 (by decide) ?_
    exact W.zret (v := 0) hx hb hr rfl (fun t ht hW => ⟨0, rfl, Or.inr ⟨rfl, by omega⟩, ht⟩) (fun _ h => absurd h List.not_mem_nil) dX12_isStory_17
  · refine lv_iload_n hx hb dX12_isStory_4 rfl (lv_at hl 1 rfl) ?_
    refine lv_aload_n hx hb dX12_isStory_5 rfl (lv_at hl 0 rfl) ?_
    refine fm_getI (a := 60) (j := 48) (T := TX12) (N := 79) hx hb hts hinX12 hown hc hw hI kl_60 sh_60 rfl (by decide) rfl bd_60_48 (hts (.fieldLink RX12 440 "RedTentModel" "stories" "I") (List.mem_cons_of_mem _ tw_5_168)) (fun _ h9 => h9) dX12_isStory_6 (fun x2 ex2 bx2 => ?_)
    refine fx_icmp_ge (tgt := 16) hx hb dX12_isStory_9 (by decide) rfl rfl (fun c3 => ?_) (fun c3 => ?_)
    · refine lv_iconst (v := 0) hx hb dX12_isStory_16 (by decide) ?_
      have qx2 : x2.toInt = (M.1 60 0 48).toInt := by rw [ex2]
      exact W.zret (v := 0) hx hb hr rfl (fun t ht hW => ⟨0, rfl, Or.inr ⟨rfl, by omega⟩, ht⟩) (fun _ h => absurd h List.not_mem_nil) dX12_isStory_17
    · refine lv_iconst (v := 1) hx hb dX12_isStory_12 (by decide) ?_
      refine lv_goto (tgt := 17) hx hb dX12_isStory_13 (by decide) ?_
      have qx2 : x2.toInt = (M.1 60 0 48).toInt := by rw [ex2]
      exact W.zret (v := 1) hx hb hr rfl (fun t ht hW => ⟨1, rfl, Or.inl ⟨rfl, by omega⟩, ht⟩) (fun _ h => absurd h List.not_mem_nil) dX12_isStory_17
set_option maxHeartbeats 400000 in
set_option maxRecDepth 20000 in
theorem fc_X12_isItem (l : Launch) (D : va_G) (ad : Nat → Nat → Nat) (C : Nat → Nat → ClassId) (nb : Nat) (M : fm_M) (hI : fm_I nb ad M) (p0 : Int32) (p1 : Int64) (b_p0 : 0 ≤ p0.toInt ∧ p0.toInt ≤ 3) : Met l yX12_isItem wsX12_isItem ({ frames := 0, cells := 0, slots := 0, locals := 0 }) (va_Pc [.ref (ad 60 0), .int p0, .long p1] (fm_P D ad C nb M)) (vp_Si (fun r : Int32 => ((r = 1 ∧ (0 ≤ p1.toInt ∧ p1.toInt < (M.1 176 0 p0.toNatClampNeg).toInt)) ∨ (r = 0 ∧ ¬ (0 ≤ p1.toInt ∧ p1.toInt < (M.1 176 0 p0.toNatClampNeg).toInt))))) 0 0 (fun _ => False) := by
  refine Met.ofW (cc := cX12_isItem) (maxL := 4) (ret := (some .boolean)) (by decide) rfl ?_
  intro p e s m args below meth c s₁ B hml hv
  obtain ⟨rfl, hw, hc⟩ := hv
  have hx := B.exec
  have hb := B.bytes
  have hr := B.returns
  have hts := atoms_spec (ws := wsX12_isItem) B.pre
  have hown : s.vm.findClass RX12 = some m.cls := findClass_of_methodNamed B.named
  have hinX12 : ∀ w ∈ u_ws RX12 TX12 79, w ∈ wsX12_isItem := fun w h => List.mem_cons_of_mem _ (iT_X12 w h)
  have hS : va_S (fm_A nb ad) s.heap s.heap [] := va_S.rf
  have hl := lv_entry ([.ref (ad 60 0), .int p0, .long p1]) (n := 4) (Nat.le_of_ble_eq_true rfl)
  rw [lg_entry_eq]
  generalize (lg_sl ([.ref (ad 60 0), .int p0, .long p1]) ++ List.replicate (4 - (lg_sl ([.ref (ad 60 0), .int p0, .long p1])).length) Slot.unset).toArray = ls at hl ⊢
  have hl : lv_has ls 4 [(0, .ref (ad 60 0)), (1, .int p0), (2, .long p1)] := hl
  refine lv_lload_n hx hb dX12_isItem_0 rfl (lv_at hl 2 rfl) ?_
  refine lv_lconst (v := 0) hx hb dX12_isItem_1 (by decide) ?_
  refine W.lcmp hx hb dX12_isItem_2 ?_
  have zz1 : (0 : Int64).toInt = 0 := rfl
  refine fx_lif_lt (tgt := 22) hx hb dX12_isItem_3 (by decide) (fun c2 => ?_) (fun c2 => ?_)
  · refine lv_iconst (v := 0) hx hb dX12_isItem_22 (by decide) ?_
    exact W.zret (v := 0) hx hb hr rfl (fun t ht hW => ⟨0, rfl, Or.inr ⟨rfl, by omega⟩, ht⟩) (fun _ h => absurd h List.not_mem_nil) dX12_isItem_23
  · refine lv_lload_n hx hb dX12_isItem_6 rfl (lv_at hl 2 rfl) ?_
    refine lv_aload_n hx hb dX12_isItem_7 rfl (lv_at hl 0 rfl) ?_
    refine fm_getG (a := 60) (j := 76) (T := TX12) (N := 79) hx hb hts hinX12 hown hc hw kl_60 sh_60 rfl (by decide) rfl (hI.to kl_60 tg_60_76) (hts (.fieldLink RX12 161 "RedTentModel" "many" "[I") (List.mem_cons_of_mem _ tw_5_196)) (fun _ h9 => h9) dX12_isItem_8 ?_
    refine lv_iload_n hx hb dX12_isItem_11 rfl (lv_at hl 1 rfl) ?_
    refine fm_iald (a := 176) hx hb hc hw hI kl_176 sh_176 ty_176 bd_176 (by omega) dX12_isItem_12 (fun x3 ex3 bx3 => ?_)
    refine fx_i2l hx hb dX12_isItem_13 rfl (fun y4 ey4 ty4 => ?_)
    refine W.lcmp hx hb dX12_isItem_14 ?_
    refine fx_lif_ge (tgt := 22) hx hb dX12_isItem_15 (by decide) (fun c5 => ?_) (fun c5 => ?_)
    · refine lv_iconst (v := 0) hx hb dX12_isItem_22 (by decide) ?_
      have qx3 : x3.toInt = (M.1 176 0 p0.toNatClampNeg).toInt := by rw [ex3]
      exact W.zret (v := 0) hx hb hr rfl (fun t ht hW => ⟨0, rfl, Or.inr ⟨rfl, by omega⟩, ht⟩) (fun _ h => absurd h List.not_mem_nil) dX12_isItem_23
    · refine lv_iconst (v := 1) hx hb dX12_isItem_18 (by decide) ?_
      refine lv_goto (tgt := 23) hx hb dX12_isItem_19 (by decide) ?_
      have qx3 : x3.toInt = (M.1 176 0 p0.toNatClampNeg).toInt := by rw [ex3]
      exact W.zret (v := 1) hx hb hr rfl (fun t ht hW => ⟨1, rfl, Or.inl ⟨rfl, by omega⟩, ht⟩) (fun _ h => absurd h List.not_mem_nil) dX12_isItem_23
set_option maxHeartbeats 400000 in
set_option maxRecDepth 20000 in
theorem fc_X12_eats (l : Launch) (D : va_G) (ad : Nat → Nat → Nat) (C : Nat → Nat → ClassId) (nb : Nat) (M : fm_M) (hI : fm_I nb ad M) (p0 : Int32) (b_p0 : 0 ≤ p0.toInt ∧ p0.toInt ≤ 11) : Met l yX12_eats wsX12_eats ({ frames := 0, cells := 0, slots := 0, locals := 0 }) (va_Pc [.ref (ad 60 0), .int p0] (fm_P D ad C nb M)) (vp_Si (fun r : Int32 => (0 ≤ r.toInt ∧ r.toInt ≤ 41) ∧ (r.toInt = rt_eat (M.1 110 0 p0.toNatClampNeg).toInt (M.1 113 0 p0.toNatClampNeg).toInt))) 0 0 (fun _ => False) := by
  refine Met.ofW (cc := cX12_eats) (maxL := 3) (ret := (some .int)) (by decide) rfl ?_
  intro p e s m args below meth c s₁ B hml hv
  obtain ⟨rfl, hw, hc⟩ := hv
  have hx := B.exec
  have hb := B.bytes
  have hr := B.returns
  have hts := atoms_spec (ws := wsX12_eats) B.pre
  have hown : s.vm.findClass RX12 = some m.cls := findClass_of_methodNamed B.named
  have hinX12 : ∀ w ∈ u_ws RX12 TX12 79, w ∈ wsX12_eats := fun w h => List.mem_cons_of_mem _ (iT_X12 w h)
  have hS : va_S (fm_A nb ad) s.heap s.heap [] := va_S.rf
  have hl := lv_entry ([.ref (ad 60 0), .int p0]) (n := 3) (Nat.le_of_ble_eq_true rfl)
  rw [lg_entry_eq]
  generalize (lg_sl ([.ref (ad 60 0), .int p0]) ++ List.replicate (3 - (lg_sl ([.ref (ad 60 0), .int p0])).length) Slot.unset).toArray = ls at hl ⊢
  have hl : lv_has ls 3 [(0, .ref (ad 60 0)), (1, .int p0)] := hl
  refine lv_aload_n hx hb dX12_eats_0 rfl (lv_at hl 0 rfl) ?_
  refine fm_getG (a := 60) (j := 13) (T := TX12) (N := 79) hx hb hts hinX12 hown hc hw kl_60 sh_60 rfl (by decide) rfl (hI.to kl_60 tg_60_13) (hts (.fieldLink RX12 37 "RedTentModel" "menOf" "[I") (List.mem_cons_of_mem _ tw_5_133)) (fun _ h9 => h9) dX12_eats_1 ?_
  refine lv_iload_n hx hb dX12_eats_4 rfl (lv_at hl 1 rfl) ?_
  refine fm_iald (a := 113) hx hb hc hw hI kl_113 sh_113 ty_113 bd_113 (by omega) dX12_eats_5 (fun x1 ex1 bx1 => ?_)
  refine lv_istore_n (lv' := [(2, .int x1), (0, .ref (ad 60 0)), (1, .int p0)]) hx hb dX12_eats_6 rfl hl (by decide) rfl (fun ls hl => ?_)
  refine lv_aload_n hx hb dX12_eats_7 rfl (lv_at hl 1 rfl) ?_
  refine fm_getG (a := 60) (j := 10) (T := TX12) (N := 79) hx hb hts hinX12 hown hc hw kl_60 sh_60 rfl (by decide) rfl (hI.to kl_60 tg_60_10) (hts (.fieldLink RX12 28 "RedTentModel" "kind" "[I") (List.mem_cons_of_mem _ tw_5_130)) (fun _ h9 => h9) dX12_eats_8 ?_
  refine lv_iload_n hx hb dX12_eats_11 rfl (lv_at hl 2 rfl) ?_
  refine fm_iald (a := 110) hx hb hc hw hI kl_110 sh_110 ty_110 bd_110 (by omega) dX12_eats_12 (fun x2 ex2 bx2 => ?_)
  rcases (show x2.toInt < 1 ∨ 5 < x2.toInt ∨ x2 = 1 ∨ x2 = 2 ∨ x2 = 3 ∨ x2 = 4 ∨ x2 = 5 by simp only [fa_eq, Int32.reduceToInt]; omega) with c3 | c3 | c3 | c3 | c3 | c3 | c3
  · refine lv_tableOut (tgt := 60) hx hb dX12_eats_13 (Or.inl c3) (by decide) ?_
    refine lv_iconst (v := 0) hx hb dX12_eats_60 (by decide) ?_
    have qx2 : x2.toInt = (M.1 110 0 p0.toNatClampNeg).toInt := by rw [ex2]
    have qx1 : x1.toInt = (M.1 113 0 p0.toNatClampNeg).toInt := by rw [ex1]
    exact W.iret (v := 0) hx hb hr (fun t ht hW => ⟨0, rfl, ⟨(by decide), (by unfold rt_eat; have z9 := zk_0; omega)⟩, ht⟩) (fun _ h => absurd h List.not_mem_nil) dX12_eats_61
  · refine lv_tableOut (tgt := 60) hx hb dX12_eats_13 (Or.inr c3) (by decide) ?_
    refine lv_iconst (v := 0) hx hb dX12_eats_60 (by decide) ?_
    have qx2 : x2.toInt = (M.1 110 0 p0.toNatClampNeg).toInt := by rw [ex2]
    have qx1 : x1.toInt = (M.1 113 0 p0.toNatClampNeg).toInt := by rw [ex1]
    exact W.iret (v := 0) hx hb hr (fun t ht hW => ⟨0, rfl, ⟨(by decide), (by unfold rt_eat; have z9 := zk_0; omega)⟩, ht⟩) (fun _ h => absurd h List.not_mem_nil) dX12_eats_61
  · refine lv_tableIn (off := 35) (tgt := 48) hx hb dX12_eats_13 (by rw [c3]; decide) (by rw [c3]; decide) (by rw [c3]; decide) (by decide) ?_
    have zc3 : x2.toInt = 1 := by rw [c3]; rfl
    refine lv_iload_n hx hb dX12_eats_48 rfl (lv_at hl 0 rfl) ?_
    have qx2 : x2.toInt = (M.1 110 0 p0.toNatClampNeg).toInt := by rw [ex2]
    have qx1 : x1.toInt = (M.1 113 0 p0.toNatClampNeg).toInt := by rw [ex1]
    exact W.iret (v := x1) hx hb hr (fun t ht hW => ⟨x1, rfl, ⟨(by omega), (by unfold rt_eat; omega)⟩, ht⟩) (fun _ h => absurd h List.not_mem_nil) dX12_eats_49
  · refine lv_tableIn (off := 47) (tgt := 60) hx hb dX12_eats_13 (by rw [c3]; decide) (by rw [c3]; decide) (by rw [c3]; decide) (by decide) ?_
    have zc3 : x2.toInt = 2 := by rw [c3]; rfl
    refine lv_iconst (v := 0) hx hb dX12_eats_60 (by decide) ?_
    have qx2 : x2.toInt = (M.1 110 0 p0.toNatClampNeg).toInt := by rw [ex2]
    have qx1 : x1.toInt = (M.1 113 0 p0.toNatClampNeg).toInt := by rw [ex1]
    exact W.iret (v := 0) hx hb hr (fun t ht hW => ⟨0, rfl, ⟨(by decide), (by unfold rt_eat; have z9 := zk_0; omega)⟩, ht⟩) (fun _ h => absurd h List.not_mem_nil) dX12_eats_61
  · refine lv_tableIn (off := 37) (tgt := 50) hx hb dX12_eats_13 (by rw [c3]; decide) (by rw [c3]; decide) (by rw [c3]; decide) (by decide) ?_
    have zc3 : x2.toInt = 3 := by rw [c3]; rfl
    refine lv_iload_n hx hb dX12_eats_50 rfl (lv_at hl 0 rfl) ?_
    refine lv_iconst (v := 1) hx hb dX12_eats_51 (by decide) ?_
    refine fx_iadd hx hb dX12_eats_52 rfl zk_1 (by omega) (fun y4 ey4 ty4 => ?_)
    have qx2 : x2.toInt = (M.1 110 0 p0.toNatClampNeg).toInt := by rw [ex2]
    have qx1 : x1.toInt = (M.1 113 0 p0.toNatClampNeg).toInt := by rw [ex1]
    exact W.iret (v := y4) hx hb hr (fun t ht hW => ⟨y4, rfl, ⟨(by omega), (by unfold rt_eat; omega)⟩, ht⟩) (fun _ h => absurd h List.not_mem_nil) dX12_eats_53
  · refine lv_tableIn (off := 41) (tgt := 54) hx hb dX12_eats_13 (by rw [c3]; decide) (by rw [c3]; decide) (by rw [c3]; decide) (by decide) ?_
    have zc3 : x2.toInt = 4 := by rw [c3]; rfl
    refine lv_iconst (v := 2) hx hb dX12_eats_54 (by decide) ?_
    refine lv_iload_n hx hb dX12_eats_55 rfl (lv_at hl 0 rfl) ?_
    refine fx_imul hx hb dX12_eats_56 zk_2 rfl (by omega) (fun y5 ey5 ty5 => ?_)
    have qx2 : x2.toInt = (M.1 110 0 p0.toNatClampNeg).toInt := by rw [ex2]
    have qx1 : x1.toInt = (M.1 113 0 p0.toNatClampNeg).toInt := by rw [ex1]
    exact W.iret (v := y5) hx hb hr (fun t ht hW => ⟨y5, rfl, ⟨(by omega), (by unfold rt_eat; omega)⟩, ht⟩) (fun _ h => absurd h List.not_mem_nil) dX12_eats_57
  · refine lv_tableIn (off := 45) (tgt := 58) hx hb dX12_eats_13 (by rw [c3]; decide) (by rw [c3]; decide) (by rw [c3]; decide) (by decide) ?_
    have zc3 : x2.toInt = 5 := by rw [c3]; rfl
    refine lv_iconst (v := 1) hx hb dX12_eats_58 (by decide) ?_
    have qx2 : x2.toInt = (M.1 110 0 p0.toNatClampNeg).toInt := by rw [ex2]
    have qx1 : x1.toInt = (M.1 113 0 p0.toNatClampNeg).toInt := by rw [ex1]
    exact W.iret (v := 1) hx hb hr (fun t ht hW => ⟨1, rfl, ⟨(by decide), (by unfold rt_eat; have z9 := zk_1; omega)⟩, ht⟩) (fun _ h => absurd h List.not_mem_nil) dX12_eats_59
set_option maxHeartbeats 400000 in
set_option maxRecDepth 20000 in
theorem fc_X12_burns (l : Launch) (D : va_G) (ad : Nat → Nat → Nat) (C : Nat → Nat → ClassId) (nb : Nat) (M : fm_M) (hI : fm_I nb ad M) (p0 : Int32) (b_p0 : 0 ≤ p0.toInt ∧ p0.toInt ≤ 11) : Met l yX12_burns wsX12_burns ({ frames := 0, cells := 0, slots := 0, locals := 0 }) (va_Pc [.ref (ad 60 0), .int p0] (fm_P D ad C nb M)) (vp_Si (fun r : Int32 => (1 ≤ r.toInt ∧ r.toInt ≤ 6))) 0 0 (fun _ => False) := by
  refine Met.ofW (cc := cX12_burns) (maxL := 2) (ret := (some .int)) (by decide) rfl ?_
  intro p e s m args below meth c s₁ B hml hv
  obtain ⟨rfl, hw, hc⟩ := hv
  have hx := B.exec
  have hb := B.bytes
  have hr := B.returns
  have hts := atoms_spec (ws := wsX12_burns) B.pre
  have hown : s.vm.findClass RX12 = some m.cls := findClass_of_methodNamed B.named
  have hinX12 : ∀ w ∈ u_ws RX12 TX12 79, w ∈ wsX12_burns := fun w h => List.mem_cons_of_mem _ (iT_X12 w h)
  have hS : va_S (fm_A nb ad) s.heap s.heap [] := va_S.rf
  have hl := lv_entry ([.ref (ad 60 0), .int p0]) (n := 2) (Nat.le_of_ble_eq_true rfl)
  rw [lg_entry_eq]
  generalize (lg_sl ([.ref (ad 60 0), .int p0]) ++ List.replicate (2 - (lg_sl ([.ref (ad 60 0), .int p0])).length) Slot.unset).toArray = ls at hl ⊢
  have hl : lv_has ls 2 [(0, .ref (ad 60 0)), (1, .int p0)] := hl
  refine lv_aload_n hx hb dX12_burns_0 rfl (lv_at hl 0 rfl) ?_
  refine fm_getG (a := 60) (j := 10) (T := TX12) (N := 79) hx hb hts hinX12 hown hc hw kl_60 sh_60 rfl (by decide) rfl (hI.to kl_60 tg_60_10) (hts (.fieldLink RX12 28 "RedTentModel" "kind" "[I") (List.mem_cons_of_mem _ tw_5_130)) (fun _ h9 => h9) dX12_burns_1 ?_
  refine lv_iload_n hx hb dX12_burns_4 rfl (lv_at hl 1 rfl) ?_
  refine fm_iald (a := 110) hx hb hc hw hI kl_110 sh_110 ty_110 bd_110 (by omega) dX12_burns_5 (fun x1 ex1 bx1 => ?_)
  refine lv_iconst (v := 2) hx hb dX12_burns_6 (by decide) ?_
  refine fx_icmp_ne (tgt := 14) hx hb dX12_burns_7 (by decide) rfl zk_2 (fun c2 => ?_) (fun c2 => ?_)
  · refine lv_aload_n hx hb dX12_burns_14 rfl (lv_at hl 0 rfl) ?_
    refine fm_getG (a := 60) (j := 10) (T := TX12) (N := 79) hx hb hts hinX12 hown hc hw kl_60 sh_60 rfl (by decide) rfl (hI.to kl_60 tg_60_10) (hts (.fieldLink RX12 28 "RedTentModel" "kind" "[I") (List.mem_cons_of_mem _ tw_5_130)) (fun _ h9 => h9) dX12_burns_15 ?_
    refine lv_iload_n hx hb dX12_burns_18 rfl (lv_at hl 1 rfl) ?_
    refine fm_iald (a := 110) hx hb hc hw hI kl_110 sh_110 ty_110 bd_110 (by omega) dX12_burns_19 (fun x3 ex3 bx3 => ?_)
    obtain rfl : x1 = x3 := by rw [ex3]; exact ex1
    refine lv_iconst (v := 5) hx hb dX12_burns_20 (by decide) ?_
    refine fx_icmp_ne (tgt := 29) hx hb dX12_burns_21 (by decide) rfl zk_5 (fun c4 => ?_) (fun c4 => ?_)
    · refine lv_iconst (v := 1) hx hb dX12_burns_29 (by decide) ?_
      exact W.iret (v := 1) hx hb hr (fun t ht hW => ⟨1, rfl, (by decide), ht⟩) (fun _ h => absurd h List.not_mem_nil) dX12_burns_30
    · refine lv_bipush (v := 6) hx hb dX12_burns_24 (by decide) ?_
      refine lv_goto (tgt := 30) hx hb dX12_burns_26 (by decide) ?_
      exact W.iret (v := 6) hx hb hr (fun t ht hW => ⟨6, rfl, (by decide), ht⟩) (fun _ h => absurd h List.not_mem_nil) dX12_burns_30
  · refine lv_iconst (v := 3) hx hb dX12_burns_10 (by decide) ?_
    refine lv_goto (tgt := 30) hx hb dX12_burns_11 (by decide) ?_
    exact W.iret (v := 3) hx hb hr (fun t ht hW => ⟨3, rfl, (by decide), ht⟩) (fun _ h => absurd h List.not_mem_nil) dX12_burns_30
set_option maxHeartbeats 400000 in
set_option maxRecDepth 20000 in
theorem fc_X12_fogIn (l : Launch) (D : va_G) (ad : Nat → Nat → Nat) (C : Nat → Nat → ClassId) (nb : Nat) (M : fm_M) (hI : fm_I nb ad M) (p0 : Int32) : Met l yX12_fogIn wsX12_fogIn ({ frames := 0, cells := 0, slots := 0, locals := 0 }) (va_Pc [.ref (ad 60 0), .int p0] (fm_P D ad C nb M)) (vp_Si (fun r : Int32 => (0 ≤ r.toInt ∧ r.toInt ≤ 16))) 0 0 (fun _ => False) := by
  refine Met.ofW (cc := cX12_fogIn) (maxL := 4) (ret := (some .int)) (by decide) rfl ?_
  intro p e s m args below meth c s₁ B hml hv
  obtain ⟨rfl, hw, hc⟩ := hv
  have hx := B.exec
  have hb := B.bytes
  have hr := B.returns
  have hts := atoms_spec (ws := wsX12_fogIn) B.pre
  have hown : s.vm.findClass RX12 = some m.cls := findClass_of_methodNamed B.named
  have hinX12 : ∀ w ∈ u_ws RX12 TX12 79, w ∈ wsX12_fogIn := fun w h => List.mem_cons_of_mem _ (iT_X12 w h)
  have hS : va_S (fm_A nb ad) s.heap s.heap [] := va_S.rf
  have hl := lv_entry ([.ref (ad 60 0), .int p0]) (n := 4) (Nat.le_of_ble_eq_true rfl)
  rw [lg_entry_eq]
  generalize (lg_sl ([.ref (ad 60 0), .int p0]) ++ List.replicate (4 - (lg_sl ([.ref (ad 60 0), .int p0])).length) Slot.unset).toArray = ls at hl ⊢
  have hl : lv_has ls 4 [(0, .ref (ad 60 0)), (1, .int p0)] := hl
  refine lv_iconst (v := 0) hx hb dX12_fogIn_0 (by decide) ?_
  refine lv_istore_n (lv' := [(2, .int 0), (0, .ref (ad 60 0)), (1, .int p0)]) hx hb dX12_fogIn_1 rfl hl (by decide) rfl (fun ls hl => ?_)
  refine lv_iconst (v := 0) hx hb dX12_fogIn_2 (by decide) ?_
  refine lv_istore_n (lv' := [(3, .int 0), (2, .int 0), (0, .ref (ad 60 0)), (1, .int p0)]) hx hb dX12_fogIn_3 rfl hl (by decide) rfl (fun ls hl => ?_)
  have lp : ∀ (n_lp : Nat) (lp_3 : Int32) (lp_2 : Int32), (30 - lp_3.toInt).toNat < n_lp → (0 ≤ lp_3.toInt ∧ lp_3.toInt ≤ 30) → (0 ≤ lp_2.toInt ∧ lp_2.toInt ≤ 16) → ∀ (ls : Array Slot), lv_has ls 4 [(3, .int lp_3), (2, .int lp_2), (0, .ref (ad 60 0)), (1, .int p0)] → W p l e (headSpec wsX12_fogIn ({ frames := 0, cells := 0, slots := 0, locals := 0 })).room s m ([.ref (ad 60 0), .int p0] : List Value).toArray below meth c s.heap [] 0 0 (MQ below (vp_Si (fun r : Int32 => (0 ≤ r.toInt ∧ r.toInt ≤ 16))) ([.ref (ad 60 0), .int p0] : List Value).toArray s 0 0 (fun _ => False)) (F0 m 4 ls []) := by
    intro n_lp
    induction n_lp with
    | zero => intro lp_3 lp_2 hm_lp b_lp_3 b_lp_2 ls hl; exact absurd hm_lp (Nat.not_lt_zero _)
    | succ n_lp ih_lp =>
      intro lp_3 lp_2 hm_lp b_lp_3 b_lp_2 ls hl
      refine lv_iload_n hx hb dX12_fogIn_4 rfl (lv_at hl 0 rfl) ?_
      refine lv_aload_n hx hb dX12_fogIn_5 rfl (lv_at hl 2 rfl) ?_
      refine fm_getI (a := 60) (j := 9) (T := TX12) (N := 79) hx hb hts hinX12 hown hc hw hI kl_60 sh_60 rfl (by decide) rfl bd_60_9 (hts (.fieldLink RX12 214 "RedTentModel" "fogs" "I") (List.mem_cons_of_mem _ tw_5_129)) (fun _ h9 => h9) dX12_fogIn_6 (fun x1 ex1 bx1 => ?_)
      refine fx_icmp_ge (tgt := 49) hx hb dX12_fogIn_9 (by decide) rfl rfl (fun c2 => ?_) (fun c2 => ?_)
      · refine lv_iload_n hx hb dX12_fogIn_49 rfl (lv_at hl 1 rfl) ?_
        exact W.iret (v := lp_2) hx hb hr (fun t ht hW => ⟨lp_2, rfl, (by omega), ht⟩) (fun _ h => absurd h List.not_mem_nil) dX12_fogIn_50
      · refine lv_iload_n hx hb dX12_fogIn_12 rfl (lv_at hl 3 rfl) ?_
        refine lv_aload_n hx hb dX12_fogIn_13 rfl (lv_at hl 2 rfl) ?_
        refine fm_getG (a := 60) (j := 6) (T := TX12) (N := 79) hx hb hts hinX12 hown hc hw kl_60 sh_60 rfl (by decide) rfl (hI.to kl_60 tg_60_6) (hts (.fieldLink RX12 19 "RedTentModel" "fogFrom" "[I") (List.mem_cons_of_mem _ tw_5_126)) (fun _ h9 => h9) dX12_fogIn_14 ?_
        refine lv_iload_n hx hb dX12_fogIn_17 rfl (lv_at hl 0 rfl) ?_
        refine fm_iald (a := 106) hx hb hc hw hI kl_106 sh_106 ty_106 bd_106 (by omega) dX12_fogIn_18 (fun x3 ex3 bx3 => ?_)
        refine fx_icmp_lt (tgt := 41) hx hb dX12_fogIn_19 (by decide) rfl rfl (fun c4 => ?_) (fun c4 => ?_)
        · refine lv_iload_n hx hb dX12_fogIn_41 rfl (lv_at hl 1 rfl) ?_
          refine lv_istore_n (lv' := [(2, .int lp_2), (3, .int lp_3), (0, .ref (ad 60 0)), (1, .int p0)]) hx hb dX12_fogIn_42 rfl hl (by decide) rfl (fun ls hl => ?_)
          obtain ⟨y5, ey5⟩ : ∃ y : Int32, y = lp_3 + 1 := ⟨_, rfl⟩
          have ty5 : y5.toInt = lp_3.toInt + 1 := by rw [ey5, zi_add _ _ (by rw [zk_1]; omega) (by rw [zk_1]; omega), zk_1]
          refine lv_iinc (v := y5) (lv' := [(3, .int y5), (2, .int lp_2), (0, .ref (ad 60 0)), (1, .int p0)]) hx hb dX12_fogIn_43 hl (k := 1) rfl (by rw [ey5]; rfl) (by decide) rfl (fun ls hl => ?_)
          refine lv_goto (tgt := 4) hx hb dX12_fogIn_46 (by decide) ?_
          exact ih_lp y5 lp_2 (by omega) (by omega) (by omega) ls (lv_sub hl [0, 1, 2, 3] rfl)
        · refine lv_iload_n hx hb dX12_fogIn_22 rfl (lv_at hl 3 rfl) ?_
          refine lv_aload_n hx hb dX12_fogIn_23 rfl (lv_at hl 2 rfl) ?_
          refine fm_getG (a := 60) (j := 7) (T := TX12) (N := 79) hx hb hts hinX12 hown hc hw kl_60 sh_60 rfl (by decide) rfl (hI.to kl_60 tg_60_7) (hts (.fieldLink RX12 22 "RedTentModel" "fogTo" "[I") (List.mem_cons_of_mem _ tw_5_127)) (fun _ h9 => h9) dX12_fogIn_24 ?_
          refine lv_iload_n hx hb dX12_fogIn_27 rfl (lv_at hl 0 rfl) ?_
          refine fm_iald (a := 107) hx hb hc hw hI kl_107 sh_107 ty_107 bd_107 (by omega) dX12_fogIn_28 (fun x6 ex6 bx6 => ?_)
          refine fx_icmp_ge (tgt := 41) hx hb dX12_fogIn_29 (by decide) rfl rfl (fun c7 => ?_) (fun c7 => ?_)
          · refine lv_iload_n hx hb dX12_fogIn_41 rfl (lv_at hl 1 rfl) ?_
            refine lv_istore_n (lv' := [(2, .int lp_2), (3, .int lp_3), (0, .ref (ad 60 0)), (1, .int p0)]) hx hb dX12_fogIn_42 rfl hl (by decide) rfl (fun ls hl => ?_)
            obtain ⟨y8, ey8⟩ : ∃ y : Int32, y = lp_3 + 1 := ⟨_, rfl⟩
            have ty8 : y8.toInt = lp_3.toInt + 1 := by rw [ey8, zi_add _ _ (by rw [zk_1]; omega) (by rw [zk_1]; omega), zk_1]
            refine lv_iinc (v := y8) (lv' := [(3, .int y8), (2, .int lp_2), (0, .ref (ad 60 0)), (1, .int p0)]) hx hb dX12_fogIn_43 hl (k := 1) rfl (by rw [ey8]; rfl) (by decide) rfl (fun ls hl => ?_)
            refine lv_goto (tgt := 4) hx hb dX12_fogIn_46 (by decide) ?_
            exact ih_lp y8 lp_2 (by omega) (by omega) (by omega) ls (lv_sub hl [0, 1, 2, 3] rfl)
          · refine lv_aload_n hx hb dX12_fogIn_32 rfl (lv_at hl 2 rfl) ?_
            refine fm_getG (a := 60) (j := 8) (T := TX12) (N := 79) hx hb hts hinX12 hown hc hw kl_60 sh_60 rfl (by decide) rfl (hI.to kl_60 tg_60_8) (hts (.fieldLink RX12 25 "RedTentModel" "fogIs" "[I") (List.mem_cons_of_mem _ tw_5_128)) (fun _ h9 => h9) dX12_fogIn_33 ?_
            refine lv_iload_n hx hb dX12_fogIn_36 rfl (lv_at hl 0 rfl) ?_
            refine fm_iald (a := 108) hx hb hc hw hI kl_108 sh_108 ty_108 bd_108 (by omega) dX12_fogIn_37 (fun x9 ex9 bx9 => ?_)
            refine lv_goto (tgt := 42) hx hb dX12_fogIn_38 (by decide) ?_
            refine lv_istore_n (lv' := [(2, .int x9), (3, .int lp_3), (0, .ref (ad 60 0)), (1, .int p0)]) hx hb dX12_fogIn_42 rfl hl (by decide) rfl (fun ls hl => ?_)
            obtain ⟨y10, ey10⟩ : ∃ y : Int32, y = lp_3 + 1 := ⟨_, rfl⟩
            have ty10 : y10.toInt = lp_3.toInt + 1 := by rw [ey10, zi_add _ _ (by rw [zk_1]; omega) (by rw [zk_1]; omega), zk_1]
            refine lv_iinc (v := y10) (lv' := [(3, .int y10), (2, .int x9), (0, .ref (ad 60 0)), (1, .int p0)]) hx hb dX12_fogIn_43 hl (k := 1) rfl (by rw [ey10]; rfl) (by decide) rfl (fun ls hl => ?_)
            refine lv_goto (tgt := 4) hx hb dX12_fogIn_46 (by decide) ?_
            exact ih_lp y10 x9 (by omega) (by omega) (by omega) ls (lv_sub hl [0, 1, 2, 3] rfl)
  exact lp _ 0 0 (Nat.lt_succ_self _) (by decide) (by decide) ls (lv_sub hl [0, 1, 2, 3] rfl)
set_option maxHeartbeats 400000 in
set_option maxRecDepth 20000 in
theorem fc_X12_drifted (l : Launch) (D : va_G) (ad : Nat → Nat → Nat) (C : Nat → Nat → ClassId) (nb : Nat) (M : fm_M) (hI : fm_I nb ad M) (p0 p1 : Int32) (p2 : Int64) (b_p0 : 0 ≤ p0.toInt ∧ p0.toInt ≤ 11) (b_p1 : 0 ≤ p1.toInt ∧ p1.toInt ≤ 239) : Met l yX12_drifted wsX12_drifted ({ frames := 1, cells := 0, slots := 0, locals := 22 }) (va_Pc [.ref (ad 60 0), .int p0, .int p1, .long p2] (fm_P D ad C nb M)) (vp_Sl (fun r : Int64 => True)) 0 0 (fun _ => False) := by
  refine Met.ofW (cc := cX12_drifted) (maxL := 17) (ret := (some .long)) (by decide) rfl ?_
  intro p e s m args below meth c s₁ B hml hv
  obtain ⟨rfl, hw, hc⟩ := hv
  have hx := B.exec
  have hb := B.bytes
  have hr := B.returns
  have hts := atoms_spec (ws := wsX12_drifted) B.pre
  have hown : s.vm.findClass RX12 = some m.cls := findClass_of_methodNamed B.named
  have hinX12 : ∀ w ∈ u_ws RX12 TX12 79, w ∈ wsX12_drifted := fun w h => List.mem_cons_of_mem _ (iT_X12 w h)
  have hS : va_S (fm_A nb ad) s.heap s.heap [] := va_S.rf
  have hl := lv_entry ([.ref (ad 60 0), .int p0, .int p1, .long p2]) (n := 17) (Nat.le_of_ble_eq_true rfl)
  rw [lg_entry_eq]
  generalize (lg_sl ([.ref (ad 60 0), .int p0, .int p1, .long p2]) ++ List.replicate (17 - (lg_sl ([.ref (ad 60 0), .int p0, .int p1, .long p2])).length) Slot.unset).toArray = ls at hl ⊢
  have hl : lv_has ls 17 [(0, .ref (ad 60 0)), (1, .int p0), (2, .int p1), (3, .long p2)] := hl
  refine lv_sipush (v := 2222) hx hb dX12_drifted_0 (by decide) ?_
  refine lv_istore (lv' := [(5, .int 2222), (0, .ref (ad 60 0)), (1, .int p0), (2, .int p1), (3, .long p2)]) hx hb dX12_drifted_3 hl (by decide) rfl (fun ls hl => ?_)
  refine lv_iconst (v := 0) hx hb dX12_drifted_5 (by decide) ?_
  refine lv_istore (lv' := [(6, .int 0), (5, .int 2222), (0, .ref (ad 60 0)), (1, .int p0), (2, .int p1), (3, .long p2)]) hx hb dX12_drifted_6 hl (by decide) rfl (fun ls hl => ?_)
  have lp : ∀ (n_lp : Nat) (lp_6 : Int32) (lp_5 : Int32), (30 - lp_6.toInt).toNat < n_lp → (0 ≤ lp_6.toInt ∧ lp_6.toInt ≤ 30) → (0 ≤ lp_5.toInt ∧ lp_5.toInt ≤ 4444) → ∀ (ls : Array Slot), lv_has ls 17 [(6, .int lp_6), (5, .int lp_5), (0, .ref (ad 60 0)), (1, .int p0), (2, .int p1), (3, .long p2)] → W p l e (headSpec wsX12_drifted ({ frames := 1, cells := 0, slots := 0, locals := 22 })).room s m ([.ref (ad 60 0), .int p0, .int p1, .long p2] : List Value).toArray below meth c s.heap [] 0 0 (MQ below (vp_Sl (fun r : Int64 => True)) ([.ref (ad 60 0), .int p0, .int p1, .long p2] : List Value).toArray s 0 0 (fun _ => False)) (F0 m 8 ls []) := by
    intro n_lp
    induction n_lp with
    | zero => intro lp_6 lp_5 hm_lp b_lp_6 b_lp_5 ls hl; exact absurd hm_lp (Nat.not_lt_zero _)
    | succ n_lp ih_lp =>
      intro lp_6 lp_5 hm_lp b_lp_6 b_lp_5 ls hl
      refine lv_iload hx hb dX12_drifted_8 (lv_at hl 0 rfl) ?_
      refine lv_aload_n hx hb dX12_drifted_10 rfl (lv_at hl 2 rfl) ?_
      refine fm_getI (a := 60) (j := 5) (T := TX12) (N := 79) hx hb hts hinX12 hown hc hw hI kl_60 sh_60 rfl (by decide) rfl bd_60_5 (hts (.fieldLink RX12 211 "RedTentModel" "winds" "I") (List.mem_cons_of_mem _ tw_5_125)) (fun _ h9 => h9) dX12_drifted_11 (fun x1 ex1 bx1 => ?_)
      refine fx_icmp_ge (tgt := 59) hx hb dX12_drifted_14 (by decide) rfl rfl (fun c2 => ?_) (fun c2 => ?_)
      · have j1 : ∀ (j1_6 : Int32), (0 ≤ j1_6.toInt ∧ j1_6.toInt ≤ 1) → ∀ (ls : Array Slot), lv_has ls 17 [(5, .int lp_5), (0, .ref (ad 60 0)), (1, .int p0), (2, .int p1), (3, .long p2), (6, .int j1_6)] → W p l e (headSpec wsX12_drifted ({ frames := 1, cells := 0, slots := 0, locals := 22 })).room s m ([.ref (ad 60 0), .int p0, .int p1, .long p2] : List Value).toArray below meth c s.heap [] 0 0 (MQ below (vp_Sl (fun r : Int64 => True)) ([.ref (ad 60 0), .int p0, .int p1, .long p2] : List Value).toArray s 0 0 (fun _ => False)) (F0 m 92 ls []) := by
          intro j1_6 b_j1_6 ls hl
          have j2 : ∀ (j2_7 : Int32), (0 ≤ j2_7.toInt ∧ j2_7.toInt ≤ 1) → ∀ (ls : Array Slot), lv_has ls 17 [(5, .int lp_5), (0, .ref (ad 60 0)), (1, .int p0), (2, .int p1), (3, .long p2), (6, .int j1_6), (7, .int j2_7)] → W p l e (headSpec wsX12_drifted ({ frames := 1, cells := 0, slots := 0, locals := 22 })).room s m ([.ref (ad 60 0), .int p0, .int p1, .long p2] : List Value).toArray below meth c s.heap [] 0 0 (MQ below (vp_Sl (fun r : Int64 => True)) ([.ref (ad 60 0), .int p0, .int p1, .long p2] : List Value).toArray s 0 0 (fun _ => False)) (F0 m 109 ls []) := by
            intro j2_7 b_j2_7 ls hl
            have j3 : ∀ (j3_8 : Int32), ((-3) ≤ j3_8.toInt ∧ j3_8.toInt ≤ 3) → ∀ (ls : Array Slot), lv_has ls 17 [(5, .int lp_5), (0, .ref (ad 60 0)), (1, .int p0), (2, .int p1), (3, .long p2), (6, .int j1_6), (7, .int j2_7), (8, .int j3_8)] → W p l e (headSpec wsX12_drifted ({ frames := 1, cells := 0, slots := 0, locals := 22 })).room s m ([.ref (ad 60 0), .int p0, .int p1, .long p2] : List Value).toArray below meth c s.heap [] 0 0 (MQ below (vp_Sl (fun r : Int64 => True)) ([.ref (ad 60 0), .int p0, .int p1, .long p2] : List Value).toArray s 0 0 (fun _ => False)) (F0 m 131 ls []) := by
              intro j3_8 b_j3_8 ls hl
              have j4 : ∀ (j4_9 : Int32), ((-2) ≤ j4_9.toInt ∧ j4_9.toInt ≤ 8) → ∀ (ls : Array Slot), lv_has ls 17 [(5, .int lp_5), (0, .ref (ad 60 0)), (1, .int p0), (2, .int p1), (3, .long p2), (6, .int j1_6), (7, .int j2_7), (8, .int j3_8), (9, .int j4_9)] → W p l e (headSpec wsX12_drifted ({ frames := 1, cells := 0, slots := 0, locals := 22 })).room s m ([.ref (ad 60 0), .int p0, .int p1, .long p2] : List Value).toArray below meth c s.heap [] 0 0 (MQ below (vp_Sl (fun r : Int64 => True)) ([.ref (ad 60 0), .int p0, .int p1, .long p2] : List Value).toArray s 0 0 (fun _ => False)) (F0 m 155 ls []) := by
                intro j4_9 b_j4_9 ls hl
                have j5 : ∀ (j5_10 : Int32), ((-3) ≤ j5_10.toInt ∧ j5_10.toInt ≤ 8) → ∀ (ls : Array Slot), lv_has ls 17 [(5, .int lp_5), (0, .ref (ad 60 0)), (1, .int p0), (2, .int p1), (3, .long p2), (6, .int j1_6), (7, .int j2_7), (8, .int j3_8), (9, .int j4_9), (10, .int j5_10)] → W p l e (headSpec wsX12_drifted ({ frames := 1, cells := 0, slots := 0, locals := 22 })).room s m ([.ref (ad 60 0), .int p0, .int p1, .long p2] : List Value).toArray below meth c s.heap [] 0 0 (MQ below (vp_Sl (fun r : Int64 => True)) ([.ref (ad 60 0), .int p0, .int p1, .long p2] : List Value).toArray s 0 0 (fun _ => False)) (F0 m 179 ls []) := by
                  intro j5_10 b_j5_10 ls hl
                  have j6 : ∀ (j6_11 : Int32), ((-2) ≤ j6_11.toInt ∧ j6_11.toInt ≤ 8) → ∀ (ls : Array Slot), lv_has ls 17 [(5, .int lp_5), (0, .ref (ad 60 0)), (1, .int p0), (2, .int p1), (3, .long p2), (6, .int j1_6), (7, .int j2_7), (8, .int j3_8), (9, .int j4_9), (10, .int j5_10), (11, .int j6_11)] → W p l e (headSpec wsX12_drifted ({ frames := 1, cells := 0, slots := 0, locals := 22 })).room s m ([.ref (ad 60 0), .int p0, .int p1, .long p2] : List Value).toArray below meth c s.heap [] 0 0 (MQ below (vp_Sl (fun r : Int64 => True)) ([.ref (ad 60 0), .int p0, .int p1, .long p2] : List Value).toArray s 0 0 (fun _ => False)) (F0 m 200 ls []) := by
                    intro j6_11 b_j6_11 ls hl
                    refine lv_lconst (v := 0) hx hb dX12_drifted_200 (by decide) ?_
                    refine lv_lstore (lv' := [(12, .long 0), (5, .int lp_5), (0, .ref (ad 60 0)), (1, .int p0), (2, .int p1), (3, .long p2), (6, .int j1_6), (7, .int j2_7), (8, .int j3_8), (9, .int j4_9), (10, .int j5_10), (11, .int j6_11)]) hx hb dX12_drifted_201 hl (by decide) rfl (fun ls hl => ?_)
                    refine lv_iconst (v := 0) hx hb dX12_drifted_203 (by decide) ?_
                    refine lv_istore (lv' := [(14, .int 0), (12, .long 0), (5, .int lp_5), (0, .ref (ad 60 0)), (1, .int p0), (2, .int p1), (3, .long p2), (6, .int j1_6), (7, .int j2_7), (8, .int j3_8), (9, .int j4_9), (10, .int j5_10), (11, .int j6_11)]) hx hb dX12_drifted_204 hl (by decide) rfl (fun ls hl => ?_)
                    have lk : ∀ (n_lk : Nat) (lk_14 : Int32) (lk_12 : Int64), (64 - lk_14.toInt).toNat < n_lk → (0 ≤ lk_14.toInt ∧ lk_14.toInt ≤ 64) → ∀ (ls : Array Slot), lv_has ls 17 [(14, .int lk_14), (12, .long lk_12), (5, .int lp_5), (0, .ref (ad 60 0)), (1, .int p0), (2, .int p1), (3, .long p2), (6, .int j1_6), (7, .int j2_7), (8, .int j3_8), (9, .int j4_9), (10, .int j5_10), (11, .int j6_11)] → W p l e (headSpec wsX12_drifted ({ frames := 1, cells := 0, slots := 0, locals := 22 })).room s m ([.ref (ad 60 0), .int p0, .int p1, .long p2] : List Value).toArray below meth c s.heap [] 0 0 (MQ below (vp_Sl (fun r : Int64 => True)) ([.ref (ad 60 0), .int p0, .int p1, .long p2] : List Value).toArray s 0 0 (fun _ => False)) (F0 m 206 ls []) := by
                      intro n_lk
                      induction n_lk with
                      | zero => intro lk_14 lk_12 hm_lk b_lk_14 ls hl; exact absurd hm_lk (Nat.not_lt_zero _)
                      | succ n_lk ih_lk =>
                        intro lk_14 lk_12 hm_lk b_lk_14 ls hl
                        refine lv_iload hx hb dX12_drifted_206 (lv_at hl 0 rfl) ?_
                        refine lv_bipush (v := 64) hx hb dX12_drifted_208 (by decide) ?_
                        refine fx_icmp_ge (tgt := 329) hx hb dX12_drifted_210 (by decide) rfl zk_64 (fun c3 => ?_) (fun c3 => ?_)
                        · refine lv_lload hx hb dX12_drifted_329 (lv_at hl 1 rfl) ?_
                          exact W.lret (v := lk_12) hx hb hr (fun t ht hW => ⟨lk_12, rfl, trivial, ht⟩) (fun _ h => absurd h List.not_mem_nil) dX12_drifted_331
                        · refine lv_lload_n hx hb dX12_drifted_213 rfl (lv_at hl 6 rfl) ?_
                          refine lv_iload hx hb dX12_drifted_214 (lv_at hl 0 rfl) ?_
                          refine lv_lushr (v := (p2.toUInt64 >>> (lk_14.toInt64.toUInt64 &&& Int64.toUInt64 63)).toInt64) hx hb dX12_drifted_216 rfl ?_
                          refine lv_topl (fun y4 ey4 => ?_)
                          refine lv_lconst (v := 1) hx hb dX12_drifted_217 (by decide) ?_
                          refine lv_land hx hb dX12_drifted_218 ?_
                          refine lv_topl (fun y5 ey5 => ?_)
                          refine lv_lconst (v := 1) hx hb dX12_drifted_219 (by decide) ?_
                          refine W.lcmp hx hb dX12_drifted_220 ?_
                          refine fx_lif_ne (tgt := 323) hx hb dX12_drifted_221 (by decide) (fun c6 => ?_) (fun c6 => ?_)
                          · obtain ⟨y7, ey7⟩ : ∃ y : Int32, y = lk_14 + 1 := ⟨_, rfl⟩
                            have ty7 : y7.toInt = lk_14.toInt + 1 := by rw [ey7, zi_add _ _ (by rw [zk_1]; omega) (by rw [zk_1]; omega), zk_1]
                            refine lv_iinc (v := y7) (lv' := [(14, .int y7), (12, .long lk_12), (5, .int lp_5), (0, .ref (ad 60 0)), (1, .int p0), (2, .int p1), (3, .long p2), (6, .int j1_6), (7, .int j2_7), (8, .int j3_8), (9, .int j4_9), (10, .int j5_10), (11, .int j6_11)]) hx hb dX12_drifted_323 hl (k := 0) rfl (by rw [ey7]; rfl) (by decide) rfl (fun ls hl => ?_)
                            refine lv_goto (tgt := 206) hx hb dX12_drifted_326 (by decide) ?_
                            exact ih_lk y7 lk_12 (by omega) (by omega) ls (lv_sub hl [0, 1, 2, 3, 4, 5, 6, 7, 8, 9, 10, 11, 12] rfl)
                          · refine lv_iload hx hb dX12_drifted_224 (lv_at hl 0 rfl) ?_
                            refine lv_bipush (v := 8) hx hb dX12_drifted_226 (by decide) ?_
                            refine fx_irem hx hb dX12_drifted_228 rfl zk_8 (by omega) (by omega) (fun y8 ey8 ty8 => ?_)
                            refine lv_iload hx hb dX12_drifted_229 (lv_at hl 9 rfl) ?_
                            refine fx_iadd hx hb dX12_drifted_231 rfl rfl (by omega) (fun y9 ey9 ty9 => ?_)
                            refine lv_istore (lv' := [(15, .int y9), (14, .int lk_14), (12, .long lk_12), (5, .int lp_5), (0, .ref (ad 60 0)), (1, .int p0), (2, .int p1), (3, .long p2), (6, .int j1_6), (7, .int j2_7), (8, .int j3_8), (9, .int j4_9), (10, .int j5_10), (11, .int j6_11)]) hx hb dX12_drifted_232 hl (by decide) rfl (fun ls hl => ?_)
                            have lx : ∀ (n_lx : Nat) (lx_15 : Int32) (lx_12 : Int64), (16 - lx_15.toInt).toNat < n_lx → ((-3) ≤ lx_15.toInt ∧ lx_15.toInt ≤ 16) → ∀ (ls : Array Slot), lv_has ls 17 [(15, .int lx_15), (14, .int lk_14), (12, .long lx_12), (5, .int lp_5), (0, .ref (ad 60 0)), (1, .int p0), (2, .int p1), (3, .long p2), (6, .int j1_6), (7, .int j2_7), (8, .int j3_8), (9, .int j4_9), (10, .int j5_10), (11, .int j6_11)] → W p l e (headSpec wsX12_drifted ({ frames := 1, cells := 0, slots := 0, locals := 22 })).room s m ([.ref (ad 60 0), .int p0, .int p1, .long p2] : List Value).toArray below meth c s.heap [] 0 0 (MQ below (vp_Sl (fun r : Int64 => True)) ([.ref (ad 60 0), .int p0, .int p1, .long p2] : List Value).toArray s 0 0 (fun _ => False)) (F0 m 234 ls []) := by
                              intro n_lx
                              induction n_lx with
                              | zero => intro lx_15 lx_12 hm_lx b_lx_15 ls hl; exact absurd hm_lx (Nat.not_lt_zero _)
                              | succ n_lx ih_lx =>
                                intro lx_15 lx_12 hm_lx b_lx_15 ls hl
                                refine lv_iload hx hb dX12_drifted_234 (lv_at hl 0 rfl) ?_
                                refine lv_iload hx hb dX12_drifted_236 (lv_at hl 1 rfl) ?_
                                refine lv_bipush (v := 8) hx hb dX12_drifted_238 (by decide) ?_
                                refine fx_irem hx hb dX12_drifted_240 rfl zk_8 (by omega) (by omega) (fun y10 ey10 ty10 => ?_)
                                refine lv_iload hx hb dX12_drifted_241 (lv_at hl 11 rfl) ?_
                                refine fx_iadd hx hb dX12_drifted_243 rfl rfl (by omega) (fun y11 ey11 ty11 => ?_)
                                refine fx_icmp_gt (tgt := 323) hx hb dX12_drifted_244 (by decide) rfl rfl (fun c12 => ?_) (fun c12 => ?_)
                                · obtain ⟨y13, ey13⟩ : ∃ y : Int32, y = lk_14 + 1 := ⟨_, rfl⟩
                                  have ty13 : y13.toInt = lk_14.toInt + 1 := by rw [ey13, zi_add _ _ (by rw [zk_1]; omega) (by rw [zk_1]; omega), zk_1]
                                  refine lv_iinc (v := y13) (lv' := [(14, .int y13), (15, .int lx_15), (12, .long lx_12), (5, .int lp_5), (0, .ref (ad 60 0)), (1, .int p0), (2, .int p1), (3, .long p2), (6, .int j1_6), (7, .int j2_7), (8, .int j3_8), (9, .int j4_9), (10, .int j5_10), (11, .int j6_11)]) hx hb dX12_drifted_323 hl (k := 1) rfl (by rw [ey13]; rfl) (by decide) rfl (fun ls hl => ?_)
                                  refine lv_goto (tgt := 206) hx hb dX12_drifted_326 (by decide) ?_
                                  exact ih_lk y13 lx_12 (by omega) (by omega) ls (lv_sub hl [0, 2, 3, 4, 5, 6, 7, 8, 9, 10, 11, 12, 13] rfl)
                                · refine lv_iload hx hb dX12_drifted_247 (lv_at hl 1 rfl) ?_
                                  refine lv_bipush (v := 8) hx hb dX12_drifted_249 (by decide) ?_
                                  refine fx_idiv hx hb dX12_drifted_251 rfl zk_8 (by omega) (by omega) (fun y14 ey14 ty14 => ?_)
                                  refine lv_iload hx hb dX12_drifted_252 (lv_at hl 12 rfl) ?_
                                  refine fx_iadd hx hb dX12_drifted_254 rfl rfl (by omega) (fun y15 ey15 ty15 => ?_)
                                  refine lv_istore (lv' := [(16, .int y15), (15, .int lx_15), (14, .int lk_14), (12, .long lx_12), (5, .int lp_5), (0, .ref (ad 60 0)), (1, .int p0), (2, .int p1), (3, .long p2), (6, .int j1_6), (7, .int j2_7), (8, .int j3_8), (9, .int j4_9), (10, .int j5_10), (11, .int j6_11)]) hx hb dX12_drifted_255 hl (by decide) rfl (fun ls hl => ?_)
                                  have ly : ∀ (n_ly : Nat) (ly_16 : Int32) (ly_12 : Int64), (16 - ly_16.toInt).toNat < n_ly → ((-3) ≤ ly_16.toInt ∧ ly_16.toInt ≤ 16) → ∀ (ls : Array Slot), lv_has ls 17 [(16, .int ly_16), (15, .int lx_15), (14, .int lk_14), (12, .long ly_12), (5, .int lp_5), (0, .ref (ad 60 0)), (1, .int p0), (2, .int p1), (3, .long p2), (6, .int j1_6), (7, .int j2_7), (8, .int j3_8), (9, .int j4_9), (10, .int j5_10), (11, .int j6_11)] → W p l e (headSpec wsX12_drifted ({ frames := 1, cells := 0, slots := 0, locals := 22 })).room s m ([.ref (ad 60 0), .int p0, .int p1, .long p2] : List Value).toArray below meth c s.heap [] 0 0 (MQ below (vp_Sl (fun r : Int64 => True)) ([.ref (ad 60 0), .int p0, .int p1, .long p2] : List Value).toArray s 0 0 (fun _ => False)) (F0 m 257 ls []) := by
                                    intro n_ly
                                    induction n_ly with
                                    | zero => intro ly_16 ly_12 hm_ly b_ly_16 ls hl; exact absurd hm_ly (Nat.not_lt_zero _)
                                    | succ n_ly ih_ly =>
                                      intro ly_16 ly_12 hm_ly b_ly_16 ls hl
                                      refine lv_iload hx hb dX12_drifted_257 (lv_at hl 0 rfl) ?_
                                      refine lv_iload hx hb dX12_drifted_259 (lv_at hl 2 rfl) ?_
                                      refine lv_bipush (v := 8) hx hb dX12_drifted_261 (by decide) ?_
                                      refine fx_idiv hx hb dX12_drifted_263 rfl zk_8 (by omega) (by omega) (fun y16 ey16 ty16 => ?_)
                                      refine lv_iload hx hb dX12_drifted_264 (lv_at hl 14 rfl) ?_
                                      refine fx_iadd hx hb dX12_drifted_266 rfl rfl (by omega) (fun y17 ey17 ty17 => ?_)
                                      refine fx_icmp_gt (tgt := 317) hx hb dX12_drifted_267 (by decide) rfl rfl (fun c18 => ?_) (fun c18 => ?_)
                                      · obtain ⟨y19, ey19⟩ : ∃ y : Int32, y = lx_15 + 1 := ⟨_, rfl⟩
                                        have ty19 : y19.toInt = lx_15.toInt + 1 := by rw [ey19, zi_add _ _ (by rw [zk_1]; omega) (by rw [zk_1]; omega), zk_1]
                                        refine lv_iinc (v := y19) (lv' := [(15, .int y19), (16, .int ly_16), (14, .int lk_14), (12, .long ly_12), (5, .int lp_5), (0, .ref (ad 60 0)), (1, .int p0), (2, .int p1), (3, .long p2), (6, .int j1_6), (7, .int j2_7), (8, .int j3_8), (9, .int j4_9), (10, .int j5_10), (11, .int j6_11)]) hx hb dX12_drifted_317 hl (k := 1) rfl (by rw [ey19]; rfl) (by decide) rfl (fun ls hl => ?_)
                                        refine lv_goto (tgt := 234) hx hb dX12_drifted_320 (by decide) ?_
                                        exact ih_lx y19 ly_12 (by omega) (by omega) ls (lv_sub hl [0, 2, 3, 4, 5, 6, 7, 8, 9, 10, 11, 12, 13, 14] rfl)
                                      · refine lv_lload hx hb dX12_drifted_270 (lv_at hl 3 rfl) ?_
                                        refine lv_iload hx hb dX12_drifted_272 (lv_at hl 1 rfl) ?_
                                        refine lv_iconst (v := 0) hx hb dX12_drifted_274 (by decide) ?_
                                        refine lv_bipush (v := 7) hx hb dX12_drifted_275 (by decide) ?_
                                        have zz20 := zk_0
                                        have zz21 := zk_7
                                        refine vp_callSi (va_Run.run (va_runS (As := [.int lx_15, .int 0, .int 7]) (rest := [.long ly_12]) ⟨hx, hb, hml, hown, hts⟩ (fc_X12_within l lx_15 0 7) (va_cwS 3 hts gX12_drifted_X12_within rfl rfl rfl (by decide +kernel) ⟨Nat.le_of_ble_eq_true rfl, Nat.le_of_ble_eq_true rfl⟩) ⟨fun a U g mk q => q, fun U hU hW => ⟨rfl, trivial⟩⟩ rfl rfl hl.1 rfl (lv_room (Nat.le_of_ble_eq_true rfl)) dX12_drifted_277 ⟨by decide +kernel, by decide +kernel⟩)) (fun r22 hr22 => ?_)
                                        rcases hr22 with ⟨rfl, c23⟩ | ⟨rfl, c23⟩
                                        · refine fx_if_eq (tgt := 307) hx hb dX12_drifted_280 (by decide) zk_1 (fun c24 => by exfalso; omega) (fun c24 => ?_)
                                          refine lv_iload hx hb dX12_drifted_283 (lv_at hl 0 rfl) ?_
                                          refine lv_iconst (v := 0) hx hb dX12_drifted_285 (by decide) ?_
                                          refine lv_bipush (v := 7) hx hb dX12_drifted_286 (by decide) ?_
                                          have zz25 := zk_0
                                          have zz26 := zk_7
                                          refine vp_callSi (va_Run.run (va_runS (As := [.int ly_16, .int 0, .int 7]) (rest := [.long ly_12]) ⟨hx, hb, hml, hown, hts⟩ (fc_X12_within l ly_16 0 7) (va_cwS 3 hts gX12_drifted_X12_within rfl rfl rfl (by decide +kernel) ⟨Nat.le_of_ble_eq_true rfl, Nat.le_of_ble_eq_true rfl⟩) ⟨fun a U g mk q => q, fun U hU hW => ⟨rfl, trivial⟩⟩ rfl rfl hl.1 rfl (lv_room (Nat.le_of_ble_eq_true rfl)) dX12_drifted_288 ⟨by decide +kernel, by decide +kernel⟩)) (fun r27 hr27 => ?_)
                                          rcases hr27 with ⟨rfl, c28⟩ | ⟨rfl, c28⟩
                                          · refine fx_if_eq (tgt := 307) hx hb dX12_drifted_291 (by decide) zk_1 (fun c29 => by exfalso; omega) (fun c29 => ?_)
                                            refine lv_lconst (v := 1) hx hb dX12_drifted_294 (by decide) ?_
                                            refine lv_bipush (v := 8) hx hb dX12_drifted_295 (by decide) ?_
                                            refine lv_iload hx hb dX12_drifted_297 (lv_at hl 0 rfl) ?_
                                            refine fx_imul hx hb dX12_drifted_299 zk_8 rfl (by omega) (fun y30 ey30 ty30 => ?_)
                                            refine lv_iload hx hb dX12_drifted_300 (lv_at hl 1 rfl) ?_
                                            refine fx_iadd hx hb dX12_drifted_302 rfl rfl (by omega) (fun y31 ey31 ty31 => ?_)
                                            refine lv_lshl (v := (1 : Int64) <<< (y31.toInt64 &&& 63)) hx hb dX12_drifted_303 rfl ?_
                                            refine lv_topl (fun y32 ey32 => ?_)
                                            refine lv_goto (tgt := 308) hx hb dX12_drifted_304 (by decide) ?_
                                            refine lv_lor hx hb dX12_drifted_308 ?_
                                            refine lv_topl (fun y33 ey33 => ?_)
                                            refine lv_lstore (lv' := [(12, .long y33), (16, .int ly_16), (15, .int lx_15), (14, .int lk_14), (5, .int lp_5), (0, .ref (ad 60 0)), (1, .int p0), (2, .int p1), (3, .long p2), (6, .int j1_6), (7, .int j2_7), (8, .int j3_8), (9, .int j4_9), (10, .int j5_10), (11, .int j6_11)]) hx hb dX12_drifted_309 hl (by decide) rfl (fun ls hl => ?_)
                                            obtain ⟨y34, ey34⟩ : ∃ y : Int32, y = ly_16 + 1 := ⟨_, rfl⟩
                                            have ty34 : y34.toInt = ly_16.toInt + 1 := by rw [ey34, zi_add _ _ (by rw [zk_1]; omega) (by rw [zk_1]; omega), zk_1]
                                            refine lv_iinc (v := y34) (lv' := [(16, .int y34), (12, .long y33), (15, .int lx_15), (14, .int lk_14), (5, .int lp_5), (0, .ref (ad 60 0)), (1, .int p0), (2, .int p1), (3, .long p2), (6, .int j1_6), (7, .int j2_7), (8, .int j3_8), (9, .int j4_9), (10, .int j5_10), (11, .int j6_11)]) hx hb dX12_drifted_311 hl (k := 1) rfl (by rw [ey34]; rfl) (by decide) rfl (fun ls hl => ?_)
                                            refine lv_goto (tgt := 257) hx hb dX12_drifted_314 (by decide) ?_
                                            exact ih_ly y34 y33 (by omega) (by omega) ls (lv_sub hl [0, 2, 3, 1, 4, 5, 6, 7, 8, 9, 10, 11, 12, 13, 14] rfl)
                                          · refine fx_if_eq (tgt := 307) hx hb dX12_drifted_291 (by decide) zk_0 (fun c35 => ?_) (fun c35 => by exfalso; omega)
                                            refine lv_lconst (v := 0) hx hb dX12_drifted_307 (by decide) ?_
                                            refine lv_lor hx hb dX12_drifted_308 ?_
                                            refine lv_topl (fun y36 ey36 => ?_)
                                            refine lv_lstore (lv' := [(12, .long y36), (16, .int ly_16), (15, .int lx_15), (14, .int lk_14), (5, .int lp_5), (0, .ref (ad 60 0)), (1, .int p0), (2, .int p1), (3, .long p2), (6, .int j1_6), (7, .int j2_7), (8, .int j3_8), (9, .int j4_9), (10, .int j5_10), (11, .int j6_11)]) hx hb dX12_drifted_309 hl (by decide) rfl (fun ls hl => ?_)
                                            obtain ⟨y37, ey37⟩ : ∃ y : Int32, y = ly_16 + 1 := ⟨_, rfl⟩
                                            have ty37 : y37.toInt = ly_16.toInt + 1 := by rw [ey37, zi_add _ _ (by rw [zk_1]; omega) (by rw [zk_1]; omega), zk_1]
                                            refine lv_iinc (v := y37) (lv' := [(16, .int y37), (12, .long y36), (15, .int lx_15), (14, .int lk_14), (5, .int lp_5), (0, .ref (ad 60 0)), (1, .int p0), (2, .int p1), (3, .long p2), (6, .int j1_6), (7, .int j2_7), (8, .int j3_8), (9, .int j4_9), (10, .int j5_10), (11, .int j6_11)]) hx hb dX12_drifted_311 hl (k := 1) rfl (by rw [ey37]; rfl) (by decide) rfl (fun ls hl => ?_)
                                            refine lv_goto (tgt := 257) hx hb dX12_drifted_314 (by decide) ?_
                                            exact ih_ly y37 y36 (by omega) (by omega) ls (lv_sub hl [0, 2, 3, 1, 4, 5, 6, 7, 8, 9, 10, 11, 12, 13, 14] rfl)
                                        · refine fx_if_eq (tgt := 307) hx hb dX12_drifted_280 (by decide) zk_0 (fun c38 => ?_) (fun c38 => by exfalso; omega)
                                          refine lv_lconst (v := 0) hx hb dX12_drifted_307 (by decide) ?_
                                          refine lv_lor hx hb dX12_drifted_308 ?_
                                          refine lv_topl (fun y39 ey39 => ?_)
                                          refine lv_lstore (lv' := [(12, .long y39), (16, .int ly_16), (15, .int lx_15), (14, .int lk_14), (5, .int lp_5), (0, .ref (ad 60 0)), (1, .int p0), (2, .int p1), (3, .long p2), (6, .int j1_6), (7, .int j2_7), (8, .int j3_8), (9, .int j4_9), (10, .int j5_10), (11, .int j6_11)]) hx hb dX12_drifted_309 hl (by decide) rfl (fun ls hl => ?_)
                                          obtain ⟨y40, ey40⟩ : ∃ y : Int32, y = ly_16 + 1 := ⟨_, rfl⟩
                                          have ty40 : y40.toInt = ly_16.toInt + 1 := by rw [ey40, zi_add _ _ (by rw [zk_1]; omega) (by rw [zk_1]; omega), zk_1]
                                          refine lv_iinc (v := y40) (lv' := [(16, .int y40), (12, .long y39), (15, .int lx_15), (14, .int lk_14), (5, .int lp_5), (0, .ref (ad 60 0)), (1, .int p0), (2, .int p1), (3, .long p2), (6, .int j1_6), (7, .int j2_7), (8, .int j3_8), (9, .int j4_9), (10, .int j5_10), (11, .int j6_11)]) hx hb dX12_drifted_311 hl (k := 1) rfl (by rw [ey40]; rfl) (by decide) rfl (fun ls hl => ?_)
                                          refine lv_goto (tgt := 257) hx hb dX12_drifted_314 (by decide) ?_
                                          exact ih_ly y40 y39 (by omega) (by omega) ls (lv_sub hl [0, 2, 3, 1, 4, 5, 6, 7, 8, 9, 10, 11, 12, 13, 14] rfl)
                                  exact ly _ y15 lx_12 (Nat.lt_succ_self _) (by omega) ls (lv_sub hl [0, 1, 2, 3, 4, 5, 6, 7, 8, 9, 10, 11, 12, 13, 14] rfl)
                            exact lx _ y9 lk_12 (Nat.lt_succ_self _) (by omega) ls (lv_sub hl [0, 1, 2, 3, 4, 5, 6, 7, 8, 9, 10, 11, 12, 13] rfl)
                    exact lk _ 0 0 (Nat.lt_succ_self _) (by decide) ls (lv_sub hl [0, 1, 2, 3, 4, 5, 6, 7, 8, 9, 10, 11, 12] rfl)
                  refine lv_iload hx hb dX12_drifted_179 (lv_at hl 6 rfl) ?_
                  refine fx_if_eq (tgt := 188) hx hb dX12_drifted_181 (by decide) rfl (fun c41 => ?_) (fun c41 => ?_)
                  · refine lv_iload hx hb dX12_drifted_188 (lv_at hl 0 rfl) ?_
                    refine lv_bipush (v := 10) hx hb dX12_drifted_190 (by decide) ?_
                    refine fx_irem hx hb dX12_drifted_192 rfl zk_10 (by omega) (by omega) (fun y42 ey42 ty42 => ?_)
                    refine lv_iconst (v := 2) hx hb dX12_drifted_193 (by decide) ?_
                    refine fx_isub hx hb dX12_drifted_194 rfl zk_2 (by omega) (fun y43 ey43 ty43 => ?_)
                    refine lv_iload hx hb dX12_drifted_195 (lv_at hl 5 rfl) ?_
                    refine fx_iadd hx hb dX12_drifted_197 rfl rfl (by omega) (fun y44 ey44 ty44 => ?_)
                    refine lv_istore (lv' := [(11, .int y44), (5, .int lp_5), (0, .ref (ad 60 0)), (1, .int p0), (2, .int p1), (3, .long p2), (6, .int j1_6), (7, .int j2_7), (8, .int j3_8), (9, .int j4_9), (10, .int j5_10)]) hx hb dX12_drifted_198 hl (by decide) rfl (fun ls hl => ?_)
                    exact j6 y44 (by omega) ls (lv_sub hl [1, 2, 3, 4, 5, 6, 7, 8, 9, 10, 0] rfl)
                  · refine lv_iconst (v := 0) hx hb dX12_drifted_184 (by decide) ?_
                    refine lv_goto (tgt := 198) hx hb dX12_drifted_185 (by decide) ?_
                    refine lv_istore (lv' := [(11, .int 0), (5, .int lp_5), (0, .ref (ad 60 0)), (1, .int p0), (2, .int p1), (3, .long p2), (6, .int j1_6), (7, .int j2_7), (8, .int j3_8), (9, .int j4_9), (10, .int j5_10)]) hx hb dX12_drifted_198 hl (by decide) rfl (fun ls hl => ?_)
                    exact j6 0 (by decide) ls (lv_sub hl [1, 2, 3, 4, 5, 6, 7, 8, 9, 10, 0] rfl)
                refine lv_iload hx hb dX12_drifted_155 (lv_at hl 6 rfl) ?_
                refine fx_if_eq (tgt := 164) hx hb dX12_drifted_157 (by decide) rfl (fun c45 => ?_) (fun c45 => ?_)
                · refine lv_iload hx hb dX12_drifted_164 (lv_at hl 0 rfl) ?_
                  refine lv_bipush (v := 10) hx hb dX12_drifted_166 (by decide) ?_
                  refine fx_idiv hx hb dX12_drifted_168 rfl zk_10 (by omega) (by omega) (fun y46 ey46 ty46 => ?_)
                  refine lv_bipush (v := 10) hx hb dX12_drifted_169 (by decide) ?_
                  refine fx_irem hx hb dX12_drifted_171 rfl zk_10 (by omega) (by omega) (fun y47 ey47 ty47 => ?_)
                  refine lv_iconst (v := 2) hx hb dX12_drifted_172 (by decide) ?_
                  refine fx_isub hx hb dX12_drifted_173 rfl zk_2 (by omega) (fun y48 ey48 ty48 => ?_)
                  refine lv_iload hx hb dX12_drifted_174 (lv_at hl 5 rfl) ?_
                  refine fx_isub hx hb dX12_drifted_176 rfl rfl (by omega) (fun y49 ey49 ty49 => ?_)
                  refine lv_istore (lv' := [(10, .int y49), (5, .int lp_5), (0, .ref (ad 60 0)), (1, .int p0), (2, .int p1), (3, .long p2), (6, .int j1_6), (7, .int j2_7), (8, .int j3_8), (9, .int j4_9)]) hx hb dX12_drifted_177 hl (by decide) rfl (fun ls hl => ?_)
                  exact j5 y49 (by omega) ls (lv_sub hl [1, 2, 3, 4, 5, 6, 7, 8, 9, 0] rfl)
                · refine lv_iconst (v := 0) hx hb dX12_drifted_160 (by decide) ?_
                  refine lv_goto (tgt := 177) hx hb dX12_drifted_161 (by decide) ?_
                  refine lv_istore (lv' := [(10, .int 0), (5, .int lp_5), (0, .ref (ad 60 0)), (1, .int p0), (2, .int p1), (3, .long p2), (6, .int j1_6), (7, .int j2_7), (8, .int j3_8), (9, .int j4_9)]) hx hb dX12_drifted_177 hl (by decide) rfl (fun ls hl => ?_)
                  exact j5 0 (by decide) ls (lv_sub hl [1, 2, 3, 4, 5, 6, 7, 8, 9, 0] rfl)
              refine lv_iload hx hb dX12_drifted_131 (lv_at hl 6 rfl) ?_
              refine fx_if_eq (tgt := 140) hx hb dX12_drifted_133 (by decide) rfl (fun c50 => ?_) (fun c50 => ?_)
              · refine lv_iload hx hb dX12_drifted_140 (lv_at hl 0 rfl) ?_
                refine lv_bipush (v := 100) hx hb dX12_drifted_142 (by decide) ?_
                refine fx_idiv hx hb dX12_drifted_144 rfl zk_100 (by omega) (by omega) (fun y51 ey51 ty51 => ?_)
                refine lv_bipush (v := 10) hx hb dX12_drifted_145 (by decide) ?_
                refine fx_irem hx hb dX12_drifted_147 rfl zk_10 (by omega) (by omega) (fun y52 ey52 ty52 => ?_)
                refine lv_iconst (v := 2) hx hb dX12_drifted_148 (by decide) ?_
                refine fx_isub hx hb dX12_drifted_149 rfl zk_2 (by omega) (fun y53 ey53 ty53 => ?_)
                refine lv_iload hx hb dX12_drifted_150 (lv_at hl 5 rfl) ?_
                refine fx_iadd hx hb dX12_drifted_152 rfl rfl (by omega) (fun y54 ey54 ty54 => ?_)
                refine lv_istore (lv' := [(9, .int y54), (5, .int lp_5), (0, .ref (ad 60 0)), (1, .int p0), (2, .int p1), (3, .long p2), (6, .int j1_6), (7, .int j2_7), (8, .int j3_8)]) hx hb dX12_drifted_153 hl (by decide) rfl (fun ls hl => ?_)
                exact j4 y54 (by omega) ls (lv_sub hl [1, 2, 3, 4, 5, 6, 7, 8, 0] rfl)
              · refine lv_iconst (v := 0) hx hb dX12_drifted_136 (by decide) ?_
                refine lv_goto (tgt := 153) hx hb dX12_drifted_137 (by decide) ?_
                refine lv_istore (lv' := [(9, .int 0), (5, .int lp_5), (0, .ref (ad 60 0)), (1, .int p0), (2, .int p1), (3, .long p2), (6, .int j1_6), (7, .int j2_7), (8, .int j3_8)]) hx hb dX12_drifted_153 hl (by decide) rfl (fun ls hl => ?_)
                exact j4 0 (by decide) ls (lv_sub hl [1, 2, 3, 4, 5, 6, 7, 8, 0] rfl)
            refine lv_iload hx hb dX12_drifted_109 (lv_at hl 6 rfl) ?_
            refine fx_if_eq (tgt := 118) hx hb dX12_drifted_111 (by decide) rfl (fun c55 => ?_) (fun c55 => ?_)
            · refine lv_iload hx hb dX12_drifted_118 (lv_at hl 0 rfl) ?_
              refine lv_sipush (v := 1000) hx hb dX12_drifted_120 (by decide) ?_
              refine fx_idiv hx hb dX12_drifted_123 rfl zk_1000 (by omega) (by omega) (fun y56 ey56 ty56 => ?_)
              refine lv_iconst (v := 2) hx hb dX12_drifted_124 (by decide) ?_
              refine fx_isub hx hb dX12_drifted_125 rfl zk_2 (by omega) (fun y57 ey57 ty57 => ?_)
              refine lv_iload hx hb dX12_drifted_126 (lv_at hl 5 rfl) ?_
              refine fx_isub hx hb dX12_drifted_128 rfl rfl (by omega) (fun y58 ey58 ty58 => ?_)
              refine lv_istore (lv' := [(8, .int y58), (5, .int lp_5), (0, .ref (ad 60 0)), (1, .int p0), (2, .int p1), (3, .long p2), (6, .int j1_6), (7, .int j2_7)]) hx hb dX12_drifted_129 hl (by decide) rfl (fun ls hl => ?_)
              exact j3 y58 (by omega) ls (lv_sub hl [1, 2, 3, 4, 5, 6, 7, 0] rfl)
            · refine lv_iconst (v := 0) hx hb dX12_drifted_114 (by decide) ?_
              refine lv_goto (tgt := 129) hx hb dX12_drifted_115 (by decide) ?_
              refine lv_istore (lv' := [(8, .int 0), (5, .int lp_5), (0, .ref (ad 60 0)), (1, .int p0), (2, .int p1), (3, .long p2), (6, .int j1_6), (7, .int j2_7)]) hx hb dX12_drifted_129 hl (by decide) rfl (fun ls hl => ?_)
              exact j3 0 (by decide) ls (lv_sub hl [1, 2, 3, 4, 5, 6, 7, 0] rfl)
          refine lv_aload_n hx hb dX12_drifted_92 rfl (lv_at hl 1 rfl) ?_
          refine fm_getG (a := 60) (j := 10) (T := TX12) (N := 79) hx hb hts hinX12 hown hc hw kl_60 sh_60 rfl (by decide) rfl (hI.to kl_60 tg_60_10) (hts (.fieldLink RX12 28 "RedTentModel" "kind" "[I") (List.mem_cons_of_mem _ tw_5_130)) (fun _ h9 => h9) dX12_drifted_93 ?_
          refine lv_iload_n hx hb dX12_drifted_96 rfl (lv_at hl 2 rfl) ?_
          refine fm_iald (a := 110) hx hb hc hw hI kl_110 sh_110 ty_110 bd_110 (by omega) dX12_drifted_97 (fun x59 ex59 bx59 => ?_)
          refine lv_iconst (v := 2) hx hb dX12_drifted_98 (by decide) ?_
          refine fx_icmp_ne (tgt := 106) hx hb dX12_drifted_99 (by decide) rfl zk_2 (fun c60 => ?_) (fun c60 => ?_)
          · refine lv_iconst (v := 0) hx hb dX12_drifted_106 (by decide) ?_
            refine lv_istore (lv' := [(7, .int 0), (5, .int lp_5), (0, .ref (ad 60 0)), (1, .int p0), (2, .int p1), (3, .long p2), (6, .int j1_6)]) hx hb dX12_drifted_107 hl (by decide) rfl (fun ls hl => ?_)
            exact j2 0 (by decide) ls (lv_sub hl [1, 2, 3, 4, 5, 6, 0] rfl)
          · refine lv_iconst (v := 1) hx hb dX12_drifted_102 (by decide) ?_
            refine lv_goto (tgt := 107) hx hb dX12_drifted_103 (by decide) ?_
            refine lv_istore (lv' := [(7, .int 1), (5, .int lp_5), (0, .ref (ad 60 0)), (1, .int p0), (2, .int p1), (3, .long p2), (6, .int j1_6)]) hx hb dX12_drifted_107 hl (by decide) rfl (fun ls hl => ?_)
            exact j2 1 (by decide) ls (lv_sub hl [1, 2, 3, 4, 5, 6, 0] rfl)
        refine lv_aload_n hx hb dX12_drifted_59 rfl (lv_at hl 2 rfl) ?_
        refine fm_getG (a := 60) (j := 10) (T := TX12) (N := 79) hx hb hts hinX12 hown hc hw kl_60 sh_60 rfl (by decide) rfl (hI.to kl_60 tg_60_10) (hts (.fieldLink RX12 28 "RedTentModel" "kind" "[I") (List.mem_cons_of_mem _ tw_5_130)) (fun _ h9 => h9) dX12_drifted_60 ?_
        refine lv_iload_n hx hb dX12_drifted_63 rfl (lv_at hl 3 rfl) ?_
        refine fm_iald (a := 110) hx hb hc hw hI kl_110 sh_110 ty_110 bd_110 (by omega) dX12_drifted_64 (fun x61 ex61 bx61 => ?_)
        refine lv_iconst (v := 3) hx hb dX12_drifted_65 (by decide) ?_
        refine fx_icmp_eq (tgt := 85) hx hb dX12_drifted_66 (by decide) rfl zk_3 (fun c62 => ?_) (fun c62 => ?_)
        · refine lv_iconst (v := 1) hx hb dX12_drifted_85 (by decide) ?_
          refine lv_goto (tgt := 90) hx hb dX12_drifted_86 (by decide) ?_
          refine lv_istore (lv' := [(6, .int 1), (5, .int lp_5), (0, .ref (ad 60 0)), (1, .int p0), (2, .int p1), (3, .long p2)]) hx hb dX12_drifted_90 hl (by decide) rfl (fun ls hl => ?_)
          exact j1 1 (by decide) ls (lv_sub hl [1, 2, 3, 4, 5, 0] rfl)
        · refine lv_aload_n hx hb dX12_drifted_69 rfl (lv_at hl 2 rfl) ?_
          refine fm_getG (a := 60) (j := 10) (T := TX12) (N := 79) hx hb hts hinX12 hown hc hw kl_60 sh_60 rfl (by decide) rfl (hI.to kl_60 tg_60_10) (hts (.fieldLink RX12 28 "RedTentModel" "kind" "[I") (List.mem_cons_of_mem _ tw_5_130)) (fun _ h9 => h9) dX12_drifted_70 ?_
          refine lv_iload_n hx hb dX12_drifted_73 rfl (lv_at hl 3 rfl) ?_
          refine fm_iald (a := 110) hx hb hc hw hI kl_110 sh_110 ty_110 bd_110 (by omega) dX12_drifted_74 (fun x63 ex63 bx63 => ?_)
          obtain rfl : x61 = x63 := by rw [ex63]; exact ex61
          refine lv_iconst (v := 4) hx hb dX12_drifted_75 (by decide) ?_
          refine fx_icmp_ne (tgt := 89) hx hb dX12_drifted_76 (by decide) rfl zk_4 (fun c64 => ?_) (fun c64 => ?_)
          · refine lv_iconst (v := 0) hx hb dX12_drifted_89 (by decide) ?_
            refine lv_istore (lv' := [(6, .int 0), (5, .int lp_5), (0, .ref (ad 60 0)), (1, .int p0), (2, .int p1), (3, .long p2)]) hx hb dX12_drifted_90 hl (by decide) rfl (fun ls hl => ?_)
            exact j1 0 (by decide) ls (lv_sub hl [1, 2, 3, 4, 5, 0] rfl)
          · refine lv_iload_n hx hb dX12_drifted_79 rfl (lv_at hl 4 rfl) ?_
            refine lv_iconst (v := 4) hx hb dX12_drifted_80 (by decide) ?_
            refine fx_irem hx hb dX12_drifted_81 rfl zk_4 (by omega) (by omega) (fun y65 ey65 ty65 => ?_)
            refine fx_if_ne (tgt := 89) hx hb dX12_drifted_82 (by decide) rfl (fun c66 => ?_) (fun c66 => ?_)
            · refine lv_iconst (v := 0) hx hb dX12_drifted_89 (by decide) ?_
              refine lv_istore (lv' := [(6, .int 0), (5, .int lp_5), (0, .ref (ad 60 0)), (1, .int p0), (2, .int p1), (3, .long p2)]) hx hb dX12_drifted_90 hl (by decide) rfl (fun ls hl => ?_)
              exact j1 0 (by decide) ls (lv_sub hl [1, 2, 3, 4, 5, 0] rfl)
            · refine lv_iconst (v := 1) hx hb dX12_drifted_85 (by decide) ?_
              refine lv_goto (tgt := 90) hx hb dX12_drifted_86 (by decide) ?_
              refine lv_istore (lv' := [(6, .int 1), (5, .int lp_5), (0, .ref (ad 60 0)), (1, .int p0), (2, .int p1), (3, .long p2)]) hx hb dX12_drifted_90 hl (by decide) rfl (fun ls hl => ?_)
              exact j1 1 (by decide) ls (lv_sub hl [1, 2, 3, 4, 5, 0] rfl)
      · refine lv_iload_n hx hb dX12_drifted_17 rfl (lv_at hl 4 rfl) ?_
        refine lv_aload_n hx hb dX12_drifted_18 rfl (lv_at hl 2 rfl) ?_
        refine fm_getG (a := 60) (j := 2) (T := TX12) (N := 79) hx hb hts hinX12 hown hc hw kl_60 sh_60 rfl (by decide) rfl (hI.to kl_60 tg_60_2) (hts (.fieldLink RX12 9 "RedTentModel" "windFrom" "[I") (List.mem_cons_of_mem _ tw_5_122)) (fun _ h9 => h9) dX12_drifted_19 ?_
        refine lv_iload hx hb dX12_drifted_22 (lv_at hl 0 rfl) ?_
        refine fm_iald (a := 102) hx hb hc hw hI kl_102 sh_102 ty_102 bd_102 (by omega) dX12_drifted_24 (fun x67 ex67 bx67 => ?_)
        refine fx_icmp_lt (tgt := 49) hx hb dX12_drifted_25 (by decide) rfl rfl (fun c68 => ?_) (fun c68 => ?_)
        · refine lv_iload hx hb dX12_drifted_49 (lv_at hl 1 rfl) ?_
          refine lv_istore (lv' := [(5, .int lp_5), (6, .int lp_6), (0, .ref (ad 60 0)), (1, .int p0), (2, .int p1), (3, .long p2)]) hx hb dX12_drifted_51 hl (by decide) rfl (fun ls hl => ?_)
          obtain ⟨y69, ey69⟩ : ∃ y : Int32, y = lp_6 + 1 := ⟨_, rfl⟩
          have ty69 : y69.toInt = lp_6.toInt + 1 := by rw [ey69, zi_add _ _ (by rw [zk_1]; omega) (by rw [zk_1]; omega), zk_1]
          refine lv_iinc (v := y69) (lv' := [(6, .int y69), (5, .int lp_5), (0, .ref (ad 60 0)), (1, .int p0), (2, .int p1), (3, .long p2)]) hx hb dX12_drifted_53 hl (k := 1) rfl (by rw [ey69]; rfl) (by decide) rfl (fun ls hl => ?_)
          refine lv_goto (tgt := 8) hx hb dX12_drifted_56 (by decide) ?_
          exact ih_lp y69 lp_5 (by omega) (by omega) (by omega) ls (lv_sub hl [0, 1, 2, 3, 4, 5] rfl)
        · refine lv_iload_n hx hb dX12_drifted_28 rfl (lv_at hl 4 rfl) ?_
          refine lv_aload_n hx hb dX12_drifted_29 rfl (lv_at hl 2 rfl) ?_
          refine fm_getG (a := 60) (j := 3) (T := TX12) (N := 79) hx hb hts hinX12 hown hc hw kl_60 sh_60 rfl (by decide) rfl (hI.to kl_60 tg_60_3) (hts (.fieldLink RX12 13 "RedTentModel" "windTo" "[I") (List.mem_cons_of_mem _ tw_5_123)) (fun _ h9 => h9) dX12_drifted_30 ?_
          refine lv_iload hx hb dX12_drifted_33 (lv_at hl 0 rfl) ?_
          refine fm_iald (a := 103) hx hb hc hw hI kl_103 sh_103 ty_103 bd_103 (by omega) dX12_drifted_35 (fun x70 ex70 bx70 => ?_)
          refine fx_icmp_ge (tgt := 49) hx hb dX12_drifted_36 (by decide) rfl rfl (fun c71 => ?_) (fun c71 => ?_)
          · refine lv_iload hx hb dX12_drifted_49 (lv_at hl 1 rfl) ?_
            refine lv_istore (lv' := [(5, .int lp_5), (6, .int lp_6), (0, .ref (ad 60 0)), (1, .int p0), (2, .int p1), (3, .long p2)]) hx hb dX12_drifted_51 hl (by decide) rfl (fun ls hl => ?_)
            obtain ⟨y72, ey72⟩ : ∃ y : Int32, y = lp_6 + 1 := ⟨_, rfl⟩
            have ty72 : y72.toInt = lp_6.toInt + 1 := by rw [ey72, zi_add _ _ (by rw [zk_1]; omega) (by rw [zk_1]; omega), zk_1]
            refine lv_iinc (v := y72) (lv' := [(6, .int y72), (5, .int lp_5), (0, .ref (ad 60 0)), (1, .int p0), (2, .int p1), (3, .long p2)]) hx hb dX12_drifted_53 hl (k := 1) rfl (by rw [ey72]; rfl) (by decide) rfl (fun ls hl => ?_)
            refine lv_goto (tgt := 8) hx hb dX12_drifted_56 (by decide) ?_
            exact ih_lp y72 lp_5 (by omega) (by omega) (by omega) ls (lv_sub hl [0, 1, 2, 3, 4, 5] rfl)
          · refine lv_aload_n hx hb dX12_drifted_39 rfl (lv_at hl 2 rfl) ?_
            refine fm_getG (a := 60) (j := 4) (T := TX12) (N := 79) hx hb hts hinX12 hown hc hw kl_60 sh_60 rfl (by decide) rfl (hI.to kl_60 tg_60_4) (hts (.fieldLink RX12 16 "RedTentModel" "windBy" "[I") (List.mem_cons_of_mem _ tw_5_124)) (fun _ h9 => h9) dX12_drifted_40 ?_
            refine lv_iload hx hb dX12_drifted_43 (lv_at hl 0 rfl) ?_
            refine fm_iald (a := 104) hx hb hc hw hI kl_104 sh_104 ty_104 bd_104 (by omega) dX12_drifted_45 (fun x73 ex73 bx73 => ?_)
            refine lv_goto (tgt := 51) hx hb dX12_drifted_46 (by decide) ?_
            refine lv_istore (lv' := [(5, .int x73), (6, .int lp_6), (0, .ref (ad 60 0)), (1, .int p0), (2, .int p1), (3, .long p2)]) hx hb dX12_drifted_51 hl (by decide) rfl (fun ls hl => ?_)
            obtain ⟨y74, ey74⟩ : ∃ y : Int32, y = lp_6 + 1 := ⟨_, rfl⟩
            have ty74 : y74.toInt = lp_6.toInt + 1 := by rw [ey74, zi_add _ _ (by rw [zk_1]; omega) (by rw [zk_1]; omega), zk_1]
            refine lv_iinc (v := y74) (lv' := [(6, .int y74), (5, .int x73), (0, .ref (ad 60 0)), (1, .int p0), (2, .int p1), (3, .long p2)]) hx hb dX12_drifted_53 hl (k := 1) rfl (by rw [ey74]; rfl) (by decide) rfl (fun ls hl => ?_)
            refine lv_goto (tgt := 8) hx hb dX12_drifted_56 (by decide) ?_
            exact ih_lp y74 x73 (by omega) (by omega) (by omega) ls (lv_sub hl [0, 1, 2, 3, 4, 5] rfl)
  exact lp _ 0 2222 (Nat.lt_succ_self _) (by decide) (by decide) ls (lv_sub hl [0, 1, 2, 3, 4, 5] rfl)
set_option maxHeartbeats 400000 in
set_option maxRecDepth 20000 in
theorem fc_X12_narrowed (l : Launch) (D : va_G) (ad : Nat → Nat → Nat) (C : Nat → Nat → ClassId) (nb : Nat) (M : fm_M) (hI : fm_I nb ad M) (p0 p1 p2 : Int32) (p3 : Int64) : Met l yX12_narrowed wsX12_narrowed ({ frames := 0, cells := 0, slots := 0, locals := 0 }) (va_Pc [.ref (ad 60 0), .int p0, .int p1, .int p2, .long p3] (fm_P D ad C nb M)) (vp_Sl (fun r : Int64 => True)) 0 0 (fun _ => False) := by
  refine Met.ofW (cc := cX12_narrowed) (maxL := 9) (ret := (some .long)) (by decide) rfl ?_
  intro p e s m args below meth c s₁ B hml hv
  obtain ⟨rfl, hw, hc⟩ := hv
  have hx := B.exec
  have hb := B.bytes
  have hr := B.returns
  have hts := atoms_spec (ws := wsX12_narrowed) B.pre
  have hown : s.vm.findClass RX12 = some m.cls := findClass_of_methodNamed B.named
  have hinX12 : ∀ w ∈ u_ws RX12 TX12 79, w ∈ wsX12_narrowed := fun w h => List.mem_cons_of_mem _ (iT_X12 w h)
  have hS : va_S (fm_A nb ad) s.heap s.heap [] := va_S.rf
  have hl := lv_entry ([.ref (ad 60 0), .int p0, .int p1, .int p2, .long p3]) (n := 9) (Nat.le_of_ble_eq_true rfl)
  rw [lg_entry_eq]
  generalize (lg_sl ([.ref (ad 60 0), .int p0, .int p1, .int p2, .long p3]) ++ List.replicate (9 - (lg_sl ([.ref (ad 60 0), .int p0, .int p1, .int p2, .long p3])).length) Slot.unset).toArray = ls at hl ⊢
  have hl : lv_has ls 9 [(0, .ref (ad 60 0)), (1, .int p0), (2, .int p1), (3, .int p2), (4, .long p3)] := hl
  refine lv_lload hx hb dX12_narrowed_0 (lv_at hl 4 rfl) ?_
  refine lv_lstore (lv' := [(6, .long p3), (0, .ref (ad 60 0)), (1, .int p0), (2, .int p1), (3, .int p2), (4, .long p3)]) hx hb dX12_narrowed_2 hl (by decide) rfl (fun ls hl => ?_)
  refine lv_iconst (v := 0) hx hb dX12_narrowed_4 (by decide) ?_
  refine lv_istore (lv' := [(8, .int 0), (6, .long p3), (0, .ref (ad 60 0)), (1, .int p0), (2, .int p1), (3, .int p2), (4, .long p3)]) hx hb dX12_narrowed_5 hl (by decide) rfl (fun ls hl => ?_)
  have lp : ∀ (n_lp : Nat) (lp_8 : Int32) (lp_6 : Int64), (40 - lp_8.toInt).toNat < n_lp → (0 ≤ lp_8.toInt ∧ lp_8.toInt ≤ 40) → ∀ (ls : Array Slot), lv_has ls 9 [(8, .int lp_8), (6, .long lp_6), (0, .ref (ad 60 0)), (1, .int p0), (2, .int p1), (3, .int p2), (4, .long p3)] → W p l e (headSpec wsX12_narrowed ({ frames := 0, cells := 0, slots := 0, locals := 0 })).room s m ([.ref (ad 60 0), .int p0, .int p1, .int p2, .long p3] : List Value).toArray below meth c s.heap [] 0 0 (MQ below (vp_Sl (fun r : Int64 => True)) ([.ref (ad 60 0), .int p0, .int p1, .int p2, .long p3] : List Value).toArray s 0 0 (fun _ => False)) (F0 m 7 ls []) := by
    intro n_lp
    induction n_lp with
    | zero => intro lp_8 lp_6 hm_lp b_lp_8 ls hl; exact absurd hm_lp (Nat.not_lt_zero _)
    | succ n_lp ih_lp =>
      intro lp_8 lp_6 hm_lp b_lp_8 ls hl
      refine lv_iload hx hb dX12_narrowed_7 (lv_at hl 0 rfl) ?_
      refine lv_aload_n hx hb dX12_narrowed_9 rfl (lv_at hl 2 rfl) ?_
      refine fm_getI (a := 60) (j := 21) (T := TX12) (N := 79) hx hb hts hinX12 hown hc hw hI kl_60 sh_60 rfl (by decide) rfl bd_60_21 (hts (.fieldLink RX12 223 "RedTentModel" "fixings" "I") (List.mem_cons_of_mem _ tw_5_141)) (fun _ h9 => h9) dX12_narrowed_10 (fun x1 ex1 bx1 => ?_)
      refine fx_icmp_ge (tgt := 73) hx hb dX12_narrowed_13 (by decide) rfl rfl (fun c2 => ?_) (fun c2 => ?_)
      · refine lv_lload hx hb dX12_narrowed_73 (lv_at hl 1 rfl) ?_
        exact W.lret (v := lp_6) hx hb hr (fun t ht hW => ⟨lp_6, rfl, trivial, ht⟩) (fun _ h => absurd h List.not_mem_nil) dX12_narrowed_75
      · refine lv_lload hx hb dX12_narrowed_16 (lv_at hl 1 rfl) ?_
        refine lv_aload_n hx hb dX12_narrowed_18 rfl (lv_at hl 2 rfl) ?_
        refine fm_getG (a := 60) (j := 17) (T := TX12) (N := 79) hx hb hts hinX12 hown hc hw kl_60 sh_60 rfl (by decide) rfl (hI.to kl_60 tg_60_17) (hts (.fieldLink RX12 46 "RedTentModel" "fixBody" "[I") (List.mem_cons_of_mem _ tw_5_137)) (fun _ h9 => h9) dX12_narrowed_19 ?_
        refine lv_iload hx hb dX12_narrowed_22 (lv_at hl 0 rfl) ?_
        refine fm_iald (a := 117) hx hb hc hw hI kl_117 sh_117 ty_117 bd_117 (by omega) dX12_narrowed_24 (fun x3 ex3 bx3 => ?_)
        refine lv_iload_n hx hb dX12_narrowed_25 rfl (lv_at hl 3 rfl) ?_
        refine fx_icmp_ne (tgt := 61) hx hb dX12_narrowed_26 (by decide) rfl rfl (fun c4 => ?_) (fun c4 => ?_)
        · refine lv_ldc2 (v := (-1)) hx hb hown (hts (.constantLong RX12 226 (-1)) (List.mem_cons_of_mem _ tw_6_172)) dX12_narrowed_61 ?_
          refine lv_land hx hb dX12_narrowed_64 ?_
          refine lv_topl (fun y5 ey5 => ?_)
          refine lv_lstore (lv' := [(6, .long y5), (8, .int lp_8), (0, .ref (ad 60 0)), (1, .int p0), (2, .int p1), (3, .int p2), (4, .long p3)]) hx hb dX12_narrowed_65 hl (by decide) rfl (fun ls hl => ?_)
          obtain ⟨y6, ey6⟩ : ∃ y : Int32, y = lp_8 + 1 := ⟨_, rfl⟩
          have ty6 : y6.toInt = lp_8.toInt + 1 := by rw [ey6, zi_add _ _ (by rw [zk_1]; omega) (by rw [zk_1]; omega), zk_1]
          refine lv_iinc (v := y6) (lv' := [(8, .int y6), (6, .long y5), (0, .ref (ad 60 0)), (1, .int p0), (2, .int p1), (3, .int p2), (4, .long p3)]) hx hb dX12_narrowed_67 hl (k := 1) rfl (by rw [ey6]; rfl) (by decide) rfl (fun ls hl => ?_)
          refine lv_goto (tgt := 7) hx hb dX12_narrowed_70 (by decide) ?_
          exact ih_lp y6 y5 (by omega) (by omega) ls (lv_sub hl [0, 1, 2, 3, 4, 5, 6] rfl)
        · refine lv_aload_n hx hb dX12_narrowed_29 rfl (lv_at hl 2 rfl) ?_
          refine fm_getG (a := 60) (j := 18) (T := TX12) (N := 79) hx hb hts hinX12 hown hc hw kl_60 sh_60 rfl (by decide) rfl (hI.to kl_60 tg_60_18) (hts (.fieldLink RX12 49 "RedTentModel" "fixHour" "[I") (List.mem_cons_of_mem _ tw_5_138)) (fun _ h9 => h9) dX12_narrowed_30 ?_
          refine lv_iload hx hb dX12_narrowed_33 (lv_at hl 0 rfl) ?_
          refine fm_iald (a := 118) hx hb hc hw hI kl_118 sh_118 ty_118 bd_118 (by omega) dX12_narrowed_35 (fun x7 ex7 bx7 => ?_)
          refine lv_iload_n hx hb dX12_narrowed_36 rfl (lv_at hl 4 rfl) ?_
          refine fx_icmp_ne (tgt := 61) hx hb dX12_narrowed_37 (by decide) rfl rfl (fun c8 => ?_) (fun c8 => ?_)
          · refine lv_ldc2 (v := (-1)) hx hb hown (hts (.constantLong RX12 226 (-1)) (List.mem_cons_of_mem _ tw_6_172)) dX12_narrowed_61 ?_
            refine lv_land hx hb dX12_narrowed_64 ?_
            refine lv_topl (fun y9 ey9 => ?_)
            refine lv_lstore (lv' := [(6, .long y9), (8, .int lp_8), (0, .ref (ad 60 0)), (1, .int p0), (2, .int p1), (3, .int p2), (4, .long p3)]) hx hb dX12_narrowed_65 hl (by decide) rfl (fun ls hl => ?_)
            obtain ⟨y10, ey10⟩ : ∃ y : Int32, y = lp_8 + 1 := ⟨_, rfl⟩
            have ty10 : y10.toInt = lp_8.toInt + 1 := by rw [ey10, zi_add _ _ (by rw [zk_1]; omega) (by rw [zk_1]; omega), zk_1]
            refine lv_iinc (v := y10) (lv' := [(8, .int y10), (6, .long y9), (0, .ref (ad 60 0)), (1, .int p0), (2, .int p1), (3, .int p2), (4, .long p3)]) hx hb dX12_narrowed_67 hl (k := 1) rfl (by rw [ey10]; rfl) (by decide) rfl (fun ls hl => ?_)
            refine lv_goto (tgt := 7) hx hb dX12_narrowed_70 (by decide) ?_
            exact ih_lp y10 y9 (by omega) (by omega) ls (lv_sub hl [0, 1, 2, 3, 4, 5, 6] rfl)
          · refine lv_aload_n hx hb dX12_narrowed_40 rfl (lv_at hl 2 rfl) ?_
            refine fm_getG (a := 60) (j := 20) (T := TX12) (N := 79) hx hb hts hinX12 hown hc hw kl_60 sh_60 rfl (by decide) rfl (hI.to kl_60 tg_60_20) (hts (.fieldLink RX12 56 "RedTentModel" "fixTold" "[I") (List.mem_cons_of_mem _ tw_5_140)) (fun _ h9 => h9) dX12_narrowed_41 ?_
            refine lv_iload hx hb dX12_narrowed_44 (lv_at hl 0 rfl) ?_
            refine fm_iald (a := 120) hx hb hc hw hI kl_120 sh_120 ty_120 bd_120 (by omega) dX12_narrowed_46 (fun x11 ex11 bx11 => ?_)
            refine lv_iload_n hx hb dX12_narrowed_47 rfl (lv_at hl 5 rfl) ?_
            refine fx_icmp_gt (tgt := 61) hx hb dX12_narrowed_48 (by decide) rfl rfl (fun c12 => ?_) (fun c12 => ?_)
            · refine lv_ldc2 (v := (-1)) hx hb hown (hts (.constantLong RX12 226 (-1)) (List.mem_cons_of_mem _ tw_6_172)) dX12_narrowed_61 ?_
              refine lv_land hx hb dX12_narrowed_64 ?_
              refine lv_topl (fun y13 ey13 => ?_)
              refine lv_lstore (lv' := [(6, .long y13), (8, .int lp_8), (0, .ref (ad 60 0)), (1, .int p0), (2, .int p1), (3, .int p2), (4, .long p3)]) hx hb dX12_narrowed_65 hl (by decide) rfl (fun ls hl => ?_)
              obtain ⟨y14, ey14⟩ : ∃ y : Int32, y = lp_8 + 1 := ⟨_, rfl⟩
              have ty14 : y14.toInt = lp_8.toInt + 1 := by rw [ey14, zi_add _ _ (by rw [zk_1]; omega) (by rw [zk_1]; omega), zk_1]
              refine lv_iinc (v := y14) (lv' := [(8, .int y14), (6, .long y13), (0, .ref (ad 60 0)), (1, .int p0), (2, .int p1), (3, .int p2), (4, .long p3)]) hx hb dX12_narrowed_67 hl (k := 1) rfl (by rw [ey14]; rfl) (by decide) rfl (fun ls hl => ?_)
              refine lv_goto (tgt := 7) hx hb dX12_narrowed_70 (by decide) ?_
              exact ih_lp y14 y13 (by omega) (by omega) ls (lv_sub hl [0, 1, 2, 3, 4, 5, 6] rfl)
            · refine lv_aload_n hx hb dX12_narrowed_51 rfl (lv_at hl 2 rfl) ?_
              refine fm_getG (a := 60) (j := 19) (T := TX12) (N := 79) hx hb hts hinX12 hown hc hw kl_60 sh_60 rfl (by decide) rfl (hI.to kl_60 tg_60_19) (hts (.fieldLink RX12 52 "RedTentModel" "fixCells" "[J") (List.mem_cons_of_mem _ tw_5_139)) (fun _ h9 => h9) dX12_narrowed_52 ?_
              refine lv_iload hx hb dX12_narrowed_55 (lv_at hl 0 rfl) ?_
              refine fm_lald (a := 119) hx hb hc hw kl_119 sh_119 ty_119 (by omega) dX12_narrowed_57 (fun x15 ex15 => ?_)
              refine lv_goto (tgt := 64) hx hb dX12_narrowed_58 (by decide) ?_
              refine lv_land hx hb dX12_narrowed_64 ?_
              refine lv_topl (fun y16 ey16 => ?_)
              refine lv_lstore (lv' := [(6, .long y16), (8, .int lp_8), (0, .ref (ad 60 0)), (1, .int p0), (2, .int p1), (3, .int p2), (4, .long p3)]) hx hb dX12_narrowed_65 hl (by decide) rfl (fun ls hl => ?_)
              obtain ⟨y17, ey17⟩ : ∃ y : Int32, y = lp_8 + 1 := ⟨_, rfl⟩
              have ty17 : y17.toInt = lp_8.toInt + 1 := by rw [ey17, zi_add _ _ (by rw [zk_1]; omega) (by rw [zk_1]; omega), zk_1]
              refine lv_iinc (v := y17) (lv' := [(8, .int y17), (6, .long y16), (0, .ref (ad 60 0)), (1, .int p0), (2, .int p1), (3, .int p2), (4, .long p3)]) hx hb dX12_narrowed_67 hl (k := 1) rfl (by rw [ey17]; rfl) (by decide) rfl (fun ls hl => ?_)
              refine lv_goto (tgt := 7) hx hb dX12_narrowed_70 (by decide) ?_
              exact ih_lp y17 y16 (by omega) (by omega) ls (lv_sub hl [0, 1, 2, 3, 4, 5, 6] rfl)
  exact lp _ 0 p3 (Nat.lt_succ_self _) (by decide) ls (lv_sub hl [0, 1, 2, 3, 4, 5, 6] rfl)
set_option maxHeartbeats 400000 in
set_option maxRecDepth 20000 in
theorem fc_X12_patchOf (l : Launch) (D : va_G) (ad : Nat → Nat → Nat) (C : Nat → Nat → ClassId) (nb : Nat) (M : fm_M) (hI : fm_I nb ad M) (p0 p1 p2 : Int32) (b_p0 : 0 ≤ p0.toInt ∧ p0.toInt ≤ 11) (b_p1 : 0 ≤ p1.toInt ∧ p1.toInt ≤ 239) : Met l yX12_patchOf wsX12_patchOf ({ frames := 2, cells := 0, slots := 0, locals := 58 }) (va_Pc [.ref (ad 60 0), .int p0, .int p1, .int p2] (fm_P D ad C nb M)) (vp_Sl (fun r : Int64 => True)) 0 0 (fun _ => False) := by
  refine Met.ofW (cc := cX12_patchOf) (maxL := 7) (ret := (some .long)) (by decide) rfl ?_
  intro p e s m args below meth c s₁ B hml hv
  obtain ⟨rfl, hw, hc⟩ := hv
  have hx := B.exec
  have hb := B.bytes
  have hr := B.returns
  have hts := atoms_spec (ws := wsX12_patchOf) B.pre
  have hown : s.vm.findClass RX12 = some m.cls := findClass_of_methodNamed B.named
  have hinX12 : ∀ w ∈ u_ws RX12 TX12 79, w ∈ wsX12_patchOf := fun w h => List.mem_cons_of_mem _ (iT_X12 w h)
  have hS : va_S (fm_A nb ad) s.heap s.heap [] := va_S.rf
  have hl := lv_entry ([.ref (ad 60 0), .int p0, .int p1, .int p2]) (n := 7) (Nat.le_of_ble_eq_true rfl)
  rw [lg_entry_eq]
  generalize (lg_sl ([.ref (ad 60 0), .int p0, .int p1, .int p2]) ++ List.replicate (7 - (lg_sl ([.ref (ad 60 0), .int p0, .int p1, .int p2])).length) Slot.unset).toArray = ls at hl ⊢
  have hl : lv_has ls 7 [(0, .ref (ad 60 0)), (1, .int p0), (2, .int p1), (3, .int p2)] := hl
  refine lv_aload_n hx hb dX12_patchOf_0 rfl (lv_at hl 0 rfl) ?_
  refine lv_iload_n hx hb dX12_patchOf_1 rfl (lv_at hl 1 rfl) ?_
  refine lv_aload_n hx hb dX12_patchOf_2 rfl (lv_at hl 0 rfl) ?_
  refine fm_getG (a := 60) (j := 11) (T := TX12) (N := 79) hx hb hts hinX12 hown hc hw kl_60 sh_60 rfl (by decide) rfl (hI.to kl_60 tg_60_11) (hts (.fieldLink RX12 31 "RedTentModel" "began" "[I") (List.mem_cons_of_mem _ tw_5_131)) (fun _ h9 => h9) dX12_patchOf_3 ?_
  refine lv_iload_n hx hb dX12_patchOf_6 rfl (lv_at hl 1 rfl) ?_
  refine fm_iald (a := 111) hx hb hc hw hI kl_111 sh_111 ty_111 bd_111 (by omega) dX12_patchOf_7 (fun x1 ex1 bx1 => ?_)
  refine lv_iload_n hx hb dX12_patchOf_8 rfl (lv_at hl 3 rfl) ?_
  refine lv_lconst (v := 1) hx hb dX12_patchOf_9 (by decide) ?_
  refine lv_aload_n hx hb dX12_patchOf_10 rfl (lv_at hl 0 rfl) ?_
  refine fm_getG (a := 60) (j := 12) (T := TX12) (N := 79) hx hb hts hinX12 hown hc hw kl_60 sh_60 rfl (by decide) rfl (hI.to kl_60 tg_60_12) (hts (.fieldLink RX12 34 "RedTentModel" "cellOf" "[I") (List.mem_cons_of_mem _ tw_5_132)) (fun _ h9 => h9) dX12_patchOf_11 ?_
  refine lv_iload_n hx hb dX12_patchOf_14 rfl (lv_at hl 1 rfl) ?_
  refine fm_iald (a := 112) hx hb hc hw hI kl_112 sh_112 ty_112 bd_112 (by omega) dX12_patchOf_15 (fun x2 ex2 bx2 => ?_)
  refine lv_lshl (v := (1 : Int64) <<< (x2.toInt64 &&& 63)) hx hb dX12_patchOf_16 rfl ?_
  refine lv_topl (fun y3 ey3 => ?_)
  refine vp_callSl (va_Run.run (va_runV (As := [.int p0, .int x1, .int p2, .long y3]) (rest := []) ⟨hx, hb, hml, hown, hts⟩ (fc_X12_narrowed l D ad C nb M hI p0 x1 p2 y3) (cwV 4 hts gX12_patchOf_X12_narrowed rfl rfl rfl (by decide +kernel) ⟨Nat.le_of_ble_eq_true rfl, Nat.le_of_ble_eq_true rfl⟩) (fm_preV hc hw hS kl_60 sh_60 rfl) rfl rfl hl.1 rfl (lv_room (Nat.le_of_ble_eq_true rfl)) dX12_patchOf_17 ⟨by decide +kernel, by decide +kernel⟩)) (fun r4 hr4 => ?_)
  refine lv_lstore (lv' := [(4, .long r4), (0, .ref (ad 60 0)), (1, .int p0), (2, .int p1), (3, .int p2)]) hx hb dX12_patchOf_20 hl (by decide) rfl (fun ls hl => ?_)
  refine lv_aload_n hx hb dX12_patchOf_22 rfl (lv_at hl 1 rfl) ?_
  refine fm_getG (a := 60) (j := 11) (T := TX12) (N := 79) hx hb hts hinX12 hown hc hw kl_60 sh_60 rfl (by decide) rfl (hI.to kl_60 tg_60_11) (hts (.fieldLink RX12 31 "RedTentModel" "began" "[I") (List.mem_cons_of_mem _ tw_5_131)) (fun _ h9 => h9) dX12_patchOf_23 ?_
  refine lv_iload_n hx hb dX12_patchOf_26 rfl (lv_at hl 2 rfl) ?_
  refine fm_iald (a := 111) hx hb hc hw hI kl_111 sh_111 ty_111 bd_111 (by omega) dX12_patchOf_27 (fun x5 ex5 bx5 => ?_)
  obtain rfl : x1 = x5 := by rw [ex5]; exact ex1
  refine lv_istore (lv' := [(6, .int x1), (4, .long r4), (0, .ref (ad 60 0)), (1, .int p0), (2, .int p1), (3, .int p2)]) hx hb dX12_patchOf_28 hl (by decide) rfl (fun ls hl => ?_)
  have lp : ∀ (n_lp : Nat) (lp_6 : Int32) (lp_4 : Int64), (239 - lp_6.toInt).toNat < n_lp → (0 ≤ lp_6.toInt ∧ lp_6.toInt ≤ 239) → ∀ (ls : Array Slot), lv_has ls 7 [(6, .int lp_6), (4, .long lp_4), (0, .ref (ad 60 0)), (1, .int p0), (2, .int p1), (3, .int p2)] → W p l e (headSpec wsX12_patchOf ({ frames := 2, cells := 0, slots := 0, locals := 58 })).room s m ([.ref (ad 60 0), .int p0, .int p1, .int p2] : List Value).toArray below meth c s.heap [] 0 0 (MQ below (vp_Sl (fun r : Int64 => True)) ([.ref (ad 60 0), .int p0, .int p1, .int p2] : List Value).toArray s 0 0 (fun _ => False)) (F0 m 30 ls []) := by
    intro n_lp
    induction n_lp with
    | zero => intro lp_6 lp_4 hm_lp b_lp_6 ls hl; exact absurd hm_lp (Nat.not_lt_zero _)
    | succ n_lp ih_lp =>
      intro lp_6 lp_4 hm_lp b_lp_6 ls hl
      refine lv_iload hx hb dX12_patchOf_30 (lv_at hl 0 rfl) ?_
      refine lv_iload_n hx hb dX12_patchOf_32 rfl (lv_at hl 4 rfl) ?_
      refine fx_icmp_ge (tgt := 63) hx hb dX12_patchOf_33 (by decide) rfl rfl (fun c6 => ?_) (fun c6 => ?_)
      · refine lv_lload hx hb dX12_patchOf_63 (lv_at hl 1 rfl) ?_
        exact W.lret (v := lp_4) hx hb hr (fun t ht hW => ⟨lp_4, rfl, trivial, ht⟩) (fun _ h => absurd h List.not_mem_nil) dX12_patchOf_65
      · refine lv_aload_n hx hb dX12_patchOf_36 rfl (lv_at hl 2 rfl) ?_
        refine lv_iload_n hx hb dX12_patchOf_37 rfl (lv_at hl 3 rfl) ?_
        refine lv_iload hx hb dX12_patchOf_38 (lv_at hl 0 rfl) ?_
        refine lv_iconst (v := 1) hx hb dX12_patchOf_40 (by decide) ?_
        refine fx_iadd hx hb dX12_patchOf_41 rfl zk_1 (by omega) (fun y7 ey7 ty7 => ?_)
        refine lv_iload_n hx hb dX12_patchOf_42 rfl (lv_at hl 5 rfl) ?_
        refine lv_aload_n hx hb dX12_patchOf_43 rfl (lv_at hl 2 rfl) ?_
        refine lv_iload_n hx hb dX12_patchOf_44 rfl (lv_at hl 3 rfl) ?_
        refine lv_iload hx hb dX12_patchOf_45 (lv_at hl 0 rfl) ?_
        refine lv_lload hx hb dX12_patchOf_47 (lv_at hl 1 rfl) ?_
        refine vp_callSl (va_Run.run (va_runV (As := [.int p0, .int lp_6, .long lp_4]) (rest := [.int p2, .int y7, .int p0, .ref (ad 60 0)]) ⟨hx, hb, hml, hown, hts⟩ (fc_X12_drifted l D ad C nb M hI p0 lp_6 lp_4 (by omega) (by omega)) (cwV 3 hts gX12_patchOf_X12_drifted rfl rfl rfl (by decide +kernel) ⟨Nat.le_of_ble_eq_true rfl, Nat.le_of_ble_eq_true rfl⟩) (fm_preV hc hw hS kl_60 sh_60 rfl) rfl rfl hl.1 rfl (lv_room (Nat.le_of_ble_eq_true rfl)) dX12_patchOf_49 ⟨by decide +kernel, by decide +kernel⟩)) (fun r8 hr8 => ?_)
        refine vp_callSl (va_Run.run (va_runV (As := [.int p0, .int y7, .int p2, .long r8]) (rest := []) ⟨hx, hb, hml, hown, hts⟩ (fc_X12_narrowed l D ad C nb M hI p0 y7 p2 r8) (cwV 4 hts gX12_patchOf_X12_narrowed rfl rfl rfl (by decide +kernel) ⟨Nat.le_of_ble_eq_true rfl, Nat.le_of_ble_eq_true rfl⟩) (fm_preV hc hw hS kl_60 sh_60 rfl) rfl rfl hl.1 rfl (lv_room (Nat.le_of_ble_eq_true rfl)) dX12_patchOf_52 ⟨by decide +kernel, by decide +kernel⟩)) (fun r9 hr9 => ?_)
        refine lv_lstore (lv' := [(4, .long r9), (6, .int lp_6), (0, .ref (ad 60 0)), (1, .int p0), (2, .int p1), (3, .int p2)]) hx hb dX12_patchOf_55 hl (by decide) rfl (fun ls hl => ?_)
        obtain ⟨y10, ey10⟩ : ∃ y : Int32, y = lp_6 + 1 := ⟨_, rfl⟩
        have ty10 : y10.toInt = lp_6.toInt + 1 := by rw [ey10, zi_add _ _ (by rw [zk_1]; omega) (by rw [zk_1]; omega), zk_1]
        refine lv_iinc (v := y10) (lv' := [(6, .int y10), (4, .long r9), (0, .ref (ad 60 0)), (1, .int p0), (2, .int p1), (3, .int p2)]) hx hb dX12_patchOf_57 hl (k := 1) rfl (by rw [ey10]; rfl) (by decide) rfl (fun ls hl => ?_)
        refine lv_goto (tgt := 30) hx hb dX12_patchOf_60 (by decide) ?_
        exact ih_lp y10 r9 (by omega) (by omega) ls (lv_sub hl [0, 1, 2, 3, 4, 5] rfl)
  exact lp _ x1 r4 (Nat.lt_succ_self _) (by omega) ls (lv_sub hl [0, 1, 2, 3, 4, 5] rfl)
set_option maxHeartbeats 400000 in
set_option maxRecDepth 20000 in
theorem fc_X12_canFly (l : Launch) (D : va_G) (ad : Nat → Nat → Nat) (C : Nat → Nat → ClassId) (nb : Nat) (M : fm_M) (hI : fm_I nb ad M) (p0 p1 : Int32) (b_p0 : 0 ≤ p0.toInt ∧ p0.toInt ≤ 300) (b_p1 : 0 ≤ p1.toInt ∧ p1.toInt ≤ 7) : Met l yX12_canFly wsX12_canFly ({ frames := 1, cells := 0, slots := 0, locals := 23 }) (va_Pc [.ref (ad 60 0), .int p0, .int p1] (fm_P D ad C nb M)) (vp_Si (fun r : Int32 => (0 ≤ r.toInt ∧ r.toInt ≤ 1))) 0 0 (fun _ => False) := by
  refine Met.ofW (cc := cX12_canFly) (maxL := 5) (ret := (some .boolean)) (by decide) rfl ?_
  intro p e s m args below meth c s₁ B hml hv
  obtain ⟨rfl, hw, hc⟩ := hv
  have hx := B.exec
  have hb := B.bytes
  have hr := B.returns
  have hts := atoms_spec (ws := wsX12_canFly) B.pre
  have hown : s.vm.findClass RX12 = some m.cls := findClass_of_methodNamed B.named
  have hS : va_S (fm_A nb ad) s.heap s.heap [] := va_S.rf
  have hl := lv_entry ([.ref (ad 60 0), .int p0, .int p1]) (n := 5) (Nat.le_of_ble_eq_true rfl)
  rw [lg_entry_eq]
  generalize (lg_sl ([.ref (ad 60 0), .int p0, .int p1]) ++ List.replicate (5 - (lg_sl ([.ref (ad 60 0), .int p0, .int p1])).length) Slot.unset).toArray = ls at hl ⊢
  have hl : lv_has ls 5 [(0, .ref (ad 60 0)), (1, .int p0), (2, .int p1)] := hl
  refine lv_iload_n hx hb dX12_canFly_0 rfl (lv_at hl 1 rfl) ?_
  refine lv_iload_n hx hb dX12_canFly_1 rfl (lv_at hl 2 rfl) ?_
  refine fx_iadd hx hb dX12_canFly_2 rfl rfl (by omega) (fun y1 ey1 ty1 => ?_)
  refine lv_sipush (v := 239) hx hb dX12_canFly_3 (by decide) ?_
  refine fx_icmp_gt (tgt := 13) hx hb dX12_canFly_6 (by decide) rfl zk_239 (fun c2 => ?_) (fun c2 => ?_)
  · refine lv_iconst (v := 0) hx hb dX12_canFly_13 (by decide) ?_
    refine lv_istore_n (lv' := [(3, .int 0), (0, .ref (ad 60 0)), (1, .int p0), (2, .int p1)]) hx hb dX12_canFly_14 rfl hl (by decide) rfl (fun ls hl => ?_)
    refine lv_iload_n hx hb dX12_canFly_15 rfl (lv_at hl 2 rfl) ?_
    refine lv_istore (lv' := [(4, .int p0), (3, .int 0), (0, .ref (ad 60 0)), (1, .int p0), (2, .int p1)]) hx hb dX12_canFly_16 hl (by decide) rfl (fun ls hl => ?_)
    have lp : ∀ (n_lp : Nat) (lp_4 : Int32) (lp_3 : Int32), (310 - lp_4.toInt).toNat < n_lp → (0 ≤ lp_4.toInt ∧ lp_4.toInt ≤ 310) → (0 ≤ lp_3.toInt ∧ lp_3.toInt ≤ 1) → ∀ (ls : Array Slot), lv_has ls 5 [(4, .int lp_4), (3, .int lp_3), (0, .ref (ad 60 0)), (1, .int p0), (2, .int p1)] → W p l e (headSpec wsX12_canFly ({ frames := 1, cells := 0, slots := 0, locals := 23 })).room s m ([.ref (ad 60 0), .int p0, .int p1] : List Value).toArray below meth c s.heap [] 0 0 (MQ below (vp_Si (fun r : Int32 => (0 ≤ r.toInt ∧ r.toInt ≤ 1))) ([.ref (ad 60 0), .int p0, .int p1] : List Value).toArray s 0 0 (fun _ => False)) (F0 m 18 ls []) := by
      intro n_lp
      induction n_lp with
      | zero => intro lp_4 lp_3 hm_lp b_lp_4 b_lp_3 ls hl; exact absurd hm_lp (Nat.not_lt_zero _)
      | succ n_lp ih_lp =>
        intro lp_4 lp_3 hm_lp b_lp_4 b_lp_3 ls hl
        refine lv_iload hx hb dX12_canFly_18 (lv_at hl 0 rfl) ?_
        refine lv_iload_n hx hb dX12_canFly_20 rfl (lv_at hl 3 rfl) ?_
        refine lv_iload_n hx hb dX12_canFly_21 rfl (lv_at hl 4 rfl) ?_
        refine fx_iadd hx hb dX12_canFly_22 rfl rfl (by omega) (fun y3 ey3 ty3 => ?_)
        refine fx_icmp_ge (tgt := 53) hx hb dX12_canFly_23 (by decide) rfl rfl (fun c4 => ?_) (fun c4 => ?_)
        · refine lv_iload_n hx hb dX12_canFly_53 rfl (lv_at hl 1 rfl) ?_
          exact W.zret (v := lp_3) hx hb hr (zi_nar (by omega)) (fun t ht hW => ⟨lp_3, rfl, (by omega), ht⟩) (fun _ h => absurd h List.not_mem_nil) dX12_canFly_54
        · refine lv_iload_n hx hb dX12_canFly_26 rfl (lv_at hl 1 rfl) ?_
          refine fx_if_eq (tgt := 53) hx hb dX12_canFly_27 (by decide) rfl (fun c5 => ?_) (fun c5 => ?_)
          · refine lv_iload_n hx hb dX12_canFly_53 rfl (lv_at hl 1 rfl) ?_
            exact W.zret (v := lp_3) hx hb hr (zi_nar (by omega)) (fun t ht hW => ⟨lp_3, rfl, (by omega), ht⟩) (fun _ h => absurd h List.not_mem_nil) dX12_canFly_54
          · refine lv_aload_n hx hb dX12_canFly_30 rfl (lv_at hl 2 rfl) ?_
            refine lv_iload hx hb dX12_canFly_31 (lv_at hl 0 rfl) ?_
            refine vp_callSi (va_Run.run (va_runV (As := [.int lp_4]) (rest := []) ⟨hx, hb, hml, hown, hts⟩ (fc_X12_fogIn l D ad C nb M hI lp_4) (cwV 1 hts gX12_canFly_X12_fogIn rfl rfl rfl (by decide +kernel) ⟨Nat.le_of_ble_eq_true rfl, Nat.le_of_ble_eq_true rfl⟩) (fm_preV hc hw hS kl_60 sh_60 rfl) rfl rfl hl.1 rfl (lv_room (Nat.le_of_ble_eq_true rfl)) dX12_canFly_33 ⟨by decide +kernel, by decide +kernel⟩)) (fun r6 hr6 => ?_)
            refine lv_bipush (v := 8) hx hb dX12_canFly_36 (by decide) ?_
            refine fx_icmp_gt (tgt := 45) hx hb dX12_canFly_38 (by decide) rfl zk_8 (fun c7 => ?_) (fun c7 => ?_)
            · refine lv_iconst (v := 0) hx hb dX12_canFly_45 (by decide) ?_
              refine lv_istore_n (lv' := [(3, .int 0), (4, .int lp_4), (0, .ref (ad 60 0)), (1, .int p0), (2, .int p1)]) hx hb dX12_canFly_46 rfl hl (by decide) rfl (fun ls hl => ?_)
              obtain ⟨y8, ey8⟩ : ∃ y : Int32, y = lp_4 + 1 := ⟨_, rfl⟩
              have ty8 : y8.toInt = lp_4.toInt + 1 := by rw [ey8, zi_add _ _ (by rw [zk_1]; omega) (by rw [zk_1]; omega), zk_1]
              refine lv_iinc (v := y8) (lv' := [(4, .int y8), (3, .int 0), (0, .ref (ad 60 0)), (1, .int p0), (2, .int p1)]) hx hb dX12_canFly_47 hl (k := 1) rfl (by rw [ey8]; rfl) (by decide) rfl (fun ls hl => ?_)
              refine lv_goto (tgt := 18) hx hb dX12_canFly_50 (by decide) ?_
              exact ih_lp y8 0 (by omega) (by omega) (by decide) ls (lv_sub hl [0, 1, 2, 3, 4] rfl)
            · refine lv_iconst (v := 1) hx hb dX12_canFly_41 (by decide) ?_
              refine lv_goto (tgt := 46) hx hb dX12_canFly_42 (by decide) ?_
              refine lv_istore_n (lv' := [(3, .int 1), (4, .int lp_4), (0, .ref (ad 60 0)), (1, .int p0), (2, .int p1)]) hx hb dX12_canFly_46 rfl hl (by decide) rfl (fun ls hl => ?_)
              obtain ⟨y9, ey9⟩ : ∃ y : Int32, y = lp_4 + 1 := ⟨_, rfl⟩
              have ty9 : y9.toInt = lp_4.toInt + 1 := by rw [ey9, zi_add _ _ (by rw [zk_1]; omega) (by rw [zk_1]; omega), zk_1]
              refine lv_iinc (v := y9) (lv' := [(4, .int y9), (3, .int 1), (0, .ref (ad 60 0)), (1, .int p0), (2, .int p1)]) hx hb dX12_canFly_47 hl (k := 1) rfl (by rw [ey9]; rfl) (by decide) rfl (fun ls hl => ?_)
              refine lv_goto (tgt := 18) hx hb dX12_canFly_50 (by decide) ?_
              exact ih_lp y9 1 (by omega) (by omega) (by decide) ls (lv_sub hl [0, 1, 2, 3, 4] rfl)
    exact lp _ p0 0 (Nat.lt_succ_self _) (by omega) (by decide) ls (lv_sub hl [0, 1, 2, 3, 4] rfl)
  · refine lv_iconst (v := 1) hx hb dX12_canFly_9 (by decide) ?_
    refine lv_goto (tgt := 14) hx hb dX12_canFly_10 (by decide) ?_
    refine lv_istore_n (lv' := [(3, .int 1), (0, .ref (ad 60 0)), (1, .int p0), (2, .int p1)]) hx hb dX12_canFly_14 rfl hl (by decide) rfl (fun ls hl => ?_)
    refine lv_iload_n hx hb dX12_canFly_15 rfl (lv_at hl 2 rfl) ?_
    refine lv_istore (lv' := [(4, .int p0), (3, .int 1), (0, .ref (ad 60 0)), (1, .int p0), (2, .int p1)]) hx hb dX12_canFly_16 hl (by decide) rfl (fun ls hl => ?_)
    have lp : ∀ (n_lp : Nat) (lp_4 : Int32) (lp_3 : Int32), (310 - lp_4.toInt).toNat < n_lp → (0 ≤ lp_4.toInt ∧ lp_4.toInt ≤ 310) → (0 ≤ lp_3.toInt ∧ lp_3.toInt ≤ 1) → ∀ (ls : Array Slot), lv_has ls 5 [(4, .int lp_4), (3, .int lp_3), (0, .ref (ad 60 0)), (1, .int p0), (2, .int p1)] → W p l e (headSpec wsX12_canFly ({ frames := 1, cells := 0, slots := 0, locals := 23 })).room s m ([.ref (ad 60 0), .int p0, .int p1] : List Value).toArray below meth c s.heap [] 0 0 (MQ below (vp_Si (fun r : Int32 => (0 ≤ r.toInt ∧ r.toInt ≤ 1))) ([.ref (ad 60 0), .int p0, .int p1] : List Value).toArray s 0 0 (fun _ => False)) (F0 m 18 ls []) := by
      intro n_lp
      induction n_lp with
      | zero => intro lp_4 lp_3 hm_lp b_lp_4 b_lp_3 ls hl; exact absurd hm_lp (Nat.not_lt_zero _)
      | succ n_lp ih_lp =>
        intro lp_4 lp_3 hm_lp b_lp_4 b_lp_3 ls hl
        refine lv_iload hx hb dX12_canFly_18 (lv_at hl 0 rfl) ?_
        refine lv_iload_n hx hb dX12_canFly_20 rfl (lv_at hl 3 rfl) ?_
        refine lv_iload_n hx hb dX12_canFly_21 rfl (lv_at hl 4 rfl) ?_
        refine fx_iadd hx hb dX12_canFly_22 rfl rfl (by omega) (fun y10 ey10 ty10 => ?_)
        refine fx_icmp_ge (tgt := 53) hx hb dX12_canFly_23 (by decide) rfl rfl (fun c11 => ?_) (fun c11 => ?_)
        · refine lv_iload_n hx hb dX12_canFly_53 rfl (lv_at hl 1 rfl) ?_
          exact W.zret (v := lp_3) hx hb hr (zi_nar (by omega)) (fun t ht hW => ⟨lp_3, rfl, (by omega), ht⟩) (fun _ h => absurd h List.not_mem_nil) dX12_canFly_54
        · refine lv_iload_n hx hb dX12_canFly_26 rfl (lv_at hl 1 rfl) ?_
          refine fx_if_eq (tgt := 53) hx hb dX12_canFly_27 (by decide) rfl (fun c12 => ?_) (fun c12 => ?_)
          · refine lv_iload_n hx hb dX12_canFly_53 rfl (lv_at hl 1 rfl) ?_
            exact W.zret (v := lp_3) hx hb hr (zi_nar (by omega)) (fun t ht hW => ⟨lp_3, rfl, (by omega), ht⟩) (fun _ h => absurd h List.not_mem_nil) dX12_canFly_54
          · refine lv_aload_n hx hb dX12_canFly_30 rfl (lv_at hl 2 rfl) ?_
            refine lv_iload hx hb dX12_canFly_31 (lv_at hl 0 rfl) ?_
            refine vp_callSi (va_Run.run (va_runV (As := [.int lp_4]) (rest := []) ⟨hx, hb, hml, hown, hts⟩ (fc_X12_fogIn l D ad C nb M hI lp_4) (cwV 1 hts gX12_canFly_X12_fogIn rfl rfl rfl (by decide +kernel) ⟨Nat.le_of_ble_eq_true rfl, Nat.le_of_ble_eq_true rfl⟩) (fm_preV hc hw hS kl_60 sh_60 rfl) rfl rfl hl.1 rfl (lv_room (Nat.le_of_ble_eq_true rfl)) dX12_canFly_33 ⟨by decide +kernel, by decide +kernel⟩)) (fun r13 hr13 => ?_)
            refine lv_bipush (v := 8) hx hb dX12_canFly_36 (by decide) ?_
            refine fx_icmp_gt (tgt := 45) hx hb dX12_canFly_38 (by decide) rfl zk_8 (fun c14 => ?_) (fun c14 => ?_)
            · refine lv_iconst (v := 0) hx hb dX12_canFly_45 (by decide) ?_
              refine lv_istore_n (lv' := [(3, .int 0), (4, .int lp_4), (0, .ref (ad 60 0)), (1, .int p0), (2, .int p1)]) hx hb dX12_canFly_46 rfl hl (by decide) rfl (fun ls hl => ?_)
              obtain ⟨y15, ey15⟩ : ∃ y : Int32, y = lp_4 + 1 := ⟨_, rfl⟩
              have ty15 : y15.toInt = lp_4.toInt + 1 := by rw [ey15, zi_add _ _ (by rw [zk_1]; omega) (by rw [zk_1]; omega), zk_1]
              refine lv_iinc (v := y15) (lv' := [(4, .int y15), (3, .int 0), (0, .ref (ad 60 0)), (1, .int p0), (2, .int p1)]) hx hb dX12_canFly_47 hl (k := 1) rfl (by rw [ey15]; rfl) (by decide) rfl (fun ls hl => ?_)
              refine lv_goto (tgt := 18) hx hb dX12_canFly_50 (by decide) ?_
              exact ih_lp y15 0 (by omega) (by omega) (by decide) ls (lv_sub hl [0, 1, 2, 3, 4] rfl)
            · refine lv_iconst (v := 1) hx hb dX12_canFly_41 (by decide) ?_
              refine lv_goto (tgt := 46) hx hb dX12_canFly_42 (by decide) ?_
              refine lv_istore_n (lv' := [(3, .int 1), (4, .int lp_4), (0, .ref (ad 60 0)), (1, .int p0), (2, .int p1)]) hx hb dX12_canFly_46 rfl hl (by decide) rfl (fun ls hl => ?_)
              obtain ⟨y16, ey16⟩ : ∃ y : Int32, y = lp_4 + 1 := ⟨_, rfl⟩
              have ty16 : y16.toInt = lp_4.toInt + 1 := by rw [ey16, zi_add _ _ (by rw [zk_1]; omega) (by rw [zk_1]; omega), zk_1]
              refine lv_iinc (v := y16) (lv' := [(4, .int y16), (3, .int 1), (0, .ref (ad 60 0)), (1, .int p0), (2, .int p1)]) hx hb dX12_canFly_47 hl (k := 1) rfl (by rw [ey16]; rfl) (by decide) rfl (fun ls hl => ?_)
              refine lv_goto (tgt := 18) hx hb dX12_canFly_50 (by decide) ?_
              exact ih_lp y16 1 (by omega) (by omega) (by decide) ls (lv_sub hl [0, 1, 2, 3, 4] rfl)
    exact lp _ p0 1 (Nat.lt_succ_self _) (by omega) (by decide) ls (lv_sub hl [0, 1, 2, 3, 4] rfl)
set_option maxHeartbeats 400000 in
set_option maxRecDepth 20000 in
theorem fc_X12_goesIn (l : Launch) (D : va_G) (ad : Nat → Nat → Nat) (C : Nat → Nat → ClassId) (nb : Nat) (M : fm_M) (hI : fm_I nb ad M) (p0 p1 p2 : Int32) (b_p0 : 0 ≤ p0.toInt ∧ p0.toInt ≤ 3) (b_p1 : 1 ≤ p1.toInt ∧ p1.toInt ≤ 5) : Met l yX12_goesIn wsX12_goesIn ({ frames := 0, cells := 0, slots := 0, locals := 0 }) (va_Pc [.ref (ad 60 0), .int p0, .int p1, .int p2] (fm_P D ad C nb M)) (vp_Si (fun r : Int32 => True)) 0 0 (fun _ => False) := by
  refine Met.ofW (cc := cX12_goesIn) (maxL := 8) (ret := (some .int)) (by decide) rfl ?_
  intro p e s m args below meth c s₁ B hml hv
  obtain ⟨rfl, hw, hc⟩ := hv
  have hx := B.exec
  have hb := B.bytes
  have hr := B.returns
  have hts := atoms_spec (ws := wsX12_goesIn) B.pre
  have hown : s.vm.findClass RX12 = some m.cls := findClass_of_methodNamed B.named
  have hinX12 : ∀ w ∈ u_ws RX12 TX12 79, w ∈ wsX12_goesIn := fun w h => List.mem_cons_of_mem _ (iT_X12 w h)
  have hS : va_S (fm_A nb ad) s.heap s.heap [] := va_S.rf
  have hl := lv_entry ([.ref (ad 60 0), .int p0, .int p1, .int p2]) (n := 8) (Nat.le_of_ble_eq_true rfl)
  rw [lg_entry_eq]
  generalize (lg_sl ([.ref (ad 60 0), .int p0, .int p1, .int p2]) ++ List.replicate (8 - (lg_sl ([.ref (ad 60 0), .int p0, .int p1, .int p2])).length) Slot.unset).toArray = ls at hl ⊢
  have hl : lv_has ls 8 [(0, .ref (ad 60 0)), (1, .int p0), (2, .int p1), (3, .int p2)] := hl
  refine lv_iload_n hx hb dX12_goesIn_0 rfl (lv_at hl 3 rfl) ?_
  refine lv_istore (lv' := [(4, .int p2), (0, .ref (ad 60 0)), (1, .int p0), (2, .int p1), (3, .int p2)]) hx hb dX12_goesIn_1 hl (by decide) rfl (fun ls hl => ?_)
  refine lv_iconst (v := 0) hx hb dX12_goesIn_3 (by decide) ?_
  refine lv_istore (lv' := [(5, .int 0), (4, .int p2), (0, .ref (ad 60 0)), (1, .int p0), (2, .int p1), (3, .int p2)]) hx hb dX12_goesIn_4 hl (by decide) rfl (fun ls hl => ?_)
  refine lv_iconst (v := 0) hx hb dX12_goesIn_6 (by decide) ?_
  refine lv_istore (lv' := [(6, .int 0), (5, .int 0), (4, .int p2), (0, .ref (ad 60 0)), (1, .int p0), (2, .int p1), (3, .int p2)]) hx hb dX12_goesIn_7 hl (by decide) rfl (fun ls hl => ?_)
  have lp : ∀ (n_lp : Nat) (lp_6 : Int32) (lp_5 : Int32) (lp_4 : Int32), (5 - lp_6.toInt).toNat < n_lp → (0 ≤ lp_6.toInt ∧ lp_6.toInt ≤ 5) → ((-2147483648) ≤ lp_4.toInt ∧ lp_4.toInt ≤ 2147483647) → ∀ (ls : Array Slot), lv_has ls 8 [(6, .int lp_6), (5, .int lp_5), (4, .int lp_4), (0, .ref (ad 60 0)), (1, .int p0), (2, .int p1), (3, .int p2)] → W p l e (headSpec wsX12_goesIn ({ frames := 0, cells := 0, slots := 0, locals := 0 })).room s m ([.ref (ad 60 0), .int p0, .int p1, .int p2] : List Value).toArray below meth c s.heap [] 0 0 (MQ below (vp_Si (fun r : Int32 => True)) ([.ref (ad 60 0), .int p0, .int p1, .int p2] : List Value).toArray s 0 0 (fun _ => False)) (F0 m 9 ls []) := by
    intro n_lp
    induction n_lp with
    | zero => intro lp_6 lp_5 lp_4 hm_lp b_lp_6 b_lp_4 ls hl; exact absurd hm_lp (Nat.not_lt_zero _)
    | succ n_lp ih_lp =>
      intro lp_6 lp_5 lp_4 hm_lp b_lp_6 b_lp_4 ls hl
      refine lv_iload hx hb dX12_goesIn_9 (lv_at hl 0 rfl) ?_
      refine lv_iload_n hx hb dX12_goesIn_11 rfl (lv_at hl 5 rfl) ?_
      refine fx_icmp_ge (tgt := 71) hx hb dX12_goesIn_12 (by decide) rfl rfl (fun c1 => ?_) (fun c1 => ?_)
      · refine lv_iload hx hb dX12_goesIn_71 (lv_at hl 1 rfl) ?_
        exact W.iret (v := lp_5) hx hb hr (fun t ht hW => ⟨lp_5, rfl, trivial, ht⟩) (fun _ h => absurd h List.not_mem_nil) dX12_goesIn_73
      · refine lv_aload_n hx hb dX12_goesIn_15 rfl (lv_at hl 3 rfl) ?_
        refine fm_getG (a := 60) (j := 49) (T := TX12) (N := 79) hx hb hts hinX12 hown hc hw kl_60 sh_60 rfl (by decide) rfl (hI.to kl_60 tg_60_49) (hts (.fieldLink RX12 122 "RedTentModel" "ice" "[I") (List.mem_cons_of_mem _ tw_5_169)) (fun _ h9 => h9) dX12_goesIn_16 ?_
        refine lv_bipush (v := 15) hx hb dX12_goesIn_19 (by decide) ?_
        refine lv_iload_n hx hb dX12_goesIn_21 rfl (lv_at hl 4 rfl) ?_
        refine fx_imul hx hb dX12_goesIn_22 zk_15 rfl (by omega) (fun y2 ey2 ty2 => ?_)
        refine lv_iconst (v := 3) hx hb dX12_goesIn_23 (by decide) ?_
        refine lv_iload hx hb dX12_goesIn_24 (lv_at hl 0 rfl) ?_
        refine fx_imul hx hb dX12_goesIn_26 zk_3 rfl (by omega) (fun y3 ey3 ty3 => ?_)
        refine fx_iadd hx hb dX12_goesIn_27 rfl rfl (by omega) (fun y4 ey4 ty4 => ?_)
        refine lv_aload_n hx hb dX12_goesIn_28 rfl (lv_at hl 3 rfl) ?_
        refine fm_getG (a := 60) (j := 73) (T := TX12) (N := 79) hx hb hts hinX12 hown hc hw kl_60 sh_60 rfl (by decide) rfl (hI.to kl_60 tg_60_73) (hts (.fieldLink RX12 152 "RedTentModel" "ways" "[I") (List.mem_cons_of_mem _ tw_5_193)) (fun _ h9 => h9) dX12_goesIn_29 ?_
        refine lv_iload hx hb dX12_goesIn_32 (lv_at hl 0 rfl) ?_
        refine fm_iald (a := 173) hx hb hc hw hI kl_173 sh_173 ty_173 bd_173 (by omega) dX12_goesIn_34 (fun x5 ex5 bx5 => ?_)
        refine fx_iadd hx hb dX12_goesIn_35 rfl rfl (by omega) (fun y6 ey6 ty6 => ?_)
        refine fm_iald (a := 149) hx hb hc hw hI kl_149 sh_149 ty_149 bd_149 (by omega) dX12_goesIn_36 (fun x7 ex7 bx7 => ?_)
        refine lv_istore (lv' := [(7, .int x7), (6, .int lp_6), (5, .int lp_5), (4, .int lp_4), (0, .ref (ad 60 0)), (1, .int p0), (2, .int p1), (3, .int p2)]) hx hb dX12_goesIn_37 hl (by decide) rfl (fun ls hl => ?_)
        refine lv_iload hx hb dX12_goesIn_39 (lv_at hl 3 rfl) ?_
        refine lv_iload hx hb dX12_goesIn_41 (lv_at hl 0 rfl) ?_
        refine fx_icmp_le (tgt := 65) hx hb dX12_goesIn_43 (by decide) rfl rfl (fun c8 => ?_) (fun c8 => ?_)
        · obtain ⟨y9, ey9⟩ : ∃ y : Int32, y = lp_6 + 1 := ⟨_, rfl⟩
          have ty9 : y9.toInt = lp_6.toInt + 1 := by rw [ey9, zi_add _ _ (by rw [zk_1]; omega) (by rw [zk_1]; omega), zk_1]
          refine lv_iinc (v := y9) (lv' := [(6, .int y9), (7, .int x7), (5, .int lp_5), (4, .int lp_4), (0, .ref (ad 60 0)), (1, .int p0), (2, .int p1), (3, .int p2)]) hx hb dX12_goesIn_65 hl (k := 1) rfl (by rw [ey9]; rfl) (by decide) rfl (fun ls hl => ?_)
          refine lv_goto (tgt := 9) hx hb dX12_goesIn_68 (by decide) ?_
          exact ih_lp y9 lp_5 lp_4 (by omega) (by omega) (zi_lt _) ls (lv_sub hl [0, 2, 3, 4, 5, 6, 7] rfl)
        · refine lv_iload hx hb dX12_goesIn_46 (lv_at hl 3 rfl) ?_
          refine lv_iload hx hb dX12_goesIn_48 (lv_at hl 0 rfl) ?_
          refine lv_iconst (v := 1) hx hb dX12_goesIn_50 (by decide) ?_
          refine fx_iadd hx hb dX12_goesIn_51 rfl zk_1 (by have hx7 := zi_lt x7; omega) (fun y10 ey10 ty10 => ?_)
          refine fx_isubU hx hb dX12_goesIn_52 (fun y11 ey11 => ?_)
          refine lv_istore (lv' := [(4, .int y11), (7, .int x7), (6, .int lp_6), (5, .int lp_5), (0, .ref (ad 60 0)), (1, .int p0), (2, .int p1), (3, .int p2)]) hx hb dX12_goesIn_53 hl (by decide) rfl (fun ls hl => ?_)
          refine lv_iload hx hb dX12_goesIn_55 (lv_at hl 3 rfl) ?_
          refine lv_bipush (v := 9) hx hb dX12_goesIn_57 (by decide) ?_
          refine lv_iload hx hb dX12_goesIn_59 (lv_at hl 1 rfl) ?_
          refine fx_isubU hx hb dX12_goesIn_61 (fun y12 ey12 => ?_)
          refine fx_iaddU hx hb dX12_goesIn_62 (fun y13 ey13 => ?_)
          refine lv_istore (lv' := [(5, .int y13), (4, .int y11), (7, .int x7), (6, .int lp_6), (0, .ref (ad 60 0)), (1, .int p0), (2, .int p1), (3, .int p2)]) hx hb dX12_goesIn_63 hl (by decide) rfl (fun ls hl => ?_)
          obtain ⟨y14, ey14⟩ : ∃ y : Int32, y = lp_6 + 1 := ⟨_, rfl⟩
          have ty14 : y14.toInt = lp_6.toInt + 1 := by rw [ey14, zi_add _ _ (by rw [zk_1]; omega) (by rw [zk_1]; omega), zk_1]
          refine lv_iinc (v := y14) (lv' := [(6, .int y14), (5, .int y13), (4, .int y11), (7, .int x7), (0, .ref (ad 60 0)), (1, .int p0), (2, .int p1), (3, .int p2)]) hx hb dX12_goesIn_65 hl (k := 3) rfl (by rw [ey14]; rfl) (by decide) rfl (fun ls hl => ?_)
          refine lv_goto (tgt := 9) hx hb dX12_goesIn_68 (by decide) ?_
          exact ih_lp y14 y13 y11 (by omega) (by omega) (zi_lt _) ls (lv_sub hl [0, 1, 2, 4, 5, 6, 7] rfl)
  exact lp _ 0 0 p2 (Nat.lt_succ_self _) (by decide) (zi_lt _) ls (lv_sub hl [0, 1, 2, 3, 4, 5, 6] rfl)

theorem zb_X12_byteAt_0 : (decode cX12_byteAt 0 = .ok (.iload_n 1, 1)) ∧ (decode cX12_byteAt 1 = .ok (.aload_n 0, 1)) ∧ (decode cX12_byteAt 2 = .ok (.getfield 328, 3)) ∧ (decode cX12_byteAt 5 = .ok (.if_icmp .ge 33, 3)) ∧ (decode cX12_byteAt 38 = .ok (.iconst 0, 1)) ∧ (decode cX12_byteAt 39 = .ok (.ireturn, 1)) ∧ (decode cX12_byteAt 8 = .ok (.aload_n 0, 1)) ∧ (decode cX12_byteAt 9 = .ok (.getfield 331, 3)) ∧ (decode cX12_byteAt 12 = .ok (.ifCond .ge 12, 3)) ∧ (decode cX12_byteAt 24 = .ok (.aload_n 0, 1)) ∧ (decode cX12_byteAt 25 = .ok (.getfield 128, 3)) := by decide +kernel
theorem dX12_byteAt_0 : decode cX12_byteAt 0 = .ok (.iload_n 1, 1) := zb_X12_byteAt_0.1
theorem dX12_byteAt_1 : decode cX12_byteAt 1 = .ok (.aload_n 0, 1) := zb_X12_byteAt_0.2.1
theorem dX12_byteAt_2 : decode cX12_byteAt 2 = .ok (.getfield 328, 3) := zb_X12_byteAt_0.2.2.1
theorem dX12_byteAt_5 : decode cX12_byteAt 5 = .ok (.if_icmp .ge 33, 3) := zb_X12_byteAt_0.2.2.2.1
theorem dX12_byteAt_38 : decode cX12_byteAt 38 = .ok (.iconst 0, 1) := zb_X12_byteAt_0.2.2.2.2.1
theorem dX12_byteAt_39 : decode cX12_byteAt 39 = .ok (.ireturn, 1) := zb_X12_byteAt_0.2.2.2.2.2.1
theorem dX12_byteAt_8 : decode cX12_byteAt 8 = .ok (.aload_n 0, 1) := zb_X12_byteAt_0.2.2.2.2.2.2.1
theorem dX12_byteAt_9 : decode cX12_byteAt 9 = .ok (.getfield 331, 3) := zb_X12_byteAt_0.2.2.2.2.2.2.2.1
theorem dX12_byteAt_12 : decode cX12_byteAt 12 = .ok (.ifCond .ge 12, 3) := zb_X12_byteAt_0.2.2.2.2.2.2.2.2.1
theorem dX12_byteAt_24 : decode cX12_byteAt 24 = .ok (.aload_n 0, 1) := zb_X12_byteAt_0.2.2.2.2.2.2.2.2.2.1
theorem dX12_byteAt_25 : decode cX12_byteAt 25 = .ok (.getfield 128, 3) := zb_X12_byteAt_0.2.2.2.2.2.2.2.2.2.2
theorem zb_X12_byteAt_28 : (decode cX12_byteAt 28 = .ok (.aload_n 0, 1)) ∧ (decode cX12_byteAt 29 = .ok (.getfield 331, 3)) ∧ (decode cX12_byteAt 32 = .ok (.iload_n 1, 1)) ∧ (decode cX12_byteAt 33 = .ok (.iadd, 1)) ∧ (decode cX12_byteAt 34 = .ok (.iaload, 1)) ∧ (decode cX12_byteAt 35 = .ok (.goto 4, 3)) ∧ (decode cX12_byteAt 15 = .ok (.aload_n 0, 1)) ∧ (decode cX12_byteAt 16 = .ok (.getfield 125, 3)) ∧ (decode cX12_byteAt 19 = .ok (.iload_n 1, 1)) ∧ (decode cX12_byteAt 20 = .ok (.iaload, 1)) ∧ (decode cX12_byteAt 21 = .ok (.goto 18, 3)) := by decide +kernel
theorem dX12_byteAt_28 : decode cX12_byteAt 28 = .ok (.aload_n 0, 1) := zb_X12_byteAt_28.1
theorem dX12_byteAt_29 : decode cX12_byteAt 29 = .ok (.getfield 331, 3) := zb_X12_byteAt_28.2.1
theorem dX12_byteAt_32 : decode cX12_byteAt 32 = .ok (.iload_n 1, 1) := zb_X12_byteAt_28.2.2.1
theorem dX12_byteAt_33 : decode cX12_byteAt 33 = .ok (.iadd, 1) := zb_X12_byteAt_28.2.2.2.1
theorem dX12_byteAt_34 : decode cX12_byteAt 34 = .ok (.iaload, 1) := zb_X12_byteAt_28.2.2.2.2.1
theorem dX12_byteAt_35 : decode cX12_byteAt 35 = .ok (.goto 4, 3) := zb_X12_byteAt_28.2.2.2.2.2.1
theorem dX12_byteAt_15 : decode cX12_byteAt 15 = .ok (.aload_n 0, 1) := zb_X12_byteAt_28.2.2.2.2.2.2.1
theorem dX12_byteAt_16 : decode cX12_byteAt 16 = .ok (.getfield 125, 3) := zb_X12_byteAt_28.2.2.2.2.2.2.2.1
theorem dX12_byteAt_19 : decode cX12_byteAt 19 = .ok (.iload_n 1, 1) := zb_X12_byteAt_28.2.2.2.2.2.2.2.2.1
theorem dX12_byteAt_20 : decode cX12_byteAt 20 = .ok (.iaload, 1) := zb_X12_byteAt_28.2.2.2.2.2.2.2.2.2.1
theorem dX12_byteAt_21 : decode cX12_byteAt 21 = .ok (.goto 18, 3) := zb_X12_byteAt_28.2.2.2.2.2.2.2.2.2.2
theorem zb_X12_isLetter_0 : (decode cX12_isLetter 0 = .ok (.iload_n 1, 1)) ∧ (decode cX12_isLetter 1 = .ok (.aload_n 0, 1)) ∧ (decode cX12_isLetter 2 = .ok (.getfield 328, 3)) ∧ (decode cX12_isLetter 5 = .ok (.if_icmp .ge 22, 3)) ∧ (decode cX12_isLetter 27 = .ok (.iconst 0, 1)) ∧ (decode cX12_isLetter 28 = .ok (.ireturn, 1)) ∧ (decode cX12_isLetter 8 = .ok (.aload_n 0, 1)) ∧ (decode cX12_isLetter 9 = .ok (.iload_n 1, 1)) := by decide +kernel
theorem dX12_isLetter_0 : decode cX12_isLetter 0 = .ok (.iload_n 1, 1) := zb_X12_isLetter_0.1
theorem dX12_isLetter_1 : decode cX12_isLetter 1 = .ok (.aload_n 0, 1) := zb_X12_isLetter_0.2.1
theorem dX12_isLetter_2 : decode cX12_isLetter 2 = .ok (.getfield 328, 3) := zb_X12_isLetter_0.2.2.1
theorem dX12_isLetter_5 : decode cX12_isLetter 5 = .ok (.if_icmp .ge 22, 3) := zb_X12_isLetter_0.2.2.2.1
theorem dX12_isLetter_27 : decode cX12_isLetter 27 = .ok (.iconst 0, 1) := zb_X12_isLetter_0.2.2.2.2.1
theorem dX12_isLetter_28 : decode cX12_isLetter 28 = .ok (.ireturn, 1) := zb_X12_isLetter_0.2.2.2.2.2.1
theorem dX12_isLetter_8 : decode cX12_isLetter 8 = .ok (.aload_n 0, 1) := zb_X12_isLetter_0.2.2.2.2.2.2.1
theorem dX12_isLetter_9 : decode cX12_isLetter 9 = .ok (.iload_n 1, 1) := zb_X12_isLetter_0.2.2.2.2.2.2.2
theorem zb_X12_isLetter_10 : (decode cX12_isLetter 10 = .ok (.invokevirtual 334, 3)) ∧ (decode cX12_isLetter 13 = .ok (.bipush 97, 2)) ∧ (decode cX12_isLetter 15 = .ok (.bipush 122, 2)) ∧ (decode cX12_isLetter 17 = .ok (.invokestatic 186, 3)) ∧ (decode cX12_isLetter 20 = .ok (.ifCond .eq 7, 3)) ∧ (decode cX12_isLetter 23 = .ok (.iconst 1, 1)) ∧ (decode cX12_isLetter 24 = .ok (.goto 4, 3)) := by decide +kernel
theorem dX12_isLetter_10 : decode cX12_isLetter 10 = .ok (.invokevirtual 334, 3) := zb_X12_isLetter_10.1
theorem dX12_isLetter_13 : decode cX12_isLetter 13 = .ok (.bipush 97, 2) := zb_X12_isLetter_10.2.1
theorem dX12_isLetter_15 : decode cX12_isLetter 15 = .ok (.bipush 122, 2) := zb_X12_isLetter_10.2.2.1
theorem dX12_isLetter_17 : decode cX12_isLetter 17 = .ok (.invokestatic 186, 3) := zb_X12_isLetter_10.2.2.2.1
theorem dX12_isLetter_20 : decode cX12_isLetter 20 = .ok (.ifCond .eq 7, 3) := zb_X12_isLetter_10.2.2.2.2.1
theorem dX12_isLetter_23 : decode cX12_isLetter 23 = .ok (.iconst 1, 1) := zb_X12_isLetter_10.2.2.2.2.2.1
theorem dX12_isLetter_24 : decode cX12_isLetter 24 = .ok (.goto 4, 3) := zb_X12_isLetter_10.2.2.2.2.2.2
theorem zb_X12_isDigit_0 : (decode cX12_isDigit 0 = .ok (.iload_n 1, 1)) ∧ (decode cX12_isDigit 1 = .ok (.aload_n 0, 1)) ∧ (decode cX12_isDigit 2 = .ok (.getfield 328, 3)) ∧ (decode cX12_isDigit 5 = .ok (.if_icmp .ge 22, 3)) ∧ (decode cX12_isDigit 27 = .ok (.iconst 0, 1)) ∧ (decode cX12_isDigit 28 = .ok (.ireturn, 1)) ∧ (decode cX12_isDigit 8 = .ok (.aload_n 0, 1)) ∧ (decode cX12_isDigit 9 = .ok (.iload_n 1, 1)) := by decide +kernel
theorem dX12_isDigit_0 : decode cX12_isDigit 0 = .ok (.iload_n 1, 1) := zb_X12_isDigit_0.1
theorem dX12_isDigit_1 : decode cX12_isDigit 1 = .ok (.aload_n 0, 1) := zb_X12_isDigit_0.2.1
theorem dX12_isDigit_2 : decode cX12_isDigit 2 = .ok (.getfield 328, 3) := zb_X12_isDigit_0.2.2.1
theorem dX12_isDigit_5 : decode cX12_isDigit 5 = .ok (.if_icmp .ge 22, 3) := zb_X12_isDigit_0.2.2.2.1
theorem dX12_isDigit_27 : decode cX12_isDigit 27 = .ok (.iconst 0, 1) := zb_X12_isDigit_0.2.2.2.2.1
theorem dX12_isDigit_28 : decode cX12_isDigit 28 = .ok (.ireturn, 1) := zb_X12_isDigit_0.2.2.2.2.2.1
theorem dX12_isDigit_8 : decode cX12_isDigit 8 = .ok (.aload_n 0, 1) := zb_X12_isDigit_0.2.2.2.2.2.2.1
theorem dX12_isDigit_9 : decode cX12_isDigit 9 = .ok (.iload_n 1, 1) := zb_X12_isDigit_0.2.2.2.2.2.2.2
theorem zb_X12_isDigit_10 : (decode cX12_isDigit 10 = .ok (.invokevirtual 334, 3)) ∧ (decode cX12_isDigit 13 = .ok (.bipush 48, 2)) ∧ (decode cX12_isDigit 15 = .ok (.bipush 57, 2)) ∧ (decode cX12_isDigit 17 = .ok (.invokestatic 186, 3)) ∧ (decode cX12_isDigit 20 = .ok (.ifCond .eq 7, 3)) ∧ (decode cX12_isDigit 23 = .ok (.iconst 1, 1)) ∧ (decode cX12_isDigit 24 = .ok (.goto 4, 3)) := by decide +kernel
theorem dX12_isDigit_10 : decode cX12_isDigit 10 = .ok (.invokevirtual 334, 3) := zb_X12_isDigit_10.1
theorem dX12_isDigit_13 : decode cX12_isDigit 13 = .ok (.bipush 48, 2) := zb_X12_isDigit_10.2.1
theorem dX12_isDigit_15 : decode cX12_isDigit 15 = .ok (.bipush 57, 2) := zb_X12_isDigit_10.2.2.1
theorem dX12_isDigit_17 : decode cX12_isDigit 17 = .ok (.invokestatic 186, 3) := zb_X12_isDigit_10.2.2.2.1
theorem dX12_isDigit_20 : decode cX12_isDigit 20 = .ok (.ifCond .eq 7, 3) := zb_X12_isDigit_10.2.2.2.2.1
theorem dX12_isDigit_23 : decode cX12_isDigit 23 = .ok (.iconst 1, 1) := zb_X12_isDigit_10.2.2.2.2.2.1
theorem dX12_isDigit_24 : decode cX12_isDigit 24 = .ok (.goto 4, 3) := zb_X12_isDigit_10.2.2.2.2.2.2
theorem zb_X12_is_33 : (decode cX12_is 33 = .ok (.iconst 0, 1)) ∧ (decode cX12_is 34 = .ok (.istore_n 3, 1)) ∧ (decode cX12_is 35 = .ok (.iload_n 3, 1)) ∧ (decode cX12_is 36 = .ok (.aload_n 1, 1)) ∧ (decode cX12_is 37 = .ok (.invokevirtual 172, 3)) ∧ (decode cX12_is 40 = .ok (.if_icmp .ge 37, 3)) ∧ (decode cX12_is 77 = .ok (.iload_n 2, 1)) ∧ (decode cX12_is 78 = .ok (.ireturn, 1)) ∧ (decode cX12_is 43 = .ok (.iload_n 2, 1)) ∧ (decode cX12_is 44 = .ok (.ifCond .eq 33, 3)) ∧ (decode cX12_is 47 = .ok (.aload_n 0, 1)) := by decide +kernel
theorem dX12_is_33 : decode cX12_is 33 = .ok (.iconst 0, 1) := zb_X12_is_33.1
theorem dX12_is_34 : decode cX12_is 34 = .ok (.istore_n 3, 1) := zb_X12_is_33.2.1
theorem dX12_is_35 : decode cX12_is 35 = .ok (.iload_n 3, 1) := zb_X12_is_33.2.2.1
theorem dX12_is_36 : decode cX12_is 36 = .ok (.aload_n 1, 1) := zb_X12_is_33.2.2.2.1
theorem dX12_is_37 : decode cX12_is 37 = .ok (.invokevirtual 172, 3) := zb_X12_is_33.2.2.2.2.1
theorem dX12_is_40 : decode cX12_is 40 = .ok (.if_icmp .ge 37, 3) := zb_X12_is_33.2.2.2.2.2.1
theorem dX12_is_77 : decode cX12_is 77 = .ok (.iload_n 2, 1) := zb_X12_is_33.2.2.2.2.2.2.1
theorem dX12_is_78 : decode cX12_is 78 = .ok (.ireturn, 1) := zb_X12_is_33.2.2.2.2.2.2.2.1
theorem dX12_is_43 : decode cX12_is 43 = .ok (.iload_n 2, 1) := zb_X12_is_33.2.2.2.2.2.2.2.2.1
theorem dX12_is_44 : decode cX12_is 44 = .ok (.ifCond .eq 33, 3) := zb_X12_is_33.2.2.2.2.2.2.2.2.2.1
theorem dX12_is_47 : decode cX12_is 47 = .ok (.aload_n 0, 1) := zb_X12_is_33.2.2.2.2.2.2.2.2.2.2
theorem zb_X12_is_48 : (decode cX12_is 48 = .ok (.aload_n 0, 1)) ∧ (decode cX12_is 49 = .ok (.getfield 340, 3)) ∧ (decode cX12_is 52 = .ok (.iload_n 3, 1)) ∧ (decode cX12_is 53 = .ok (.iadd, 1)) ∧ (decode cX12_is 54 = .ok (.invokevirtual 334, 3)) ∧ (decode cX12_is 57 = .ok (.aload_n 1, 1)) ∧ (decode cX12_is 58 = .ok (.iload_n 3, 1)) ∧ (decode cX12_is 59 = .ok (.invokevirtual 178, 3)) ∧ (decode cX12_is 62 = .ok (.if_icmp .ne 7, 3)) ∧ (decode cX12_is 69 = .ok (.iconst 0, 1)) ∧ (decode cX12_is 70 = .ok (.istore_n 2, 1)) := by decide +kernel
theorem dX12_is_48 : decode cX12_is 48 = .ok (.aload_n 0, 1) := zb_X12_is_48.1
theorem dX12_is_49 : decode cX12_is 49 = .ok (.getfield 340, 3) := zb_X12_is_48.2.1
theorem dX12_is_52 : decode cX12_is 52 = .ok (.iload_n 3, 1) := zb_X12_is_48.2.2.1
theorem dX12_is_53 : decode cX12_is 53 = .ok (.iadd, 1) := zb_X12_is_48.2.2.2.1
theorem dX12_is_54 : decode cX12_is 54 = .ok (.invokevirtual 334, 3) := zb_X12_is_48.2.2.2.2.1
theorem dX12_is_57 : decode cX12_is 57 = .ok (.aload_n 1, 1) := zb_X12_is_48.2.2.2.2.2.1
theorem dX12_is_58 : decode cX12_is 58 = .ok (.iload_n 3, 1) := zb_X12_is_48.2.2.2.2.2.2.1
theorem dX12_is_59 : decode cX12_is 59 = .ok (.invokevirtual 178, 3) := zb_X12_is_48.2.2.2.2.2.2.2.1
theorem dX12_is_62 : decode cX12_is 62 = .ok (.if_icmp .ne 7, 3) := zb_X12_is_48.2.2.2.2.2.2.2.2.1
theorem dX12_is_69 : decode cX12_is 69 = .ok (.iconst 0, 1) := zb_X12_is_48.2.2.2.2.2.2.2.2.2.1
theorem dX12_is_70 : decode cX12_is 70 = .ok (.istore_n 2, 1) := zb_X12_is_48.2.2.2.2.2.2.2.2.2.2
theorem zb_X12_is_71 : (decode cX12_is 71 = .ok (.iinc 3 1, 3)) ∧ (decode cX12_is 74 = .ok (.goto (-39), 3)) ∧ (decode cX12_is 65 = .ok (.iconst 1, 1)) ∧ (decode cX12_is 66 = .ok (.goto 4, 3)) ∧ (decode cX12_is 0 = .ok (.aload_n 0, 1)) ∧ (decode cX12_is 1 = .ok (.getfield 340, 3)) ∧ (decode cX12_is 4 = .ok (.aload_n 0, 1)) ∧ (decode cX12_is 5 = .ok (.getfield 328, 3)) ∧ (decode cX12_is 8 = .ok (.if_icmp .ge 23, 3)) ∧ (decode cX12_is 31 = .ok (.iconst 0, 1)) ∧ (decode cX12_is 32 = .ok (.istore_n 2, 1)) := by decide +kernel
theorem dX12_is_71 : decode cX12_is 71 = .ok (.iinc 3 1, 3) := zb_X12_is_71.1
theorem dX12_is_74 : decode cX12_is 74 = .ok (.goto (-39), 3) := zb_X12_is_71.2.1
theorem dX12_is_65 : decode cX12_is 65 = .ok (.iconst 1, 1) := zb_X12_is_71.2.2.1
theorem dX12_is_66 : decode cX12_is 66 = .ok (.goto 4, 3) := zb_X12_is_71.2.2.2.1
theorem dX12_is_0 : decode cX12_is 0 = .ok (.aload_n 0, 1) := zb_X12_is_71.2.2.2.2.1
theorem dX12_is_1 : decode cX12_is 1 = .ok (.getfield 340, 3) := zb_X12_is_71.2.2.2.2.2.1
theorem dX12_is_4 : decode cX12_is 4 = .ok (.aload_n 0, 1) := zb_X12_is_71.2.2.2.2.2.2.1
theorem dX12_is_5 : decode cX12_is 5 = .ok (.getfield 328, 3) := zb_X12_is_71.2.2.2.2.2.2.2.1
theorem dX12_is_8 : decode cX12_is 8 = .ok (.if_icmp .ge 23, 3) := zb_X12_is_71.2.2.2.2.2.2.2.2.1
theorem dX12_is_31 : decode cX12_is 31 = .ok (.iconst 0, 1) := zb_X12_is_71.2.2.2.2.2.2.2.2.2.1
theorem dX12_is_32 : decode cX12_is 32 = .ok (.istore_n 2, 1) := zb_X12_is_71.2.2.2.2.2.2.2.2.2.2
theorem zb_X12_is_11 : (decode cX12_is 11 = .ok (.aload_n 0, 1)) ∧ (decode cX12_is 12 = .ok (.getfield 337, 3)) ∧ (decode cX12_is 15 = .ok (.aload_n 0, 1)) ∧ (decode cX12_is 16 = .ok (.getfield 340, 3)) ∧ (decode cX12_is 19 = .ok (.isub, 1)) ∧ (decode cX12_is 20 = .ok (.aload_n 1, 1)) ∧ (decode cX12_is 21 = .ok (.invokevirtual 172, 3)) ∧ (decode cX12_is 24 = .ok (.if_icmp .ne 7, 3)) ∧ (decode cX12_is 27 = .ok (.iconst 1, 1)) ∧ (decode cX12_is 28 = .ok (.goto 4, 3)) := by decide +kernel
theorem dX12_is_11 : decode cX12_is 11 = .ok (.aload_n 0, 1) := zb_X12_is_11.1
theorem dX12_is_12 : decode cX12_is 12 = .ok (.getfield 337, 3) := zb_X12_is_11.2.1
theorem dX12_is_15 : decode cX12_is 15 = .ok (.aload_n 0, 1) := zb_X12_is_11.2.2.1
theorem dX12_is_16 : decode cX12_is 16 = .ok (.getfield 340, 3) := zb_X12_is_11.2.2.2.1
theorem dX12_is_19 : decode cX12_is 19 = .ok (.isub, 1) := zb_X12_is_11.2.2.2.2.1
theorem dX12_is_20 : decode cX12_is 20 = .ok (.aload_n 1, 1) := zb_X12_is_11.2.2.2.2.2.1
theorem dX12_is_21 : decode cX12_is 21 = .ok (.invokevirtual 172, 3) := zb_X12_is_11.2.2.2.2.2.2.1
theorem dX12_is_24 : decode cX12_is 24 = .ok (.if_icmp .ne 7, 3) := zb_X12_is_11.2.2.2.2.2.2.2.1
theorem dX12_is_27 : decode cX12_is 27 = .ok (.iconst 1, 1) := zb_X12_is_11.2.2.2.2.2.2.2.2.1
theorem dX12_is_28 : decode cX12_is 28 = .ok (.goto 4, 3) := zb_X12_is_11.2.2.2.2.2.2.2.2.2
theorem zb_X12_wrong_0 : (decode cX12_wrong 0 = .ok (.aload_n 0, 1)) ∧ (decode cX12_wrong 1 = .ok (.aload_n 0, 1)) ∧ (decode cX12_wrong 2 = .ok (.getfield 349, 3)) ∧ (decode cX12_wrong 5 = .ok (.ifCond .ge 10, 3)) ∧ (decode cX12_wrong 15 = .ok (.aload_n 0, 1)) ∧ (decode cX12_wrong 16 = .ok (.getfield 349, 3)) ∧ (decode cX12_wrong 19 = .ok (.putfield 349, 3)) ∧ (decode cX12_wrong 22 = .ok (.iconst 0, 1)) ∧ (decode cX12_wrong 23 = .ok (.ireturn, 1)) ∧ (decode cX12_wrong 8 = .ok (.aload_n 0, 1)) ∧ (decode cX12_wrong 9 = .ok (.getfield 340, 3)) ∧ (decode cX12_wrong 12 = .ok (.goto 7, 3)) := by decide +kernel
theorem dX12_wrong_0 : decode cX12_wrong 0 = .ok (.aload_n 0, 1) := zb_X12_wrong_0.1
theorem dX12_wrong_1 : decode cX12_wrong 1 = .ok (.aload_n 0, 1) := zb_X12_wrong_0.2.1
theorem dX12_wrong_2 : decode cX12_wrong 2 = .ok (.getfield 349, 3) := zb_X12_wrong_0.2.2.1
theorem dX12_wrong_5 : decode cX12_wrong 5 = .ok (.ifCond .ge 10, 3) := zb_X12_wrong_0.2.2.2.1
theorem dX12_wrong_15 : decode cX12_wrong 15 = .ok (.aload_n 0, 1) := zb_X12_wrong_0.2.2.2.2.1
theorem dX12_wrong_16 : decode cX12_wrong 16 = .ok (.getfield 349, 3) := zb_X12_wrong_0.2.2.2.2.2.1
theorem dX12_wrong_19 : decode cX12_wrong 19 = .ok (.putfield 349, 3) := zb_X12_wrong_0.2.2.2.2.2.2.1
theorem dX12_wrong_22 : decode cX12_wrong 22 = .ok (.iconst 0, 1) := zb_X12_wrong_0.2.2.2.2.2.2.2.1
theorem dX12_wrong_23 : decode cX12_wrong 23 = .ok (.ireturn, 1) := zb_X12_wrong_0.2.2.2.2.2.2.2.2.1
theorem dX12_wrong_8 : decode cX12_wrong 8 = .ok (.aload_n 0, 1) := zb_X12_wrong_0.2.2.2.2.2.2.2.2.2.1
theorem dX12_wrong_9 : decode cX12_wrong 9 = .ok (.getfield 340, 3) := zb_X12_wrong_0.2.2.2.2.2.2.2.2.2.2.1
theorem dX12_wrong_12 : decode cX12_wrong 12 = .ok (.goto 7, 3) := zb_X12_wrong_0.2.2.2.2.2.2.2.2.2.2.2
theorem zb_X12_take_0 : (decode cX12_take 0 = .ok (.aload_n 0, 1)) ∧ (decode cX12_take 1 = .ok (.getfield 349, 3)) ∧ (decode cX12_take 4 = .ok (.ifCond .ge 11, 3)) ∧ (decode cX12_take 15 = .ok (.iconst 0, 1)) ∧ (decode cX12_take 16 = .ok (.ireturn, 1)) ∧ (decode cX12_take 7 = .ok (.aload_n 0, 1)) ∧ (decode cX12_take 8 = .ok (.aload_n 1, 1)) := by decide +kernel
theorem dX12_take_0 : decode cX12_take 0 = .ok (.aload_n 0, 1) := zb_X12_take_0.1
theorem dX12_take_1 : decode cX12_take 1 = .ok (.getfield 349, 3) := zb_X12_take_0.2.1
theorem dX12_take_4 : decode cX12_take 4 = .ok (.ifCond .ge 11, 3) := zb_X12_take_0.2.2.1
theorem dX12_take_15 : decode cX12_take 15 = .ok (.iconst 0, 1) := zb_X12_take_0.2.2.2.1
theorem dX12_take_16 : decode cX12_take 16 = .ok (.ireturn, 1) := zb_X12_take_0.2.2.2.2.1
theorem dX12_take_7 : decode cX12_take 7 = .ok (.aload_n 0, 1) := zb_X12_take_0.2.2.2.2.2.1
theorem dX12_take_8 : decode cX12_take 8 = .ok (.aload_n 1, 1) := zb_X12_take_0.2.2.2.2.2.2
theorem zb_X12_take_9 : (decode cX12_take 9 = .ok (.invokevirtual 352, 3)) ∧ (decode cX12_take 12 = .ok (.ifCond .ne 5, 3)) ∧ (decode cX12_take 17 = .ok (.aload_n 0, 1)) ∧ (decode cX12_take 18 = .ok (.invokevirtual 356, 3)) ∧ (decode cX12_take 21 = .ok (.iconst 1, 1)) ∧ (decode cX12_take 22 = .ok (.ireturn, 1)) := by decide +kernel
theorem dX12_take_9 : decode cX12_take 9 = .ok (.invokevirtual 352, 3) := zb_X12_take_9.1
theorem dX12_take_12 : decode cX12_take 12 = .ok (.ifCond .ne 5, 3) := zb_X12_take_9.2.1
theorem dX12_take_17 : decode cX12_take 17 = .ok (.aload_n 0, 1) := zb_X12_take_9.2.2.1
theorem dX12_take_18 : decode cX12_take 18 = .ok (.invokevirtual 356, 3) := zb_X12_take_9.2.2.2.1
theorem dX12_take_21 : decode cX12_take 21 = .ok (.iconst 1, 1) := zb_X12_take_9.2.2.2.2.1
theorem dX12_take_22 : decode cX12_take 22 = .ok (.ireturn, 1) := zb_X12_take_9.2.2.2.2.2
theorem zb_X12_opens_0 : (decode cX12_opens 0 = .ok (.aload_n 0, 1)) ∧ (decode cX12_opens 1 = .ok (.getfield 372, 3)) ∧ (decode cX12_opens 4 = .ok (.iconst 5, 1)) ∧ (decode cX12_opens 5 = .ok (.if_icmp .ne 10, 3)) ∧ (decode cX12_opens 15 = .ok (.aload_n 0, 1)) ∧ (decode cX12_opens 16 = .ok (.dup, 1)) ∧ (decode cX12_opens 17 = .ok (.getfield 372, 3)) ∧ (decode cX12_opens 20 = .ok (.iconst 1, 1)) ∧ (decode cX12_opens 21 = .ok (.iadd, 1)) ∧ (decode cX12_opens 22 = .ok (.putfield 372, 3)) := by decide +kernel
theorem dX12_opens_0 : decode cX12_opens 0 = .ok (.aload_n 0, 1) := zb_X12_opens_0.1
theorem dX12_opens_1 : decode cX12_opens 1 = .ok (.getfield 372, 3) := zb_X12_opens_0.2.1
theorem dX12_opens_4 : decode cX12_opens 4 = .ok (.iconst 5, 1) := zb_X12_opens_0.2.2.1
theorem dX12_opens_5 : decode cX12_opens 5 = .ok (.if_icmp .ne 10, 3) := zb_X12_opens_0.2.2.2.1
theorem dX12_opens_15 : decode cX12_opens 15 = .ok (.aload_n 0, 1) := zb_X12_opens_0.2.2.2.2.1
theorem dX12_opens_16 : decode cX12_opens 16 = .ok (.dup, 1) := zb_X12_opens_0.2.2.2.2.2.1
theorem dX12_opens_17 : decode cX12_opens 17 = .ok (.getfield 372, 3) := zb_X12_opens_0.2.2.2.2.2.2.1
theorem dX12_opens_20 : decode cX12_opens 20 = .ok (.iconst 1, 1) := zb_X12_opens_0.2.2.2.2.2.2.2.1
theorem dX12_opens_21 : decode cX12_opens 21 = .ok (.iadd, 1) := zb_X12_opens_0.2.2.2.2.2.2.2.2.1
theorem dX12_opens_22 : decode cX12_opens 22 = .ok (.putfield 372, 3) := zb_X12_opens_0.2.2.2.2.2.2.2.2.2
theorem zb_X12_opens_25 : (decode cX12_opens 25 = .ok (.aload_n 0, 1)) ∧ (decode cX12_opens 26 = .ok (.invokevirtual 356, 3)) ∧ (decode cX12_opens 29 = .ok (.iconst 1, 1)) ∧ (decode cX12_opens 30 = .ok (.ireturn, 1)) ∧ (decode cX12_opens 8 = .ok (.aload_n 0, 1)) ∧ (decode cX12_opens 9 = .ok (.invokevirtual 375, 3)) ∧ (decode cX12_opens 12 = .ok (.istore_n 1, 1)) ∧ (decode cX12_opens 13 = .ok (.iconst 0, 1)) ∧ (decode cX12_opens 14 = .ok (.ireturn, 1)) := by decide +kernel
theorem dX12_opens_25 : decode cX12_opens 25 = .ok (.aload_n 0, 1) := zb_X12_opens_25.1
theorem dX12_opens_26 : decode cX12_opens 26 = .ok (.invokevirtual 356, 3) := zb_X12_opens_25.2.1
theorem dX12_opens_29 : decode cX12_opens 29 = .ok (.iconst 1, 1) := zb_X12_opens_25.2.2.1
theorem dX12_opens_30 : decode cX12_opens 30 = .ok (.ireturn, 1) := zb_X12_opens_25.2.2.2.1
theorem dX12_opens_8 : decode cX12_opens 8 = .ok (.aload_n 0, 1) := zb_X12_opens_25.2.2.2.2.1
theorem dX12_opens_9 : decode cX12_opens 9 = .ok (.invokevirtual 375, 3) := zb_X12_opens_25.2.2.2.2.2.1
theorem dX12_opens_12 : decode cX12_opens 12 = .ok (.istore_n 1, 1) := zb_X12_opens_25.2.2.2.2.2.2.1
theorem dX12_opens_13 : decode cX12_opens 13 = .ok (.iconst 0, 1) := zb_X12_opens_25.2.2.2.2.2.2.2.1
theorem dX12_opens_14 : decode cX12_opens 14 = .ok (.ireturn, 1) := zb_X12_opens_25.2.2.2.2.2.2.2.2
theorem zb_X12_one_10 : (decode cX12_one 10 = .ok (.ldc_w 396, 3)) ∧ (decode cX12_one 47 = .ok (.ldc_w 403, 3)) ∧ (decode cX12_one 144 = .ok (.imul, 1)) ∧ (decode cX12_one 155 = .ok (.iinc 2 1, 3)) ∧ (decode cX12_one 168 = .ok (.ldc_w 410, 3)) ∧ (decode cX12_one 182 = .ok (.ldc_w 411, 3)) ∧ (decode cX12_one 196 = .ok (.ldc_w 412, 3)) ∧ (decode cX12_one 210 = .ok (.ldc_w 413, 3)) ∧ (decode cX12_one 224 = .ok (.ldc_w 414, 3)) ∧ (decode cX12_one 238 = .ok (.ldc_w 415, 3)) ∧ (decode cX12_one 44 = .ok (.ineg, 1)) ∧ (decode cX12_one 71 = .ok (.ldc_w 408, 3)) := by decide +kernel
theorem dX12_one_10 : decode cX12_one 10 = .ok (.ldc_w 396, 3) := zb_X12_one_10.1
theorem dX12_one_47 : decode cX12_one 47 = .ok (.ldc_w 403, 3) := zb_X12_one_10.2.1
theorem dX12_one_144 : decode cX12_one 144 = .ok (.imul, 1) := zb_X12_one_10.2.2.1
theorem dX12_one_155 : decode cX12_one 155 = .ok (.iinc 2 1, 3) := zb_X12_one_10.2.2.2.1
theorem dX12_one_168 : decode cX12_one 168 = .ok (.ldc_w 410, 3) := zb_X12_one_10.2.2.2.2.1
theorem dX12_one_182 : decode cX12_one 182 = .ok (.ldc_w 411, 3) := zb_X12_one_10.2.2.2.2.2.1
theorem dX12_one_196 : decode cX12_one 196 = .ok (.ldc_w 412, 3) := zb_X12_one_10.2.2.2.2.2.2.1
theorem dX12_one_210 : decode cX12_one 210 = .ok (.ldc_w 413, 3) := zb_X12_one_10.2.2.2.2.2.2.2.1
theorem dX12_one_224 : decode cX12_one 224 = .ok (.ldc_w 414, 3) := zb_X12_one_10.2.2.2.2.2.2.2.2.1
theorem dX12_one_238 : decode cX12_one 238 = .ok (.ldc_w 415, 3) := zb_X12_one_10.2.2.2.2.2.2.2.2.2.1
theorem dX12_one_44 : decode cX12_one 44 = .ok (.ineg, 1) := zb_X12_one_10.2.2.2.2.2.2.2.2.2.2.1
theorem dX12_one_71 : decode cX12_one 71 = .ok (.ldc_w 408, 3) := zb_X12_one_10.2.2.2.2.2.2.2.2.2.2.2
theorem zb_X12_product_0 : (decode cX12_product 0 = .ok (.aload_n 0, 1)) ∧ (decode cX12_product 1 = .ok (.invokevirtual 398, 3)) ∧ (decode cX12_product 4 = .ok (.istore_n 1, 1)) ∧ (decode cX12_product 5 = .ok (.aload_n 0, 1)) ∧ (decode cX12_product 6 = .ok (.ldc_w 401, 3)) ∧ (decode cX12_product 9 = .ok (.invokevirtual 364, 3)) ∧ (decode cX12_product 12 = .ok (.ifCond .eq 13, 3)) ∧ (decode cX12_product 15 = .ok (.iload_n 1, 1)) := by decide +kernel
theorem dX12_product_0 : decode cX12_product 0 = .ok (.aload_n 0, 1) := zb_X12_product_0.1
theorem dX12_product_1 : decode cX12_product 1 = .ok (.invokevirtual 398, 3) := zb_X12_product_0.2.1
theorem dX12_product_4 : decode cX12_product 4 = .ok (.istore_n 1, 1) := zb_X12_product_0.2.2.1
theorem dX12_product_5 : decode cX12_product 5 = .ok (.aload_n 0, 1) := zb_X12_product_0.2.2.2.1
theorem dX12_product_6 : decode cX12_product 6 = .ok (.ldc_w 401, 3) := zb_X12_product_0.2.2.2.2.1
theorem dX12_product_9 : decode cX12_product 9 = .ok (.invokevirtual 364, 3) := zb_X12_product_0.2.2.2.2.2.1
theorem dX12_product_12 : decode cX12_product 12 = .ok (.ifCond .eq 13, 3) := zb_X12_product_0.2.2.2.2.2.2.1
theorem dX12_product_15 : decode cX12_product 15 = .ok (.iload_n 1, 1) := zb_X12_product_0.2.2.2.2.2.2.2
theorem zb_X12_product_16 : (decode cX12_product 16 = .ok (.aload_n 0, 1)) ∧ (decode cX12_product 17 = .ok (.invokevirtual 398, 3)) ∧ (decode cX12_product 20 = .ok (.imul, 1)) ∧ (decode cX12_product 21 = .ok (.istore_n 1, 1)) ∧ (decode cX12_product 22 = .ok (.goto (-17), 3)) ∧ (decode cX12_product 25 = .ok (.iload_n 1, 1)) ∧ (decode cX12_product 26 = .ok (.ireturn, 1)) := by decide +kernel
theorem dX12_product_16 : decode cX12_product 16 = .ok (.aload_n 0, 1) := zb_X12_product_16.1
theorem dX12_product_17 : decode cX12_product 17 = .ok (.invokevirtual 398, 3) := zb_X12_product_16.2.1
theorem dX12_product_20 : decode cX12_product 20 = .ok (.imul, 1) := zb_X12_product_16.2.2.1
theorem dX12_product_21 : decode cX12_product 21 = .ok (.istore_n 1, 1) := zb_X12_product_16.2.2.2.1
theorem dX12_product_22 : decode cX12_product 22 = .ok (.goto (-17), 3) := zb_X12_product_16.2.2.2.2.1
theorem dX12_product_25 : decode cX12_product 25 = .ok (.iload_n 1, 1) := zb_X12_product_16.2.2.2.2.2.1
theorem dX12_product_26 : decode cX12_product 26 = .ok (.ireturn, 1) := zb_X12_product_16.2.2.2.2.2.2
theorem zb_X12_sum_0 : (decode cX12_sum 0 = .ok (.aload_n 0, 1)) ∧ (decode cX12_sum 1 = .ok (.invokevirtual 391, 3)) ∧ (decode cX12_sum 4 = .ok (.istore_n 1, 1)) ∧ (decode cX12_sum 5 = .ok (.iconst 1, 1)) ∧ (decode cX12_sum 6 = .ok (.istore_n 2, 1)) ∧ (decode cX12_sum 7 = .ok (.iload_n 2, 1)) ∧ (decode cX12_sum 8 = .ok (.ifCond .eq 48, 3)) ∧ (decode cX12_sum 56 = .ok (.iload_n 1, 1)) ∧ (decode cX12_sum 57 = .ok (.ireturn, 1)) ∧ (decode cX12_sum 11 = .ok (.aload_n 0, 1)) ∧ (decode cX12_sum 12 = .ok (.ldc_w 394, 3)) := by decide +kernel
theorem dX12_sum_0 : decode cX12_sum 0 = .ok (.aload_n 0, 1) := zb_X12_sum_0.1
theorem dX12_sum_1 : decode cX12_sum 1 = .ok (.invokevirtual 391, 3) := zb_X12_sum_0.2.1
theorem dX12_sum_4 : decode cX12_sum 4 = .ok (.istore_n 1, 1) := zb_X12_sum_0.2.2.1
theorem dX12_sum_5 : decode cX12_sum 5 = .ok (.iconst 1, 1) := zb_X12_sum_0.2.2.2.1
theorem dX12_sum_6 : decode cX12_sum 6 = .ok (.istore_n 2, 1) := zb_X12_sum_0.2.2.2.2.1
theorem dX12_sum_7 : decode cX12_sum 7 = .ok (.iload_n 2, 1) := zb_X12_sum_0.2.2.2.2.2.1
theorem dX12_sum_8 : decode cX12_sum 8 = .ok (.ifCond .eq 48, 3) := zb_X12_sum_0.2.2.2.2.2.2.1
theorem dX12_sum_56 : decode cX12_sum 56 = .ok (.iload_n 1, 1) := zb_X12_sum_0.2.2.2.2.2.2.2.1
theorem dX12_sum_57 : decode cX12_sum 57 = .ok (.ireturn, 1) := zb_X12_sum_0.2.2.2.2.2.2.2.2.1
theorem dX12_sum_11 : decode cX12_sum 11 = .ok (.aload_n 0, 1) := zb_X12_sum_0.2.2.2.2.2.2.2.2.2.1
theorem dX12_sum_12 : decode cX12_sum 12 = .ok (.ldc_w 394, 3) := zb_X12_sum_0.2.2.2.2.2.2.2.2.2.2
theorem zb_X12_sum_15 : (decode cX12_sum 15 = .ok (.invokevirtual 364, 3)) ∧ (decode cX12_sum 18 = .ok (.ifCond .eq 13, 3)) ∧ (decode cX12_sum 21 = .ok (.iload_n 1, 1)) ∧ (decode cX12_sum 22 = .ok (.aload_n 0, 1)) ∧ (decode cX12_sum 23 = .ok (.invokevirtual 391, 3)) ∧ (decode cX12_sum 26 = .ok (.iadd, 1)) ∧ (decode cX12_sum 27 = .ok (.istore_n 1, 1)) ∧ (decode cX12_sum 28 = .ok (.goto (-21), 3)) ∧ (decode cX12_sum 31 = .ok (.aload_n 0, 1)) ∧ (decode cX12_sum 32 = .ok (.ldc_w 396, 3)) ∧ (decode cX12_sum 35 = .ok (.invokevirtual 364, 3)) := by decide +kernel
theorem dX12_sum_15 : decode cX12_sum 15 = .ok (.invokevirtual 364, 3) := zb_X12_sum_15.1
theorem dX12_sum_18 : decode cX12_sum 18 = .ok (.ifCond .eq 13, 3) := zb_X12_sum_15.2.1
theorem dX12_sum_21 : decode cX12_sum 21 = .ok (.iload_n 1, 1) := zb_X12_sum_15.2.2.1
theorem dX12_sum_22 : decode cX12_sum 22 = .ok (.aload_n 0, 1) := zb_X12_sum_15.2.2.2.1
theorem dX12_sum_23 : decode cX12_sum 23 = .ok (.invokevirtual 391, 3) := zb_X12_sum_15.2.2.2.2.1
theorem dX12_sum_26 : decode cX12_sum 26 = .ok (.iadd, 1) := zb_X12_sum_15.2.2.2.2.2.1
theorem dX12_sum_27 : decode cX12_sum 27 = .ok (.istore_n 1, 1) := zb_X12_sum_15.2.2.2.2.2.2.1
theorem dX12_sum_28 : decode cX12_sum 28 = .ok (.goto (-21), 3) := zb_X12_sum_15.2.2.2.2.2.2.2.1
theorem dX12_sum_31 : decode cX12_sum 31 = .ok (.aload_n 0, 1) := zb_X12_sum_15.2.2.2.2.2.2.2.2.1
theorem dX12_sum_32 : decode cX12_sum 32 = .ok (.ldc_w 396, 3) := zb_X12_sum_15.2.2.2.2.2.2.2.2.2.1
theorem dX12_sum_35 : decode cX12_sum 35 = .ok (.invokevirtual 364, 3) := zb_X12_sum_15.2.2.2.2.2.2.2.2.2.2
theorem zb_X12_sum_38 : (decode cX12_sum 38 = .ok (.ifCond .eq 13, 3)) ∧ (decode cX12_sum 41 = .ok (.iload_n 1, 1)) ∧ (decode cX12_sum 42 = .ok (.aload_n 0, 1)) ∧ (decode cX12_sum 43 = .ok (.invokevirtual 391, 3)) ∧ (decode cX12_sum 46 = .ok (.isub, 1)) ∧ (decode cX12_sum 47 = .ok (.istore_n 1, 1)) ∧ (decode cX12_sum 48 = .ok (.goto (-41), 3)) ∧ (decode cX12_sum 51 = .ok (.iconst 0, 1)) ∧ (decode cX12_sum 52 = .ok (.istore_n 2, 1)) ∧ (decode cX12_sum 53 = .ok (.goto (-46), 3)) := by decide +kernel
theorem dX12_sum_38 : decode cX12_sum 38 = .ok (.ifCond .eq 13, 3) := zb_X12_sum_38.1
theorem dX12_sum_41 : decode cX12_sum 41 = .ok (.iload_n 1, 1) := zb_X12_sum_38.2.1
theorem dX12_sum_42 : decode cX12_sum 42 = .ok (.aload_n 0, 1) := zb_X12_sum_38.2.2.1
theorem dX12_sum_43 : decode cX12_sum 43 = .ok (.invokevirtual 391, 3) := zb_X12_sum_38.2.2.2.1
theorem dX12_sum_46 : decode cX12_sum 46 = .ok (.isub, 1) := zb_X12_sum_38.2.2.2.2.1
theorem dX12_sum_47 : decode cX12_sum 47 = .ok (.istore_n 1, 1) := zb_X12_sum_38.2.2.2.2.2.1
theorem dX12_sum_48 : decode cX12_sum 48 = .ok (.goto (-41), 3) := zb_X12_sum_38.2.2.2.2.2.2.1
theorem dX12_sum_51 : decode cX12_sum 51 = .ok (.iconst 0, 1) := zb_X12_sum_38.2.2.2.2.2.2.2.1
theorem dX12_sum_52 : decode cX12_sum 52 = .ok (.istore_n 2, 1) := zb_X12_sum_38.2.2.2.2.2.2.2.2.1
theorem dX12_sum_53 : decode cX12_sum 53 = .ok (.goto (-46), 3) := zb_X12_sum_38.2.2.2.2.2.2.2.2.2
theorem zb_X12_turned_0 : (decode cX12_turned 0 = .ok (.aload_n 0, 1)) ∧ (decode cX12_turned 1 = .ok (.getfield 349, 3)) ∧ (decode cX12_turned 4 = .ok (.ifCond .lt 5, 3)) ∧ (decode cX12_turned 9 = .ok (.aload_n 0, 1)) ∧ (decode cX12_turned 10 = .ok (.ldc_w 378, 3)) ∧ (decode cX12_turned 13 = .ok (.invokevirtual 352, 3)) ∧ (decode cX12_turned 16 = .ok (.ifCond .eq 37, 3)) ∧ (decode cX12_turned 19 = .ok (.aload_n 0, 1)) ∧ (decode cX12_turned 20 = .ok (.invokevirtual 380, 3)) ∧ (decode cX12_turned 23 = .ok (.ifCond .ne 5, 3)) ∧ (decode cX12_turned 28 = .ok (.aload_n 0, 1)) ∧ (decode cX12_turned 26 = .ok (.iconst 0, 1)) := by decide +kernel
theorem dX12_turned_0 : decode cX12_turned 0 = .ok (.aload_n 0, 1) := zb_X12_turned_0.1
theorem dX12_turned_1 : decode cX12_turned 1 = .ok (.getfield 349, 3) := zb_X12_turned_0.2.1
theorem dX12_turned_4 : decode cX12_turned 4 = .ok (.ifCond .lt 5, 3) := zb_X12_turned_0.2.2.1
theorem dX12_turned_9 : decode cX12_turned 9 = .ok (.aload_n 0, 1) := zb_X12_turned_0.2.2.2.1
theorem dX12_turned_10 : decode cX12_turned 10 = .ok (.ldc_w 378, 3) := zb_X12_turned_0.2.2.2.2.1
theorem dX12_turned_13 : decode cX12_turned 13 = .ok (.invokevirtual 352, 3) := zb_X12_turned_0.2.2.2.2.2.1
theorem dX12_turned_16 : decode cX12_turned 16 = .ok (.ifCond .eq 37, 3) := zb_X12_turned_0.2.2.2.2.2.2.1
theorem dX12_turned_19 : decode cX12_turned 19 = .ok (.aload_n 0, 1) := zb_X12_turned_0.2.2.2.2.2.2.2.1
theorem dX12_turned_20 : decode cX12_turned 20 = .ok (.invokevirtual 380, 3) := zb_X12_turned_0.2.2.2.2.2.2.2.2.1
theorem dX12_turned_23 : decode cX12_turned 23 = .ok (.ifCond .ne 5, 3) := zb_X12_turned_0.2.2.2.2.2.2.2.2.2.1
theorem dX12_turned_28 : decode cX12_turned 28 = .ok (.aload_n 0, 1) := zb_X12_turned_0.2.2.2.2.2.2.2.2.2.2.1
theorem dX12_turned_26 : decode cX12_turned 26 = .ok (.iconst 0, 1) := zb_X12_turned_0.2.2.2.2.2.2.2.2.2.2.2
theorem zb_X12_turned_27 : (decode cX12_turned 27 = .ok (.ireturn, 1)) ∧ (decode cX12_turned 53 = .ok (.aload_n 0, 1)) ∧ (decode cX12_turned 54 = .ok (.invokevirtual 384, 3)) ∧ (decode cX12_turned 57 = .ok (.istore_n 1, 1)) ∧ (decode cX12_turned 58 = .ok (.aload_n 0, 1)) ∧ (decode cX12_turned 59 = .ok (.ldc_w 387, 3)) ∧ (decode cX12_turned 62 = .ok (.invokevirtual 364, 3)) ∧ (decode cX12_turned 65 = .ok (.ifCond .eq 17, 3)) ∧ (decode cX12_turned 68 = .ok (.iload_n 1, 1)) ∧ (decode cX12_turned 69 = .ok (.aload_n 0, 1)) ∧ (decode cX12_turned 70 = .ok (.invokevirtual 384, 3)) ∧ (decode cX12_turned 73 = .ok (.if_icmp .ge 7, 3)) := by decide +kernel
theorem dX12_turned_27 : decode cX12_turned 27 = .ok (.ireturn, 1) := zb_X12_turned_27.1
theorem dX12_turned_53 : decode cX12_turned 53 = .ok (.aload_n 0, 1) := zb_X12_turned_27.2.1
theorem dX12_turned_54 : decode cX12_turned 54 = .ok (.invokevirtual 384, 3) := zb_X12_turned_27.2.2.1
theorem dX12_turned_57 : decode cX12_turned 57 = .ok (.istore_n 1, 1) := zb_X12_turned_27.2.2.2.1
theorem dX12_turned_58 : decode cX12_turned 58 = .ok (.aload_n 0, 1) := zb_X12_turned_27.2.2.2.2.1
theorem dX12_turned_59 : decode cX12_turned 59 = .ok (.ldc_w 387, 3) := zb_X12_turned_27.2.2.2.2.2.1
theorem dX12_turned_62 : decode cX12_turned 62 = .ok (.invokevirtual 364, 3) := zb_X12_turned_27.2.2.2.2.2.2.1
theorem dX12_turned_65 : decode cX12_turned 65 = .ok (.ifCond .eq 17, 3) := zb_X12_turned_27.2.2.2.2.2.2.2.1
theorem dX12_turned_68 : decode cX12_turned 68 = .ok (.iload_n 1, 1) := zb_X12_turned_27.2.2.2.2.2.2.2.2.1
theorem dX12_turned_69 : decode cX12_turned 69 = .ok (.aload_n 0, 1) := zb_X12_turned_27.2.2.2.2.2.2.2.2.2.1
theorem dX12_turned_70 : decode cX12_turned 70 = .ok (.invokevirtual 384, 3) := zb_X12_turned_27.2.2.2.2.2.2.2.2.2.2.1
theorem dX12_turned_73 : decode cX12_turned 73 = .ok (.if_icmp .ge 7, 3) := zb_X12_turned_27.2.2.2.2.2.2.2.2.2.2.2
theorem zb_X12_turned_80 : (decode cX12_turned 80 = .ok (.iconst 0, 1)) ∧ (decode cX12_turned 81 = .ok (.ireturn, 1)) ∧ (decode cX12_turned 76 = .ok (.iconst 1, 1)) ∧ (decode cX12_turned 77 = .ok (.goto 4, 3)) ∧ (decode cX12_turned 82 = .ok (.aload_n 0, 1)) ∧ (decode cX12_turned 83 = .ok (.ldc_w 389, 3)) ∧ (decode cX12_turned 86 = .ok (.invokevirtual 364, 3)) ∧ (decode cX12_turned 89 = .ok (.ifCond .eq 17, 3)) ∧ (decode cX12_turned 92 = .ok (.iload_n 1, 1)) ∧ (decode cX12_turned 93 = .ok (.aload_n 0, 1)) ∧ (decode cX12_turned 94 = .ok (.invokevirtual 384, 3)) ∧ (decode cX12_turned 97 = .ok (.if_icmp .ne 7, 3)) := by decide +kernel
theorem dX12_turned_80 : decode cX12_turned 80 = .ok (.iconst 0, 1) := zb_X12_turned_80.1
theorem dX12_turned_81 : decode cX12_turned 81 = .ok (.ireturn, 1) := zb_X12_turned_80.2.1
theorem dX12_turned_76 : decode cX12_turned 76 = .ok (.iconst 1, 1) := zb_X12_turned_80.2.2.1
theorem dX12_turned_77 : decode cX12_turned 77 = .ok (.goto 4, 3) := zb_X12_turned_80.2.2.2.1
theorem dX12_turned_82 : decode cX12_turned 82 = .ok (.aload_n 0, 1) := zb_X12_turned_80.2.2.2.2.1
theorem dX12_turned_83 : decode cX12_turned 83 = .ok (.ldc_w 389, 3) := zb_X12_turned_80.2.2.2.2.2.1
theorem dX12_turned_86 : decode cX12_turned 86 = .ok (.invokevirtual 364, 3) := zb_X12_turned_80.2.2.2.2.2.2.1
theorem dX12_turned_89 : decode cX12_turned 89 = .ok (.ifCond .eq 17, 3) := zb_X12_turned_80.2.2.2.2.2.2.2.1
theorem dX12_turned_92 : decode cX12_turned 92 = .ok (.iload_n 1, 1) := zb_X12_turned_80.2.2.2.2.2.2.2.2.1
theorem dX12_turned_93 : decode cX12_turned 93 = .ok (.aload_n 0, 1) := zb_X12_turned_80.2.2.2.2.2.2.2.2.2.1
theorem dX12_turned_94 : decode cX12_turned 94 = .ok (.invokevirtual 384, 3) := zb_X12_turned_80.2.2.2.2.2.2.2.2.2.2.1
theorem dX12_turned_97 : decode cX12_turned 97 = .ok (.if_icmp .ne 7, 3) := zb_X12_turned_80.2.2.2.2.2.2.2.2.2.2.2
theorem zb_X12_turned_104 : (decode cX12_turned 104 = .ok (.iconst 0, 1)) ∧ (decode cX12_turned 105 = .ok (.ireturn, 1)) ∧ (decode cX12_turned 100 = .ok (.iconst 1, 1)) ∧ (decode cX12_turned 101 = .ok (.goto 4, 3)) ∧ (decode cX12_turned 106 = .ok (.iload_n 1, 1)) ∧ (decode cX12_turned 107 = .ok (.ireturn, 1)) ∧ (decode cX12_turned 7 = .ok (.iconst 0, 1)) ∧ (decode cX12_turned 8 = .ok (.ireturn, 1)) ∧ (decode cX12_turned 29 = .ok (.invokevirtual 367, 3)) ∧ (decode cX12_turned 32 = .ok (.istore_n 1, 1)) ∧ (decode cX12_turned 33 = .ok (.aload_n 0, 1)) ∧ (decode cX12_turned 34 = .ok (.dup, 1)) := by decide +kernel
theorem dX12_turned_104 : decode cX12_turned 104 = .ok (.iconst 0, 1) := zb_X12_turned_104.1
theorem dX12_turned_105 : decode cX12_turned 105 = .ok (.ireturn, 1) := zb_X12_turned_104.2.1
theorem dX12_turned_100 : decode cX12_turned 100 = .ok (.iconst 1, 1) := zb_X12_turned_104.2.2.1
theorem dX12_turned_101 : decode cX12_turned 101 = .ok (.goto 4, 3) := zb_X12_turned_104.2.2.2.1
theorem dX12_turned_106 : decode cX12_turned 106 = .ok (.iload_n 1, 1) := zb_X12_turned_104.2.2.2.2.1
theorem dX12_turned_107 : decode cX12_turned 107 = .ok (.ireturn, 1) := zb_X12_turned_104.2.2.2.2.2.1
theorem dX12_turned_7 : decode cX12_turned 7 = .ok (.iconst 0, 1) := zb_X12_turned_104.2.2.2.2.2.2.1
theorem dX12_turned_8 : decode cX12_turned 8 = .ok (.ireturn, 1) := zb_X12_turned_104.2.2.2.2.2.2.2.1
theorem dX12_turned_29 : decode cX12_turned 29 = .ok (.invokevirtual 367, 3) := zb_X12_turned_104.2.2.2.2.2.2.2.2.1
theorem dX12_turned_32 : decode cX12_turned 32 = .ok (.istore_n 1, 1) := zb_X12_turned_104.2.2.2.2.2.2.2.2.2.1
theorem dX12_turned_33 : decode cX12_turned 33 = .ok (.aload_n 0, 1) := zb_X12_turned_104.2.2.2.2.2.2.2.2.2.2.1
theorem dX12_turned_34 : decode cX12_turned 34 = .ok (.dup, 1) := zb_X12_turned_104.2.2.2.2.2.2.2.2.2.2.2
theorem zb_X12_turned_35 : (decode cX12_turned 35 = .ok (.getfield 372, 3)) ∧ (decode cX12_turned 38 = .ok (.iconst 1, 1)) ∧ (decode cX12_turned 39 = .ok (.isub, 1)) ∧ (decode cX12_turned 40 = .ok (.putfield 372, 3)) ∧ (decode cX12_turned 43 = .ok (.iload_n 1, 1)) ∧ (decode cX12_turned 44 = .ok (.ifCond .ne 7, 3)) ∧ (decode cX12_turned 51 = .ok (.iconst 0, 1)) ∧ (decode cX12_turned 52 = .ok (.ireturn, 1)) ∧ (decode cX12_turned 47 = .ok (.iconst 1, 1)) ∧ (decode cX12_turned 48 = .ok (.goto 4, 3)) := by decide +kernel
theorem dX12_turned_35 : decode cX12_turned 35 = .ok (.getfield 372, 3) := zb_X12_turned_35.1
theorem dX12_turned_38 : decode cX12_turned 38 = .ok (.iconst 1, 1) := zb_X12_turned_35.2.1
theorem dX12_turned_39 : decode cX12_turned 39 = .ok (.isub, 1) := zb_X12_turned_35.2.2.1
theorem dX12_turned_40 : decode cX12_turned 40 = .ok (.putfield 372, 3) := zb_X12_turned_35.2.2.2.1
theorem dX12_turned_43 : decode cX12_turned 43 = .ok (.iload_n 1, 1) := zb_X12_turned_35.2.2.2.2.1
theorem dX12_turned_44 : decode cX12_turned 44 = .ok (.ifCond .ne 7, 3) := zb_X12_turned_35.2.2.2.2.2.1
theorem dX12_turned_51 : decode cX12_turned 51 = .ok (.iconst 0, 1) := zb_X12_turned_35.2.2.2.2.2.2.1
theorem dX12_turned_52 : decode cX12_turned 52 = .ok (.ireturn, 1) := zb_X12_turned_35.2.2.2.2.2.2.2.1
theorem dX12_turned_47 : decode cX12_turned 47 = .ok (.iconst 1, 1) := zb_X12_turned_35.2.2.2.2.2.2.2.2.1
theorem dX12_turned_48 : decode cX12_turned 48 = .ok (.goto 4, 3) := zb_X12_turned_35.2.2.2.2.2.2.2.2.2
theorem zb_X12_both_0 : (decode cX12_both 0 = .ok (.aload_n 0, 1)) ∧ (decode cX12_both 1 = .ok (.invokevirtual 367, 3)) ∧ (decode cX12_both 4 = .ok (.istore_n 1, 1)) ∧ (decode cX12_both 5 = .ok (.aload_n 0, 1)) ∧ (decode cX12_both 6 = .ok (.ldc_w 370, 3)) ∧ (decode cX12_both 9 = .ok (.invokevirtual 364, 3)) ∧ (decode cX12_both 12 = .ok (.ifCond .eq 25, 3)) ∧ (decode cX12_both 15 = .ok (.aload_n 0, 1)) ∧ (decode cX12_both 16 = .ok (.invokevirtual 367, 3)) ∧ (decode cX12_both 19 = .ok (.istore_n 2, 1)) ∧ (decode cX12_both 20 = .ok (.iload_n 1, 1)) := by decide +kernel
theorem dX12_both_0 : decode cX12_both 0 = .ok (.aload_n 0, 1) := zb_X12_both_0.1
theorem dX12_both_1 : decode cX12_both 1 = .ok (.invokevirtual 367, 3) := zb_X12_both_0.2.1
theorem dX12_both_4 : decode cX12_both 4 = .ok (.istore_n 1, 1) := zb_X12_both_0.2.2.1
theorem dX12_both_5 : decode cX12_both 5 = .ok (.aload_n 0, 1) := zb_X12_both_0.2.2.2.1
theorem dX12_both_6 : decode cX12_both 6 = .ok (.ldc_w 370, 3) := zb_X12_both_0.2.2.2.2.1
theorem dX12_both_9 : decode cX12_both 9 = .ok (.invokevirtual 364, 3) := zb_X12_both_0.2.2.2.2.2.1
theorem dX12_both_12 : decode cX12_both 12 = .ok (.ifCond .eq 25, 3) := zb_X12_both_0.2.2.2.2.2.2.1
theorem dX12_both_15 : decode cX12_both 15 = .ok (.aload_n 0, 1) := zb_X12_both_0.2.2.2.2.2.2.2.1
theorem dX12_both_16 : decode cX12_both 16 = .ok (.invokevirtual 367, 3) := zb_X12_both_0.2.2.2.2.2.2.2.2.1
theorem dX12_both_19 : decode cX12_both 19 = .ok (.istore_n 2, 1) := zb_X12_both_0.2.2.2.2.2.2.2.2.2.1
theorem dX12_both_20 : decode cX12_both 20 = .ok (.iload_n 1, 1) := zb_X12_both_0.2.2.2.2.2.2.2.2.2.2
theorem zb_X12_both_21 : (decode cX12_both 21 = .ok (.ifCond .eq 11, 3)) ∧ (decode cX12_both 32 = .ok (.iconst 0, 1)) ∧ (decode cX12_both 33 = .ok (.istore_n 1, 1)) ∧ (decode cX12_both 34 = .ok (.goto (-29), 3)) ∧ (decode cX12_both 24 = .ok (.iload_n 2, 1)) ∧ (decode cX12_both 25 = .ok (.ifCond .eq 7, 3)) ∧ (decode cX12_both 28 = .ok (.iconst 1, 1)) ∧ (decode cX12_both 29 = .ok (.goto 4, 3)) ∧ (decode cX12_both 37 = .ok (.iload_n 1, 1)) ∧ (decode cX12_both 38 = .ok (.ireturn, 1)) := by decide +kernel
theorem dX12_both_21 : decode cX12_both 21 = .ok (.ifCond .eq 11, 3) := zb_X12_both_21.1
theorem dX12_both_32 : decode cX12_both 32 = .ok (.iconst 0, 1) := zb_X12_both_21.2.1
theorem dX12_both_33 : decode cX12_both 33 = .ok (.istore_n 1, 1) := zb_X12_both_21.2.2.1
theorem dX12_both_34 : decode cX12_both 34 = .ok (.goto (-29), 3) := zb_X12_both_21.2.2.2.1
theorem dX12_both_24 : decode cX12_both 24 = .ok (.iload_n 2, 1) := zb_X12_both_21.2.2.2.2.1
theorem dX12_both_25 : decode cX12_both 25 = .ok (.ifCond .eq 7, 3) := zb_X12_both_21.2.2.2.2.2.1
theorem dX12_both_28 : decode cX12_both 28 = .ok (.iconst 1, 1) := zb_X12_both_21.2.2.2.2.2.2.1
theorem dX12_both_29 : decode cX12_both 29 = .ok (.goto 4, 3) := zb_X12_both_21.2.2.2.2.2.2.2.1
theorem dX12_both_37 : decode cX12_both 37 = .ok (.iload_n 1, 1) := zb_X12_both_21.2.2.2.2.2.2.2.2.1
theorem dX12_both_38 : decode cX12_both 38 = .ok (.ireturn, 1) := zb_X12_both_21.2.2.2.2.2.2.2.2.2
theorem zb_X12_either_0 : (decode cX12_either 0 = .ok (.aload_n 0, 1)) ∧ (decode cX12_either 1 = .ok (.invokevirtual 359, 3)) ∧ (decode cX12_either 4 = .ok (.istore_n 1, 1)) ∧ (decode cX12_either 5 = .ok (.aload_n 0, 1)) ∧ (decode cX12_either 6 = .ok (.ldc_w 362, 3)) ∧ (decode cX12_either 9 = .ok (.invokevirtual 364, 3)) ∧ (decode cX12_either 12 = .ok (.ifCond .eq 25, 3)) ∧ (decode cX12_either 15 = .ok (.aload_n 0, 1)) ∧ (decode cX12_either 16 = .ok (.invokevirtual 359, 3)) ∧ (decode cX12_either 19 = .ok (.istore_n 2, 1)) ∧ (decode cX12_either 20 = .ok (.iload_n 1, 1)) := by decide +kernel
theorem dX12_either_0 : decode cX12_either 0 = .ok (.aload_n 0, 1) := zb_X12_either_0.1
theorem dX12_either_1 : decode cX12_either 1 = .ok (.invokevirtual 359, 3) := zb_X12_either_0.2.1
theorem dX12_either_4 : decode cX12_either 4 = .ok (.istore_n 1, 1) := zb_X12_either_0.2.2.1
theorem dX12_either_5 : decode cX12_either 5 = .ok (.aload_n 0, 1) := zb_X12_either_0.2.2.2.1
theorem dX12_either_6 : decode cX12_either 6 = .ok (.ldc_w 362, 3) := zb_X12_either_0.2.2.2.2.1
theorem dX12_either_9 : decode cX12_either 9 = .ok (.invokevirtual 364, 3) := zb_X12_either_0.2.2.2.2.2.1
theorem dX12_either_12 : decode cX12_either 12 = .ok (.ifCond .eq 25, 3) := zb_X12_either_0.2.2.2.2.2.2.1
theorem dX12_either_15 : decode cX12_either 15 = .ok (.aload_n 0, 1) := zb_X12_either_0.2.2.2.2.2.2.2.1
theorem dX12_either_16 : decode cX12_either 16 = .ok (.invokevirtual 359, 3) := zb_X12_either_0.2.2.2.2.2.2.2.2.1
theorem dX12_either_19 : decode cX12_either 19 = .ok (.istore_n 2, 1) := zb_X12_either_0.2.2.2.2.2.2.2.2.2.1
theorem dX12_either_20 : decode cX12_either 20 = .ok (.iload_n 1, 1) := zb_X12_either_0.2.2.2.2.2.2.2.2.2.2
theorem zb_X12_either_21 : (decode cX12_either 21 = .ok (.ifCond .ne 7, 3)) ∧ (decode cX12_either 28 = .ok (.iconst 1, 1)) ∧ (decode cX12_either 29 = .ok (.goto 4, 3)) ∧ (decode cX12_either 33 = .ok (.istore_n 1, 1)) ∧ (decode cX12_either 34 = .ok (.goto (-29), 3)) ∧ (decode cX12_either 24 = .ok (.iload_n 2, 1)) ∧ (decode cX12_either 25 = .ok (.ifCond .eq 7, 3)) ∧ (decode cX12_either 32 = .ok (.iconst 0, 1)) ∧ (decode cX12_either 37 = .ok (.iload_n 1, 1)) ∧ (decode cX12_either 38 = .ok (.ireturn, 1)) := by decide +kernel
theorem dX12_either_21 : decode cX12_either 21 = .ok (.ifCond .ne 7, 3) := zb_X12_either_21.1
theorem dX12_either_28 : decode cX12_either 28 = .ok (.iconst 1, 1) := zb_X12_either_21.2.1
theorem dX12_either_29 : decode cX12_either 29 = .ok (.goto 4, 3) := zb_X12_either_21.2.2.1
theorem dX12_either_33 : decode cX12_either 33 = .ok (.istore_n 1, 1) := zb_X12_either_21.2.2.2.1
theorem dX12_either_34 : decode cX12_either 34 = .ok (.goto (-29), 3) := zb_X12_either_21.2.2.2.2.1
theorem dX12_either_24 : decode cX12_either 24 = .ok (.iload_n 2, 1) := zb_X12_either_21.2.2.2.2.2.1
theorem dX12_either_25 : decode cX12_either 25 = .ok (.ifCond .eq 7, 3) := zb_X12_either_21.2.2.2.2.2.2.1
theorem dX12_either_32 : decode cX12_either 32 = .ok (.iconst 0, 1) := zb_X12_either_21.2.2.2.2.2.2.2.1
theorem dX12_either_37 : decode cX12_either 37 = .ok (.iload_n 1, 1) := zb_X12_either_21.2.2.2.2.2.2.2.2.1
theorem dX12_either_38 : decode cX12_either 38 = .ok (.ireturn, 1) := zb_X12_either_21.2.2.2.2.2.2.2.2.2
theorem ck_X12_next_0_29mr : ((cX12_next.data.toList).drop 0).take 16 = [42, 180, 1, 81, 42, 180, 1, 72, 162, 0, 42, 42, 42, 180, 1, 81] := by decide +kernel
theorem ck_X12_next_1_29mr : ((cX12_next.data.toList).drop 16).take 16 = [182, 1, 78, 16, 32, 159, 0, 16, 42, 42, 180, 1, 81, 182, 1, 78] := by decide +kernel
theorem ck_X12_next_2_29mr : ((cX12_next.data.toList).drop 32).take 16 = [16, 10, 160, 0, 16, 42, 89, 180, 1, 81, 4, 96, 181, 1, 81, 167] := by decide +kernel
theorem ck_X12_next_3_29mr : ((cX12_next.data.toList).drop 48).take 16 = [255, 209, 42, 42, 180, 1, 81, 181, 1, 84, 42, 42, 180, 1, 84, 182] := by decide +kernel
theorem ck_X12_next_4_29mr : ((cX12_next.data.toList).drop 64).take 16 = [1, 87, 153, 0, 27, 42, 42, 180, 1, 81, 182, 1, 87, 153, 0, 76] := by decide +kernel
theorem ck_X12_next_5_29mr : ((cX12_next.data.toList).drop 80).take 16 = [42, 89, 180, 1, 81, 4, 96, 181, 1, 81, 167, 255, 235, 42, 42, 180] := by decide +kernel
theorem ck_X12_next_6_29mr : ((cX12_next.data.toList).drop 96).take 16 = [1, 84, 182, 1, 90, 153, 0, 27, 42, 42, 180, 1, 81, 182, 1, 90] := by decide +kernel
theorem ck_X12_next_7_29mr : ((cX12_next.data.toList).drop 112).take 16 = [153, 0, 41, 42, 89, 180, 1, 81, 4, 96, 181, 1, 81, 167, 255, 235] := by decide +kernel
theorem ck_X12_next_8_29mr : ((cX12_next.data.toList).drop 128).take 16 = [42, 89, 180, 1, 81, 42, 180, 1, 84, 42, 180, 1, 72, 162, 0, 7] := by decide +kernel
theorem ck_X12_next_9_29mr : ((cX12_next.data.toList).drop 144).take 16 = [4, 167, 0, 4, 3, 96, 181, 1, 81, 177] := by decide +kernel
theorem ck_X12_one_0_29mr : ((cX12_one.data.toList).drop 0).take 16 = [42, 180, 1, 93, 155, 0, 5, 3, 172, 42, 19, 1, 140, 182, 1, 96] := by decide +kernel
theorem ck_X12_one_1_29mr : ((cX12_one.data.toList).drop 16).take 16 = [153, 0, 30, 42, 182, 1, 124, 154, 0, 5, 3, 172, 42, 182, 1, 142] := by decide +kernel
theorem ck_X12_one_2_29mr : ((cX12_one.data.toList).drop 32).take 16 = [60, 42, 89, 180, 1, 116, 4, 100, 181, 1, 116, 27, 116, 172, 42, 19] := by decide +kernel
theorem ck_X12_one_3_29mr : ((cX12_one.data.toList).drop 48).take 16 = [1, 147, 182, 1, 96, 153, 0, 44, 42, 182, 1, 124, 154, 0, 5, 3] := by decide +kernel
theorem ck_X12_one_4_29mr : ((cX12_one.data.toList).drop 64).take 16 = [172, 42, 182, 1, 149, 60, 42, 19, 1, 152, 182, 1, 108, 154, 0, 8] := by decide +kernel
theorem ck_X12_one_5_29mr : ((cX12_one.data.toList).drop 80).take 16 = [42, 182, 1, 119, 172, 42, 89, 180, 1, 116, 4, 100, 181, 1, 116, 27] := by decide +kernel
theorem ck_X12_one_6_29mr : ((cX12_one.data.toList).drop 96).take 16 = [172, 42, 42, 180, 1, 84, 182, 1, 90, 153, 0, 62, 42, 180, 1, 81] := by decide +kernel
theorem ck_X12_one_7_29mr : ((cX12_one.data.toList).drop 112).take 16 = [42, 180, 1, 84, 100, 7, 164, 0, 8, 42, 182, 1, 119, 172, 3, 60] := by decide +kernel
theorem ck_X12_one_8_29mr : ((cX12_one.data.toList).drop 128).take 16 = [42, 180, 1, 84, 61, 28, 42, 180, 1, 81, 162, 0, 23, 16, 10, 27] := by decide +kernel
theorem ck_X12_one_9_29mr : ((cX12_one.data.toList).drop 144).take 16 = [104, 42, 28, 182, 1, 78, 96, 16, 48, 100, 60, 132, 2, 1, 167, 255] := by decide +kernel
theorem ck_X12_one_10_29mr : ((cX12_one.data.toList).drop 160).take 16 = [231, 42, 182, 1, 100, 27, 172, 42, 19, 1, 154, 182, 1, 96, 153, 0] := by decide +kernel
theorem ck_X12_one_11_29mr : ((cX12_one.data.toList).drop 176).take 16 = [7, 3, 167, 0, 74, 42, 19, 1, 155, 182, 1, 96, 153, 0, 7, 4] := by decide +kernel
theorem ck_X12_one_12_29mr : ((cX12_one.data.toList).drop 192).take 16 = [167, 0, 60, 42, 19, 1, 156, 182, 1, 96, 153, 0, 7, 5, 167, 0] := by decide +kernel
theorem ck_X12_one_13_29mr : ((cX12_one.data.toList).drop 208).take 16 = [46, 42, 19, 1, 157, 182, 1, 96, 153, 0, 7, 6, 167, 0, 32, 42] := by decide +kernel
theorem ck_X12_one_14_29mr : ((cX12_one.data.toList).drop 224).take 16 = [19, 1, 158, 182, 1, 96, 153, 0, 7, 7, 167, 0, 18, 42, 19, 1] := by decide +kernel
theorem ck_X12_one_15_29mr : ((cX12_one.data.toList).drop 240).take 16 = [159, 182, 1, 96, 153, 0, 7, 8, 167, 0, 4, 2, 60, 27, 156, 0] := by decide +kernel
theorem ck_X12_one_16_29mr : ((cX12_one.data.toList).drop 256).take 16 = [8, 42, 182, 1, 119, 172, 42, 182, 1, 100, 42, 180, 0, 143, 27, 46] := by decide +kernel
theorem ck_X12_one_17_29mr : ((cX12_one.data.toList).drop 272).take 16 = [172] := by decide +kernel
theorem gX12_isLetter_X12_byteAt : GoodIn wsX12_isLetter (wsV RX12 334 RX12 yX12_byteAt wsX12_byteAt) := ru_gG (ru_gV tw_7_75 tw_7_77 tw_0_45 tw_1_12 mT_X12_byteAt)
theorem gX12_isLetter_X12_within : GoodIn wsX12_isLetter (va_wsS RX12 186 yX12_within wsX12_within) := ru_gG (ru_gS tw_6_122 tw_6_123 tw_1_12 mT_X12_within)
theorem gX12_isDigit_X12_byteAt : GoodIn wsX12_isDigit (wsV RX12 334 RX12 yX12_byteAt wsX12_byteAt) := ru_gG (ru_gV tw_7_75 tw_7_77 tw_0_45 tw_1_12 mT_X12_byteAt)
theorem gX12_isDigit_X12_within : GoodIn wsX12_isDigit (va_wsS RX12 186 yX12_within wsX12_within) := ru_gG (ru_gS tw_6_122 tw_6_123 tw_1_12 mT_X12_within)
theorem gX12_is_J0_length_8abf5 : GoodIn wsX12_is (wsV RX12 172 RJ0 yJ0_length_8abf5 wsJ0_length_8abf5) := ru_gG (ru_gV tw_5_118 tw_4_96 tw_4_97 tw_1_13 mT_J0_length_8abf5)
theorem gX12_is_X12_byteAt : GoodIn wsX12_is (wsV RX12 334 RX12 yX12_byteAt wsX12_byteAt) := ru_gG (ru_gV tw_7_75 tw_7_77 tw_0_45 tw_1_12 mT_X12_byteAt)
theorem gX12_is_J0_charAt_5068e : GoodIn wsX12_is (wsV RX12 178 RJ0 yJ0_charAt_5068e wsJ0_charAt_5068e) := ru_gG (ru_gV tw_5_119 tw_4_106 tw_4_107 tw_1_13 mT_J0_charAt_5068e)
theorem dX12_next_0 : decode cX12_next 0 = .ok (.aload_n 0, 1) := dk_0 (dk_k42 0) (dk_by (j := 0) rfl ck_X12_next_0_29mr rfl rfl rfl)
theorem dX12_next_1 : decode cX12_next 1 = .ok (.getfield 337, 3) := dk_2 (dk_k180 1) (dk_by (j := 1) rfl ck_X12_next_0_29mr rfl rfl rfl) (dk_by (j := 2) rfl ck_X12_next_0_29mr rfl rfl rfl) (dk_by (j := 3) rfl ck_X12_next_0_29mr rfl rfl rfl) (by decide)
theorem dX12_next_4 : decode cX12_next 4 = .ok (.aload_n 0, 1) := dk_0 (dk_k42 4) (dk_by (j := 4) rfl ck_X12_next_0_29mr rfl rfl rfl)
theorem dX12_next_5 : decode cX12_next 5 = .ok (.getfield 328, 3) := dk_2 (dk_k180 5) (dk_by (j := 5) rfl ck_X12_next_0_29mr rfl rfl rfl) (dk_by (j := 6) rfl ck_X12_next_0_29mr rfl rfl rfl) (dk_by (j := 7) rfl ck_X12_next_0_29mr rfl rfl rfl) (by decide)
theorem dX12_next_8 : decode cX12_next 8 = .ok (.if_icmp .ge 42, 3) := dk_s (dk_k162 8) (dk_by (j := 8) rfl ck_X12_next_0_29mr rfl rfl rfl) (dk_by (j := 9) rfl ck_X12_next_0_29mr rfl rfl rfl) (dk_by (j := 10) rfl ck_X12_next_0_29mr rfl rfl rfl) (by decide)
theorem dX12_next_50 : decode cX12_next 50 = .ok (.aload_n 0, 1) := dk_0 (dk_k42 50) (dk_by (j := 2) rfl ck_X12_next_3_29mr rfl rfl rfl)
theorem dX12_next_51 : decode cX12_next 51 = .ok (.aload_n 0, 1) := dk_0 (dk_k42 51) (dk_by (j := 3) rfl ck_X12_next_3_29mr rfl rfl rfl)
theorem dX12_next_52 : decode cX12_next 52 = .ok (.getfield 337, 3) := dk_2 (dk_k180 52) (dk_by (j := 4) rfl ck_X12_next_3_29mr rfl rfl rfl) (dk_by (j := 5) rfl ck_X12_next_3_29mr rfl rfl rfl) (dk_by (j := 6) rfl ck_X12_next_3_29mr rfl rfl rfl) (by decide)
theorem dX12_next_55 : decode cX12_next 55 = .ok (.putfield 340, 3) := dk_2 (dk_k181 55) (dk_by (j := 7) rfl ck_X12_next_3_29mr rfl rfl rfl) (dk_by (j := 8) rfl ck_X12_next_3_29mr rfl rfl rfl) (dk_by (j := 9) rfl ck_X12_next_3_29mr rfl rfl rfl) (by decide)
theorem dX12_next_58 : decode cX12_next 58 = .ok (.aload_n 0, 1) := dk_0 (dk_k42 58) (dk_by (j := 10) rfl ck_X12_next_3_29mr rfl rfl rfl)
theorem dX12_next_59 : decode cX12_next 59 = .ok (.aload_n 0, 1) := dk_0 (dk_k42 59) (dk_by (j := 11) rfl ck_X12_next_3_29mr rfl rfl rfl)
theorem dX12_next_60 : decode cX12_next 60 = .ok (.getfield 340, 3) := dk_2 (dk_k180 60) (dk_by (j := 12) rfl ck_X12_next_3_29mr rfl rfl rfl) (dk_by (j := 13) rfl ck_X12_next_3_29mr rfl rfl rfl) (dk_by (j := 14) rfl ck_X12_next_3_29mr rfl rfl rfl) (by decide)
theorem gX12_next_X12_isLetter : GoodIn wsX12_next (wsV RX12 343 RX12 yX12_isLetter wsX12_isLetter) := ru_gG (ru_gV tw_7_79 tw_7_81 tw_0_46 tw_1_12 mT_X12_isLetter)
theorem dX12_next_63 : decode cX12_next 63 = .ok (.invokevirtual 343, 3) := dk_2 (dk_k182 63) (dk_by (j := 15) rfl ck_X12_next_3_29mr rfl rfl rfl) (dk_by (j := 0) rfl ck_X12_next_4_29mr rfl rfl rfl) (dk_by (j := 1) rfl ck_X12_next_4_29mr rfl rfl rfl) (by decide)
theorem dX12_next_66 : decode cX12_next 66 = .ok (.ifCond .eq 27, 3) := dk_s (dk_k153 66) (dk_by (j := 2) rfl ck_X12_next_4_29mr rfl rfl rfl) (dk_by (j := 3) rfl ck_X12_next_4_29mr rfl rfl rfl) (dk_by (j := 4) rfl ck_X12_next_4_29mr rfl rfl rfl) (by decide)
theorem dX12_next_69 : decode cX12_next 69 = .ok (.aload_n 0, 1) := dk_0 (dk_k42 69) (dk_by (j := 5) rfl ck_X12_next_4_29mr rfl rfl rfl)
theorem dX12_next_70 : decode cX12_next 70 = .ok (.aload_n 0, 1) := dk_0 (dk_k42 70) (dk_by (j := 6) rfl ck_X12_next_4_29mr rfl rfl rfl)
theorem dX12_next_71 : decode cX12_next 71 = .ok (.getfield 337, 3) := dk_2 (dk_k180 71) (dk_by (j := 7) rfl ck_X12_next_4_29mr rfl rfl rfl) (dk_by (j := 8) rfl ck_X12_next_4_29mr rfl rfl rfl) (dk_by (j := 9) rfl ck_X12_next_4_29mr rfl rfl rfl) (by decide)
theorem dX12_next_74 : decode cX12_next 74 = .ok (.invokevirtual 343, 3) := dk_2 (dk_k182 74) (dk_by (j := 10) rfl ck_X12_next_4_29mr rfl rfl rfl) (dk_by (j := 11) rfl ck_X12_next_4_29mr rfl rfl rfl) (dk_by (j := 12) rfl ck_X12_next_4_29mr rfl rfl rfl) (by decide)
theorem dX12_next_77 : decode cX12_next 77 = .ok (.ifCond .eq 76, 3) := dk_s (dk_k153 77) (dk_by (j := 13) rfl ck_X12_next_4_29mr rfl rfl rfl) (dk_by (j := 14) rfl ck_X12_next_4_29mr rfl rfl rfl) (dk_by (j := 15) rfl ck_X12_next_4_29mr rfl rfl rfl) (by decide)
theorem dX12_next_80 : decode cX12_next 80 = .ok (.aload_n 0, 1) := dk_0 (dk_k42 80) (dk_by (j := 0) rfl ck_X12_next_5_29mr rfl rfl rfl)
theorem dX12_next_81 : decode cX12_next 81 = .ok (.dup, 1) := dk_0 (dk_k89 81) (dk_by (j := 1) rfl ck_X12_next_5_29mr rfl rfl rfl)
theorem dX12_next_82 : decode cX12_next 82 = .ok (.getfield 337, 3) := dk_2 (dk_k180 82) (dk_by (j := 2) rfl ck_X12_next_5_29mr rfl rfl rfl) (dk_by (j := 3) rfl ck_X12_next_5_29mr rfl rfl rfl) (dk_by (j := 4) rfl ck_X12_next_5_29mr rfl rfl rfl) (by decide)
theorem dX12_next_85 : decode cX12_next 85 = .ok (.iconst 1, 1) := dk_0 (dk_k4 85) (dk_by (j := 5) rfl ck_X12_next_5_29mr rfl rfl rfl)
theorem dX12_next_86 : decode cX12_next 86 = .ok (.iadd, 1) := dk_0 (dk_k96 86) (dk_by (j := 6) rfl ck_X12_next_5_29mr rfl rfl rfl)
theorem dX12_next_87 : decode cX12_next 87 = .ok (.putfield 337, 3) := dk_2 (dk_k181 87) (dk_by (j := 7) rfl ck_X12_next_5_29mr rfl rfl rfl) (dk_by (j := 8) rfl ck_X12_next_5_29mr rfl rfl rfl) (dk_by (j := 9) rfl ck_X12_next_5_29mr rfl rfl rfl) (by decide)
theorem dX12_next_90 : decode cX12_next 90 = .ok (.goto (-21), 3) := dk_s (dk_k167 90) (dk_by (j := 10) rfl ck_X12_next_5_29mr rfl rfl rfl) (dk_by (j := 11) rfl ck_X12_next_5_29mr rfl rfl rfl) (dk_by (j := 12) rfl ck_X12_next_5_29mr rfl rfl rfl) (by decide)
theorem dX12_next_153 : decode cX12_next 153 = .ok (.return_, 1) := dk_0 (dk_k177 153) (dk_by (j := 9) rfl ck_X12_next_9_29mr rfl rfl rfl)
theorem dX12_next_93 : decode cX12_next 93 = .ok (.aload_n 0, 1) := dk_0 (dk_k42 93) (dk_by (j := 13) rfl ck_X12_next_5_29mr rfl rfl rfl)
theorem dX12_next_94 : decode cX12_next 94 = .ok (.aload_n 0, 1) := dk_0 (dk_k42 94) (dk_by (j := 14) rfl ck_X12_next_5_29mr rfl rfl rfl)
theorem dX12_next_95 : decode cX12_next 95 = .ok (.getfield 340, 3) := dk_2 (dk_k180 95) (dk_by (j := 15) rfl ck_X12_next_5_29mr rfl rfl rfl) (dk_by (j := 0) rfl ck_X12_next_6_29mr rfl rfl rfl) (dk_by (j := 1) rfl ck_X12_next_6_29mr rfl rfl rfl) (by decide)
theorem gX12_next_X12_isDigit : GoodIn wsX12_next (wsV RX12 346 RX12 yX12_isDigit wsX12_isDigit) := ru_gG (ru_gV tw_7_83 tw_7_85 tw_0_47 tw_1_12 mT_X12_isDigit)
theorem dX12_next_98 : decode cX12_next 98 = .ok (.invokevirtual 346, 3) := dk_2 (dk_k182 98) (dk_by (j := 2) rfl ck_X12_next_6_29mr rfl rfl rfl) (dk_by (j := 3) rfl ck_X12_next_6_29mr rfl rfl rfl) (dk_by (j := 4) rfl ck_X12_next_6_29mr rfl rfl rfl) (by decide)
theorem dX12_next_101 : decode cX12_next 101 = .ok (.ifCond .eq 27, 3) := dk_s (dk_k153 101) (dk_by (j := 5) rfl ck_X12_next_6_29mr rfl rfl rfl) (dk_by (j := 6) rfl ck_X12_next_6_29mr rfl rfl rfl) (dk_by (j := 7) rfl ck_X12_next_6_29mr rfl rfl rfl) (by decide)
theorem dX12_next_104 : decode cX12_next 104 = .ok (.aload_n 0, 1) := dk_0 (dk_k42 104) (dk_by (j := 8) rfl ck_X12_next_6_29mr rfl rfl rfl)
theorem dX12_next_105 : decode cX12_next 105 = .ok (.aload_n 0, 1) := dk_0 (dk_k42 105) (dk_by (j := 9) rfl ck_X12_next_6_29mr rfl rfl rfl)
theorem dX12_next_106 : decode cX12_next 106 = .ok (.getfield 337, 3) := dk_2 (dk_k180 106) (dk_by (j := 10) rfl ck_X12_next_6_29mr rfl rfl rfl) (dk_by (j := 11) rfl ck_X12_next_6_29mr rfl rfl rfl) (dk_by (j := 12) rfl ck_X12_next_6_29mr rfl rfl rfl) (by decide)
theorem dX12_next_109 : decode cX12_next 109 = .ok (.invokevirtual 346, 3) := dk_2 (dk_k182 109) (dk_by (j := 13) rfl ck_X12_next_6_29mr rfl rfl rfl) (dk_by (j := 14) rfl ck_X12_next_6_29mr rfl rfl rfl) (dk_by (j := 15) rfl ck_X12_next_6_29mr rfl rfl rfl) (by decide)
theorem dX12_next_112 : decode cX12_next 112 = .ok (.ifCond .eq 41, 3) := dk_s (dk_k153 112) (dk_by (j := 0) rfl ck_X12_next_7_29mr rfl rfl rfl) (dk_by (j := 1) rfl ck_X12_next_7_29mr rfl rfl rfl) (dk_by (j := 2) rfl ck_X12_next_7_29mr rfl rfl rfl) (by decide)
theorem dX12_next_115 : decode cX12_next 115 = .ok (.aload_n 0, 1) := dk_0 (dk_k42 115) (dk_by (j := 3) rfl ck_X12_next_7_29mr rfl rfl rfl)
theorem dX12_next_116 : decode cX12_next 116 = .ok (.dup, 1) := dk_0 (dk_k89 116) (dk_by (j := 4) rfl ck_X12_next_7_29mr rfl rfl rfl)
theorem dX12_next_117 : decode cX12_next 117 = .ok (.getfield 337, 3) := dk_2 (dk_k180 117) (dk_by (j := 5) rfl ck_X12_next_7_29mr rfl rfl rfl) (dk_by (j := 6) rfl ck_X12_next_7_29mr rfl rfl rfl) (dk_by (j := 7) rfl ck_X12_next_7_29mr rfl rfl rfl) (by decide)
theorem dX12_next_120 : decode cX12_next 120 = .ok (.iconst 1, 1) := dk_0 (dk_k4 120) (dk_by (j := 8) rfl ck_X12_next_7_29mr rfl rfl rfl)
theorem dX12_next_121 : decode cX12_next 121 = .ok (.iadd, 1) := dk_0 (dk_k96 121) (dk_by (j := 9) rfl ck_X12_next_7_29mr rfl rfl rfl)
theorem dX12_next_122 : decode cX12_next 122 = .ok (.putfield 337, 3) := dk_2 (dk_k181 122) (dk_by (j := 10) rfl ck_X12_next_7_29mr rfl rfl rfl) (dk_by (j := 11) rfl ck_X12_next_7_29mr rfl rfl rfl) (dk_by (j := 12) rfl ck_X12_next_7_29mr rfl rfl rfl) (by decide)
theorem dX12_next_125 : decode cX12_next 125 = .ok (.goto (-21), 3) := dk_s (dk_k167 125) (dk_by (j := 13) rfl ck_X12_next_7_29mr rfl rfl rfl) (dk_by (j := 14) rfl ck_X12_next_7_29mr rfl rfl rfl) (dk_by (j := 15) rfl ck_X12_next_7_29mr rfl rfl rfl) (by decide)
theorem dX12_next_128 : decode cX12_next 128 = .ok (.aload_n 0, 1) := dk_0 (dk_k42 128) (dk_by (j := 0) rfl ck_X12_next_8_29mr rfl rfl rfl)
theorem dX12_next_129 : decode cX12_next 129 = .ok (.dup, 1) := dk_0 (dk_k89 129) (dk_by (j := 1) rfl ck_X12_next_8_29mr rfl rfl rfl)
theorem dX12_next_130 : decode cX12_next 130 = .ok (.getfield 337, 3) := dk_2 (dk_k180 130) (dk_by (j := 2) rfl ck_X12_next_8_29mr rfl rfl rfl) (dk_by (j := 3) rfl ck_X12_next_8_29mr rfl rfl rfl) (dk_by (j := 4) rfl ck_X12_next_8_29mr rfl rfl rfl) (by decide)
theorem dX12_next_133 : decode cX12_next 133 = .ok (.aload_n 0, 1) := dk_0 (dk_k42 133) (dk_by (j := 5) rfl ck_X12_next_8_29mr rfl rfl rfl)
theorem dX12_next_134 : decode cX12_next 134 = .ok (.getfield 340, 3) := dk_2 (dk_k180 134) (dk_by (j := 6) rfl ck_X12_next_8_29mr rfl rfl rfl) (dk_by (j := 7) rfl ck_X12_next_8_29mr rfl rfl rfl) (dk_by (j := 8) rfl ck_X12_next_8_29mr rfl rfl rfl) (by decide)
theorem dX12_next_137 : decode cX12_next 137 = .ok (.aload_n 0, 1) := dk_0 (dk_k42 137) (dk_by (j := 9) rfl ck_X12_next_8_29mr rfl rfl rfl)
theorem dX12_next_138 : decode cX12_next 138 = .ok (.getfield 328, 3) := dk_2 (dk_k180 138) (dk_by (j := 10) rfl ck_X12_next_8_29mr rfl rfl rfl) (dk_by (j := 11) rfl ck_X12_next_8_29mr rfl rfl rfl) (dk_by (j := 12) rfl ck_X12_next_8_29mr rfl rfl rfl) (by decide)
theorem dX12_next_141 : decode cX12_next 141 = .ok (.if_icmp .ge 7, 3) := dk_s (dk_k162 141) (dk_by (j := 13) rfl ck_X12_next_8_29mr rfl rfl rfl) (dk_by (j := 14) rfl ck_X12_next_8_29mr rfl rfl rfl) (dk_by (j := 15) rfl ck_X12_next_8_29mr rfl rfl rfl) (by decide)
theorem dX12_next_148 : decode cX12_next 148 = .ok (.iconst 0, 1) := dk_0 (dk_k3 148) (dk_by (j := 4) rfl ck_X12_next_9_29mr rfl rfl rfl)
theorem dX12_next_149 : decode cX12_next 149 = .ok (.iadd, 1) := dk_0 (dk_k96 149) (dk_by (j := 5) rfl ck_X12_next_9_29mr rfl rfl rfl)
theorem dX12_next_150 : decode cX12_next 150 = .ok (.putfield 337, 3) := dk_2 (dk_k181 150) (dk_by (j := 6) rfl ck_X12_next_9_29mr rfl rfl rfl) (dk_by (j := 7) rfl ck_X12_next_9_29mr rfl rfl rfl) (dk_by (j := 8) rfl ck_X12_next_9_29mr rfl rfl rfl) (by decide)
theorem dX12_next_144 : decode cX12_next 144 = .ok (.iconst 1, 1) := dk_0 (dk_k4 144) (dk_by (j := 0) rfl ck_X12_next_9_29mr rfl rfl rfl)
theorem dX12_next_145 : decode cX12_next 145 = .ok (.goto 4, 3) := dk_s (dk_k167 145) (dk_by (j := 1) rfl ck_X12_next_9_29mr rfl rfl rfl) (dk_by (j := 2) rfl ck_X12_next_9_29mr rfl rfl rfl) (dk_by (j := 3) rfl ck_X12_next_9_29mr rfl rfl rfl) (by decide)
theorem dX12_next_11 : decode cX12_next 11 = .ok (.aload_n 0, 1) := dk_0 (dk_k42 11) (dk_by (j := 11) rfl ck_X12_next_0_29mr rfl rfl rfl)
theorem dX12_next_12 : decode cX12_next 12 = .ok (.aload_n 0, 1) := dk_0 (dk_k42 12) (dk_by (j := 12) rfl ck_X12_next_0_29mr rfl rfl rfl)
theorem dX12_next_13 : decode cX12_next 13 = .ok (.getfield 337, 3) := dk_2 (dk_k180 13) (dk_by (j := 13) rfl ck_X12_next_0_29mr rfl rfl rfl) (dk_by (j := 14) rfl ck_X12_next_0_29mr rfl rfl rfl) (dk_by (j := 15) rfl ck_X12_next_0_29mr rfl rfl rfl) (by decide)
theorem gX12_next_X12_byteAt : GoodIn wsX12_next (wsV RX12 334 RX12 yX12_byteAt wsX12_byteAt) := ru_gG (ru_gV tw_7_75 tw_7_77 tw_0_45 tw_1_12 mT_X12_byteAt)
theorem dX12_next_16 : decode cX12_next 16 = .ok (.invokevirtual 334, 3) := dk_2 (dk_k182 16) (dk_by (j := 0) rfl ck_X12_next_1_29mr rfl rfl rfl) (dk_by (j := 1) rfl ck_X12_next_1_29mr rfl rfl rfl) (dk_by (j := 2) rfl ck_X12_next_1_29mr rfl rfl rfl) (by decide)
theorem dX12_next_19 : decode cX12_next 19 = .ok (.bipush 32, 2) := dk_1 (dk_k16 19) (dk_by (j := 3) rfl ck_X12_next_1_29mr rfl rfl rfl) (dk_by (j := 4) rfl ck_X12_next_1_29mr rfl rfl rfl) (by decide)
theorem dX12_next_21 : decode cX12_next 21 = .ok (.if_icmp .eq 16, 3) := dk_s (dk_k159 21) (dk_by (j := 5) rfl ck_X12_next_1_29mr rfl rfl rfl) (dk_by (j := 6) rfl ck_X12_next_1_29mr rfl rfl rfl) (dk_by (j := 7) rfl ck_X12_next_1_29mr rfl rfl rfl) (by decide)
theorem dX12_next_37 : decode cX12_next 37 = .ok (.aload_n 0, 1) := dk_0 (dk_k42 37) (dk_by (j := 5) rfl ck_X12_next_2_29mr rfl rfl rfl)
theorem dX12_next_38 : decode cX12_next 38 = .ok (.dup, 1) := dk_0 (dk_k89 38) (dk_by (j := 6) rfl ck_X12_next_2_29mr rfl rfl rfl)
theorem dX12_next_39 : decode cX12_next 39 = .ok (.getfield 337, 3) := dk_2 (dk_k180 39) (dk_by (j := 7) rfl ck_X12_next_2_29mr rfl rfl rfl) (dk_by (j := 8) rfl ck_X12_next_2_29mr rfl rfl rfl) (dk_by (j := 9) rfl ck_X12_next_2_29mr rfl rfl rfl) (by decide)
theorem dX12_next_42 : decode cX12_next 42 = .ok (.iconst 1, 1) := dk_0 (dk_k4 42) (dk_by (j := 10) rfl ck_X12_next_2_29mr rfl rfl rfl)
theorem dX12_next_43 : decode cX12_next 43 = .ok (.iadd, 1) := dk_0 (dk_k96 43) (dk_by (j := 11) rfl ck_X12_next_2_29mr rfl rfl rfl)
theorem dX12_next_44 : decode cX12_next 44 = .ok (.putfield 337, 3) := dk_2 (dk_k181 44) (dk_by (j := 12) rfl ck_X12_next_2_29mr rfl rfl rfl) (dk_by (j := 13) rfl ck_X12_next_2_29mr rfl rfl rfl) (dk_by (j := 14) rfl ck_X12_next_2_29mr rfl rfl rfl) (by decide)
theorem dX12_next_47 : decode cX12_next 47 = .ok (.goto (-47), 3) := dk_s (dk_k167 47) (dk_by (j := 15) rfl ck_X12_next_2_29mr rfl rfl rfl) (dk_by (j := 0) rfl ck_X12_next_3_29mr rfl rfl rfl) (dk_by (j := 1) rfl ck_X12_next_3_29mr rfl rfl rfl) (by decide)
theorem dX12_next_24 : decode cX12_next 24 = .ok (.aload_n 0, 1) := dk_0 (dk_k42 24) (dk_by (j := 8) rfl ck_X12_next_1_29mr rfl rfl rfl)
theorem dX12_next_25 : decode cX12_next 25 = .ok (.aload_n 0, 1) := dk_0 (dk_k42 25) (dk_by (j := 9) rfl ck_X12_next_1_29mr rfl rfl rfl)
theorem dX12_next_26 : decode cX12_next 26 = .ok (.getfield 337, 3) := dk_2 (dk_k180 26) (dk_by (j := 10) rfl ck_X12_next_1_29mr rfl rfl rfl) (dk_by (j := 11) rfl ck_X12_next_1_29mr rfl rfl rfl) (dk_by (j := 12) rfl ck_X12_next_1_29mr rfl rfl rfl) (by decide)
theorem dX12_next_29 : decode cX12_next 29 = .ok (.invokevirtual 334, 3) := dk_2 (dk_k182 29) (dk_by (j := 13) rfl ck_X12_next_1_29mr rfl rfl rfl) (dk_by (j := 14) rfl ck_X12_next_1_29mr rfl rfl rfl) (dk_by (j := 15) rfl ck_X12_next_1_29mr rfl rfl rfl) (by decide)
theorem dX12_next_32 : decode cX12_next 32 = .ok (.bipush 10, 2) := dk_1 (dk_k16 32) (dk_by (j := 0) rfl ck_X12_next_2_29mr rfl rfl rfl) (dk_by (j := 1) rfl ck_X12_next_2_29mr rfl rfl rfl) (by decide)
theorem dX12_next_34 : decode cX12_next 34 = .ok (.if_icmp .ne 16, 3) := dk_s (dk_k160 34) (dk_by (j := 2) rfl ck_X12_next_2_29mr rfl rfl rfl) (dk_by (j := 3) rfl ck_X12_next_2_29mr rfl rfl rfl) (dk_by (j := 4) rfl ck_X12_next_2_29mr rfl rfl rfl) (by decide)
theorem gX12_take_X12_is : GoodIn wsX12_take (wsV RX12 352 RX12 yX12_is wsX12_is) := ru_gG (ru_gV tw_7_92 tw_7_94 tw_0_49 tw_1_12 mT_X12_is)
theorem gX12_take_X12_next : GoodIn wsX12_take (wsV RX12 356 RX12 yX12_next wsX12_next) := ru_gG (ru_gV tw_7_71 tw_7_73 tw_0_44 tw_1_12 mT_X12_next)
theorem gX12_opens_X12_next : GoodIn wsX12_opens (wsV RX12 356 RX12 yX12_next wsX12_next) := ru_gG (ru_gV tw_7_71 tw_7_73 tw_0_44 tw_1_12 mT_X12_next)
theorem gX12_opens_X12_wrong : GoodIn wsX12_opens (wsV RX12 375 RX12 yX12_wrong wsX12_wrong) := ru_gG (ru_gV tw_7_113 tw_7_115 tw_0_54 tw_1_12 mT_X12_wrong)
theorem dX12_one_0 : decode cX12_one 0 = .ok (.aload_n 0, 1) := dk_0 (dk_k42 0) (dk_by (j := 0) rfl ck_X12_one_0_29mr rfl rfl rfl)
theorem dX12_one_1 : decode cX12_one 1 = .ok (.getfield 349, 3) := dk_2 (dk_k180 1) (dk_by (j := 1) rfl ck_X12_one_0_29mr rfl rfl rfl) (dk_by (j := 2) rfl ck_X12_one_0_29mr rfl rfl rfl) (dk_by (j := 3) rfl ck_X12_one_0_29mr rfl rfl rfl) (by decide)
theorem dX12_one_4 : decode cX12_one 4 = .ok (.ifCond .lt 5, 3) := dk_s (dk_k155 4) (dk_by (j := 4) rfl ck_X12_one_0_29mr rfl rfl rfl) (dk_by (j := 5) rfl ck_X12_one_0_29mr rfl rfl rfl) (dk_by (j := 6) rfl ck_X12_one_0_29mr rfl rfl rfl) (by decide)
theorem dX12_one_9 : decode cX12_one 9 = .ok (.aload_n 0, 1) := dk_0 (dk_k42 9) (dk_by (j := 9) rfl ck_X12_one_0_29mr rfl rfl rfl)
theorem gX12_one_X12_is : GoodIn wsX12_one (wsV RX12 352 RX12 yX12_is wsX12_is) := ru_gG (ru_gV tw_7_92 tw_7_94 tw_0_49 tw_1_12 mT_X12_is)
theorem dX12_one_13 : decode cX12_one 13 = .ok (.invokevirtual 352, 3) := dk_2 (dk_k182 13) (dk_by (j := 13) rfl ck_X12_one_0_29mr rfl rfl rfl) (dk_by (j := 14) rfl ck_X12_one_0_29mr rfl rfl rfl) (dk_by (j := 15) rfl ck_X12_one_0_29mr rfl rfl rfl) (by decide)
theorem dX12_one_16 : decode cX12_one 16 = .ok (.ifCond .eq 30, 3) := dk_s (dk_k153 16) (dk_by (j := 0) rfl ck_X12_one_1_29mr rfl rfl rfl) (dk_by (j := 1) rfl ck_X12_one_1_29mr rfl rfl rfl) (dk_by (j := 2) rfl ck_X12_one_1_29mr rfl rfl rfl) (by decide)
theorem dX12_one_19 : decode cX12_one 19 = .ok (.aload_n 0, 1) := dk_0 (dk_k42 19) (dk_by (j := 3) rfl ck_X12_one_1_29mr rfl rfl rfl)
theorem gX12_one_X12_opens : GoodIn wsX12_one (wsV RX12 380 RX12 yX12_opens wsX12_opens) := ru_gG (ru_gV tw_7_109 tw_7_111 tw_0_53 tw_1_12 mT_X12_opens)
theorem dX12_one_20 : decode cX12_one 20 = .ok (.invokevirtual 380, 3) := dk_2 (dk_k182 20) (dk_by (j := 4) rfl ck_X12_one_1_29mr rfl rfl rfl) (dk_by (j := 5) rfl ck_X12_one_1_29mr rfl rfl rfl) (dk_by (j := 6) rfl ck_X12_one_1_29mr rfl rfl rfl) (by decide)
theorem dX12_one_23 : decode cX12_one 23 = .ok (.ifCond .ne 5, 3) := dk_s (dk_k154 23) (dk_by (j := 7) rfl ck_X12_one_1_29mr rfl rfl rfl) (dk_by (j := 8) rfl ck_X12_one_1_29mr rfl rfl rfl) (dk_by (j := 9) rfl ck_X12_one_1_29mr rfl rfl rfl) (by decide)
theorem dX12_one_28 : decode cX12_one 28 = .ok (.aload_n 0, 1) := dk_0 (dk_k42 28) (dk_by (j := 12) rfl ck_X12_one_1_29mr rfl rfl rfl)
theorem dX12_one_26 : decode cX12_one 26 = .ok (.iconst 0, 1) := dk_0 (dk_k3 26) (dk_by (j := 10) rfl ck_X12_one_1_29mr rfl rfl rfl)
theorem dX12_one_27 : decode cX12_one 27 = .ok (.ireturn, 1) := dk_0 (dk_k172 27) (dk_by (j := 11) rfl ck_X12_one_1_29mr rfl rfl rfl)
theorem dX12_one_46 : decode cX12_one 46 = .ok (.aload_n 0, 1) := dk_0 (dk_k42 46) (dk_by (j := 14) rfl ck_X12_one_2_29mr rfl rfl rfl)
theorem dX12_one_50 : decode cX12_one 50 = .ok (.invokevirtual 352, 3) := dk_2 (dk_k182 50) (dk_by (j := 2) rfl ck_X12_one_3_29mr rfl rfl rfl) (dk_by (j := 3) rfl ck_X12_one_3_29mr rfl rfl rfl) (dk_by (j := 4) rfl ck_X12_one_3_29mr rfl rfl rfl) (by decide)
theorem dX12_one_53 : decode cX12_one 53 = .ok (.ifCond .eq 44, 3) := dk_s (dk_k153 53) (dk_by (j := 5) rfl ck_X12_one_3_29mr rfl rfl rfl) (dk_by (j := 6) rfl ck_X12_one_3_29mr rfl rfl rfl) (dk_by (j := 7) rfl ck_X12_one_3_29mr rfl rfl rfl) (by decide)
theorem dX12_one_56 : decode cX12_one 56 = .ok (.aload_n 0, 1) := dk_0 (dk_k42 56) (dk_by (j := 8) rfl ck_X12_one_3_29mr rfl rfl rfl)
theorem dX12_one_57 : decode cX12_one 57 = .ok (.invokevirtual 380, 3) := dk_2 (dk_k182 57) (dk_by (j := 9) rfl ck_X12_one_3_29mr rfl rfl rfl) (dk_by (j := 10) rfl ck_X12_one_3_29mr rfl rfl rfl) (dk_by (j := 11) rfl ck_X12_one_3_29mr rfl rfl rfl) (by decide)
theorem dX12_one_60 : decode cX12_one 60 = .ok (.ifCond .ne 5, 3) := dk_s (dk_k154 60) (dk_by (j := 12) rfl ck_X12_one_3_29mr rfl rfl rfl) (dk_by (j := 13) rfl ck_X12_one_3_29mr rfl rfl rfl) (dk_by (j := 14) rfl ck_X12_one_3_29mr rfl rfl rfl) (by decide)
theorem dX12_one_65 : decode cX12_one 65 = .ok (.aload_n 0, 1) := dk_0 (dk_k42 65) (dk_by (j := 1) rfl ck_X12_one_4_29mr rfl rfl rfl)
theorem dX12_one_63 : decode cX12_one 63 = .ok (.iconst 0, 1) := dk_0 (dk_k3 63) (dk_by (j := 15) rfl ck_X12_one_3_29mr rfl rfl rfl)
theorem dX12_one_64 : decode cX12_one 64 = .ok (.ireturn, 1) := dk_0 (dk_k172 64) (dk_by (j := 0) rfl ck_X12_one_4_29mr rfl rfl rfl)
theorem dX12_one_97 : decode cX12_one 97 = .ok (.aload_n 0, 1) := dk_0 (dk_k42 97) (dk_by (j := 1) rfl ck_X12_one_6_29mr rfl rfl rfl)
theorem dX12_one_98 : decode cX12_one 98 = .ok (.aload_n 0, 1) := dk_0 (dk_k42 98) (dk_by (j := 2) rfl ck_X12_one_6_29mr rfl rfl rfl)
theorem dX12_one_99 : decode cX12_one 99 = .ok (.getfield 340, 3) := dk_2 (dk_k180 99) (dk_by (j := 3) rfl ck_X12_one_6_29mr rfl rfl rfl) (dk_by (j := 4) rfl ck_X12_one_6_29mr rfl rfl rfl) (dk_by (j := 5) rfl ck_X12_one_6_29mr rfl rfl rfl) (by decide)
theorem gX12_one_X12_isDigit : GoodIn wsX12_one (wsV RX12 346 RX12 yX12_isDigit wsX12_isDigit) := ru_gG (ru_gV tw_7_83 tw_7_85 tw_0_47 tw_1_12 mT_X12_isDigit)
theorem dX12_one_102 : decode cX12_one 102 = .ok (.invokevirtual 346, 3) := dk_2 (dk_k182 102) (dk_by (j := 6) rfl ck_X12_one_6_29mr rfl rfl rfl) (dk_by (j := 7) rfl ck_X12_one_6_29mr rfl rfl rfl) (dk_by (j := 8) rfl ck_X12_one_6_29mr rfl rfl rfl) (by decide)
theorem dX12_one_105 : decode cX12_one 105 = .ok (.ifCond .eq 62, 3) := dk_s (dk_k153 105) (dk_by (j := 9) rfl ck_X12_one_6_29mr rfl rfl rfl) (dk_by (j := 10) rfl ck_X12_one_6_29mr rfl rfl rfl) (dk_by (j := 11) rfl ck_X12_one_6_29mr rfl rfl rfl) (by decide)
theorem dX12_one_108 : decode cX12_one 108 = .ok (.aload_n 0, 1) := dk_0 (dk_k42 108) (dk_by (j := 12) rfl ck_X12_one_6_29mr rfl rfl rfl)
theorem dX12_one_109 : decode cX12_one 109 = .ok (.getfield 337, 3) := dk_2 (dk_k180 109) (dk_by (j := 13) rfl ck_X12_one_6_29mr rfl rfl rfl) (dk_by (j := 14) rfl ck_X12_one_6_29mr rfl rfl rfl) (dk_by (j := 15) rfl ck_X12_one_6_29mr rfl rfl rfl) (by decide)
theorem dX12_one_112 : decode cX12_one 112 = .ok (.aload_n 0, 1) := dk_0 (dk_k42 112) (dk_by (j := 0) rfl ck_X12_one_7_29mr rfl rfl rfl)
theorem dX12_one_113 : decode cX12_one 113 = .ok (.getfield 340, 3) := dk_2 (dk_k180 113) (dk_by (j := 1) rfl ck_X12_one_7_29mr rfl rfl rfl) (dk_by (j := 2) rfl ck_X12_one_7_29mr rfl rfl rfl) (dk_by (j := 3) rfl ck_X12_one_7_29mr rfl rfl rfl) (by decide)
theorem dX12_one_116 : decode cX12_one 116 = .ok (.isub, 1) := dk_0 (dk_k100 116) (dk_by (j := 4) rfl ck_X12_one_7_29mr rfl rfl rfl)
theorem dX12_one_117 : decode cX12_one 117 = .ok (.iconst 4, 1) := dk_0 (dk_k7 117) (dk_by (j := 5) rfl ck_X12_one_7_29mr rfl rfl rfl)
theorem dX12_one_118 : decode cX12_one 118 = .ok (.if_icmp .le 8, 3) := dk_s (dk_k164 118) (dk_by (j := 6) rfl ck_X12_one_7_29mr rfl rfl rfl) (dk_by (j := 7) rfl ck_X12_one_7_29mr rfl rfl rfl) (dk_by (j := 8) rfl ck_X12_one_7_29mr rfl rfl rfl) (by decide)
theorem dX12_one_126 : decode cX12_one 126 = .ok (.iconst 0, 1) := dk_0 (dk_k3 126) (dk_by (j := 14) rfl ck_X12_one_7_29mr rfl rfl rfl)
theorem dX12_one_127 : decode cX12_one 127 = .ok (.istore_n 1, 1) := dk_0 (dk_k60 127) (dk_by (j := 15) rfl ck_X12_one_7_29mr rfl rfl rfl)
theorem dX12_one_128 : decode cX12_one 128 = .ok (.aload_n 0, 1) := dk_0 (dk_k42 128) (dk_by (j := 0) rfl ck_X12_one_8_29mr rfl rfl rfl)
theorem dX12_one_129 : decode cX12_one 129 = .ok (.getfield 340, 3) := dk_2 (dk_k180 129) (dk_by (j := 1) rfl ck_X12_one_8_29mr rfl rfl rfl) (dk_by (j := 2) rfl ck_X12_one_8_29mr rfl rfl rfl) (dk_by (j := 3) rfl ck_X12_one_8_29mr rfl rfl rfl) (by decide)
theorem dX12_one_132 : decode cX12_one 132 = .ok (.istore_n 2, 1) := dk_0 (dk_k61 132) (dk_by (j := 4) rfl ck_X12_one_8_29mr rfl rfl rfl)
theorem dX12_one_133 : decode cX12_one 133 = .ok (.iload_n 2, 1) := dk_0 (dk_k28 133) (dk_by (j := 5) rfl ck_X12_one_8_29mr rfl rfl rfl)
theorem dX12_one_134 : decode cX12_one 134 = .ok (.aload_n 0, 1) := dk_0 (dk_k42 134) (dk_by (j := 6) rfl ck_X12_one_8_29mr rfl rfl rfl)
theorem dX12_one_135 : decode cX12_one 135 = .ok (.getfield 337, 3) := dk_2 (dk_k180 135) (dk_by (j := 7) rfl ck_X12_one_8_29mr rfl rfl rfl) (dk_by (j := 8) rfl ck_X12_one_8_29mr rfl rfl rfl) (dk_by (j := 9) rfl ck_X12_one_8_29mr rfl rfl rfl) (by decide)
theorem dX12_one_138 : decode cX12_one 138 = .ok (.if_icmp .ge 23, 3) := dk_s (dk_k162 138) (dk_by (j := 10) rfl ck_X12_one_8_29mr rfl rfl rfl) (dk_by (j := 11) rfl ck_X12_one_8_29mr rfl rfl rfl) (dk_by (j := 12) rfl ck_X12_one_8_29mr rfl rfl rfl) (by decide)
theorem dX12_one_161 : decode cX12_one 161 = .ok (.aload_n 0, 1) := dk_0 (dk_k42 161) (dk_by (j := 1) rfl ck_X12_one_10_29mr rfl rfl rfl)
theorem gX12_one_X12_next : GoodIn wsX12_one (wsV RX12 356 RX12 yX12_next wsX12_next) := ru_gG (ru_gV tw_7_71 tw_7_73 tw_0_44 tw_1_12 mT_X12_next)
theorem dX12_one_162 : decode cX12_one 162 = .ok (.invokevirtual 356, 3) := dk_2 (dk_k182 162) (dk_by (j := 2) rfl ck_X12_one_10_29mr rfl rfl rfl) (dk_by (j := 3) rfl ck_X12_one_10_29mr rfl rfl rfl) (dk_by (j := 4) rfl ck_X12_one_10_29mr rfl rfl rfl) (by decide)
theorem dX12_one_165 : decode cX12_one 165 = .ok (.iload_n 1, 1) := dk_0 (dk_k27 165) (dk_by (j := 5) rfl ck_X12_one_10_29mr rfl rfl rfl)
theorem dX12_one_166 : decode cX12_one 166 = .ok (.ireturn, 1) := dk_0 (dk_k172 166) (dk_by (j := 6) rfl ck_X12_one_10_29mr rfl rfl rfl)
theorem dX12_one_141 : decode cX12_one 141 = .ok (.bipush 10, 2) := dk_1 (dk_k16 141) (dk_by (j := 13) rfl ck_X12_one_8_29mr rfl rfl rfl) (dk_by (j := 14) rfl ck_X12_one_8_29mr rfl rfl rfl) (by decide)
theorem dX12_one_143 : decode cX12_one 143 = .ok (.iload_n 1, 1) := dk_0 (dk_k27 143) (dk_by (j := 15) rfl ck_X12_one_8_29mr rfl rfl rfl)
theorem dX12_one_145 : decode cX12_one 145 = .ok (.aload_n 0, 1) := dk_0 (dk_k42 145) (dk_by (j := 1) rfl ck_X12_one_9_29mr rfl rfl rfl)
theorem dX12_one_146 : decode cX12_one 146 = .ok (.iload_n 2, 1) := dk_0 (dk_k28 146) (dk_by (j := 2) rfl ck_X12_one_9_29mr rfl rfl rfl)
theorem gX12_one_X12_byteAt : GoodIn wsX12_one (wsV RX12 334 RX12 yX12_byteAt wsX12_byteAt) := ru_gG (ru_gV tw_7_75 tw_7_77 tw_0_45 tw_1_12 mT_X12_byteAt)
theorem dX12_one_147 : decode cX12_one 147 = .ok (.invokevirtual 334, 3) := dk_2 (dk_k182 147) (dk_by (j := 3) rfl ck_X12_one_9_29mr rfl rfl rfl) (dk_by (j := 4) rfl ck_X12_one_9_29mr rfl rfl rfl) (dk_by (j := 5) rfl ck_X12_one_9_29mr rfl rfl rfl) (by decide)
theorem dX12_one_150 : decode cX12_one 150 = .ok (.iadd, 1) := dk_0 (dk_k96 150) (dk_by (j := 6) rfl ck_X12_one_9_29mr rfl rfl rfl)
theorem dX12_one_151 : decode cX12_one 151 = .ok (.bipush 48, 2) := dk_1 (dk_k16 151) (dk_by (j := 7) rfl ck_X12_one_9_29mr rfl rfl rfl) (dk_by (j := 8) rfl ck_X12_one_9_29mr rfl rfl rfl) (by decide)
theorem dX12_one_153 : decode cX12_one 153 = .ok (.isub, 1) := dk_0 (dk_k100 153) (dk_by (j := 9) rfl ck_X12_one_9_29mr rfl rfl rfl)
theorem dX12_one_154 : decode cX12_one 154 = .ok (.istore_n 1, 1) := dk_0 (dk_k60 154) (dk_by (j := 10) rfl ck_X12_one_9_29mr rfl rfl rfl)
theorem dX12_one_158 : decode cX12_one 158 = .ok (.goto (-25), 3) := dk_s (dk_k167 158) (dk_by (j := 14) rfl ck_X12_one_9_29mr rfl rfl rfl) (dk_by (j := 15) rfl ck_X12_one_9_29mr rfl rfl rfl) (dk_by (j := 0) rfl ck_X12_one_10_29mr rfl rfl rfl) (by decide)
theorem dX12_one_121 : decode cX12_one 121 = .ok (.aload_n 0, 1) := dk_0 (dk_k42 121) (dk_by (j := 9) rfl ck_X12_one_7_29mr rfl rfl rfl)
theorem gX12_one_X12_wrong : GoodIn wsX12_one (wsV RX12 375 RX12 yX12_wrong wsX12_wrong) := ru_gG (ru_gV tw_7_113 tw_7_115 tw_0_54 tw_1_12 mT_X12_wrong)
theorem dX12_one_122 : decode cX12_one 122 = .ok (.invokevirtual 375, 3) := dk_2 (dk_k182 122) (dk_by (j := 10) rfl ck_X12_one_7_29mr rfl rfl rfl) (dk_by (j := 11) rfl ck_X12_one_7_29mr rfl rfl rfl) (dk_by (j := 12) rfl ck_X12_one_7_29mr rfl rfl rfl) (by decide)
theorem dX12_one_125 : decode cX12_one 125 = .ok (.ireturn, 1) := dk_0 (dk_k172 125) (dk_by (j := 13) rfl ck_X12_one_7_29mr rfl rfl rfl)
theorem dX12_one_253 : decode cX12_one 253 = .ok (.iload_n 1, 1) := dk_0 (dk_k27 253) (dk_by (j := 13) rfl ck_X12_one_15_29mr rfl rfl rfl)
theorem dX12_one_254 : decode cX12_one 254 = .ok (.ifCond .ge 8, 3) := dk_s (dk_k156 254) (dk_by (j := 14) rfl ck_X12_one_15_29mr rfl rfl rfl) (dk_by (j := 15) rfl ck_X12_one_15_29mr rfl rfl rfl) (dk_by (j := 0) rfl ck_X12_one_16_29mr rfl rfl rfl) (by decide)
theorem dX12_one_262 : decode cX12_one 262 = .ok (.aload_n 0, 1) := dk_0 (dk_k42 262) (dk_by (j := 6) rfl ck_X12_one_16_29mr rfl rfl rfl)
theorem dX12_one_263 : decode cX12_one 263 = .ok (.invokevirtual 356, 3) := dk_2 (dk_k182 263) (dk_by (j := 7) rfl ck_X12_one_16_29mr rfl rfl rfl) (dk_by (j := 8) rfl ck_X12_one_16_29mr rfl rfl rfl) (dk_by (j := 9) rfl ck_X12_one_16_29mr rfl rfl rfl) (by decide)
theorem dX12_one_266 : decode cX12_one 266 = .ok (.aload_n 0, 1) := dk_0 (dk_k42 266) (dk_by (j := 10) rfl ck_X12_one_16_29mr rfl rfl rfl)
theorem dX12_one_267 : decode cX12_one 267 = .ok (.getfield 143, 3) := dk_2 (dk_k180 267) (dk_by (j := 11) rfl ck_X12_one_16_29mr rfl rfl rfl) (dk_by (j := 12) rfl ck_X12_one_16_29mr rfl rfl rfl) (dk_by (j := 13) rfl ck_X12_one_16_29mr rfl rfl rfl) (by decide)
theorem dX12_one_270 : decode cX12_one 270 = .ok (.iload_n 1, 1) := dk_0 (dk_k27 270) (dk_by (j := 14) rfl ck_X12_one_16_29mr rfl rfl rfl)
theorem dX12_one_271 : decode cX12_one 271 = .ok (.iaload, 1) := dk_0 (dk_k46 271) (dk_by (j := 15) rfl ck_X12_one_16_29mr rfl rfl rfl)
theorem dX12_one_272 : decode cX12_one 272 = .ok (.ireturn, 1) := dk_0 (dk_k172 272) (dk_by (j := 0) rfl ck_X12_one_17_29mr rfl rfl rfl)
theorem dX12_one_257 : decode cX12_one 257 = .ok (.aload_n 0, 1) := dk_0 (dk_k42 257) (dk_by (j := 1) rfl ck_X12_one_16_29mr rfl rfl rfl)
theorem dX12_one_258 : decode cX12_one 258 = .ok (.invokevirtual 375, 3) := dk_2 (dk_k182 258) (dk_by (j := 2) rfl ck_X12_one_16_29mr rfl rfl rfl) (dk_by (j := 3) rfl ck_X12_one_16_29mr rfl rfl rfl) (dk_by (j := 4) rfl ck_X12_one_16_29mr rfl rfl rfl) (by decide)
theorem dX12_one_261 : decode cX12_one 261 = .ok (.ireturn, 1) := dk_0 (dk_k172 261) (dk_by (j := 5) rfl ck_X12_one_16_29mr rfl rfl rfl)
theorem dX12_one_167 : decode cX12_one 167 = .ok (.aload_n 0, 1) := dk_0 (dk_k42 167) (dk_by (j := 7) rfl ck_X12_one_10_29mr rfl rfl rfl)
theorem dX12_one_171 : decode cX12_one 171 = .ok (.invokevirtual 352, 3) := dk_2 (dk_k182 171) (dk_by (j := 11) rfl ck_X12_one_10_29mr rfl rfl rfl) (dk_by (j := 12) rfl ck_X12_one_10_29mr rfl rfl rfl) (dk_by (j := 13) rfl ck_X12_one_10_29mr rfl rfl rfl) (by decide)
theorem dX12_one_174 : decode cX12_one 174 = .ok (.ifCond .eq 7, 3) := dk_s (dk_k153 174) (dk_by (j := 14) rfl ck_X12_one_10_29mr rfl rfl rfl) (dk_by (j := 15) rfl ck_X12_one_10_29mr rfl rfl rfl) (dk_by (j := 0) rfl ck_X12_one_11_29mr rfl rfl rfl) (by decide)
theorem dX12_one_177 : decode cX12_one 177 = .ok (.iconst 0, 1) := dk_0 (dk_k3 177) (dk_by (j := 1) rfl ck_X12_one_11_29mr rfl rfl rfl)
theorem dX12_one_178 : decode cX12_one 178 = .ok (.goto 74, 3) := dk_s (dk_k167 178) (dk_by (j := 2) rfl ck_X12_one_11_29mr rfl rfl rfl) (dk_by (j := 3) rfl ck_X12_one_11_29mr rfl rfl rfl) (dk_by (j := 4) rfl ck_X12_one_11_29mr rfl rfl rfl) (by decide)
theorem dX12_one_252 : decode cX12_one 252 = .ok (.istore_n 1, 1) := dk_0 (dk_k60 252) (dk_by (j := 12) rfl ck_X12_one_15_29mr rfl rfl rfl)
theorem dX12_one_181 : decode cX12_one 181 = .ok (.aload_n 0, 1) := dk_0 (dk_k42 181) (dk_by (j := 5) rfl ck_X12_one_11_29mr rfl rfl rfl)
theorem dX12_one_185 : decode cX12_one 185 = .ok (.invokevirtual 352, 3) := dk_2 (dk_k182 185) (dk_by (j := 9) rfl ck_X12_one_11_29mr rfl rfl rfl) (dk_by (j := 10) rfl ck_X12_one_11_29mr rfl rfl rfl) (dk_by (j := 11) rfl ck_X12_one_11_29mr rfl rfl rfl) (by decide)
theorem dX12_one_188 : decode cX12_one 188 = .ok (.ifCond .eq 7, 3) := dk_s (dk_k153 188) (dk_by (j := 12) rfl ck_X12_one_11_29mr rfl rfl rfl) (dk_by (j := 13) rfl ck_X12_one_11_29mr rfl rfl rfl) (dk_by (j := 14) rfl ck_X12_one_11_29mr rfl rfl rfl) (by decide)
theorem dX12_one_191 : decode cX12_one 191 = .ok (.iconst 1, 1) := dk_0 (dk_k4 191) (dk_by (j := 15) rfl ck_X12_one_11_29mr rfl rfl rfl)
theorem dX12_one_192 : decode cX12_one 192 = .ok (.goto 60, 3) := dk_s (dk_k167 192) (dk_by (j := 0) rfl ck_X12_one_12_29mr rfl rfl rfl) (dk_by (j := 1) rfl ck_X12_one_12_29mr rfl rfl rfl) (dk_by (j := 2) rfl ck_X12_one_12_29mr rfl rfl rfl) (by decide)
theorem dX12_one_195 : decode cX12_one 195 = .ok (.aload_n 0, 1) := dk_0 (dk_k42 195) (dk_by (j := 3) rfl ck_X12_one_12_29mr rfl rfl rfl)
theorem dX12_one_199 : decode cX12_one 199 = .ok (.invokevirtual 352, 3) := dk_2 (dk_k182 199) (dk_by (j := 7) rfl ck_X12_one_12_29mr rfl rfl rfl) (dk_by (j := 8) rfl ck_X12_one_12_29mr rfl rfl rfl) (dk_by (j := 9) rfl ck_X12_one_12_29mr rfl rfl rfl) (by decide)
theorem dX12_one_202 : decode cX12_one 202 = .ok (.ifCond .eq 7, 3) := dk_s (dk_k153 202) (dk_by (j := 10) rfl ck_X12_one_12_29mr rfl rfl rfl) (dk_by (j := 11) rfl ck_X12_one_12_29mr rfl rfl rfl) (dk_by (j := 12) rfl ck_X12_one_12_29mr rfl rfl rfl) (by decide)
theorem dX12_one_205 : decode cX12_one 205 = .ok (.iconst 2, 1) := dk_0 (dk_k5 205) (dk_by (j := 13) rfl ck_X12_one_12_29mr rfl rfl rfl)
theorem dX12_one_206 : decode cX12_one 206 = .ok (.goto 46, 3) := dk_s (dk_k167 206) (dk_by (j := 14) rfl ck_X12_one_12_29mr rfl rfl rfl) (dk_by (j := 15) rfl ck_X12_one_12_29mr rfl rfl rfl) (dk_by (j := 0) rfl ck_X12_one_13_29mr rfl rfl rfl) (by decide)
theorem dX12_one_209 : decode cX12_one 209 = .ok (.aload_n 0, 1) := dk_0 (dk_k42 209) (dk_by (j := 1) rfl ck_X12_one_13_29mr rfl rfl rfl)
theorem dX12_one_213 : decode cX12_one 213 = .ok (.invokevirtual 352, 3) := dk_2 (dk_k182 213) (dk_by (j := 5) rfl ck_X12_one_13_29mr rfl rfl rfl) (dk_by (j := 6) rfl ck_X12_one_13_29mr rfl rfl rfl) (dk_by (j := 7) rfl ck_X12_one_13_29mr rfl rfl rfl) (by decide)
theorem dX12_one_216 : decode cX12_one 216 = .ok (.ifCond .eq 7, 3) := dk_s (dk_k153 216) (dk_by (j := 8) rfl ck_X12_one_13_29mr rfl rfl rfl) (dk_by (j := 9) rfl ck_X12_one_13_29mr rfl rfl rfl) (dk_by (j := 10) rfl ck_X12_one_13_29mr rfl rfl rfl) (by decide)
theorem dX12_one_219 : decode cX12_one 219 = .ok (.iconst 3, 1) := dk_0 (dk_k6 219) (dk_by (j := 11) rfl ck_X12_one_13_29mr rfl rfl rfl)
theorem dX12_one_220 : decode cX12_one 220 = .ok (.goto 32, 3) := dk_s (dk_k167 220) (dk_by (j := 12) rfl ck_X12_one_13_29mr rfl rfl rfl) (dk_by (j := 13) rfl ck_X12_one_13_29mr rfl rfl rfl) (dk_by (j := 14) rfl ck_X12_one_13_29mr rfl rfl rfl) (by decide)
theorem dX12_one_223 : decode cX12_one 223 = .ok (.aload_n 0, 1) := dk_0 (dk_k42 223) (dk_by (j := 15) rfl ck_X12_one_13_29mr rfl rfl rfl)
theorem dX12_one_227 : decode cX12_one 227 = .ok (.invokevirtual 352, 3) := dk_2 (dk_k182 227) (dk_by (j := 3) rfl ck_X12_one_14_29mr rfl rfl rfl) (dk_by (j := 4) rfl ck_X12_one_14_29mr rfl rfl rfl) (dk_by (j := 5) rfl ck_X12_one_14_29mr rfl rfl rfl) (by decide)
theorem dX12_one_230 : decode cX12_one 230 = .ok (.ifCond .eq 7, 3) := dk_s (dk_k153 230) (dk_by (j := 6) rfl ck_X12_one_14_29mr rfl rfl rfl) (dk_by (j := 7) rfl ck_X12_one_14_29mr rfl rfl rfl) (dk_by (j := 8) rfl ck_X12_one_14_29mr rfl rfl rfl) (by decide)
theorem dX12_one_233 : decode cX12_one 233 = .ok (.iconst 4, 1) := dk_0 (dk_k7 233) (dk_by (j := 9) rfl ck_X12_one_14_29mr rfl rfl rfl)
theorem dX12_one_234 : decode cX12_one 234 = .ok (.goto 18, 3) := dk_s (dk_k167 234) (dk_by (j := 10) rfl ck_X12_one_14_29mr rfl rfl rfl) (dk_by (j := 11) rfl ck_X12_one_14_29mr rfl rfl rfl) (dk_by (j := 12) rfl ck_X12_one_14_29mr rfl rfl rfl) (by decide)
theorem dX12_one_237 : decode cX12_one 237 = .ok (.aload_n 0, 1) := dk_0 (dk_k42 237) (dk_by (j := 13) rfl ck_X12_one_14_29mr rfl rfl rfl)
theorem dX12_one_241 : decode cX12_one 241 = .ok (.invokevirtual 352, 3) := dk_2 (dk_k182 241) (dk_by (j := 1) rfl ck_X12_one_15_29mr rfl rfl rfl) (dk_by (j := 2) rfl ck_X12_one_15_29mr rfl rfl rfl) (dk_by (j := 3) rfl ck_X12_one_15_29mr rfl rfl rfl) (by decide)
theorem dX12_one_244 : decode cX12_one 244 = .ok (.ifCond .eq 7, 3) := dk_s (dk_k153 244) (dk_by (j := 4) rfl ck_X12_one_15_29mr rfl rfl rfl) (dk_by (j := 5) rfl ck_X12_one_15_29mr rfl rfl rfl) (dk_by (j := 6) rfl ck_X12_one_15_29mr rfl rfl rfl) (by decide)
theorem dX12_one_247 : decode cX12_one 247 = .ok (.iconst 5, 1) := dk_0 (dk_k8 247) (dk_by (j := 7) rfl ck_X12_one_15_29mr rfl rfl rfl)
theorem dX12_one_248 : decode cX12_one 248 = .ok (.goto 4, 3) := dk_s (dk_k167 248) (dk_by (j := 8) rfl ck_X12_one_15_29mr rfl rfl rfl) (dk_by (j := 9) rfl ck_X12_one_15_29mr rfl rfl rfl) (dk_by (j := 10) rfl ck_X12_one_15_29mr rfl rfl rfl) (by decide)
theorem dX12_one_251 : decode cX12_one 251 = .ok (.iconst (-1), 1) := dk_0 (dk_k2 251) (dk_by (j := 11) rfl ck_X12_one_15_29mr rfl rfl rfl)
theorem dX12_one_7 : decode cX12_one 7 = .ok (.iconst 0, 1) := dk_0 (dk_k3 7) (dk_by (j := 7) rfl ck_X12_one_0_29mr rfl rfl rfl)
theorem dX12_one_8 : decode cX12_one 8 = .ok (.ireturn, 1) := dk_0 (dk_k172 8) (dk_by (j := 8) rfl ck_X12_one_0_29mr rfl rfl rfl)
theorem gX12_product_X12_one : GoodIn wsX12_product (wsV RX12 398 RX12 yX12_one wsX12_one) := ru_gG (ru_gV tw_7_125 tw_7_127 tw_0_57 tw_1_12 mT_X12_one)
theorem gX12_product_X12_take : GoodIn wsX12_product (wsV RX12 364 RX12 yX12_take wsX12_take) := ru_gG (ru_gV tw_7_88 tw_7_90 tw_0_48 tw_1_12 mT_X12_take)
theorem gX12_sum_X12_product : GoodIn wsX12_sum (wsV RX12 391 RX12 yX12_product wsX12_product) := ru_gG (ru_gV tw_7_121 tw_7_123 tw_0_56 tw_1_12 mT_X12_product)
theorem gX12_sum_X12_take : GoodIn wsX12_sum (wsV RX12 364 RX12 yX12_take wsX12_take) := ru_gG (ru_gV tw_7_88 tw_7_90 tw_0_48 tw_1_12 mT_X12_take)
theorem gX12_turned_X12_is : GoodIn wsX12_turned (wsV RX12 352 RX12 yX12_is wsX12_is) := ru_gG (ru_gV tw_7_92 tw_7_94 tw_0_49 tw_1_12 mT_X12_is)
theorem gX12_turned_X12_opens : GoodIn wsX12_turned (wsV RX12 380 RX12 yX12_opens wsX12_opens) := ru_gG (ru_gV tw_7_109 tw_7_111 tw_0_53 tw_1_12 mT_X12_opens)
theorem gX12_turned_X12_sum : GoodIn wsX12_turned (wsV RX12 384 RX12 yX12_sum wsX12_sum) := ru_gG (ru_gV tw_7_117 tw_7_119 tw_0_55 tw_1_12 mT_X12_sum)
theorem gX12_turned_X12_take : GoodIn wsX12_turned (wsV RX12 364 RX12 yX12_take wsX12_take) := ru_gG (ru_gV tw_7_88 tw_7_90 tw_0_48 tw_1_12 mT_X12_take)
theorem gX12_both_X12_turned : GoodIn wsX12_both (wsV RX12 367 RX12 yX12_turned wsX12_turned) := ru_gG (ru_gV tw_7_104 tw_7_106 tw_0_52 tw_1_12 mT_X12_turned)
theorem gX12_both_X12_take : GoodIn wsX12_both (wsV RX12 364 RX12 yX12_take wsX12_take) := ru_gG (ru_gV tw_7_88 tw_7_90 tw_0_48 tw_1_12 mT_X12_take)
theorem gX12_either_X12_both : GoodIn wsX12_either (wsV RX12 359 RX12 yX12_both wsX12_both) := ru_gG (ru_gV tw_7_100 tw_7_102 tw_0_51 tw_1_12 mT_X12_both)
theorem gX12_either_X12_take : GoodIn wsX12_either (wsV RX12 364 RX12 yX12_take wsX12_take) := ru_gG (ru_gV tw_7_88 tw_7_90 tw_0_48 tw_1_12 mT_X12_take)
theorem gX12_one_X12_one : GoodIn wsX12_one (wsV RX12 398 RX12 yX12_one wsX12_one) := ru_gG (ru_gV tw_7_125 tw_7_127 tw_0_57 tw_1_12 mT_X12_one)
theorem dX12_one_29 : decode cX12_one 29 = .ok (.invokevirtual 398, 3) := dk_2 (dk_k182 29) (dk_by (j := 13) rfl ck_X12_one_1_29mr rfl rfl rfl) (dk_by (j := 14) rfl ck_X12_one_1_29mr rfl rfl rfl) (dk_by (j := 15) rfl ck_X12_one_1_29mr rfl rfl rfl) (by decide)
theorem dX12_one_32 : decode cX12_one 32 = .ok (.istore_n 1, 1) := dk_0 (dk_k60 32) (dk_by (j := 0) rfl ck_X12_one_2_29mr rfl rfl rfl)
theorem dX12_one_33 : decode cX12_one 33 = .ok (.aload_n 0, 1) := dk_0 (dk_k42 33) (dk_by (j := 1) rfl ck_X12_one_2_29mr rfl rfl rfl)
theorem dX12_one_34 : decode cX12_one 34 = .ok (.dup, 1) := dk_0 (dk_k89 34) (dk_by (j := 2) rfl ck_X12_one_2_29mr rfl rfl rfl)
theorem dX12_one_35 : decode cX12_one 35 = .ok (.getfield 372, 3) := dk_2 (dk_k180 35) (dk_by (j := 3) rfl ck_X12_one_2_29mr rfl rfl rfl) (dk_by (j := 4) rfl ck_X12_one_2_29mr rfl rfl rfl) (dk_by (j := 5) rfl ck_X12_one_2_29mr rfl rfl rfl) (by decide)
theorem dX12_one_38 : decode cX12_one 38 = .ok (.iconst 1, 1) := dk_0 (dk_k4 38) (dk_by (j := 6) rfl ck_X12_one_2_29mr rfl rfl rfl)
theorem dX12_one_39 : decode cX12_one 39 = .ok (.isub, 1) := dk_0 (dk_k100 39) (dk_by (j := 7) rfl ck_X12_one_2_29mr rfl rfl rfl)
theorem dX12_one_40 : decode cX12_one 40 = .ok (.putfield 372, 3) := dk_2 (dk_k181 40) (dk_by (j := 8) rfl ck_X12_one_2_29mr rfl rfl rfl) (dk_by (j := 9) rfl ck_X12_one_2_29mr rfl rfl rfl) (dk_by (j := 10) rfl ck_X12_one_2_29mr rfl rfl rfl) (by decide)
theorem dX12_one_43 : decode cX12_one 43 = .ok (.iload_n 1, 1) := dk_0 (dk_k27 43) (dk_by (j := 11) rfl ck_X12_one_2_29mr rfl rfl rfl)
theorem dX12_one_45 : decode cX12_one 45 = .ok (.ireturn, 1) := dk_0 (dk_k172 45) (dk_by (j := 13) rfl ck_X12_one_2_29mr rfl rfl rfl)
theorem gX12_one_X12_either : GoodIn wsX12_one (wsV RX12 405 RX12 yX12_either wsX12_either) := ru_gG (ru_gV tw_7_96 tw_7_98 tw_0_50 tw_1_12 mT_X12_either)
theorem dX12_one_66 : decode cX12_one 66 = .ok (.invokevirtual 405, 3) := dk_2 (dk_k182 66) (dk_by (j := 2) rfl ck_X12_one_4_29mr rfl rfl rfl) (dk_by (j := 3) rfl ck_X12_one_4_29mr rfl rfl rfl) (dk_by (j := 4) rfl ck_X12_one_4_29mr rfl rfl rfl) (by decide)
theorem dX12_one_69 : decode cX12_one 69 = .ok (.istore_n 1, 1) := dk_0 (dk_k60 69) (dk_by (j := 5) rfl ck_X12_one_4_29mr rfl rfl rfl)
theorem dX12_one_70 : decode cX12_one 70 = .ok (.aload_n 0, 1) := dk_0 (dk_k42 70) (dk_by (j := 6) rfl ck_X12_one_4_29mr rfl rfl rfl)
theorem gX12_one_X12_take : GoodIn wsX12_one (wsV RX12 364 RX12 yX12_take wsX12_take) := ru_gG (ru_gV tw_7_88 tw_7_90 tw_0_48 tw_1_12 mT_X12_take)
theorem dX12_one_74 : decode cX12_one 74 = .ok (.invokevirtual 364, 3) := dk_2 (dk_k182 74) (dk_by (j := 10) rfl ck_X12_one_4_29mr rfl rfl rfl) (dk_by (j := 11) rfl ck_X12_one_4_29mr rfl rfl rfl) (dk_by (j := 12) rfl ck_X12_one_4_29mr rfl rfl rfl) (by decide)
theorem dX12_one_77 : decode cX12_one 77 = .ok (.ifCond .ne 8, 3) := dk_s (dk_k154 77) (dk_by (j := 13) rfl ck_X12_one_4_29mr rfl rfl rfl) (dk_by (j := 14) rfl ck_X12_one_4_29mr rfl rfl rfl) (dk_by (j := 15) rfl ck_X12_one_4_29mr rfl rfl rfl) (by decide)
theorem dX12_one_85 : decode cX12_one 85 = .ok (.aload_n 0, 1) := dk_0 (dk_k42 85) (dk_by (j := 5) rfl ck_X12_one_5_29mr rfl rfl rfl)
theorem dX12_one_86 : decode cX12_one 86 = .ok (.dup, 1) := dk_0 (dk_k89 86) (dk_by (j := 6) rfl ck_X12_one_5_29mr rfl rfl rfl)
theorem dX12_one_87 : decode cX12_one 87 = .ok (.getfield 372, 3) := dk_2 (dk_k180 87) (dk_by (j := 7) rfl ck_X12_one_5_29mr rfl rfl rfl) (dk_by (j := 8) rfl ck_X12_one_5_29mr rfl rfl rfl) (dk_by (j := 9) rfl ck_X12_one_5_29mr rfl rfl rfl) (by decide)
theorem dX12_one_90 : decode cX12_one 90 = .ok (.iconst 1, 1) := dk_0 (dk_k4 90) (dk_by (j := 10) rfl ck_X12_one_5_29mr rfl rfl rfl)
theorem dX12_one_91 : decode cX12_one 91 = .ok (.isub, 1) := dk_0 (dk_k100 91) (dk_by (j := 11) rfl ck_X12_one_5_29mr rfl rfl rfl)
theorem dX12_one_92 : decode cX12_one 92 = .ok (.putfield 372, 3) := dk_2 (dk_k181 92) (dk_by (j := 12) rfl ck_X12_one_5_29mr rfl rfl rfl) (dk_by (j := 13) rfl ck_X12_one_5_29mr rfl rfl rfl) (dk_by (j := 14) rfl ck_X12_one_5_29mr rfl rfl rfl) (by decide)
theorem dX12_one_95 : decode cX12_one 95 = .ok (.iload_n 1, 1) := dk_0 (dk_k27 95) (dk_by (j := 15) rfl ck_X12_one_5_29mr rfl rfl rfl)
theorem dX12_one_96 : decode cX12_one 96 = .ok (.ireturn, 1) := dk_0 (dk_k172 96) (dk_by (j := 0) rfl ck_X12_one_6_29mr rfl rfl rfl)
theorem dX12_one_80 : decode cX12_one 80 = .ok (.aload_n 0, 1) := dk_0 (dk_k42 80) (dk_by (j := 0) rfl ck_X12_one_5_29mr rfl rfl rfl)
theorem dX12_one_81 : decode cX12_one 81 = .ok (.invokevirtual 375, 3) := dk_2 (dk_k182 81) (dk_by (j := 1) rfl ck_X12_one_5_29mr rfl rfl rfl) (dk_by (j := 2) rfl ck_X12_one_5_29mr rfl rfl rfl) (dk_by (j := 3) rfl ck_X12_one_5_29mr rfl rfl rfl) (by decide)
theorem dX12_one_84 : decode cX12_one 84 = .ok (.ireturn, 1) := dk_0 (dk_k172 84) (dk_by (j := 4) rfl ck_X12_one_5_29mr rfl rfl rfl)
theorem gX12_turned_X12_turned : GoodIn wsX12_turned (wsV RX12 367 RX12 yX12_turned wsX12_turned) := ru_gG (ru_gV tw_7_104 tw_7_106 tw_0_52 tw_1_12 mT_X12_turned)
set_option maxHeartbeats 400000 in
set_option maxRecDepth 20000 in
theorem fc_X12_byteAt (l : Launch) (D : va_G) (ad : Nat → Nat → Nat) (C : Nat → Nat → ClassId) (nb : Nat) (M : fm_M) (hI : fm_I nb ad M) (p0 : Int32) (b_p0 : 0 ≤ p0.toInt ∧ p0.toInt ≤ 400) : Met l yX12_byteAt wsX12_byteAt ({ frames := 0, cells := 0, slots := 0, locals := 0 }) (va_Pc [.ref (ad 60 0), .int p0] (fm_P D ad C nb M)) (vp_Si (fun r : Int32 => (p0.toInt < (M.1 60 0 63).toInt → r.toInt = rt_mb M (M.1 60 0 62).toInt p0.toInt))) 0 0 (fun _ => False) := by
  refine Met.ofW (cc := cX12_byteAt) (maxL := 2) (ret := (some .int)) (by decide) rfl ?_
  intro p e s m args below meth c s₁ B hml hv
  obtain ⟨rfl, hw, hc⟩ := hv
  have hx := B.exec
  have hb := B.bytes
  have hr := B.returns
  have hts := atoms_spec (ws := wsX12_byteAt) B.pre
  have hown : s.vm.findClass RX12 = some m.cls := findClass_of_methodNamed B.named
  have hinX12 : ∀ w ∈ u_ws RX12 TX12 79, w ∈ wsX12_byteAt := fun w h => List.mem_cons_of_mem _ (iT_X12 w h)
  have hS : va_S (fm_A nb ad) s.heap s.heap [] := va_S.rf
  have hl := lv_entry ([.ref (ad 60 0), .int p0]) (n := 2) (Nat.le_of_ble_eq_true rfl)
  rw [lg_entry_eq]
  generalize (lg_sl ([.ref (ad 60 0), .int p0]) ++ List.replicate (2 - (lg_sl ([.ref (ad 60 0), .int p0])).length) Slot.unset).toArray = ls at hl ⊢
  have hl : lv_has ls 2 [(0, .ref (ad 60 0)), (1, .int p0)] := hl
  refine lv_iload_n hx hb dX12_byteAt_0 rfl (lv_at hl 1 rfl) ?_
  refine lv_aload_n hx hb dX12_byteAt_1 rfl (lv_at hl 0 rfl) ?_
  refine fm_getI (a := 60) (j := 63) (T := TX12) (N := 79) hx hb hts hinX12 hown hc hw hI kl_60 sh_60 rfl (by decide) rfl bd_60_63 (hts (.fieldLink RX12 328 "RedTentModel" "ends" "I") (List.mem_cons_of_mem _ tw_5_183)) (fun _ h9 => h9) dX12_byteAt_2 (fun x1 ex1 bx1 => ?_)
  refine fx_icmp_ge (tgt := 38) hx hb dX12_byteAt_5 (by decide) rfl rfl (fun c2 => ?_) (fun c2 => ?_)
  · refine lv_iconst (v := 0) hx hb dX12_byteAt_38 (by decide) ?_
    have qx1 : x1.toInt = (M.1 60 0 63).toInt := by rw [ex1]
    exact W.iret (v := 0) hx hb hr (fun t ht hW => ⟨0, rfl, (fun h => absurd h (by omega)), ht⟩) (fun _ h => absurd h List.not_mem_nil) dX12_byteAt_39
  · refine lv_aload_n hx hb dX12_byteAt_8 rfl (lv_at hl 0 rfl) ?_
    refine fm_getI (a := 60) (j := 62) (T := TX12) (N := 79) hx hb hts hinX12 hown hc hw hI kl_60 sh_60 rfl (by decide) rfl bd_60_62 (hts (.fieldLink RX12 331 "RedTentModel" "base" "I") (List.mem_cons_of_mem _ tw_5_182)) (fun _ h9 => h9) dX12_byteAt_9 (fun x3 ex3 bx3 => ?_)
    refine fx_if_ge (tgt := 24) hx hb dX12_byteAt_12 (by decide) rfl (fun c4 => ?_) (fun c4 => ?_)
    · refine lv_aload_n hx hb dX12_byteAt_24 rfl (lv_at hl 0 rfl) ?_
      refine fm_getG (a := 60) (j := 53) (T := TX12) (N := 79) hx hb hts hinX12 hown hc hw kl_60 sh_60 rfl (by decide) rfl (hI.to kl_60 tg_60_53) (hts (.fieldLink RX12 128 "RedTentModel" "text" "[I") (List.mem_cons_of_mem _ tw_5_173)) (fun _ h9 => h9) dX12_byteAt_25 ?_
      refine lv_aload_n hx hb dX12_byteAt_28 rfl (lv_at hl 0 rfl) ?_
      refine fm_getI (a := 60) (j := 62) (T := TX12) (N := 79) hx hb hts hinX12 hown hc hw hI kl_60 sh_60 rfl (by decide) rfl bd_60_62 (hts (.fieldLink RX12 331 "RedTentModel" "base" "I") (List.mem_cons_of_mem _ tw_5_182)) (fun _ h9 => h9) dX12_byteAt_29 (fun x5 ex5 bx5 => ?_)
      obtain rfl : x3 = x5 := by rw [ex5]; exact ex3
      refine lv_iload_n hx hb dX12_byteAt_32 rfl (lv_at hl 1 rfl) ?_
      refine fx_iadd hx hb dX12_byteAt_33 rfl rfl (by omega) (fun y6 ey6 ty6 => ?_)
      refine fm_iald (a := 153) hx hb hc hw hI kl_153 sh_153 ty_153 bd_153 (by omega) dX12_byteAt_34 (fun x7 ex7 bx7 => ?_)
      refine lv_goto (tgt := 39) hx hb dX12_byteAt_35 (by decide) ?_
      have qx3 : x3.toInt = (M.1 60 0 62).toInt := by rw [ex3]
      have qx1 : x1.toInt = (M.1 60 0 63).toInt := by rw [ex1]
      exact W.iret (v := x7) hx hb hr (fun t ht hW => ⟨x7, rfl, (fun _ => rt_mb_k ex3 (by omega) ty6 ex7), ht⟩) (fun _ h => absurd h List.not_mem_nil) dX12_byteAt_39
    · refine lv_aload_n hx hb dX12_byteAt_15 rfl (lv_at hl 0 rfl) ?_
      refine fm_getG (a := 60) (j := 51) (T := TX12) (N := 79) hx hb hts hinX12 hown hc hw kl_60 sh_60 rfl (by decide) rfl (hI.to kl_60 tg_60_51) (hts (.fieldLink RX12 125 "RedTentModel" "tape" "[I") (List.mem_cons_of_mem _ tw_5_171)) (fun _ h9 => h9) dX12_byteAt_16 ?_
      refine lv_iload_n hx hb dX12_byteAt_19 rfl (lv_at hl 1 rfl) ?_
      refine fm_iald (a := 151) hx hb hc hw hI kl_151 sh_151 ty_151 bd_151 (by omega) dX12_byteAt_20 (fun x8 ex8 bx8 => ?_)
      refine lv_goto (tgt := 39) hx hb dX12_byteAt_21 (by decide) ?_
      have qx3 : x3.toInt = (M.1 60 0 62).toInt := by rw [ex3]
      have qx1 : x1.toInt = (M.1 60 0 63).toInt := by rw [ex1]
      exact W.iret (v := x8) hx hb hr (fun t ht hW => ⟨x8, rfl, (fun _ => rt_mb_t ex3 (by omega) ex8), ht⟩) (fun _ h => absurd h List.not_mem_nil) dX12_byteAt_39
set_option maxHeartbeats 400000 in
set_option maxRecDepth 20000 in
theorem fc_X12_isLetter (l : Launch) (D : va_G) (ad : Nat → Nat → Nat) (C : Nat → Nat → ClassId) (nb : Nat) (M : fm_M) (hI : fm_I nb ad M) (p0 : Int32) (b_p0 : 0 ≤ p0.toInt ∧ p0.toInt ≤ 400) : Met l yX12_isLetter wsX12_isLetter ({ frames := 1, cells := 0, slots := 0, locals := 22 }) (va_Pc [.ref (ad 60 0), .int p0] (fm_P D ad C nb M)) (vp_Si (fun r : Int32 => ((r = 1 ∧ (p0.toInt < (M.1 60 0 63).toInt ∧ rt_isL (rt_mb M (M.1 60 0 62).toInt p0.toInt))) ∨ (r = 0 ∧ ¬ (p0.toInt < (M.1 60 0 63).toInt ∧ rt_isL (rt_mb M (M.1 60 0 62).toInt p0.toInt)))))) 0 0 (fun _ => False) := by
  refine Met.ofW (cc := cX12_isLetter) (maxL := 2) (ret := (some .boolean)) (by decide) rfl ?_
  intro p e s m args below meth c s₁ B hml hv
  obtain ⟨rfl, hw, hc⟩ := hv
  have hx := B.exec
  have hb := B.bytes
  have hr := B.returns
  have hts := atoms_spec (ws := wsX12_isLetter) B.pre
  have hown : s.vm.findClass RX12 = some m.cls := findClass_of_methodNamed B.named
  have hinX12 : ∀ w ∈ u_ws RX12 TX12 79, w ∈ wsX12_isLetter := fun w h => List.mem_cons_of_mem _ (iT_X12 w h)
  have hS : va_S (fm_A nb ad) s.heap s.heap [] := va_S.rf
  have hl := lv_entry ([.ref (ad 60 0), .int p0]) (n := 2) (Nat.le_of_ble_eq_true rfl)
  rw [lg_entry_eq]
  generalize (lg_sl ([.ref (ad 60 0), .int p0]) ++ List.replicate (2 - (lg_sl ([.ref (ad 60 0), .int p0])).length) Slot.unset).toArray = ls at hl ⊢
  have hl : lv_has ls 2 [(0, .ref (ad 60 0)), (1, .int p0)] := hl
  refine lv_iload_n hx hb dX12_isLetter_0 rfl (lv_at hl 1 rfl) ?_
  refine lv_aload_n hx hb dX12_isLetter_1 rfl (lv_at hl 0 rfl) ?_
  refine fm_getI (a := 60) (j := 63) (T := TX12) (N := 79) hx hb hts hinX12 hown hc hw hI kl_60 sh_60 rfl (by decide) rfl bd_60_63 (hts (.fieldLink RX12 328 "RedTentModel" "ends" "I") (List.mem_cons_of_mem _ tw_5_183)) (fun _ h9 => h9) dX12_isLetter_2 (fun x1 ex1 bx1 => ?_)
  refine fx_icmp_ge (tgt := 27) hx hb dX12_isLetter_5 (by decide) rfl rfl (fun c2 => ?_) (fun c2 => ?_)
  · refine lv_iconst (v := 0) hx hb dX12_isLetter_27 (by decide) ?_
    have qx1 : x1.toInt = (M.1 60 0 63).toInt := by rw [ex1]
    exact W.zret (v := 0) hx hb hr rfl (fun t ht hW => ⟨0, rfl, Or.inr ⟨rfl, by omega⟩, ht⟩) (fun _ h => absurd h List.not_mem_nil) dX12_isLetter_28
  · refine lv_aload_n hx hb dX12_isLetter_8 rfl (lv_at hl 0 rfl) ?_
    refine lv_iload_n hx hb dX12_isLetter_9 rfl (lv_at hl 1 rfl) ?_
    refine vp_callSi (va_Run.run (va_runV (As := [.int p0]) (rest := []) ⟨hx, hb, hml, hown, hts⟩ (fc_X12_byteAt l D ad C nb M hI p0 (by omega)) (cwV 1 hts gX12_isLetter_X12_byteAt rfl rfl rfl (by decide +kernel) ⟨Nat.le_of_ble_eq_true rfl, Nat.le_of_ble_eq_true rfl⟩) (fm_preV hc hw hS kl_60 sh_60 rfl) rfl rfl hl.1 rfl (lv_room (Nat.le_of_ble_eq_true rfl)) dX12_isLetter_10 ⟨by decide +kernel, by decide +kernel⟩)) (fun r3 hr3 => ?_)
    have gr3 : x1.toInt = (M.1 60 0 63).toInt := by rw [ex1]
    have kr3 := hr3 (by omega)
    refine lv_bipush (v := 97) hx hb dX12_isLetter_13 (by decide) ?_
    refine lv_bipush (v := 122) hx hb dX12_isLetter_15 (by decide) ?_
    have zz4 := zk_97
    have zz5 := zk_122
    refine vp_callSi (va_Run.run (va_runS (As := [.int r3, .int 97, .int 122]) (rest := []) ⟨hx, hb, hml, hown, hts⟩ (fc_X12_within l r3 97 122) (va_cwS 3 hts gX12_isLetter_X12_within rfl rfl rfl (by decide +kernel) ⟨Nat.le_of_ble_eq_true rfl, Nat.le_of_ble_eq_true rfl⟩) ⟨fun a U g mk q => q, fun U hU hW => ⟨rfl, trivial⟩⟩ rfl rfl hl.1 rfl (lv_room (Nat.le_of_ble_eq_true rfl)) dX12_isLetter_17 ⟨by decide +kernel, by decide +kernel⟩)) (fun r6 hr6 => ?_)
    rcases hr6 with ⟨rfl, c7⟩ | ⟨rfl, c7⟩
    · refine fx_if_eq (tgt := 27) hx hb dX12_isLetter_20 (by decide) zk_1 (fun c8 => by exfalso; omega) (fun c8 => ?_)
      refine lv_iconst (v := 1) hx hb dX12_isLetter_23 (by decide) ?_
      refine lv_goto (tgt := 28) hx hb dX12_isLetter_24 (by decide) ?_
      have qx1 : x1.toInt = (M.1 60 0 63).toInt := by rw [ex1]
      exact W.zret (v := 1) hx hb hr rfl (fun t ht hW => ⟨1, rfl, Or.inl ⟨rfl, by omega⟩, ht⟩) (fun _ h => absurd h List.not_mem_nil) dX12_isLetter_28
    · refine fx_if_eq (tgt := 27) hx hb dX12_isLetter_20 (by decide) zk_0 (fun c9 => ?_) (fun c9 => by exfalso; omega)
      refine lv_iconst (v := 0) hx hb dX12_isLetter_27 (by decide) ?_
      have qx1 : x1.toInt = (M.1 60 0 63).toInt := by rw [ex1]
      exact W.zret (v := 0) hx hb hr rfl (fun t ht hW => ⟨0, rfl, Or.inr ⟨rfl, by omega⟩, ht⟩) (fun _ h => absurd h List.not_mem_nil) dX12_isLetter_28
set_option maxHeartbeats 400000 in
set_option maxRecDepth 20000 in
theorem fc_X12_isDigit (l : Launch) (D : va_G) (ad : Nat → Nat → Nat) (C : Nat → Nat → ClassId) (nb : Nat) (M : fm_M) (hI : fm_I nb ad M) (p0 : Int32) (b_p0 : 0 ≤ p0.toInt ∧ p0.toInt ≤ 400) : Met l yX12_isDigit wsX12_isDigit ({ frames := 1, cells := 0, slots := 0, locals := 22 }) (va_Pc [.ref (ad 60 0), .int p0] (fm_P D ad C nb M)) (vp_Si (fun r : Int32 => ((r = 1 ∧ (p0.toInt < (M.1 60 0 63).toInt ∧ rt_isD (rt_mb M (M.1 60 0 62).toInt p0.toInt))) ∨ (r = 0 ∧ ¬ (p0.toInt < (M.1 60 0 63).toInt ∧ rt_isD (rt_mb M (M.1 60 0 62).toInt p0.toInt)))))) 0 0 (fun _ => False) := by
  refine Met.ofW (cc := cX12_isDigit) (maxL := 2) (ret := (some .boolean)) (by decide) rfl ?_
  intro p e s m args below meth c s₁ B hml hv
  obtain ⟨rfl, hw, hc⟩ := hv
  have hx := B.exec
  have hb := B.bytes
  have hr := B.returns
  have hts := atoms_spec (ws := wsX12_isDigit) B.pre
  have hown : s.vm.findClass RX12 = some m.cls := findClass_of_methodNamed B.named
  have hinX12 : ∀ w ∈ u_ws RX12 TX12 79, w ∈ wsX12_isDigit := fun w h => List.mem_cons_of_mem _ (iT_X12 w h)
  have hS : va_S (fm_A nb ad) s.heap s.heap [] := va_S.rf
  have hl := lv_entry ([.ref (ad 60 0), .int p0]) (n := 2) (Nat.le_of_ble_eq_true rfl)
  rw [lg_entry_eq]
  generalize (lg_sl ([.ref (ad 60 0), .int p0]) ++ List.replicate (2 - (lg_sl ([.ref (ad 60 0), .int p0])).length) Slot.unset).toArray = ls at hl ⊢
  have hl : lv_has ls 2 [(0, .ref (ad 60 0)), (1, .int p0)] := hl
  refine lv_iload_n hx hb dX12_isDigit_0 rfl (lv_at hl 1 rfl) ?_
  refine lv_aload_n hx hb dX12_isDigit_1 rfl (lv_at hl 0 rfl) ?_
  refine fm_getI (a := 60) (j := 63) (T := TX12) (N := 79) hx hb hts hinX12 hown hc hw hI kl_60 sh_60 rfl (by decide) rfl bd_60_63 (hts (.fieldLink RX12 328 "RedTentModel" "ends" "I") (List.mem_cons_of_mem _ tw_5_183)) (fun _ h9 => h9) dX12_isDigit_2 (fun x1 ex1 bx1 => ?_)
  refine fx_icmp_ge (tgt := 27) hx hb dX12_isDigit_5 (by decide) rfl rfl (fun c2 => ?_) (fun c2 => ?_)
  · refine lv_iconst (v := 0) hx hb dX12_isDigit_27 (by decide) ?_
    have qx1 : x1.toInt = (M.1 60 0 63).toInt := by rw [ex1]
    exact W.zret (v := 0) hx hb hr rfl (fun t ht hW => ⟨0, rfl, Or.inr ⟨rfl, by omega⟩, ht⟩) (fun _ h => absurd h List.not_mem_nil) dX12_isDigit_28
  · refine lv_aload_n hx hb dX12_isDigit_8 rfl (lv_at hl 0 rfl) ?_
    refine lv_iload_n hx hb dX12_isDigit_9 rfl (lv_at hl 1 rfl) ?_
    refine vp_callSi (va_Run.run (va_runV (As := [.int p0]) (rest := []) ⟨hx, hb, hml, hown, hts⟩ (fc_X12_byteAt l D ad C nb M hI p0 (by omega)) (cwV 1 hts gX12_isDigit_X12_byteAt rfl rfl rfl (by decide +kernel) ⟨Nat.le_of_ble_eq_true rfl, Nat.le_of_ble_eq_true rfl⟩) (fm_preV hc hw hS kl_60 sh_60 rfl) rfl rfl hl.1 rfl (lv_room (Nat.le_of_ble_eq_true rfl)) dX12_isDigit_10 ⟨by decide +kernel, by decide +kernel⟩)) (fun r3 hr3 => ?_)
    have gr3 : x1.toInt = (M.1 60 0 63).toInt := by rw [ex1]
    have kr3 := hr3 (by omega)
    refine lv_bipush (v := 48) hx hb dX12_isDigit_13 (by decide) ?_
    refine lv_bipush (v := 57) hx hb dX12_isDigit_15 (by decide) ?_
    have zz4 := zk_48
    have zz5 := zk_57
    refine vp_callSi (va_Run.run (va_runS (As := [.int r3, .int 48, .int 57]) (rest := []) ⟨hx, hb, hml, hown, hts⟩ (fc_X12_within l r3 48 57) (va_cwS 3 hts gX12_isDigit_X12_within rfl rfl rfl (by decide +kernel) ⟨Nat.le_of_ble_eq_true rfl, Nat.le_of_ble_eq_true rfl⟩) ⟨fun a U g mk q => q, fun U hU hW => ⟨rfl, trivial⟩⟩ rfl rfl hl.1 rfl (lv_room (Nat.le_of_ble_eq_true rfl)) dX12_isDigit_17 ⟨by decide +kernel, by decide +kernel⟩)) (fun r6 hr6 => ?_)
    rcases hr6 with ⟨rfl, c7⟩ | ⟨rfl, c7⟩
    · refine fx_if_eq (tgt := 27) hx hb dX12_isDigit_20 (by decide) zk_1 (fun c8 => by exfalso; omega) (fun c8 => ?_)
      refine lv_iconst (v := 1) hx hb dX12_isDigit_23 (by decide) ?_
      refine lv_goto (tgt := 28) hx hb dX12_isDigit_24 (by decide) ?_
      have qx1 : x1.toInt = (M.1 60 0 63).toInt := by rw [ex1]
      exact W.zret (v := 1) hx hb hr rfl (fun t ht hW => ⟨1, rfl, Or.inl ⟨rfl, by omega⟩, ht⟩) (fun _ h => absurd h List.not_mem_nil) dX12_isDigit_28
    · refine fx_if_eq (tgt := 27) hx hb dX12_isDigit_20 (by decide) zk_0 (fun c9 => ?_) (fun c9 => by exfalso; omega)
      refine lv_iconst (v := 0) hx hb dX12_isDigit_27 (by decide) ?_
      have qx1 : x1.toInt = (M.1 60 0 63).toInt := by rw [ex1]
      exact W.zret (v := 0) hx hb hr rfl (fun t ht hW => ⟨0, rfl, Or.inr ⟨rfl, by omega⟩, ht⟩) (fun _ h => absurd h List.not_mem_nil) dX12_isDigit_28
set_option maxHeartbeats 400000 in
set_option maxRecDepth 20000 in
theorem fc_X12_is (l : Launch) (D : va_G) (ad : Nat → Nat → Nat) (C : Nat → Nat → ClassId) (nb : Nat) (M : fm_M) (hI : fm_I nb ad M) (q v N : Nat) (f : Nat → Int32) (hN : 1 ≤ N ∧ N ≤ 50) (hto : (M.1 60 0 65).toInt ≤ (M.1 60 0 63).toInt) (hch : ∀ j : Nat, j < N → rt_ch (f j) = f j) : Met l yX12_is wsX12_is ({ frames := 4, cells := 0, slots := 0, locals := 85 }) (va_Pc [.ref (ad 60 0), .ref q] (fun U => fm_P D ad C nb M U ∧ rt_Str q v N f (fm_A nb ad) U U.heap)) (vp_Si (fun r : Int32 => ((r = 1 ∧ ((M.1 60 0 64).toInt < (M.1 60 0 63).toInt ∧ (M.1 60 0 65).toInt - (M.1 60 0 64).toInt = N ∧ ∀ j : Nat, j < N → rt_mb M (M.1 60 0 62).toInt ((M.1 60 0 64).toInt + j) = (f j).toInt)) ∨ (r = 0 ∧ ¬ ((M.1 60 0 64).toInt < (M.1 60 0 63).toInt ∧ (M.1 60 0 65).toInt - (M.1 60 0 64).toInt = N ∧ ∀ j : Nat, j < N → rt_mb M (M.1 60 0 62).toInt ((M.1 60 0 64).toInt + j) = (f j).toInt))))) 0 0 (fun _ => False) := by
  refine Met.ofW (cc := cX12_is) (maxL := 4) (ret := (some .boolean)) (by decide) rfl ?_
  intro p e s m args below meth c s₁ B hml hv
  obtain ⟨rfl, ⟨hw, hc⟩, hQq⟩ := hv
  have hx := B.exec
  have hb := B.bytes
  have hr := B.returns
  have hts := atoms_spec (ws := wsX12_is) B.pre
  have hown : s.vm.findClass RX12 = some m.cls := findClass_of_methodNamed B.named
  have hinX12 : ∀ w ∈ u_ws RX12 TX12 79, w ∈ wsX12_is := fun w h => List.mem_cons_of_mem _ (iT_X12 w h)
  have hS : va_S (fm_A nb ad) s.heap s.heap [] := va_S.rf
  have hl := lv_entry ([.ref (ad 60 0), .ref q]) (n := 4) (Nat.le_of_ble_eq_true rfl)
  rw [lg_entry_eq]
  generalize (lg_sl ([.ref (ad 60 0), .ref q]) ++ List.replicate (4 - (lg_sl ([.ref (ad 60 0), .ref q])).length) Slot.unset).toArray = ls at hl ⊢
  have hl : lv_has ls 4 [(0, .ref (ad 60 0)), (1, .ref q)] := hl
  have jt : ∀ (jt_2 : Int32), (0 ≤ jt_2.toInt ∧ jt_2.toInt ≤ 1) → (jt_2.toInt = 1 → ((M.1 60 0 64).toInt < (M.1 60 0 63).toInt ∧ (M.1 60 0 65).toInt - (M.1 60 0 64).toInt = N)) → (jt_2.toInt = 0 → ¬ ((M.1 60 0 64).toInt < (M.1 60 0 63).toInt ∧ (M.1 60 0 65).toInt - (M.1 60 0 64).toInt = N)) → ∀ (ls : Array Slot), lv_has ls 4 [(0, .ref (ad 60 0)), (1, .ref q), (2, .int jt_2)] → W p l e (headSpec wsX12_is ({ frames := 4, cells := 0, slots := 0, locals := 85 })).room s m ([.ref (ad 60 0), .ref q] : List Value).toArray below meth c s.heap [] 0 0 (MQ below (vp_Si (fun r : Int32 => ((r = 1 ∧ ((M.1 60 0 64).toInt < (M.1 60 0 63).toInt ∧ (M.1 60 0 65).toInt - (M.1 60 0 64).toInt = N ∧ ∀ j : Nat, j < N → rt_mb M (M.1 60 0 62).toInt ((M.1 60 0 64).toInt + j) = (f j).toInt)) ∨ (r = 0 ∧ ¬ ((M.1 60 0 64).toInt < (M.1 60 0 63).toInt ∧ (M.1 60 0 65).toInt - (M.1 60 0 64).toInt = N ∧ ∀ j : Nat, j < N → rt_mb M (M.1 60 0 62).toInt ((M.1 60 0 64).toInt + j) = (f j).toInt))))) ([.ref (ad 60 0), .ref q] : List Value).toArray s 0 0 (fun _ => False)) (F0 m 33 ls []) := by
    intro jt_2 b_jt_2 hj hj0 ls hl
    refine lv_iconst (v := 0) hx hb dX12_is_33 (by decide) ?_
    refine lv_istore_n (lv' := [(3, .int 0), (0, .ref (ad 60 0)), (1, .ref q), (2, .int jt_2)]) hx hb dX12_is_34 rfl hl (by decide) rfl (fun ls hl => ?_)
    have lp : ∀ (n_lp : Nat) (lp_3 : Int32) (lp_2 : Int32), (50 - lp_3.toInt).toNat < n_lp → (0 ≤ lp_3.toInt ∧ lp_3.toInt ≤ 50) → (0 ≤ lp_2.toInt ∧ lp_2.toInt ≤ 1) → (lp_3.toInt ≤ N) → (lp_2.toInt = 1 → ((M.1 60 0 64).toInt < (M.1 60 0 63).toInt ∧ (M.1 60 0 65).toInt - (M.1 60 0 64).toInt = N ∧ ∀ j : Nat, (j : Int) < lp_3.toInt → rt_mb M (M.1 60 0 62).toInt ((M.1 60 0 64).toInt + j) = (f j).toInt)) → (lp_2.toInt = 0 → ¬ ((M.1 60 0 64).toInt < (M.1 60 0 63).toInt ∧ (M.1 60 0 65).toInt - (M.1 60 0 64).toInt = N ∧ ∀ j : Nat, j < N → rt_mb M (M.1 60 0 62).toInt ((M.1 60 0 64).toInt + j) = (f j).toInt)) → ∀ (ls : Array Slot), lv_has ls 4 [(3, .int lp_3), (0, .ref (ad 60 0)), (1, .ref q), (2, .int lp_2)] → W p l e (headSpec wsX12_is ({ frames := 4, cells := 0, slots := 0, locals := 85 })).room s m ([.ref (ad 60 0), .ref q] : List Value).toArray below meth c s.heap [] 0 0 (MQ below (vp_Si (fun r : Int32 => ((r = 1 ∧ ((M.1 60 0 64).toInt < (M.1 60 0 63).toInt ∧ (M.1 60 0 65).toInt - (M.1 60 0 64).toInt = N ∧ ∀ j : Nat, j < N → rt_mb M (M.1 60 0 62).toInt ((M.1 60 0 64).toInt + j) = (f j).toInt)) ∨ (r = 0 ∧ ¬ ((M.1 60 0 64).toInt < (M.1 60 0 63).toInt ∧ (M.1 60 0 65).toInt - (M.1 60 0 64).toInt = N ∧ ∀ j : Nat, j < N → rt_mb M (M.1 60 0 62).toInt ((M.1 60 0 64).toInt + j) = (f j).toInt))))) ([.ref (ad 60 0), .ref q] : List Value).toArray s 0 0 (fun _ => False)) (F0 m 35 ls []) := by
      intro n_lp
      induction n_lp with
      | zero => intro lp_3 lp_2 hm_lp b_lp_3 b_lp_2 hk hi hi0 ls hl; exact absurd hm_lp (Nat.not_lt_zero _)
      | succ n_lp ih_lp =>
        intro lp_3 lp_2 hm_lp b_lp_3 b_lp_2 hk hi hi0 ls hl
        refine lv_iload_n hx hb dX12_is_35 rfl (lv_at hl 0 rfl) ?_
        refine lv_aload_n hx hb dX12_is_36 rfl (lv_at hl 2 rfl) ?_
        refine vp_callSi (va_Run.run (va_runV (As := []) (rest := [.int lp_3]) ⟨hx, hb, hml, hown, hts⟩ (rt_J0_length l D.1 D.2 q v N f) (cwV 0 hts gX12_is_J0_length_8abf5 rfl rfl rfl (by decide +kernel) ⟨Nat.le_of_ble_eq_true rfl, Nat.le_of_ble_eq_true rfl⟩) ⟨fun a U g mk q => by obtain ⟨q0, qP, qK, qe0⟩ := q; exact ⟨q0, qP, va_K.moved (u := U) (U := U.calling g mk a) (Vm.Alike.refl U.vm) qK, rt_Str.same qe0⟩, rt_recv hQq.1 hS, fun U hU hW => ⟨rfl, fun i z hz => by simp at hz, va_K.moved hW.alike hc.2.1.1, rt_Str.give hQq hS (fun _ h => h.elim) hU hW.alike⟩⟩ rfl rfl hl.1 rfl (lv_room (Nat.le_of_ble_eq_true rfl)) dX12_is_37 ⟨by decide +kernel, by decide +kernel⟩)) (fun r1 hr1 => ?_)
        have tr1 : r1.toInt = N := by rw [hr1]; exact zi_ofN (by omega)
        refine fx_icmp_ge (tgt := 77) hx hb dX12_is_40 (by decide) rfl rfl (fun c2 => ?_) (fun c2 => ?_)
        · refine lv_iload_n hx hb dX12_is_77 rfl (lv_at hl 3 rfl) ?_
          exact W.zret (v := lp_2) hx hb hr (zi_nar (by omega)) (fun t ht hW => ⟨lp_2, rfl, (rt_b01 (by omega) (fun h => by have z := hi h; exact ⟨z.1, z.2.1, fun j hj => z.2.2 j (by omega)⟩) hi0), ht⟩) (fun _ h => absurd h List.not_mem_nil) dX12_is_78
        · refine lv_iload_n hx hb dX12_is_43 rfl (lv_at hl 3 rfl) ?_
          refine fx_if_eq (tgt := 77) hx hb dX12_is_44 (by decide) rfl (fun c3 => ?_) (fun c3 => ?_)
          · refine lv_iload_n hx hb dX12_is_77 rfl (lv_at hl 3 rfl) ?_
            exact W.zret (v := lp_2) hx hb hr (zi_nar (by omega)) (fun t ht hW => ⟨lp_2, rfl, (rt_b01 (by omega) (fun h => by have z := hi h; exact ⟨z.1, z.2.1, fun j hj => z.2.2 j (by omega)⟩) hi0), ht⟩) (fun _ h => absurd h List.not_mem_nil) dX12_is_78
          · refine lv_aload_n hx hb dX12_is_47 rfl (lv_at hl 1 rfl) ?_
            refine lv_aload_n hx hb dX12_is_48 rfl (lv_at hl 1 rfl) ?_
            refine fm_getI (a := 60) (j := 64) (T := TX12) (N := 79) hx hb hts hinX12 hown hc hw hI kl_60 sh_60 rfl (by decide) rfl bd_60_64 (hts (.fieldLink RX12 340 "RedTentModel" "from" "I") (List.mem_cons_of_mem _ tw_5_184)) (fun _ h9 => h9) dX12_is_49 (fun x4 ex4 bx4 => ?_)
            have wx4 : x4.toInt = (M.1 60 0 64).toInt := by rw [ex4]
            refine lv_iload_n hx hb dX12_is_52 rfl (lv_at hl 0 rfl) ?_
            refine fx_iadd hx hb dX12_is_53 rfl rfl (by omega) (fun y5 ey5 ty5 => ?_)
            refine vp_callSi (va_Run.run (va_runV (As := [.int y5]) (rest := []) ⟨hx, hb, hml, hown, hts⟩ (fc_X12_byteAt l D ad C nb M hI y5 (by omega)) (cwV 1 hts gX12_is_X12_byteAt rfl rfl rfl (by decide +kernel) ⟨Nat.le_of_ble_eq_true rfl, Nat.le_of_ble_eq_true rfl⟩) (fm_preV hc hw hS kl_60 sh_60 rfl) rfl rfl hl.1 rfl (lv_room (Nat.le_of_ble_eq_true rfl)) dX12_is_54 ⟨by decide +kernel, by decide +kernel⟩)) (fun r6 hr6 => ?_)
            have hi1 := hi (by omega)
            have kr6 := hr6 (by omega)
            refine lv_aload_n hx hb dX12_is_57 rfl (lv_at hl 2 rfl) ?_
            refine lv_iload_n hx hb dX12_is_58 rfl (lv_at hl 0 rfl) ?_
            refine vp_callSi (va_Run.run (va_runV (As := [.int lp_3]) (rest := [.int r6]) ⟨hx, hb, hml, hown, hts⟩ (rt_J0_charAt l D.1 D.2 q v N f lp_3 (by omega) (by omega)) (cwV 1 hts gX12_is_J0_charAt_5068e rfl rfl rfl (by decide +kernel) ⟨Nat.le_of_ble_eq_true rfl, Nat.le_of_ble_eq_true rfl⟩) ⟨fun a U g mk q => by obtain ⟨q0, qP, qK, qe0⟩ := q; exact ⟨q0, qP, va_K.moved (u := U) (U := U.calling g mk a) (Vm.Alike.refl U.vm) qK, rt_Str.same qe0⟩, rt_recv hQq.1 hS, fun U hU hW => ⟨rfl, fun i z hz => by simp at hz, va_K.moved hW.alike hc.2.1.1, rt_Str.give hQq hS (fun _ h => h.elim) hU hW.alike⟩⟩ rfl rfl hl.1 rfl (lv_room (Nat.le_of_ble_eq_true rfl)) dX12_is_59 ⟨by decide +kernel, by decide +kernel⟩)) (fun r7 hr7 => ?_)
            refine fx_icmp_ne (tgt := 69) hx hb dX12_is_62 (by decide) rfl rfl (fun c8 => ?_) (fun c8 => ?_)
            · refine lv_iconst (v := 0) hx hb dX12_is_69 (by decide) ?_
              refine lv_istore_n (lv' := [(2, .int 0), (3, .int lp_3), (0, .ref (ad 60 0)), (1, .ref q)]) hx hb dX12_is_70 rfl hl (by decide) rfl (fun ls hl => ?_)
              obtain ⟨y9, ey9⟩ : ∃ y : Int32, y = lp_3 + 1 := ⟨_, rfl⟩
              have ty9 : y9.toInt = lp_3.toInt + 1 := by rw [ey9, zi_add _ _ (by rw [zk_1]; omega) (by rw [zk_1]; omega), zk_1]
              refine lv_iinc (v := y9) (lv' := [(3, .int y9), (2, .int 0), (0, .ref (ad 60 0)), (1, .ref q)]) hx hb dX12_is_71 hl (k := 1) rfl (by rw [ey9]; rfl) (by decide) rfl (fun ls hl => ?_)
              refine lv_goto (tgt := 35) hx hb dX12_is_74 (by decide) ?_
              exact ih_lp y9 0 (by omega) (by omega) (by decide) (by omega) (fun h => absurd h (by decide)) (fun _ z => by have z9 := z.2.2 lp_3.toNatClampNeg (by rw [Int32.toNatClampNeg]; omega); rw [show (M.1 60 0 64).toInt + ((lp_3.toNatClampNeg : Nat) : Int) = y5.toInt by rw [Int32.toNatClampNeg]; omega, ← kr6, ← hch _ (by rw [Int32.toNatClampNeg]; omega), ← hr7] at z9; omega) ls (lv_sub hl [0, 2, 3, 1] rfl)
            · refine lv_iconst (v := 1) hx hb dX12_is_65 (by decide) ?_
              refine lv_goto (tgt := 70) hx hb dX12_is_66 (by decide) ?_
              refine lv_istore_n (lv' := [(2, .int 1), (3, .int lp_3), (0, .ref (ad 60 0)), (1, .ref q)]) hx hb dX12_is_70 rfl hl (by decide) rfl (fun ls hl => ?_)
              obtain ⟨y10, ey10⟩ : ∃ y : Int32, y = lp_3 + 1 := ⟨_, rfl⟩
              have ty10 : y10.toInt = lp_3.toInt + 1 := by rw [ey10, zi_add _ _ (by rw [zk_1]; omega) (by rw [zk_1]; omega), zk_1]
              refine lv_iinc (v := y10) (lv' := [(3, .int y10), (2, .int 1), (0, .ref (ad 60 0)), (1, .ref q)]) hx hb dX12_is_71 hl (k := 1) rfl (by rw [ey10]; rfl) (by decide) rfl (fun ls hl => ?_)
              refine lv_goto (tgt := 35) hx hb dX12_is_74 (by decide) ?_
              exact ih_lp y10 1 (by omega) (by omega) (by decide) (by omega) (fun _ => ⟨hi1.1, hi1.2.1, fun j h => by rcases Int.lt_or_le (j : Int) lp_3.toInt with g | g; exact hi1.2.2 j g; have g1 : j = lp_3.toNatClampNeg := (by rw [Int32.toNatClampNeg]; omega); rw [show (M.1 60 0 64).toInt + (j : Int) = y5.toInt by omega, ← kr6, g1, ← hch _ (by rw [Int32.toNatClampNeg]; omega), ← hr7]; omega⟩) (fun h => absurd h (by decide)) ls (lv_sub hl [0, 2, 3, 1] rfl)
    exact lp _ 0 jt_2 (Nat.lt_succ_self _) (by decide) (by omega) (by have z9 := zk_0; omega) (fun h => by have z := hj h; exact ⟨z.1, z.2, fun j hj => absurd hj (by have z9 := zk_0; omega)⟩) (fun h z => hj0 h ⟨z.1, z.2.1⟩) ls (lv_sub hl [0, 1, 2, 3] rfl)
  refine lv_aload_n hx hb dX12_is_0 rfl (lv_at hl 0 rfl) ?_
  refine fm_getI (a := 60) (j := 64) (T := TX12) (N := 79) hx hb hts hinX12 hown hc hw hI kl_60 sh_60 rfl (by decide) rfl bd_60_64 (hts (.fieldLink RX12 340 "RedTentModel" "from" "I") (List.mem_cons_of_mem _ tw_5_184)) (fun _ h9 => h9) dX12_is_1 (fun x11 ex11 bx11 => ?_)
  have wx11 : x11.toInt = (M.1 60 0 64).toInt := by rw [ex11]
  refine lv_aload_n hx hb dX12_is_4 rfl (lv_at hl 0 rfl) ?_
  refine fm_getI (a := 60) (j := 63) (T := TX12) (N := 79) hx hb hts hinX12 hown hc hw hI kl_60 sh_60 rfl (by decide) rfl bd_60_63 (hts (.fieldLink RX12 328 "RedTentModel" "ends" "I") (List.mem_cons_of_mem _ tw_5_183)) (fun _ h9 => h9) dX12_is_5 (fun x12 ex12 bx12 => ?_)
  have wx12 : x12.toInt = (M.1 60 0 63).toInt := by rw [ex12]
  refine fx_icmp_ge (tgt := 31) hx hb dX12_is_8 (by decide) rfl rfl (fun c13 => ?_) (fun c13 => ?_)
  · refine lv_iconst (v := 0) hx hb dX12_is_31 (by decide) ?_
    refine lv_istore_n (lv' := [(2, .int 0), (0, .ref (ad 60 0)), (1, .ref q)]) hx hb dX12_is_32 rfl hl (by decide) rfl (fun ls hl => ?_)
    exact jt 0 (by decide) (fun h => absurd h (by decide)) (fun _ z => by omega) ls (lv_sub hl [1, 2, 0] rfl)
  · refine lv_aload_n hx hb dX12_is_11 rfl (lv_at hl 0 rfl) ?_
    refine fm_getI (a := 60) (j := 65) (T := TX12) (N := 79) hx hb hts hinX12 hown hc hw hI kl_60 sh_60 rfl (by decide) rfl bd_60_65 (hts (.fieldLink RX12 337 "RedTentModel" "to" "I") (List.mem_cons_of_mem _ tw_5_185)) (fun _ h9 => h9) dX12_is_12 (fun x14 ex14 bx14 => ?_)
    have wx14 : x14.toInt = (M.1 60 0 65).toInt := by rw [ex14]
    refine lv_aload_n hx hb dX12_is_15 rfl (lv_at hl 0 rfl) ?_
    refine fm_getI (a := 60) (j := 64) (T := TX12) (N := 79) hx hb hts hinX12 hown hc hw hI kl_60 sh_60 rfl (by decide) rfl bd_60_64 (hts (.fieldLink RX12 340 "RedTentModel" "from" "I") (List.mem_cons_of_mem _ tw_5_184)) (fun _ h9 => h9) dX12_is_16 (fun x15 ex15 bx15 => ?_)
    have wx15 : x15.toInt = (M.1 60 0 64).toInt := by rw [ex15]
    obtain rfl : x11 = x15 := by rw [ex15]; exact ex11
    refine fx_isub hx hb dX12_is_19 rfl rfl (by omega) (fun y16 ey16 ty16 => ?_)
    refine lv_aload_n hx hb dX12_is_20 rfl (lv_at hl 1 rfl) ?_
    refine vp_callSi (va_Run.run (va_runV (As := []) (rest := [.int y16]) ⟨hx, hb, hml, hown, hts⟩ (rt_J0_length l D.1 D.2 q v N f) (cwV 0 hts gX12_is_J0_length_8abf5 rfl rfl rfl (by decide +kernel) ⟨Nat.le_of_ble_eq_true rfl, Nat.le_of_ble_eq_true rfl⟩) ⟨fun a U g mk q => by obtain ⟨q0, qP, qK, qe0⟩ := q; exact ⟨q0, qP, va_K.moved (u := U) (U := U.calling g mk a) (Vm.Alike.refl U.vm) qK, rt_Str.same qe0⟩, rt_recv hQq.1 hS, fun U hU hW => ⟨rfl, fun i z hz => by simp at hz, va_K.moved hW.alike hc.2.1.1, rt_Str.give hQq hS (fun _ h => h.elim) hU hW.alike⟩⟩ rfl rfl hl.1 rfl (lv_room (Nat.le_of_ble_eq_true rfl)) dX12_is_21 ⟨by decide +kernel, by decide +kernel⟩)) (fun r17 hr17 => ?_)
    have tr17 : r17.toInt = N := by rw [hr17]; exact zi_ofN (by omega)
    refine fx_icmp_ne (tgt := 31) hx hb dX12_is_24 (by decide) rfl rfl (fun c18 => ?_) (fun c18 => ?_)
    · refine lv_iconst (v := 0) hx hb dX12_is_31 (by decide) ?_
      refine lv_istore_n (lv' := [(2, .int 0), (0, .ref (ad 60 0)), (1, .ref q)]) hx hb dX12_is_32 rfl hl (by decide) rfl (fun ls hl => ?_)
      exact jt 0 (by decide) (fun h => absurd h (by decide)) (fun _ z => by omega) ls (lv_sub hl [1, 2, 0] rfl)
    · refine lv_iconst (v := 1) hx hb dX12_is_27 (by decide) ?_
      refine lv_goto (tgt := 32) hx hb dX12_is_28 (by decide) ?_
      refine lv_istore_n (lv' := [(2, .int 1), (0, .ref (ad 60 0)), (1, .ref q)]) hx hb dX12_is_32 rfl hl (by decide) rfl (fun ls hl => ?_)
      exact jt 1 (by decide) (fun _ => by omega) (fun h => absurd h (by decide)) ls (lv_sub hl [1, 2, 0] rfl)
set_option maxHeartbeats 400000 in
set_option maxRecDepth 20000 in
theorem fc_X12_next (l : Launch) (D : va_G) (ad : Nat → Nat → Nat) (C : Nat → Nat → ClassId) (nb : Nat) (M : fm_M) (hI : fm_I nb ad M) (hto : (M.1 60 0 65).toInt ≤ (M.1 60 0 63).toInt) : Met l yX12_next wsX12_next ({ frames := 2, cells := 0, slots := 0, locals := 43 }) (va_Pc [.ref (ad 60 0)] (fm_P D ad C nb M)) (va_Qv (fun (u : fm_M) => fm_I nb ad u ∧ fm_same [60064, 60065] M u ∧ ((M.1 60 0 65).toInt ≤ (u.1 60 0 64).toInt ∧ (u.1 60 0 64).toInt ≤ (u.1 60 0 65).toInt ∧ rt_NX M u)) (fun u t => fm_at D ad C nb u t.heap) (fm_A nb ad)) 0 0 (fm_A nb ad) := by
  refine Met.ofW (cc := cX12_next) (maxL := 1) (ret := none) (by decide) rfl ?_
  intro p e s m args below meth c s₁ B hml hv
  obtain ⟨rfl, hw, hc⟩ := hv
  have hx := B.exec
  have hb := B.bytes
  have hr := B.returns
  have hts := atoms_spec (ws := wsX12_next) B.pre
  have hown : s.vm.findClass RX12 = some m.cls := findClass_of_methodNamed B.named
  have hinX12 : ∀ w ∈ u_ws RX12 TX12 79, w ∈ wsX12_next := fun w h => List.mem_cons_of_mem _ (iT_X12 w h)
  have hS : va_S (fm_A nb ad) s.heap s.heap [] := va_S.rf
  have hE : fm_same [60064, 60065] M M := fm_same.rf
  have hl := lv_entry ([.ref (ad 60 0)]) (n := 1) (Nat.le_of_ble_eq_true rfl)
  rw [lg_entry_eq]
  generalize (lg_sl ([.ref (ad 60 0)]) ++ List.replicate (1 - (lg_sl ([.ref (ad 60 0)])).length) Slot.unset).toArray = ls at hl ⊢
  have hl : lv_has ls 1 [(0, .ref (ad 60 0))] := hl
  have l0 : ∀ (n_l0 : Nat)  (M_l0 : fm_M), ((M.1 60 0 63).toInt - (M_l0.1 60 0 65).toInt).toNat < n_l0 → ((M.1 60 0 65).toInt ≤ (M_l0.1 60 0 65).toInt ∧ (M_l0.1 60 0 65).toInt ≤ (M.1 60 0 63).toInt ∧ (M_l0.1 60 0 63).toInt = (M.1 60 0 63).toInt) → (∀ x : Int, (M.1 60 0 65).toInt ≤ x → x < (M_l0.1 60 0 65).toInt → rt_isB ((rt_mb M (M.1 60 0 62).toInt) x)) → fm_I nb ad M_l0 → fm_same [60064, 60065] M M_l0 → ∀ (H : Heap) (locs : List Loc), fm_at D ad C nb M_l0 H → va_S (fm_A nb ad) s.heap H locs → ∀ (ls : Array Slot), lv_has ls 1 [(0, .ref (ad 60 0))] → W p l e (headSpec wsX12_next ({ frames := 2, cells := 0, slots := 0, locals := 43 })).room s m ([.ref (ad 60 0)] : List Value).toArray below meth c H locs 0 0 (MQ below (va_Qv (fun (u : fm_M) => fm_I nb ad u ∧ fm_same [60064, 60065] M u ∧ ((M.1 60 0 65).toInt ≤ (u.1 60 0 64).toInt ∧ (u.1 60 0 64).toInt ≤ (u.1 60 0 65).toInt ∧ rt_NX M u)) (fun u t => fm_at D ad C nb u t.heap) (fm_A nb ad)) ([.ref (ad 60 0)] : List Value).toArray s 0 0 (fm_A nb ad)) (F0 m 0 ls []) := by
    intro n_l0
    induction n_l0 with
    | zero => intro  M_l0 hm_l0 h0 hB hI hE H locs hw hS ls hl; exact absurd hm_l0 (Nat.not_lt_zero _)
    | succ n_l0 ih_l0 =>
      intro  M_l0 hm_l0 h0 hB hI hE H locs hw hS ls hl
      refine lv_aload_n hx hb dX12_next_0 rfl (lv_at hl 0 rfl) ?_
      refine fm_getI (a := 60) (j := 65) (T := TX12) (N := 79) hx hb hts hinX12 hown hc hw hI kl_60 sh_60 rfl (by decide) rfl bd_60_65 (hts (.fieldLink RX12 337 "RedTentModel" "to" "I") (List.mem_cons_of_mem _ tw_5_185)) (fun _ h9 => h9) dX12_next_1 (fun x1 ex1 bx1 => ?_)
      have wx1 : x1.toInt = (M_l0.1 60 0 65).toInt := by rw [ex1]
      refine lv_aload_n hx hb dX12_next_4 rfl (lv_at hl 0 rfl) ?_
      refine fm_getI (a := 60) (j := 63) (T := TX12) (N := 79) hx hb hts hinX12 hown hc hw hI kl_60 sh_60 rfl (by decide) rfl bd_60_63 (hts (.fieldLink RX12 328 "RedTentModel" "ends" "I") (List.mem_cons_of_mem _ tw_5_183)) (fun _ h9 => h9) dX12_next_5 (fun x2 ex2 bx2 => ?_)
      have wx2 : x2.toInt = (M_l0.1 60 0 63).toInt := by rw [ex2]
      refine fx_icmp_ge (tgt := 50) hx hb dX12_next_8 (by decide) rfl rfl (fun c3 => ?_) (fun c3 => ?_)
      · have hSK0 : rt_SK (rt_mb M (M.1 60 0 62).toInt) (M.1 60 0 63).toInt (M.1 60 0 65).toInt (M_l0.1 60 0 65).toInt := ⟨by omega, by omega, hB, fun z => absurd z.1 (by omega)⟩
        refine lv_aload_n hx hb dX12_next_50 rfl (lv_at hl 0 rfl) ?_
        refine lv_aload_n hx hb dX12_next_51 rfl (lv_at hl 0 rfl) ?_
        refine fm_getI (a := 60) (j := 65) (T := TX12) (N := 79) hx hb hts hinX12 hown hc hw hI kl_60 sh_60 rfl (by decide) rfl bd_60_65 (hts (.fieldLink RX12 337 "RedTentModel" "to" "I") (List.mem_cons_of_mem _ tw_5_185)) (fun _ h9 => h9) dX12_next_52 (fun x4 ex4 bx4 => ?_)
        have wx4 : x4.toInt = (M_l0.1 60 0 65).toInt := by rw [ex4]
        obtain rfl : x1 = x4 := by rw [ex4]; exact ex1
        refine fm_putI (a := 60) (j := 64) (T := TX12) (N := 79) hx hb hts hinX12 tyX12 tyX12_ok nmX12 hown hc hw hI hE hS kl_60 sh_60 od_60 rfl (by decide) rfl bd_60_64 (hts (.fieldLink RX12 340 "RedTentModel" "from" "I") (List.mem_cons_of_mem _ tw_5_184)) (fun _ h9 => h9) rfl (by decide +kernel) (by omega) (by decide) (by decide) dX12_next_55 (fun M5 H locs eM5 hw hI hE hS => ?_)
        have mM5_60_63 : (M5.1 60 0 63).toInt = (M_l0.1 60 0 63).toInt := by rw [eM5, fm_wI_nj (fun z => absurd z.2.2 (by decide))]
        have mM5_60_64 : (M5.1 60 0 64).toInt = x1.toInt := by rw [eM5, fm_wI_at]
        have mM5_60_65 : (M5.1 60 0 65).toInt = (M_l0.1 60 0 65).toInt := by rw [eM5, fm_wI_nj (fun z => absurd z.2.2 (by decide))]
        refine lv_aload_n hx hb dX12_next_58 rfl (lv_at hl 0 rfl) ?_
        refine lv_aload_n hx hb dX12_next_59 rfl (lv_at hl 0 rfl) ?_
        refine fm_getI (a := 60) (j := 64) (T := TX12) (N := 79) hx hb hts hinX12 hown hc hw hI kl_60 sh_60 rfl (by decide) rfl bd_60_64 (hts (.fieldLink RX12 340 "RedTentModel" "from" "I") (List.mem_cons_of_mem _ tw_5_184)) (fun _ h9 => h9) dX12_next_60 (fun x6 ex6 bx6 => ?_)
        have wx6 : x6.toInt = (M5.1 60 0 64).toInt := by rw [ex6]
        obtain rfl : x1 = x6 := by rw [ex6, eM5, fm_wI_at]
        refine vp_callSi (va_Run.run (va_runV (As := [.int x1]) (rest := []) ⟨hx, hb, hml, hown, hts⟩ (fc_X12_isLetter l D ad C nb M5 hI x1 (by omega)) (cwV 1 hts gX12_next_X12_isLetter rfl rfl rfl (by decide +kernel) ⟨Nat.le_of_ble_eq_true rfl, Nat.le_of_ble_eq_true rfl⟩) (fm_preV hc hw hS kl_60 sh_60 rfl) rfl rfl hl.1 rfl (lv_room (Nat.le_of_ble_eq_true rfl)) dX12_next_63 ⟨by decide +kernel, by decide +kernel⟩)) (fun r7 hr7 => ?_)
        have bqq8 := hI.bd (k := 0) bd_60_62
        have bqq9 := hI.bd (k := 0) bd_60_63
        rcases hr7 with ⟨rfl, c10⟩ | ⟨rfl, c10⟩
        · have g11 := rt_mbs hE (by decide)
          rw [g11.1, g11.2] at c10
          refine fx_if_eq (tgt := 93) hx hb dX12_next_66 (by decide) zk_1 (fun c12 => by exfalso; omega) (fun c12 => ?_)
          have l1 : ∀ (n_l1 : Nat)  (M_l1 : fm_M), ((M.1 60 0 63).toInt - (M_l1.1 60 0 65).toInt).toNat < n_l1 → ((M.1 60 0 65).toInt ≤ (M_l1.1 60 0 64).toInt ∧ (M_l1.1 60 0 64).toInt ≤ (M_l1.1 60 0 65).toInt ∧ (M_l1.1 60 0 65).toInt ≤ (M.1 60 0 63).toInt ∧ (M_l1.1 60 0 64).toInt < (M.1 60 0 63).toInt ∧ (M_l1.1 60 0 63).toInt = (M.1 60 0 63).toInt) → (rt_SK (rt_mb M (M.1 60 0 62).toInt) (M.1 60 0 63).toInt (M.1 60 0 65).toInt (M_l1.1 60 0 64).toInt) → (rt_isL ((rt_mb M (M.1 60 0 62).toInt) (M_l1.1 60 0 64).toInt)) → (∀ x : Int, (M_l1.1 60 0 64).toInt ≤ x → x < (M_l1.1 60 0 65).toInt → rt_isL ((rt_mb M (M.1 60 0 62).toInt) x)) → fm_I nb ad M_l1 → fm_same [60064, 60065] M M_l1 → ∀ (H : Heap) (locs : List Loc), fm_at D ad C nb M_l1 H → va_S (fm_A nb ad) s.heap H locs → ∀ (ls : Array Slot), lv_has ls 1 [(0, .ref (ad 60 0))] → W p l e (headSpec wsX12_next ({ frames := 2, cells := 0, slots := 0, locals := 43 })).room s m ([.ref (ad 60 0)] : List Value).toArray below meth c H locs 0 0 (MQ below (va_Qv (fun (u : fm_M) => fm_I nb ad u ∧ fm_same [60064, 60065] M u ∧ ((M.1 60 0 65).toInt ≤ (u.1 60 0 64).toInt ∧ (u.1 60 0 64).toInt ≤ (u.1 60 0 65).toInt ∧ rt_NX M u)) (fun u t => fm_at D ad C nb u t.heap) (fm_A nb ad)) ([.ref (ad 60 0)] : List Value).toArray s 0 0 (fm_A nb ad)) (F0 m 69 ls []) := by
            intro n_l1
            induction n_l1 with
            | zero => intro  M_l1 hm_l1 hvl1 hSl1 hLl1 hql1 hI hE H locs hw hS ls hl; exact absurd hm_l1 (Nat.not_lt_zero _)
            | succ n_l1 ih_l1 =>
              intro  M_l1 hm_l1 hvl1 hSl1 hLl1 hql1 hI hE H locs hw hS ls hl
              refine lv_aload_n hx hb dX12_next_69 rfl (lv_at hl 0 rfl) ?_
              refine lv_aload_n hx hb dX12_next_70 rfl (lv_at hl 0 rfl) ?_
              refine fm_getI (a := 60) (j := 65) (T := TX12) (N := 79) hx hb hts hinX12 hown hc hw hI kl_60 sh_60 rfl (by decide) rfl bd_60_65 (hts (.fieldLink RX12 337 "RedTentModel" "to" "I") (List.mem_cons_of_mem _ tw_5_185)) (fun _ h9 => h9) dX12_next_71 (fun x13 ex13 bx13 => ?_)
              have wx13 : x13.toInt = (M_l1.1 60 0 65).toInt := by rw [ex13]
              refine vp_callSi (va_Run.run (va_runV (As := [.int x13]) (rest := []) ⟨hx, hb, hml, hown, hts⟩ (fc_X12_isLetter l D ad C nb M_l1 hI x13 (by omega)) (cwV 1 hts gX12_next_X12_isLetter rfl rfl rfl (by decide +kernel) ⟨Nat.le_of_ble_eq_true rfl, Nat.le_of_ble_eq_true rfl⟩) (fm_preV hc hw hS kl_60 sh_60 rfl) rfl rfl hl.1 rfl (lv_room (Nat.le_of_ble_eq_true rfl)) dX12_next_74 ⟨by decide +kernel, by decide +kernel⟩)) (fun r14 hr14 => ?_)
              have bqq15 := hI.bd (k := 0) bd_60_62
              have bqq16 := hI.bd (k := 0) bd_60_63
              rcases hr14 with ⟨rfl, c17⟩ | ⟨rfl, c17⟩
              · have g18 := rt_mbs hE (by decide)
                rw [g18.1, g18.2] at c17
                refine fx_if_eq (tgt := 153) hx hb dX12_next_77 (by decide) zk_1 (fun c19 => by exfalso; omega) (fun c19 => ?_)
                refine lv_aload_n hx hb dX12_next_80 rfl (lv_at hl 0 rfl) ?_
                refine lv_dup hx hb dX12_next_81 rfl ?_
                refine fm_getI (a := 60) (j := 65) (T := TX12) (N := 79) hx hb hts hinX12 hown hc hw hI kl_60 sh_60 rfl (by decide) rfl bd_60_65 (hts (.fieldLink RX12 337 "RedTentModel" "to" "I") (List.mem_cons_of_mem _ tw_5_185)) (fun _ h9 => h9) dX12_next_82 (fun x20 ex20 bx20 => ?_)
                have wx20 : x20.toInt = (M_l1.1 60 0 65).toInt := by rw [ex20]
                obtain rfl : x13 = x20 := by rw [ex20]; exact ex13
                refine lv_iconst (v := 1) hx hb dX12_next_85 (by decide) ?_
                refine fx_iadd hx hb dX12_next_86 rfl zk_1 (by omega) (fun y21 ey21 ty21 => ?_)
                refine fm_putI (a := 60) (j := 65) (T := TX12) (N := 79) hx hb hts hinX12 tyX12 tyX12_ok nmX12 hown hc hw hI hE hS kl_60 sh_60 od_60 rfl (by decide) rfl bd_60_65 (hts (.fieldLink RX12 337 "RedTentModel" "to" "I") (List.mem_cons_of_mem _ tw_5_185)) (fun _ h9 => h9) rfl (by decide +kernel) (by omega) (by decide) (by decide) dX12_next_87 (fun M22 H locs eM22 hw hI hE hS => ?_)
                have mM22_60_63 : (M22.1 60 0 63).toInt = (M_l1.1 60 0 63).toInt := by rw [eM22, fm_wI_nj (fun z => absurd z.2.2 (by decide))]
                have mM22_60_64 : (M22.1 60 0 64).toInt = (M_l1.1 60 0 64).toInt := by rw [eM22, fm_wI_nj (fun z => absurd z.2.2 (by decide))]
                have mM22_60_65 : (M22.1 60 0 65).toInt = y21.toInt := by rw [eM22, fm_wI_at]
                refine lv_goto (tgt := 69) hx hb dX12_next_90 (by decide) ?_
                exact ih_l1 M22 (by omega) (by have z9 := c17.1; omega) (by rw [show (M22.1 60 0 64).toInt = (M_l1.1 60 0 64).toInt by omega]; exact hSl1) (by rw [show (M22.1 60 0 64).toInt = (M_l1.1 60 0 64).toInt by omega]; exact hLl1) (fun y h1 h2 => by rcases Int.lt_or_le y (M_l1.1 60 0 65).toInt with g | g; exact hql1 y (by omega) g; rw [show y = x13.toInt by omega]; exact c17.2) hI hE _ _ hw hS ls (lv_sub hl [0] rfl)
              · have g23 := rt_mbs hE (by decide)
                rw [g23.1, g23.2] at c17
                refine fx_if_eq (tgt := 153) hx hb dX12_next_77 (by decide) zk_0 (fun c24 => ?_) (fun c24 => by exfalso; omega)
                have gx : x13.toInt = (M_l1.1 60 0 65).toInt := by omega
                rw [gx] at c17
                have gl : (M_l1.1 60 0 64).toInt < (M_l1.1 60 0 65).toInt := by rcases Int.lt_or_le (M_l1.1 60 0 64).toInt (M_l1.1 60 0 65).toInt with g | g; exact g; exact absurd ⟨by omega, by rw [show (M_l1.1 60 0 65).toInt = (M_l1.1 60 0 64).toInt by omega]; exact hLl1⟩ c17
                exact W.vret hx hb hr (fun t ht hW => ⟨⟨M_l1, rfl, ⟨hI, hE, ⟨by omega, by omega, hSl1, Or.inl ⟨by omega, gl, by omega, Or.inl ⟨hLl1, hql1, c17⟩⟩⟩⟩, by show fm_at D ad C nb _ t.heap; rw [ht]; exact hw⟩, hS.F ht⟩) hS.2.2 dX12_next_153
          exact l1 _ M5 (Nat.lt_succ_self _) (by have z9 := c10.1; omega) (by rw [show (M5.1 60 0 64).toInt = (M_l0.1 60 0 65).toInt by omega]; exact hSK0) (by rw [show (M5.1 60 0 64).toInt = x1.toInt by omega]; exact c10.2) (fun y h1 h2 => absurd h2 (by omega)) hI hE _ _ hw hS ls (lv_sub hl [0] rfl)
        · have g25 := rt_mbs hE (by decide)
          rw [g25.1, g25.2] at c10
          refine fx_if_eq (tgt := 93) hx hb dX12_next_66 (by decide) zk_0 (fun c26 => ?_) (fun c26 => by exfalso; omega)
          refine lv_aload_n hx hb dX12_next_93 rfl (lv_at hl 0 rfl) ?_
          refine lv_aload_n hx hb dX12_next_94 rfl (lv_at hl 0 rfl) ?_
          refine fm_getI (a := 60) (j := 64) (T := TX12) (N := 79) hx hb hts hinX12 hown hc hw hI kl_60 sh_60 rfl (by decide) rfl bd_60_64 (hts (.fieldLink RX12 340 "RedTentModel" "from" "I") (List.mem_cons_of_mem _ tw_5_184)) (fun _ h9 => h9) dX12_next_95 (fun x27 ex27 bx27 => ?_)
          have wx27 : x27.toInt = (M5.1 60 0 64).toInt := by rw [ex27]
          obtain rfl : x1 = x27 := by rw [ex27, eM5, fm_wI_at]
          refine vp_callSi (va_Run.run (va_runV (As := [.int x1]) (rest := []) ⟨hx, hb, hml, hown, hts⟩ (fc_X12_isDigit l D ad C nb M5 hI x1 (by omega)) (cwV 1 hts gX12_next_X12_isDigit rfl rfl rfl (by decide +kernel) ⟨Nat.le_of_ble_eq_true rfl, Nat.le_of_ble_eq_true rfl⟩) (fm_preV hc hw hS kl_60 sh_60 rfl) rfl rfl hl.1 rfl (lv_room (Nat.le_of_ble_eq_true rfl)) dX12_next_98 ⟨by decide +kernel, by decide +kernel⟩)) (fun r28 hr28 => ?_)
          have bqq29 := hI.bd (k := 0) bd_60_62
          have bqq30 := hI.bd (k := 0) bd_60_63
          rcases hr28 with ⟨rfl, c31⟩ | ⟨rfl, c31⟩
          · have g32 := rt_mbs hE (by decide)
            rw [g32.1, g32.2] at c31
            refine fx_if_eq (tgt := 128) hx hb dX12_next_101 (by decide) zk_1 (fun c33 => by exfalso; omega) (fun c33 => ?_)
            have l2 : ∀ (n_l2 : Nat)  (M_l2 : fm_M), ((M.1 60 0 63).toInt - (M_l2.1 60 0 65).toInt).toNat < n_l2 → ((M.1 60 0 65).toInt ≤ (M_l2.1 60 0 64).toInt ∧ (M_l2.1 60 0 64).toInt ≤ (M_l2.1 60 0 65).toInt ∧ (M_l2.1 60 0 65).toInt ≤ (M.1 60 0 63).toInt ∧ (M_l2.1 60 0 64).toInt < (M.1 60 0 63).toInt ∧ (M_l2.1 60 0 63).toInt = (M.1 60 0 63).toInt) → (rt_SK (rt_mb M (M.1 60 0 62).toInt) (M.1 60 0 63).toInt (M.1 60 0 65).toInt (M_l2.1 60 0 64).toInt) → (rt_isD ((rt_mb M (M.1 60 0 62).toInt) (M_l2.1 60 0 64).toInt)) → (∀ x : Int, (M_l2.1 60 0 64).toInt ≤ x → x < (M_l2.1 60 0 65).toInt → rt_isD ((rt_mb M (M.1 60 0 62).toInt) x)) → fm_I nb ad M_l2 → fm_same [60064, 60065] M M_l2 → ∀ (H : Heap) (locs : List Loc), fm_at D ad C nb M_l2 H → va_S (fm_A nb ad) s.heap H locs → ∀ (ls : Array Slot), lv_has ls 1 [(0, .ref (ad 60 0))] → W p l e (headSpec wsX12_next ({ frames := 2, cells := 0, slots := 0, locals := 43 })).room s m ([.ref (ad 60 0)] : List Value).toArray below meth c H locs 0 0 (MQ below (va_Qv (fun (u : fm_M) => fm_I nb ad u ∧ fm_same [60064, 60065] M u ∧ ((M.1 60 0 65).toInt ≤ (u.1 60 0 64).toInt ∧ (u.1 60 0 64).toInt ≤ (u.1 60 0 65).toInt ∧ rt_NX M u)) (fun u t => fm_at D ad C nb u t.heap) (fm_A nb ad)) ([.ref (ad 60 0)] : List Value).toArray s 0 0 (fm_A nb ad)) (F0 m 104 ls []) := by
              intro n_l2
              induction n_l2 with
              | zero => intro  M_l2 hm_l2 hvl2 hSl2 hLl2 hql2 hI hE H locs hw hS ls hl; exact absurd hm_l2 (Nat.not_lt_zero _)
              | succ n_l2 ih_l2 =>
                intro  M_l2 hm_l2 hvl2 hSl2 hLl2 hql2 hI hE H locs hw hS ls hl
                refine lv_aload_n hx hb dX12_next_104 rfl (lv_at hl 0 rfl) ?_
                refine lv_aload_n hx hb dX12_next_105 rfl (lv_at hl 0 rfl) ?_
                refine fm_getI (a := 60) (j := 65) (T := TX12) (N := 79) hx hb hts hinX12 hown hc hw hI kl_60 sh_60 rfl (by decide) rfl bd_60_65 (hts (.fieldLink RX12 337 "RedTentModel" "to" "I") (List.mem_cons_of_mem _ tw_5_185)) (fun _ h9 => h9) dX12_next_106 (fun x34 ex34 bx34 => ?_)
                have wx34 : x34.toInt = (M_l2.1 60 0 65).toInt := by rw [ex34]
                refine vp_callSi (va_Run.run (va_runV (As := [.int x34]) (rest := []) ⟨hx, hb, hml, hown, hts⟩ (fc_X12_isDigit l D ad C nb M_l2 hI x34 (by omega)) (cwV 1 hts gX12_next_X12_isDigit rfl rfl rfl (by decide +kernel) ⟨Nat.le_of_ble_eq_true rfl, Nat.le_of_ble_eq_true rfl⟩) (fm_preV hc hw hS kl_60 sh_60 rfl) rfl rfl hl.1 rfl (lv_room (Nat.le_of_ble_eq_true rfl)) dX12_next_109 ⟨by decide +kernel, by decide +kernel⟩)) (fun r35 hr35 => ?_)
                have bqq36 := hI.bd (k := 0) bd_60_62
                have bqq37 := hI.bd (k := 0) bd_60_63
                rcases hr35 with ⟨rfl, c38⟩ | ⟨rfl, c38⟩
                · have g39 := rt_mbs hE (by decide)
                  rw [g39.1, g39.2] at c38
                  refine fx_if_eq (tgt := 153) hx hb dX12_next_112 (by decide) zk_1 (fun c40 => by exfalso; omega) (fun c40 => ?_)
                  refine lv_aload_n hx hb dX12_next_115 rfl (lv_at hl 0 rfl) ?_
                  refine lv_dup hx hb dX12_next_116 rfl ?_
                  refine fm_getI (a := 60) (j := 65) (T := TX12) (N := 79) hx hb hts hinX12 hown hc hw hI kl_60 sh_60 rfl (by decide) rfl bd_60_65 (hts (.fieldLink RX12 337 "RedTentModel" "to" "I") (List.mem_cons_of_mem _ tw_5_185)) (fun _ h9 => h9) dX12_next_117 (fun x41 ex41 bx41 => ?_)
                  have wx41 : x41.toInt = (M_l2.1 60 0 65).toInt := by rw [ex41]
                  obtain rfl : x34 = x41 := by rw [ex41]; exact ex34
                  refine lv_iconst (v := 1) hx hb dX12_next_120 (by decide) ?_
                  refine fx_iadd hx hb dX12_next_121 rfl zk_1 (by omega) (fun y42 ey42 ty42 => ?_)
                  refine fm_putI (a := 60) (j := 65) (T := TX12) (N := 79) hx hb hts hinX12 tyX12 tyX12_ok nmX12 hown hc hw hI hE hS kl_60 sh_60 od_60 rfl (by decide) rfl bd_60_65 (hts (.fieldLink RX12 337 "RedTentModel" "to" "I") (List.mem_cons_of_mem _ tw_5_185)) (fun _ h9 => h9) rfl (by decide +kernel) (by omega) (by decide) (by decide) dX12_next_122 (fun M43 H locs eM43 hw hI hE hS => ?_)
                  have mM43_60_63 : (M43.1 60 0 63).toInt = (M_l2.1 60 0 63).toInt := by rw [eM43, fm_wI_nj (fun z => absurd z.2.2 (by decide))]
                  have mM43_60_64 : (M43.1 60 0 64).toInt = (M_l2.1 60 0 64).toInt := by rw [eM43, fm_wI_nj (fun z => absurd z.2.2 (by decide))]
                  have mM43_60_65 : (M43.1 60 0 65).toInt = y42.toInt := by rw [eM43, fm_wI_at]
                  refine lv_goto (tgt := 104) hx hb dX12_next_125 (by decide) ?_
                  exact ih_l2 M43 (by omega) (by have z9 := c38.1; omega) (by rw [show (M43.1 60 0 64).toInt = (M_l2.1 60 0 64).toInt by omega]; exact hSl2) (by rw [show (M43.1 60 0 64).toInt = (M_l2.1 60 0 64).toInt by omega]; exact hLl2) (fun y h1 h2 => by rcases Int.lt_or_le y (M_l2.1 60 0 65).toInt with g | g; exact hql2 y (by omega) g; rw [show y = x34.toInt by omega]; exact c38.2) hI hE _ _ hw hS ls (lv_sub hl [0] rfl)
                · have g44 := rt_mbs hE (by decide)
                  rw [g44.1, g44.2] at c38
                  refine fx_if_eq (tgt := 153) hx hb dX12_next_112 (by decide) zk_0 (fun c45 => ?_) (fun c45 => by exfalso; omega)
                  have gx : x34.toInt = (M_l2.1 60 0 65).toInt := by omega
                  rw [gx] at c38
                  have gl : (M_l2.1 60 0 64).toInt < (M_l2.1 60 0 65).toInt := by rcases Int.lt_or_le (M_l2.1 60 0 64).toInt (M_l2.1 60 0 65).toInt with g | g; exact g; exact absurd ⟨by omega, by rw [show (M_l2.1 60 0 65).toInt = (M_l2.1 60 0 64).toInt by omega]; exact hLl2⟩ c38
                  exact W.vret hx hb hr (fun t ht hW => ⟨⟨M_l2, rfl, ⟨hI, hE, ⟨by omega, by omega, hSl2, Or.inl ⟨by omega, gl, by omega, Or.inr (Or.inl ⟨hLl2, hql2, c38⟩)⟩⟩⟩, by show fm_at D ad C nb _ t.heap; rw [ht]; exact hw⟩, hS.F ht⟩) hS.2.2 dX12_next_153
            exact l2 _ M5 (Nat.lt_succ_self _) (by have z9 := c31.1; omega) (by rw [show (M5.1 60 0 64).toInt = (M_l0.1 60 0 65).toInt by omega]; exact hSK0) (by rw [show (M5.1 60 0 64).toInt = x1.toInt by omega]; exact c31.2) (fun y h1 h2 => absurd h2 (by omega)) hI hE _ _ hw hS ls (lv_sub hl [0] rfl)
          · have g46 := rt_mbs hE (by decide)
            rw [g46.1, g46.2] at c31
            refine fx_if_eq (tgt := 128) hx hb dX12_next_101 (by decide) zk_0 (fun c47 => ?_) (fun c47 => by exfalso; omega)
            refine lv_aload_n hx hb dX12_next_128 rfl (lv_at hl 0 rfl) ?_
            refine lv_dup hx hb dX12_next_129 rfl ?_
            refine fm_getI (a := 60) (j := 65) (T := TX12) (N := 79) hx hb hts hinX12 hown hc hw hI kl_60 sh_60 rfl (by decide) rfl bd_60_65 (hts (.fieldLink RX12 337 "RedTentModel" "to" "I") (List.mem_cons_of_mem _ tw_5_185)) (fun _ h9 => h9) dX12_next_130 (fun x48 ex48 bx48 => ?_)
            have wx48 : x48.toInt = (M5.1 60 0 65).toInt := by rw [ex48]
            obtain rfl : x1 = x48 := by rw [ex48, eM5, fm_wI_nj (fun z => absurd z.2.2 (by decide))]; exact ex1
            refine lv_aload_n hx hb dX12_next_133 rfl (lv_at hl 0 rfl) ?_
            refine fm_getI (a := 60) (j := 64) (T := TX12) (N := 79) hx hb hts hinX12 hown hc hw hI kl_60 sh_60 rfl (by decide) rfl bd_60_64 (hts (.fieldLink RX12 340 "RedTentModel" "from" "I") (List.mem_cons_of_mem _ tw_5_184)) (fun _ h9 => h9) dX12_next_134 (fun x49 ex49 bx49 => ?_)
            have wx49 : x49.toInt = (M5.1 60 0 64).toInt := by rw [ex49]
            obtain rfl : x1 = x49 := by rw [ex49, eM5, fm_wI_at]
            refine lv_aload_n hx hb dX12_next_137 rfl (lv_at hl 0 rfl) ?_
            refine fm_getI (a := 60) (j := 63) (T := TX12) (N := 79) hx hb hts hinX12 hown hc hw hI kl_60 sh_60 rfl (by decide) rfl bd_60_63 (hts (.fieldLink RX12 328 "RedTentModel" "ends" "I") (List.mem_cons_of_mem _ tw_5_183)) (fun _ h9 => h9) dX12_next_138 (fun x50 ex50 bx50 => ?_)
            have wx50 : x50.toInt = (M5.1 60 0 63).toInt := by rw [ex50]
            obtain rfl : x2 = x50 := by rw [ex50, eM5, fm_wI_nj (fun z => absurd z.2.2 (by decide))]; exact ex2
            refine fx_icmp_ge (tgt := 148) hx hb dX12_next_141 (by decide) rfl rfl (fun c51 => ?_) (fun c51 => ?_)
            · refine lv_iconst (v := 0) hx hb dX12_next_148 (by decide) ?_
              refine fx_iadd hx hb dX12_next_149 rfl zk_0 (by omega) (fun y52 ey52 ty52 => ?_)
              refine fm_putI (a := 60) (j := 65) (T := TX12) (N := 79) hx hb hts hinX12 tyX12 tyX12_ok nmX12 hown hc hw hI hE hS kl_60 sh_60 od_60 rfl (by decide) rfl bd_60_65 (hts (.fieldLink RX12 337 "RedTentModel" "to" "I") (List.mem_cons_of_mem _ tw_5_185)) (fun _ h9 => h9) rfl (by decide +kernel) (by omega) (by decide) (by decide) dX12_next_150 (fun M53 H locs eM53 hw hI hE hS => ?_)
              have mM53_60_63 : (M53.1 60 0 63).toInt = (M5.1 60 0 63).toInt := by rw [eM53, fm_wI_nj (fun z => absurd z.2.2 (by decide))]
              have mM53_60_64 : (M53.1 60 0 64).toInt = (M5.1 60 0 64).toInt := by rw [eM53, fm_wI_nj (fun z => absurd z.2.2 (by decide))]
              have mM53_60_65 : (M53.1 60 0 65).toInt = y52.toInt := by rw [eM53, fm_wI_at]
              have gf : (M53.1 60 0 64).toInt = (M_l0.1 60 0 65).toInt := by omega
              have gx : x1.toInt = (M_l0.1 60 0 65).toInt := by omega
              have gy : x1.toInt = (M_l0.1 60 0 65).toInt := by omega
              rw [gx] at c10
              rw [gy] at c31
              have gz : rt_NX M M53 := by rw [rt_NX, gf]; refine ⟨hSK0, ?_⟩; rcases Int.lt_or_le (M_l0.1 60 0 65).toInt (M.1 60 0 63).toInt with g | g; exact Or.inl ⟨g, by omega, by omega, Or.inr (Or.inr ⟨fun z => c10 ⟨g, z⟩, fun z => c31 ⟨g, z⟩, by omega⟩)⟩; exact Or.inr ⟨by omega, by omega⟩
              exact W.vret hx hb hr (fun t ht hW => ⟨⟨M53, rfl, ⟨hI, hE, ⟨by omega, by omega, gz.1, gz.2⟩⟩, by show fm_at D ad C nb _ t.heap; rw [ht]; exact hw⟩, hS.F ht⟩) hS.2.2 dX12_next_153
            · refine lv_iconst (v := 1) hx hb dX12_next_144 (by decide) ?_
              refine lv_goto (tgt := 149) hx hb dX12_next_145 (by decide) ?_
              refine fx_iadd hx hb dX12_next_149 rfl zk_1 (by omega) (fun y54 ey54 ty54 => ?_)
              refine fm_putI (a := 60) (j := 65) (T := TX12) (N := 79) hx hb hts hinX12 tyX12 tyX12_ok nmX12 hown hc hw hI hE hS kl_60 sh_60 od_60 rfl (by decide) rfl bd_60_65 (hts (.fieldLink RX12 337 "RedTentModel" "to" "I") (List.mem_cons_of_mem _ tw_5_185)) (fun _ h9 => h9) rfl (by decide +kernel) (by omega) (by decide) (by decide) dX12_next_150 (fun M55 H locs eM55 hw hI hE hS => ?_)
              have mM55_60_63 : (M55.1 60 0 63).toInt = (M5.1 60 0 63).toInt := by rw [eM55, fm_wI_nj (fun z => absurd z.2.2 (by decide))]
              have mM55_60_64 : (M55.1 60 0 64).toInt = (M5.1 60 0 64).toInt := by rw [eM55, fm_wI_nj (fun z => absurd z.2.2 (by decide))]
              have mM55_60_65 : (M55.1 60 0 65).toInt = y54.toInt := by rw [eM55, fm_wI_at]
              have gf : (M55.1 60 0 64).toInt = (M_l0.1 60 0 65).toInt := by omega
              have gx : x1.toInt = (M_l0.1 60 0 65).toInt := by omega
              have gy : x1.toInt = (M_l0.1 60 0 65).toInt := by omega
              rw [gx] at c10
              rw [gy] at c31
              have gz : rt_NX M M55 := by rw [rt_NX, gf]; refine ⟨hSK0, ?_⟩; rcases Int.lt_or_le (M_l0.1 60 0 65).toInt (M.1 60 0 63).toInt with g | g; exact Or.inl ⟨g, by omega, by omega, Or.inr (Or.inr ⟨fun z => c10 ⟨g, z⟩, fun z => c31 ⟨g, z⟩, by omega⟩)⟩; exact Or.inr ⟨by omega, by omega⟩
              exact W.vret hx hb hr (fun t ht hW => ⟨⟨M55, rfl, ⟨hI, hE, ⟨by omega, by omega, gz.1, gz.2⟩⟩, by show fm_at D ad C nb _ t.heap; rw [ht]; exact hw⟩, hS.F ht⟩) hS.2.2 dX12_next_153
      · refine lv_aload_n hx hb dX12_next_11 rfl (lv_at hl 0 rfl) ?_
        refine lv_aload_n hx hb dX12_next_12 rfl (lv_at hl 0 rfl) ?_
        refine fm_getI (a := 60) (j := 65) (T := TX12) (N := 79) hx hb hts hinX12 hown hc hw hI kl_60 sh_60 rfl (by decide) rfl bd_60_65 (hts (.fieldLink RX12 337 "RedTentModel" "to" "I") (List.mem_cons_of_mem _ tw_5_185)) (fun _ h9 => h9) dX12_next_13 (fun x56 ex56 bx56 => ?_)
        have wx56 : x56.toInt = (M_l0.1 60 0 65).toInt := by rw [ex56]
        obtain rfl : x1 = x56 := by rw [ex56]; exact ex1
        refine vp_callSi (va_Run.run (va_runV (As := [.int x1]) (rest := []) ⟨hx, hb, hml, hown, hts⟩ (fc_X12_byteAt l D ad C nb M_l0 hI x1 (by omega)) (cwV 1 hts gX12_next_X12_byteAt rfl rfl rfl (by decide +kernel) ⟨Nat.le_of_ble_eq_true rfl, Nat.le_of_ble_eq_true rfl⟩) (fm_preV hc hw hS kl_60 sh_60 rfl) rfl rfl hl.1 rfl (lv_room (Nat.le_of_ble_eq_true rfl)) dX12_next_16 ⟨by decide +kernel, by decide +kernel⟩)) (fun r57 hr57 => ?_)
        have g58 := rt_mbs hE (by decide)
        rw [g58.1, g58.2] at hr57
        have zr57 := congrArg Int32.toInt g58.2
        have kr57 := hr57 (by omega)
        refine lv_bipush (v := 32) hx hb dX12_next_19 (by decide) ?_
        refine fx_icmp_eq (tgt := 37) hx hb dX12_next_21 (by decide) rfl zk_32 (fun c59 => ?_) (fun c59 => ?_)
        · refine lv_aload_n hx hb dX12_next_37 rfl (lv_at hl 0 rfl) ?_
          refine lv_dup hx hb dX12_next_38 rfl ?_
          refine fm_getI (a := 60) (j := 65) (T := TX12) (N := 79) hx hb hts hinX12 hown hc hw hI kl_60 sh_60 rfl (by decide) rfl bd_60_65 (hts (.fieldLink RX12 337 "RedTentModel" "to" "I") (List.mem_cons_of_mem _ tw_5_185)) (fun _ h9 => h9) dX12_next_39 (fun x60 ex60 bx60 => ?_)
          have wx60 : x60.toInt = (M_l0.1 60 0 65).toInt := by rw [ex60]
          obtain rfl : x1 = x60 := by rw [ex60]; exact ex1
          refine lv_iconst (v := 1) hx hb dX12_next_42 (by decide) ?_
          refine fx_iadd hx hb dX12_next_43 rfl zk_1 (by omega) (fun y61 ey61 ty61 => ?_)
          refine fm_putI (a := 60) (j := 65) (T := TX12) (N := 79) hx hb hts hinX12 tyX12 tyX12_ok nmX12 hown hc hw hI hE hS kl_60 sh_60 od_60 rfl (by decide) rfl bd_60_65 (hts (.fieldLink RX12 337 "RedTentModel" "to" "I") (List.mem_cons_of_mem _ tw_5_185)) (fun _ h9 => h9) rfl (by decide +kernel) (by omega) (by decide) (by decide) dX12_next_44 (fun M62 H locs eM62 hw hI hE hS => ?_)
          have mM62_60_63 : (M62.1 60 0 63).toInt = (M_l0.1 60 0 63).toInt := by rw [eM62, fm_wI_nj (fun z => absurd z.2.2 (by decide))]
          have mM62_60_64 : (M62.1 60 0 64).toInt = (M_l0.1 60 0 64).toInt := by rw [eM62, fm_wI_nj (fun z => absurd z.2.2 (by decide))]
          have mM62_60_65 : (M62.1 60 0 65).toInt = y61.toInt := by rw [eM62, fm_wI_at]
          refine lv_goto (tgt := 0) hx hb dX12_next_47 (by decide) ?_
          exact ih_l0 M62 (by omega) (by omega) (fun x h1 h2 => by rcases Int.lt_or_le x (M_l0.1 60 0 65).toInt with g | g; exact hB x h1 g; rw [show x = x1.toInt by omega, ← kr57]; omega) hI hE _ _ hw hS ls (lv_sub hl [0] rfl)
        · refine lv_aload_n hx hb dX12_next_24 rfl (lv_at hl 0 rfl) ?_
          refine lv_aload_n hx hb dX12_next_25 rfl (lv_at hl 0 rfl) ?_
          refine fm_getI (a := 60) (j := 65) (T := TX12) (N := 79) hx hb hts hinX12 hown hc hw hI kl_60 sh_60 rfl (by decide) rfl bd_60_65 (hts (.fieldLink RX12 337 "RedTentModel" "to" "I") (List.mem_cons_of_mem _ tw_5_185)) (fun _ h9 => h9) dX12_next_26 (fun x63 ex63 bx63 => ?_)
          have wx63 : x63.toInt = (M_l0.1 60 0 65).toInt := by rw [ex63]
          obtain rfl : x1 = x63 := by rw [ex63]; exact ex1
          refine vp_callSi (va_Run.run (va_runV (As := [.int x1]) (rest := []) ⟨hx, hb, hml, hown, hts⟩ (fc_X12_byteAt l D ad C nb M_l0 hI x1 (by omega)) (cwV 1 hts gX12_next_X12_byteAt rfl rfl rfl (by decide +kernel) ⟨Nat.le_of_ble_eq_true rfl, Nat.le_of_ble_eq_true rfl⟩) (fm_preV hc hw hS kl_60 sh_60 rfl) rfl rfl hl.1 rfl (lv_room (Nat.le_of_ble_eq_true rfl)) dX12_next_29 ⟨by decide +kernel, by decide +kernel⟩)) (fun r64 hr64 => ?_)
          have g65 := rt_mbs hE (by decide)
          rw [g65.1, g65.2] at hr64
          have zr64 := congrArg Int32.toInt g65.2
          have kr64 := hr64 (by omega)
          refine lv_bipush (v := 10) hx hb dX12_next_32 (by decide) ?_
          refine fx_icmp_ne (tgt := 50) hx hb dX12_next_34 (by decide) rfl zk_10 (fun c66 => ?_) (fun c66 => ?_)
          · have hSK0 : rt_SK (rt_mb M (M.1 60 0 62).toInt) (M.1 60 0 63).toInt (M.1 60 0 65).toInt (M_l0.1 60 0 65).toInt := ⟨by omega, by omega, hB, fun z => by have z9 := z.2; rw [show (M_l0.1 60 0 65).toInt = x1.toInt by omega, ← kr64] at z9; omega⟩
            refine lv_aload_n hx hb dX12_next_50 rfl (lv_at hl 0 rfl) ?_
            refine lv_aload_n hx hb dX12_next_51 rfl (lv_at hl 0 rfl) ?_
            refine fm_getI (a := 60) (j := 65) (T := TX12) (N := 79) hx hb hts hinX12 hown hc hw hI kl_60 sh_60 rfl (by decide) rfl bd_60_65 (hts (.fieldLink RX12 337 "RedTentModel" "to" "I") (List.mem_cons_of_mem _ tw_5_185)) (fun _ h9 => h9) dX12_next_52 (fun x67 ex67 bx67 => ?_)
            have wx67 : x67.toInt = (M_l0.1 60 0 65).toInt := by rw [ex67]
            obtain rfl : x1 = x67 := by rw [ex67]; exact ex1
            refine fm_putI (a := 60) (j := 64) (T := TX12) (N := 79) hx hb hts hinX12 tyX12 tyX12_ok nmX12 hown hc hw hI hE hS kl_60 sh_60 od_60 rfl (by decide) rfl bd_60_64 (hts (.fieldLink RX12 340 "RedTentModel" "from" "I") (List.mem_cons_of_mem _ tw_5_184)) (fun _ h9 => h9) rfl (by decide +kernel) (by omega) (by decide) (by decide) dX12_next_55 (fun M68 H locs eM68 hw hI hE hS => ?_)
            have mM68_60_63 : (M68.1 60 0 63).toInt = (M_l0.1 60 0 63).toInt := by rw [eM68, fm_wI_nj (fun z => absurd z.2.2 (by decide))]
            have mM68_60_64 : (M68.1 60 0 64).toInt = x1.toInt := by rw [eM68, fm_wI_at]
            have mM68_60_65 : (M68.1 60 0 65).toInt = (M_l0.1 60 0 65).toInt := by rw [eM68, fm_wI_nj (fun z => absurd z.2.2 (by decide))]
            refine lv_aload_n hx hb dX12_next_58 rfl (lv_at hl 0 rfl) ?_
            refine lv_aload_n hx hb dX12_next_59 rfl (lv_at hl 0 rfl) ?_
            refine fm_getI (a := 60) (j := 64) (T := TX12) (N := 79) hx hb hts hinX12 hown hc hw hI kl_60 sh_60 rfl (by decide) rfl bd_60_64 (hts (.fieldLink RX12 340 "RedTentModel" "from" "I") (List.mem_cons_of_mem _ tw_5_184)) (fun _ h9 => h9) dX12_next_60 (fun x69 ex69 bx69 => ?_)
            have wx69 : x69.toInt = (M68.1 60 0 64).toInt := by rw [ex69]
            obtain rfl : x1 = x69 := by rw [ex69, eM68, fm_wI_at]
            refine vp_callSi (va_Run.run (va_runV (As := [.int x1]) (rest := []) ⟨hx, hb, hml, hown, hts⟩ (fc_X12_isLetter l D ad C nb M68 hI x1 (by omega)) (cwV 1 hts gX12_next_X12_isLetter rfl rfl rfl (by decide +kernel) ⟨Nat.le_of_ble_eq_true rfl, Nat.le_of_ble_eq_true rfl⟩) (fm_preV hc hw hS kl_60 sh_60 rfl) rfl rfl hl.1 rfl (lv_room (Nat.le_of_ble_eq_true rfl)) dX12_next_63 ⟨by decide +kernel, by decide +kernel⟩)) (fun r70 hr70 => ?_)
            have bqq71 := hI.bd (k := 0) bd_60_62
            have bqq72 := hI.bd (k := 0) bd_60_63
            rcases hr70 with ⟨rfl, c73⟩ | ⟨rfl, c73⟩
            · have g74 := rt_mbs hE (by decide)
              rw [g74.1, g74.2] at c73
              refine fx_if_eq (tgt := 93) hx hb dX12_next_66 (by decide) zk_1 (fun c75 => by exfalso; omega) (fun c75 => ?_)
              have l1 : ∀ (n_l1 : Nat)  (M_l1 : fm_M), ((M.1 60 0 63).toInt - (M_l1.1 60 0 65).toInt).toNat < n_l1 → ((M.1 60 0 65).toInt ≤ (M_l1.1 60 0 64).toInt ∧ (M_l1.1 60 0 64).toInt ≤ (M_l1.1 60 0 65).toInt ∧ (M_l1.1 60 0 65).toInt ≤ (M.1 60 0 63).toInt ∧ (M_l1.1 60 0 64).toInt < (M.1 60 0 63).toInt ∧ (M_l1.1 60 0 63).toInt = (M.1 60 0 63).toInt) → (rt_SK (rt_mb M (M.1 60 0 62).toInt) (M.1 60 0 63).toInt (M.1 60 0 65).toInt (M_l1.1 60 0 64).toInt) → (rt_isL ((rt_mb M (M.1 60 0 62).toInt) (M_l1.1 60 0 64).toInt)) → (∀ x : Int, (M_l1.1 60 0 64).toInt ≤ x → x < (M_l1.1 60 0 65).toInt → rt_isL ((rt_mb M (M.1 60 0 62).toInt) x)) → fm_I nb ad M_l1 → fm_same [60064, 60065] M M_l1 → ∀ (H : Heap) (locs : List Loc), fm_at D ad C nb M_l1 H → va_S (fm_A nb ad) s.heap H locs → ∀ (ls : Array Slot), lv_has ls 1 [(0, .ref (ad 60 0))] → W p l e (headSpec wsX12_next ({ frames := 2, cells := 0, slots := 0, locals := 43 })).room s m ([.ref (ad 60 0)] : List Value).toArray below meth c H locs 0 0 (MQ below (va_Qv (fun (u : fm_M) => fm_I nb ad u ∧ fm_same [60064, 60065] M u ∧ ((M.1 60 0 65).toInt ≤ (u.1 60 0 64).toInt ∧ (u.1 60 0 64).toInt ≤ (u.1 60 0 65).toInt ∧ rt_NX M u)) (fun u t => fm_at D ad C nb u t.heap) (fm_A nb ad)) ([.ref (ad 60 0)] : List Value).toArray s 0 0 (fm_A nb ad)) (F0 m 69 ls []) := by
                intro n_l1
                induction n_l1 with
                | zero => intro  M_l1 hm_l1 hvl1 hSl1 hLl1 hql1 hI hE H locs hw hS ls hl; exact absurd hm_l1 (Nat.not_lt_zero _)
                | succ n_l1 ih_l1 =>
                  intro  M_l1 hm_l1 hvl1 hSl1 hLl1 hql1 hI hE H locs hw hS ls hl
                  refine lv_aload_n hx hb dX12_next_69 rfl (lv_at hl 0 rfl) ?_
                  refine lv_aload_n hx hb dX12_next_70 rfl (lv_at hl 0 rfl) ?_
                  refine fm_getI (a := 60) (j := 65) (T := TX12) (N := 79) hx hb hts hinX12 hown hc hw hI kl_60 sh_60 rfl (by decide) rfl bd_60_65 (hts (.fieldLink RX12 337 "RedTentModel" "to" "I") (List.mem_cons_of_mem _ tw_5_185)) (fun _ h9 => h9) dX12_next_71 (fun x76 ex76 bx76 => ?_)
                  have wx76 : x76.toInt = (M_l1.1 60 0 65).toInt := by rw [ex76]
                  refine vp_callSi (va_Run.run (va_runV (As := [.int x76]) (rest := []) ⟨hx, hb, hml, hown, hts⟩ (fc_X12_isLetter l D ad C nb M_l1 hI x76 (by omega)) (cwV 1 hts gX12_next_X12_isLetter rfl rfl rfl (by decide +kernel) ⟨Nat.le_of_ble_eq_true rfl, Nat.le_of_ble_eq_true rfl⟩) (fm_preV hc hw hS kl_60 sh_60 rfl) rfl rfl hl.1 rfl (lv_room (Nat.le_of_ble_eq_true rfl)) dX12_next_74 ⟨by decide +kernel, by decide +kernel⟩)) (fun r77 hr77 => ?_)
                  have bqq78 := hI.bd (k := 0) bd_60_62
                  have bqq79 := hI.bd (k := 0) bd_60_63
                  rcases hr77 with ⟨rfl, c80⟩ | ⟨rfl, c80⟩
                  · have g81 := rt_mbs hE (by decide)
                    rw [g81.1, g81.2] at c80
                    refine fx_if_eq (tgt := 153) hx hb dX12_next_77 (by decide) zk_1 (fun c82 => by exfalso; omega) (fun c82 => ?_)
                    refine lv_aload_n hx hb dX12_next_80 rfl (lv_at hl 0 rfl) ?_
                    refine lv_dup hx hb dX12_next_81 rfl ?_
                    refine fm_getI (a := 60) (j := 65) (T := TX12) (N := 79) hx hb hts hinX12 hown hc hw hI kl_60 sh_60 rfl (by decide) rfl bd_60_65 (hts (.fieldLink RX12 337 "RedTentModel" "to" "I") (List.mem_cons_of_mem _ tw_5_185)) (fun _ h9 => h9) dX12_next_82 (fun x83 ex83 bx83 => ?_)
                    have wx83 : x83.toInt = (M_l1.1 60 0 65).toInt := by rw [ex83]
                    obtain rfl : x76 = x83 := by rw [ex83]; exact ex76
                    refine lv_iconst (v := 1) hx hb dX12_next_85 (by decide) ?_
                    refine fx_iadd hx hb dX12_next_86 rfl zk_1 (by omega) (fun y84 ey84 ty84 => ?_)
                    refine fm_putI (a := 60) (j := 65) (T := TX12) (N := 79) hx hb hts hinX12 tyX12 tyX12_ok nmX12 hown hc hw hI hE hS kl_60 sh_60 od_60 rfl (by decide) rfl bd_60_65 (hts (.fieldLink RX12 337 "RedTentModel" "to" "I") (List.mem_cons_of_mem _ tw_5_185)) (fun _ h9 => h9) rfl (by decide +kernel) (by omega) (by decide) (by decide) dX12_next_87 (fun M85 H locs eM85 hw hI hE hS => ?_)
                    have mM85_60_63 : (M85.1 60 0 63).toInt = (M_l1.1 60 0 63).toInt := by rw [eM85, fm_wI_nj (fun z => absurd z.2.2 (by decide))]
                    have mM85_60_64 : (M85.1 60 0 64).toInt = (M_l1.1 60 0 64).toInt := by rw [eM85, fm_wI_nj (fun z => absurd z.2.2 (by decide))]
                    have mM85_60_65 : (M85.1 60 0 65).toInt = y84.toInt := by rw [eM85, fm_wI_at]
                    refine lv_goto (tgt := 69) hx hb dX12_next_90 (by decide) ?_
                    exact ih_l1 M85 (by omega) (by have z9 := c80.1; omega) (by rw [show (M85.1 60 0 64).toInt = (M_l1.1 60 0 64).toInt by omega]; exact hSl1) (by rw [show (M85.1 60 0 64).toInt = (M_l1.1 60 0 64).toInt by omega]; exact hLl1) (fun y h1 h2 => by rcases Int.lt_or_le y (M_l1.1 60 0 65).toInt with g | g; exact hql1 y (by omega) g; rw [show y = x76.toInt by omega]; exact c80.2) hI hE _ _ hw hS ls (lv_sub hl [0] rfl)
                  · have g86 := rt_mbs hE (by decide)
                    rw [g86.1, g86.2] at c80
                    refine fx_if_eq (tgt := 153) hx hb dX12_next_77 (by decide) zk_0 (fun c87 => ?_) (fun c87 => by exfalso; omega)
                    have gx : x76.toInt = (M_l1.1 60 0 65).toInt := by omega
                    rw [gx] at c80
                    have gl : (M_l1.1 60 0 64).toInt < (M_l1.1 60 0 65).toInt := by rcases Int.lt_or_le (M_l1.1 60 0 64).toInt (M_l1.1 60 0 65).toInt with g | g; exact g; exact absurd ⟨by omega, by rw [show (M_l1.1 60 0 65).toInt = (M_l1.1 60 0 64).toInt by omega]; exact hLl1⟩ c80
                    exact W.vret hx hb hr (fun t ht hW => ⟨⟨M_l1, rfl, ⟨hI, hE, ⟨by omega, by omega, hSl1, Or.inl ⟨by omega, gl, by omega, Or.inl ⟨hLl1, hql1, c80⟩⟩⟩⟩, by show fm_at D ad C nb _ t.heap; rw [ht]; exact hw⟩, hS.F ht⟩) hS.2.2 dX12_next_153
              exact l1 _ M68 (Nat.lt_succ_self _) (by have z9 := c73.1; omega) (by rw [show (M68.1 60 0 64).toInt = (M_l0.1 60 0 65).toInt by omega]; exact hSK0) (by rw [show (M68.1 60 0 64).toInt = x1.toInt by omega]; exact c73.2) (fun y h1 h2 => absurd h2 (by omega)) hI hE _ _ hw hS ls (lv_sub hl [0] rfl)
            · have g88 := rt_mbs hE (by decide)
              rw [g88.1, g88.2] at c73
              refine fx_if_eq (tgt := 93) hx hb dX12_next_66 (by decide) zk_0 (fun c89 => ?_) (fun c89 => by exfalso; omega)
              refine lv_aload_n hx hb dX12_next_93 rfl (lv_at hl 0 rfl) ?_
              refine lv_aload_n hx hb dX12_next_94 rfl (lv_at hl 0 rfl) ?_
              refine fm_getI (a := 60) (j := 64) (T := TX12) (N := 79) hx hb hts hinX12 hown hc hw hI kl_60 sh_60 rfl (by decide) rfl bd_60_64 (hts (.fieldLink RX12 340 "RedTentModel" "from" "I") (List.mem_cons_of_mem _ tw_5_184)) (fun _ h9 => h9) dX12_next_95 (fun x90 ex90 bx90 => ?_)
              have wx90 : x90.toInt = (M68.1 60 0 64).toInt := by rw [ex90]
              obtain rfl : x1 = x90 := by rw [ex90, eM68, fm_wI_at]
              refine vp_callSi (va_Run.run (va_runV (As := [.int x1]) (rest := []) ⟨hx, hb, hml, hown, hts⟩ (fc_X12_isDigit l D ad C nb M68 hI x1 (by omega)) (cwV 1 hts gX12_next_X12_isDigit rfl rfl rfl (by decide +kernel) ⟨Nat.le_of_ble_eq_true rfl, Nat.le_of_ble_eq_true rfl⟩) (fm_preV hc hw hS kl_60 sh_60 rfl) rfl rfl hl.1 rfl (lv_room (Nat.le_of_ble_eq_true rfl)) dX12_next_98 ⟨by decide +kernel, by decide +kernel⟩)) (fun r91 hr91 => ?_)
              have bqq92 := hI.bd (k := 0) bd_60_62
              have bqq93 := hI.bd (k := 0) bd_60_63
              rcases hr91 with ⟨rfl, c94⟩ | ⟨rfl, c94⟩
              · have g95 := rt_mbs hE (by decide)
                rw [g95.1, g95.2] at c94
                refine fx_if_eq (tgt := 128) hx hb dX12_next_101 (by decide) zk_1 (fun c96 => by exfalso; omega) (fun c96 => ?_)
                have l2 : ∀ (n_l2 : Nat)  (M_l2 : fm_M), ((M.1 60 0 63).toInt - (M_l2.1 60 0 65).toInt).toNat < n_l2 → ((M.1 60 0 65).toInt ≤ (M_l2.1 60 0 64).toInt ∧ (M_l2.1 60 0 64).toInt ≤ (M_l2.1 60 0 65).toInt ∧ (M_l2.1 60 0 65).toInt ≤ (M.1 60 0 63).toInt ∧ (M_l2.1 60 0 64).toInt < (M.1 60 0 63).toInt ∧ (M_l2.1 60 0 63).toInt = (M.1 60 0 63).toInt) → (rt_SK (rt_mb M (M.1 60 0 62).toInt) (M.1 60 0 63).toInt (M.1 60 0 65).toInt (M_l2.1 60 0 64).toInt) → (rt_isD ((rt_mb M (M.1 60 0 62).toInt) (M_l2.1 60 0 64).toInt)) → (∀ x : Int, (M_l2.1 60 0 64).toInt ≤ x → x < (M_l2.1 60 0 65).toInt → rt_isD ((rt_mb M (M.1 60 0 62).toInt) x)) → fm_I nb ad M_l2 → fm_same [60064, 60065] M M_l2 → ∀ (H : Heap) (locs : List Loc), fm_at D ad C nb M_l2 H → va_S (fm_A nb ad) s.heap H locs → ∀ (ls : Array Slot), lv_has ls 1 [(0, .ref (ad 60 0))] → W p l e (headSpec wsX12_next ({ frames := 2, cells := 0, slots := 0, locals := 43 })).room s m ([.ref (ad 60 0)] : List Value).toArray below meth c H locs 0 0 (MQ below (va_Qv (fun (u : fm_M) => fm_I nb ad u ∧ fm_same [60064, 60065] M u ∧ ((M.1 60 0 65).toInt ≤ (u.1 60 0 64).toInt ∧ (u.1 60 0 64).toInt ≤ (u.1 60 0 65).toInt ∧ rt_NX M u)) (fun u t => fm_at D ad C nb u t.heap) (fm_A nb ad)) ([.ref (ad 60 0)] : List Value).toArray s 0 0 (fm_A nb ad)) (F0 m 104 ls []) := by
                  intro n_l2
                  induction n_l2 with
                  | zero => intro  M_l2 hm_l2 hvl2 hSl2 hLl2 hql2 hI hE H locs hw hS ls hl; exact absurd hm_l2 (Nat.not_lt_zero _)
                  | succ n_l2 ih_l2 =>
                    intro  M_l2 hm_l2 hvl2 hSl2 hLl2 hql2 hI hE H locs hw hS ls hl
                    refine lv_aload_n hx hb dX12_next_104 rfl (lv_at hl 0 rfl) ?_
                    refine lv_aload_n hx hb dX12_next_105 rfl (lv_at hl 0 rfl) ?_
                    refine fm_getI (a := 60) (j := 65) (T := TX12) (N := 79) hx hb hts hinX12 hown hc hw hI kl_60 sh_60 rfl (by decide) rfl bd_60_65 (hts (.fieldLink RX12 337 "RedTentModel" "to" "I") (List.mem_cons_of_mem _ tw_5_185)) (fun _ h9 => h9) dX12_next_106 (fun x97 ex97 bx97 => ?_)
                    have wx97 : x97.toInt = (M_l2.1 60 0 65).toInt := by rw [ex97]
                    refine vp_callSi (va_Run.run (va_runV (As := [.int x97]) (rest := []) ⟨hx, hb, hml, hown, hts⟩ (fc_X12_isDigit l D ad C nb M_l2 hI x97 (by omega)) (cwV 1 hts gX12_next_X12_isDigit rfl rfl rfl (by decide +kernel) ⟨Nat.le_of_ble_eq_true rfl, Nat.le_of_ble_eq_true rfl⟩) (fm_preV hc hw hS kl_60 sh_60 rfl) rfl rfl hl.1 rfl (lv_room (Nat.le_of_ble_eq_true rfl)) dX12_next_109 ⟨by decide +kernel, by decide +kernel⟩)) (fun r98 hr98 => ?_)
                    have bqq99 := hI.bd (k := 0) bd_60_62
                    have bqq100 := hI.bd (k := 0) bd_60_63
                    rcases hr98 with ⟨rfl, c101⟩ | ⟨rfl, c101⟩
                    · have g102 := rt_mbs hE (by decide)
                      rw [g102.1, g102.2] at c101
                      refine fx_if_eq (tgt := 153) hx hb dX12_next_112 (by decide) zk_1 (fun c103 => by exfalso; omega) (fun c103 => ?_)
                      refine lv_aload_n hx hb dX12_next_115 rfl (lv_at hl 0 rfl) ?_
                      refine lv_dup hx hb dX12_next_116 rfl ?_
                      refine fm_getI (a := 60) (j := 65) (T := TX12) (N := 79) hx hb hts hinX12 hown hc hw hI kl_60 sh_60 rfl (by decide) rfl bd_60_65 (hts (.fieldLink RX12 337 "RedTentModel" "to" "I") (List.mem_cons_of_mem _ tw_5_185)) (fun _ h9 => h9) dX12_next_117 (fun x104 ex104 bx104 => ?_)
                      have wx104 : x104.toInt = (M_l2.1 60 0 65).toInt := by rw [ex104]
                      obtain rfl : x97 = x104 := by rw [ex104]; exact ex97
                      refine lv_iconst (v := 1) hx hb dX12_next_120 (by decide) ?_
                      refine fx_iadd hx hb dX12_next_121 rfl zk_1 (by omega) (fun y105 ey105 ty105 => ?_)
                      refine fm_putI (a := 60) (j := 65) (T := TX12) (N := 79) hx hb hts hinX12 tyX12 tyX12_ok nmX12 hown hc hw hI hE hS kl_60 sh_60 od_60 rfl (by decide) rfl bd_60_65 (hts (.fieldLink RX12 337 "RedTentModel" "to" "I") (List.mem_cons_of_mem _ tw_5_185)) (fun _ h9 => h9) rfl (by decide +kernel) (by omega) (by decide) (by decide) dX12_next_122 (fun M106 H locs eM106 hw hI hE hS => ?_)
                      have mM106_60_63 : (M106.1 60 0 63).toInt = (M_l2.1 60 0 63).toInt := by rw [eM106, fm_wI_nj (fun z => absurd z.2.2 (by decide))]
                      have mM106_60_64 : (M106.1 60 0 64).toInt = (M_l2.1 60 0 64).toInt := by rw [eM106, fm_wI_nj (fun z => absurd z.2.2 (by decide))]
                      have mM106_60_65 : (M106.1 60 0 65).toInt = y105.toInt := by rw [eM106, fm_wI_at]
                      refine lv_goto (tgt := 104) hx hb dX12_next_125 (by decide) ?_
                      exact ih_l2 M106 (by omega) (by have z9 := c101.1; omega) (by rw [show (M106.1 60 0 64).toInt = (M_l2.1 60 0 64).toInt by omega]; exact hSl2) (by rw [show (M106.1 60 0 64).toInt = (M_l2.1 60 0 64).toInt by omega]; exact hLl2) (fun y h1 h2 => by rcases Int.lt_or_le y (M_l2.1 60 0 65).toInt with g | g; exact hql2 y (by omega) g; rw [show y = x97.toInt by omega]; exact c101.2) hI hE _ _ hw hS ls (lv_sub hl [0] rfl)
                    · have g107 := rt_mbs hE (by decide)
                      rw [g107.1, g107.2] at c101
                      refine fx_if_eq (tgt := 153) hx hb dX12_next_112 (by decide) zk_0 (fun c108 => ?_) (fun c108 => by exfalso; omega)
                      have gx : x97.toInt = (M_l2.1 60 0 65).toInt := by omega
                      rw [gx] at c101
                      have gl : (M_l2.1 60 0 64).toInt < (M_l2.1 60 0 65).toInt := by rcases Int.lt_or_le (M_l2.1 60 0 64).toInt (M_l2.1 60 0 65).toInt with g | g; exact g; exact absurd ⟨by omega, by rw [show (M_l2.1 60 0 65).toInt = (M_l2.1 60 0 64).toInt by omega]; exact hLl2⟩ c101
                      exact W.vret hx hb hr (fun t ht hW => ⟨⟨M_l2, rfl, ⟨hI, hE, ⟨by omega, by omega, hSl2, Or.inl ⟨by omega, gl, by omega, Or.inr (Or.inl ⟨hLl2, hql2, c101⟩)⟩⟩⟩, by show fm_at D ad C nb _ t.heap; rw [ht]; exact hw⟩, hS.F ht⟩) hS.2.2 dX12_next_153
                exact l2 _ M68 (Nat.lt_succ_self _) (by have z9 := c94.1; omega) (by rw [show (M68.1 60 0 64).toInt = (M_l0.1 60 0 65).toInt by omega]; exact hSK0) (by rw [show (M68.1 60 0 64).toInt = x1.toInt by omega]; exact c94.2) (fun y h1 h2 => absurd h2 (by omega)) hI hE _ _ hw hS ls (lv_sub hl [0] rfl)
              · have g109 := rt_mbs hE (by decide)
                rw [g109.1, g109.2] at c94
                refine fx_if_eq (tgt := 128) hx hb dX12_next_101 (by decide) zk_0 (fun c110 => ?_) (fun c110 => by exfalso; omega)
                refine lv_aload_n hx hb dX12_next_128 rfl (lv_at hl 0 rfl) ?_
                refine lv_dup hx hb dX12_next_129 rfl ?_
                refine fm_getI (a := 60) (j := 65) (T := TX12) (N := 79) hx hb hts hinX12 hown hc hw hI kl_60 sh_60 rfl (by decide) rfl bd_60_65 (hts (.fieldLink RX12 337 "RedTentModel" "to" "I") (List.mem_cons_of_mem _ tw_5_185)) (fun _ h9 => h9) dX12_next_130 (fun x111 ex111 bx111 => ?_)
                have wx111 : x111.toInt = (M68.1 60 0 65).toInt := by rw [ex111]
                obtain rfl : x1 = x111 := by rw [ex111, eM68, fm_wI_nj (fun z => absurd z.2.2 (by decide))]; exact ex1
                refine lv_aload_n hx hb dX12_next_133 rfl (lv_at hl 0 rfl) ?_
                refine fm_getI (a := 60) (j := 64) (T := TX12) (N := 79) hx hb hts hinX12 hown hc hw hI kl_60 sh_60 rfl (by decide) rfl bd_60_64 (hts (.fieldLink RX12 340 "RedTentModel" "from" "I") (List.mem_cons_of_mem _ tw_5_184)) (fun _ h9 => h9) dX12_next_134 (fun x112 ex112 bx112 => ?_)
                have wx112 : x112.toInt = (M68.1 60 0 64).toInt := by rw [ex112]
                obtain rfl : x1 = x112 := by rw [ex112, eM68, fm_wI_at]
                refine lv_aload_n hx hb dX12_next_137 rfl (lv_at hl 0 rfl) ?_
                refine fm_getI (a := 60) (j := 63) (T := TX12) (N := 79) hx hb hts hinX12 hown hc hw hI kl_60 sh_60 rfl (by decide) rfl bd_60_63 (hts (.fieldLink RX12 328 "RedTentModel" "ends" "I") (List.mem_cons_of_mem _ tw_5_183)) (fun _ h9 => h9) dX12_next_138 (fun x113 ex113 bx113 => ?_)
                have wx113 : x113.toInt = (M68.1 60 0 63).toInt := by rw [ex113]
                obtain rfl : x2 = x113 := by rw [ex113, eM68, fm_wI_nj (fun z => absurd z.2.2 (by decide))]; exact ex2
                refine fx_icmp_ge (tgt := 148) hx hb dX12_next_141 (by decide) rfl rfl (fun c114 => ?_) (fun c114 => ?_)
                · refine lv_iconst (v := 0) hx hb dX12_next_148 (by decide) ?_
                  refine fx_iadd hx hb dX12_next_149 rfl zk_0 (by omega) (fun y115 ey115 ty115 => ?_)
                  refine fm_putI (a := 60) (j := 65) (T := TX12) (N := 79) hx hb hts hinX12 tyX12 tyX12_ok nmX12 hown hc hw hI hE hS kl_60 sh_60 od_60 rfl (by decide) rfl bd_60_65 (hts (.fieldLink RX12 337 "RedTentModel" "to" "I") (List.mem_cons_of_mem _ tw_5_185)) (fun _ h9 => h9) rfl (by decide +kernel) (by omega) (by decide) (by decide) dX12_next_150 (fun M116 H locs eM116 hw hI hE hS => ?_)
                  have mM116_60_63 : (M116.1 60 0 63).toInt = (M68.1 60 0 63).toInt := by rw [eM116, fm_wI_nj (fun z => absurd z.2.2 (by decide))]
                  have mM116_60_64 : (M116.1 60 0 64).toInt = (M68.1 60 0 64).toInt := by rw [eM116, fm_wI_nj (fun z => absurd z.2.2 (by decide))]
                  have mM116_60_65 : (M116.1 60 0 65).toInt = y115.toInt := by rw [eM116, fm_wI_at]
                  have gf : (M116.1 60 0 64).toInt = (M_l0.1 60 0 65).toInt := by omega
                  have gx : x1.toInt = (M_l0.1 60 0 65).toInt := by omega
                  have gy : x1.toInt = (M_l0.1 60 0 65).toInt := by omega
                  rw [gx] at c73
                  rw [gy] at c94
                  have gz : rt_NX M M116 := by rw [rt_NX, gf]; refine ⟨hSK0, ?_⟩; rcases Int.lt_or_le (M_l0.1 60 0 65).toInt (M.1 60 0 63).toInt with g | g; exact Or.inl ⟨g, by omega, by omega, Or.inr (Or.inr ⟨fun z => c73 ⟨g, z⟩, fun z => c94 ⟨g, z⟩, by omega⟩)⟩; exact Or.inr ⟨by omega, by omega⟩
                  exact W.vret hx hb hr (fun t ht hW => ⟨⟨M116, rfl, ⟨hI, hE, ⟨by omega, by omega, gz.1, gz.2⟩⟩, by show fm_at D ad C nb _ t.heap; rw [ht]; exact hw⟩, hS.F ht⟩) hS.2.2 dX12_next_153
                · refine lv_iconst (v := 1) hx hb dX12_next_144 (by decide) ?_
                  refine lv_goto (tgt := 149) hx hb dX12_next_145 (by decide) ?_
                  refine fx_iadd hx hb dX12_next_149 rfl zk_1 (by omega) (fun y117 ey117 ty117 => ?_)
                  refine fm_putI (a := 60) (j := 65) (T := TX12) (N := 79) hx hb hts hinX12 tyX12 tyX12_ok nmX12 hown hc hw hI hE hS kl_60 sh_60 od_60 rfl (by decide) rfl bd_60_65 (hts (.fieldLink RX12 337 "RedTentModel" "to" "I") (List.mem_cons_of_mem _ tw_5_185)) (fun _ h9 => h9) rfl (by decide +kernel) (by omega) (by decide) (by decide) dX12_next_150 (fun M118 H locs eM118 hw hI hE hS => ?_)
                  have mM118_60_63 : (M118.1 60 0 63).toInt = (M68.1 60 0 63).toInt := by rw [eM118, fm_wI_nj (fun z => absurd z.2.2 (by decide))]
                  have mM118_60_64 : (M118.1 60 0 64).toInt = (M68.1 60 0 64).toInt := by rw [eM118, fm_wI_nj (fun z => absurd z.2.2 (by decide))]
                  have mM118_60_65 : (M118.1 60 0 65).toInt = y117.toInt := by rw [eM118, fm_wI_at]
                  have gf : (M118.1 60 0 64).toInt = (M_l0.1 60 0 65).toInt := by omega
                  have gx : x1.toInt = (M_l0.1 60 0 65).toInt := by omega
                  have gy : x1.toInt = (M_l0.1 60 0 65).toInt := by omega
                  rw [gx] at c73
                  rw [gy] at c94
                  have gz : rt_NX M M118 := by rw [rt_NX, gf]; refine ⟨hSK0, ?_⟩; rcases Int.lt_or_le (M_l0.1 60 0 65).toInt (M.1 60 0 63).toInt with g | g; exact Or.inl ⟨g, by omega, by omega, Or.inr (Or.inr ⟨fun z => c73 ⟨g, z⟩, fun z => c94 ⟨g, z⟩, by omega⟩)⟩; exact Or.inr ⟨by omega, by omega⟩
                  exact W.vret hx hb hr (fun t ht hW => ⟨⟨M118, rfl, ⟨hI, hE, ⟨by omega, by omega, gz.1, gz.2⟩⟩, by show fm_at D ad C nb _ t.heap; rw [ht]; exact hw⟩, hS.F ht⟩) hS.2.2 dX12_next_153
          · refine lv_aload_n hx hb dX12_next_37 rfl (lv_at hl 0 rfl) ?_
            refine lv_dup hx hb dX12_next_38 rfl ?_
            refine fm_getI (a := 60) (j := 65) (T := TX12) (N := 79) hx hb hts hinX12 hown hc hw hI kl_60 sh_60 rfl (by decide) rfl bd_60_65 (hts (.fieldLink RX12 337 "RedTentModel" "to" "I") (List.mem_cons_of_mem _ tw_5_185)) (fun _ h9 => h9) dX12_next_39 (fun x119 ex119 bx119 => ?_)
            have wx119 : x119.toInt = (M_l0.1 60 0 65).toInt := by rw [ex119]
            obtain rfl : x1 = x119 := by rw [ex119]; exact ex1
            refine lv_iconst (v := 1) hx hb dX12_next_42 (by decide) ?_
            refine fx_iadd hx hb dX12_next_43 rfl zk_1 (by omega) (fun y120 ey120 ty120 => ?_)
            refine fm_putI (a := 60) (j := 65) (T := TX12) (N := 79) hx hb hts hinX12 tyX12 tyX12_ok nmX12 hown hc hw hI hE hS kl_60 sh_60 od_60 rfl (by decide) rfl bd_60_65 (hts (.fieldLink RX12 337 "RedTentModel" "to" "I") (List.mem_cons_of_mem _ tw_5_185)) (fun _ h9 => h9) rfl (by decide +kernel) (by omega) (by decide) (by decide) dX12_next_44 (fun M121 H locs eM121 hw hI hE hS => ?_)
            have mM121_60_63 : (M121.1 60 0 63).toInt = (M_l0.1 60 0 63).toInt := by rw [eM121, fm_wI_nj (fun z => absurd z.2.2 (by decide))]
            have mM121_60_64 : (M121.1 60 0 64).toInt = (M_l0.1 60 0 64).toInt := by rw [eM121, fm_wI_nj (fun z => absurd z.2.2 (by decide))]
            have mM121_60_65 : (M121.1 60 0 65).toInt = y120.toInt := by rw [eM121, fm_wI_at]
            refine lv_goto (tgt := 0) hx hb dX12_next_47 (by decide) ?_
            exact ih_l0 M121 (by omega) (by omega) (fun x h1 h2 => by rcases Int.lt_or_le x (M_l0.1 60 0 65).toInt with g | g; exact hB x h1 g; rw [show x = x1.toInt by omega, ← kr64]; omega) hI hE _ _ hw hS ls (lv_sub hl [0] rfl)
  exact l0 _ M (Nat.lt_succ_self _) ⟨Int.le_refl _, hto, rfl⟩ (fun x h1 h2 => absurd h2 (by omega)) hI hE _ _ hw hS ls (lv_sub hl [0] rfl)
set_option maxHeartbeats 400000 in
set_option maxRecDepth 20000 in
theorem fc_X12_wrong (l : Launch) (D : va_G) (ad : Nat → Nat → Nat) (C : Nat → Nat → ClassId) (nb : Nat) (M : fm_M) (hI : fm_I nb ad M) (kc : Nat) (S9 B9 : Nat → Int) (s9 : Nat × Int) (hms : rt_ms kc S9 B9 M s9) : Met l yX12_wrong wsX12_wrong ({ frames := 0, cells := 0, slots := 0, locals := 0 }) (va_Pc [.ref (ad 60 0)] (fm_P D ad C nb M)) (va_Qi (fun (r : Int32) (u : fm_M) => fm_I nb ad u ∧ fm_same [60067] M u ∧ (0 ≤ r.toInt ∧ r.toInt ≤ 0) ∧ (rt_ms kc S9 B9 u (rt_fail S9 s9))) (fun u t => fm_at D ad C nb u t.heap) (fm_A nb ad)) 0 0 (fm_A nb ad) := by
  refine Met.ofW (cc := cX12_wrong) (maxL := 1) (ret := (some .int)) (by decide) rfl ?_
  intro p e s m args below meth c s₁ B hml hv
  obtain ⟨rfl, hw, hc⟩ := hv
  have hx := B.exec
  have hb := B.bytes
  have hr := B.returns
  have hts := atoms_spec (ws := wsX12_wrong) B.pre
  have hown : s.vm.findClass RX12 = some m.cls := findClass_of_methodNamed B.named
  have hinX12 : ∀ w ∈ u_ws RX12 TX12 79, w ∈ wsX12_wrong := fun w h => List.mem_cons_of_mem _ (iT_X12 w h)
  have hS : va_S (fm_A nb ad) s.heap s.heap [] := va_S.rf
  have hE : fm_same [60067] M M := fm_same.rf
  have hl := lv_entry ([.ref (ad 60 0)]) (n := 1) (Nat.le_of_ble_eq_true rfl)
  rw [lg_entry_eq]
  generalize (lg_sl ([.ref (ad 60 0)]) ++ List.replicate (1 - (lg_sl ([.ref (ad 60 0)])).length) Slot.unset).toArray = ls at hl ⊢
  have hl : lv_has ls 1 [(0, .ref (ad 60 0))] := hl
  refine lv_aload_n hx hb dX12_wrong_0 rfl (lv_at hl 0 rfl) ?_
  refine lv_aload_n hx hb dX12_wrong_1 rfl (lv_at hl 0 rfl) ?_
  refine fm_getI (a := 60) (j := 67) (T := TX12) (N := 79) hx hb hts hinX12 hown hc hw hI kl_60 sh_60 rfl (by decide) rfl bd_60_67 (hts (.fieldLink RX12 349 "RedTentModel" "fault" "I") (List.mem_cons_of_mem _ tw_5_187)) (fun _ h9 => h9) dX12_wrong_2 (fun x1 ex1 bx1 => ?_)
  refine fx_if_ge (tgt := 15) hx hb dX12_wrong_5 (by decide) rfl (fun c2 => ?_) (fun c2 => ?_)
  · refine lv_aload_n hx hb dX12_wrong_15 rfl (lv_at hl 0 rfl) ?_
    refine fm_getI (a := 60) (j := 67) (T := TX12) (N := 79) hx hb hts hinX12 hown hc hw hI kl_60 sh_60 rfl (by decide) rfl bd_60_67 (hts (.fieldLink RX12 349 "RedTentModel" "fault" "I") (List.mem_cons_of_mem _ tw_5_187)) (fun _ h9 => h9) dX12_wrong_16 (fun x3 ex3 bx3 => ?_)
    obtain rfl : x1 = x3 := by rw [ex3]; exact ex1
    refine fm_putI (a := 60) (j := 67) (T := TX12) (N := 79) hx hb hts hinX12 tyX12 tyX12_ok nmX12 hown hc hw hI hE hS kl_60 sh_60 od_60 rfl (by decide) rfl bd_60_67 (hts (.fieldLink RX12 349 "RedTentModel" "fault" "I") (List.mem_cons_of_mem _ tw_5_187)) (fun _ h9 => h9) rfl (by decide +kernel) (by omega) (by decide) (by decide) dX12_wrong_19 (fun M4 H locs eM4 hw hI hE hS => ?_)
    refine lv_iconst (v := 0) hx hb dX12_wrong_22 (by decide) ?_
    exact W.iret (v := 0) hx hb hr (fun t ht hW => ⟨⟨0, M4, rfl, ⟨hI, hE, ⟨(by decide), (rt_ms_fail hms (by rw [eM4, fm_wI_at, if_neg (by rw [← ex1]; omega), ex1]) (by rw [eM4, fm_wI_nj (fun z => absurd z.2.2 (by decide))]) (by rw [eM4, fm_wI_nj (fun z => absurd z.2.2 (by decide))]))⟩⟩, by show fm_at D ad C nb _ t.heap; rw [ht]; exact hw⟩, hS.F ht⟩) hS.2.2 dX12_wrong_23
  · refine lv_aload_n hx hb dX12_wrong_8 rfl (lv_at hl 0 rfl) ?_
    refine fm_getI (a := 60) (j := 64) (T := TX12) (N := 79) hx hb hts hinX12 hown hc hw hI kl_60 sh_60 rfl (by decide) rfl bd_60_64 (hts (.fieldLink RX12 340 "RedTentModel" "from" "I") (List.mem_cons_of_mem _ tw_5_184)) (fun _ h9 => h9) dX12_wrong_9 (fun x5 ex5 bx5 => ?_)
    refine lv_goto (tgt := 19) hx hb dX12_wrong_12 (by decide) ?_
    refine fm_putI (a := 60) (j := 67) (T := TX12) (N := 79) hx hb hts hinX12 tyX12 tyX12_ok nmX12 hown hc hw hI hE hS kl_60 sh_60 od_60 rfl (by decide) rfl bd_60_67 (hts (.fieldLink RX12 349 "RedTentModel" "fault" "I") (List.mem_cons_of_mem _ tw_5_187)) (fun _ h9 => h9) rfl (by decide +kernel) (by omega) (by decide) (by decide) dX12_wrong_19 (fun M6 H locs eM6 hw hI hE hS => ?_)
    refine lv_iconst (v := 0) hx hb dX12_wrong_22 (by decide) ?_
    exact W.iret (v := 0) hx hb hr (fun t ht hW => ⟨⟨0, M6, rfl, ⟨hI, hE, ⟨(by decide), (rt_ms_fail hms (by rw [eM6, fm_wI_at, if_pos (by rw [← ex1]; omega), ex5]) (by rw [eM6, fm_wI_nj (fun z => absurd z.2.2 (by decide))]) (by rw [eM6, fm_wI_nj (fun z => absurd z.2.2 (by decide))]))⟩⟩, by show fm_at D ad C nb _ t.heap; rw [ht]; exact hw⟩, hS.F ht⟩) hS.2.2 dX12_wrong_23
set_option maxHeartbeats 400000 in
set_option maxRecDepth 20000 in
theorem fc_X12_take (l : Launch) (D : va_G) (ad : Nat → Nat → Nat) (C : Nat → Nat → ClassId) (nb : Nat) (M : fm_M) (hI : fm_I nb ad M) (q v N : Nat) (f : Nat → Int32) (hN : 1 ≤ N ∧ N ≤ 50) (kc : Nat) (S9 B9 T9 : Nat → Int) (s9 : Nat × Int) (t9 : Int) (hft : (M.1 60 0 64).toInt ≤ (M.1 60 0 65).toInt) (hTK : rt_TM M kc S9 B9 T9) (hms : rt_ms kc S9 B9 M s9) (hcd : rt_cd N f t9) : Met l yX12_take wsX12_take ({ frames := 5, cells := 0, slots := 0, locals := 108 }) (va_Pc [.ref (ad 60 0), .ref q] (fun U => fm_P D ad C nb M U ∧ rt_Str q v N f (fm_A nb ad) U U.heap)) (va_Qi (fun (r : Int32) (u : fm_M) => fm_I nb ad u ∧ fm_same [60064, 60065] M u ∧ (((r = 1 ∧ (M.1 60 0 64).toInt < (u.1 60 0 64).toInt ∧ (u.1 60 0 64).toInt ≤ (u.1 60 0 65).toInt ∧ s9.2 < 0 ∧ T9 s9.1 = t9 ∧ rt_ms kc S9 B9 u (rt_adv T9 s9)) ∨ (r = 0 ∧ (u.1 60 0 64).toInt = (M.1 60 0 64).toInt ∧ (u.1 60 0 65).toInt = (M.1 60 0 65).toInt ∧ ¬ (s9.2 < 0 ∧ T9 s9.1 = t9) ∧ rt_ms kc S9 B9 u s9)))) (fun u t => fm_at D ad C nb u t.heap) (fm_A nb ad)) 0 0 (fm_A nb ad) := by
  refine Met.ofW (cc := cX12_take) (maxL := 2) (ret := (some .boolean)) (by decide) rfl ?_
  intro p e s m args below meth c s₁ B hml hv
  obtain ⟨rfl, ⟨hw, hc⟩, hQq⟩ := hv
  have hx := B.exec
  have hb := B.bytes
  have hr := B.returns
  have hts := atoms_spec (ws := wsX12_take) B.pre
  have hown : s.vm.findClass RX12 = some m.cls := findClass_of_methodNamed B.named
  have hinX12 : ∀ w ∈ u_ws RX12 TX12 79, w ∈ wsX12_take := fun w h => List.mem_cons_of_mem _ (iT_X12 w h)
  have hS : va_S (fm_A nb ad) s.heap s.heap [] := va_S.rf
  have hE : fm_same [60064, 60065] M M := fm_same.rf
  have hl := lv_entry ([.ref (ad 60 0), .ref q]) (n := 2) (Nat.le_of_ble_eq_true rfl)
  rw [lg_entry_eq]
  generalize (lg_sl ([.ref (ad 60 0), .ref q]) ++ List.replicate (2 - (lg_sl ([.ref (ad 60 0), .ref q])).length) Slot.unset).toArray = ls at hl ⊢
  have hl : lv_has ls 2 [(0, .ref (ad 60 0)), (1, .ref q)] := hl
  refine lv_aload_n hx hb dX12_take_0 rfl (lv_at hl 0 rfl) ?_
  refine fm_getI (a := 60) (j := 67) (T := TX12) (N := 79) hx hb hts hinX12 hown hc hw hI kl_60 sh_60 rfl (by decide) rfl bd_60_67 (hts (.fieldLink RX12 349 "RedTentModel" "fault" "I") (List.mem_cons_of_mem _ tw_5_187)) (fun _ h9 => h9) dX12_take_1 (fun x1 ex1 bx1 => ?_)
  refine fx_if_ge (tgt := 15) hx hb dX12_take_4 (by decide) rfl (fun c2 => ?_) (fun c2 => ?_)
  · refine lv_iconst (v := 0) hx hb dX12_take_15 (by decide) ?_
    have gh : s9.2 = x1.toInt := by rw [ex1]; exact hms.2.2.2.symm
    exact W.zret (v := 0) hx hb hr rfl (fun t ht hW => ⟨⟨0, M, rfl, ⟨hI, hE, Or.inr ⟨rfl, by omega, by omega, fun z => absurd z.1 (by omega), hms⟩⟩, by show fm_at D ad C nb _ t.heap; rw [ht]; exact hw⟩, hS.F ht⟩) hS.2.2 dX12_take_16
  · refine lv_aload_n hx hb dX12_take_7 rfl (lv_at hl 0 rfl) ?_
    refine lv_aload_n hx hb dX12_take_8 rfl (lv_at hl 1 rfl) ?_
    refine vp_callSi (va_Run.run (va_runV (As := [.ref q]) (rest := []) ⟨hx, hb, hml, hown, hts⟩ (fc_X12_is l D ad C nb M hI q v N f hN (rt_mto hTK hms) hcd.2.1) (cwV 1 hts gX12_take_X12_is rfl rfl rfl (by decide +kernel) ⟨Nat.le_of_ble_eq_true rfl, Nat.le_of_ble_eq_true rfl⟩) (fm_preVS hc hw hS hQq kl_60 sh_60 rfl) rfl rfl hl.1 rfl (lv_room (Nat.le_of_ble_eq_true rfl)) dX12_take_9 ⟨by decide +kernel, by decide +kernel⟩)) (fun r3 hr3 => ?_)
    rcases hr3 with ⟨rfl, chr3⟩ | ⟨rfl, chr3⟩
    · have gis := (rt_is hTK hms hcd).mp chr3
      have gw := chr3.2.1
      refine fx_if_ne (tgt := 17) hx hb dX12_take_12 (by decide) zk_1 (fun c4 => ?_) (fun c4 => by exfalso; omega)
      refine lv_aload_n hx hb dX12_take_17 rfl (lv_at hl 0 rfl) ?_
      refine fm_cv (va_runV (As := []) (rest := []) ⟨hx, hb, hml, hown, hts⟩ (fc_X12_next l D ad C nb M hI (rt_mto hTK hms)) (cwV 0 hts gX12_take_X12_next rfl rfl rfl (by decide +kernel) ⟨Nat.le_of_ble_eq_true rfl, Nat.le_of_ble_eq_true rfl⟩) (fm_preV hc hw hS kl_60 sh_60 rfl) rfl rfl hl.1 rfl (lv_room (Nat.le_of_ble_eq_true rfl)) dX12_take_18 ⟨by decide +kernel, by decide +kernel⟩) hS hc (fun M6 H locs hr5 hw hS => ?_)
      obtain ⟨hI, hEM6, hr5⟩ := hr5
      have hE := hE.tr hEM6 (by decide)
      have mM6_60_63 : (M6.1 60 0 63).toInt = (M.1 60 0 63).toInt := by rw [(hEM6 60 0 63 (by decide)).1]
      have mM6_60_66 : (M6.1 60 0 66).toInt = (M.1 60 0 66).toInt := by rw [(hEM6 60 0 66 (by decide)).1]
      obtain ⟨ahr5, bhr5, nhr5⟩ := hr5
      have mhr5 := rt_ms_next hTK hms nhr5 (hEM6 60 0 67 (by decide)).1
      refine lv_iconst (v := 1) hx hb dX12_take_21 (by decide) ?_
      have gh : s9.2 = x1.toInt := by rw [ex1]; exact hms.2.2.2.symm
      exact W.zret (v := 1) hx hb hr rfl (fun t ht hW => ⟨⟨1, M6, rfl, ⟨hI, hE, Or.inl ⟨rfl, by omega, by omega, by omega, gis, mhr5⟩⟩, by show fm_at D ad C nb _ t.heap; rw [ht]; exact hw⟩, hS.F ht⟩) hS.2.2 dX12_take_22
    · have gis : ¬ T9 s9.1 = t9 := fun z => chr3 ((rt_is hTK hms hcd).mpr z)
      refine fx_if_ne (tgt := 17) hx hb dX12_take_12 (by decide) zk_0 (fun c7 => by exfalso; omega) (fun c7 => ?_)
      refine lv_iconst (v := 0) hx hb dX12_take_15 (by decide) ?_
      have gh : s9.2 = x1.toInt := by rw [ex1]; exact hms.2.2.2.symm
      exact W.zret (v := 0) hx hb hr rfl (fun t ht hW => ⟨⟨0, M, rfl, ⟨hI, hE, Or.inr ⟨rfl, by omega, by omega, fun z => gis z.2, hms⟩⟩, by show fm_at D ad C nb _ t.heap; rw [ht]; exact hw⟩, hS.F ht⟩) hS.2.2 dX12_take_16
set_option maxHeartbeats 400000 in
set_option maxRecDepth 20000 in
theorem fc_X12_opens (l : Launch) (D : va_G) (ad : Nat → Nat → Nat) (C : Nat → Nat → ClassId) (nb : Nat) (M : fm_M) (hI : fm_I nb ad M) (kc : Nat) (S9 B9 T9 : Nat → Int) (s9 : Nat × Int) (hTK : rt_TM M kc S9 B9 T9) (hms : rt_ms kc S9 B9 M s9) : Met l yX12_opens wsX12_opens ({ frames := 3, cells := 0, slots := 0, locals := 63 }) (va_Pc [.ref (ad 60 0)] (fm_P D ad C nb M)) (va_Qi (fun (r : Int32) (u : fm_M) => fm_I nb ad u ∧ fm_same [60064, 60065, 60066, 60067] M u ∧ (((r = 1 ∧ (u.1 60 0 66).toInt = (M.1 60 0 66).toInt + 1 ∧ (M.1 60 0 65).toInt ≤ (u.1 60 0 64).toInt ∧ (u.1 60 0 64).toInt ≤ (u.1 60 0 65).toInt ∧ rt_ms kc S9 B9 u (rt_adv T9 s9)) ∨ (r = 0 ∧ (M.1 60 0 66).toInt = 5 ∧ (u.1 60 0 66).toInt = (M.1 60 0 66).toInt ∧ (u.1 60 0 64).toInt = (M.1 60 0 64).toInt ∧ (u.1 60 0 65).toInt = (M.1 60 0 65).toInt ∧ rt_ms kc S9 B9 u (rt_fail S9 s9))))) (fun u t => fm_at D ad C nb u t.heap) (fm_A nb ad)) 0 0 (fm_A nb ad) := by
  refine Met.ofW (cc := cX12_opens) (maxL := 2) (ret := (some .boolean)) (by decide) rfl ?_
  intro p e s m args below meth c s₁ B hml hv
  obtain ⟨rfl, hw, hc⟩ := hv
  have hx := B.exec
  have hb := B.bytes
  have hr := B.returns
  have hts := atoms_spec (ws := wsX12_opens) B.pre
  have hown : s.vm.findClass RX12 = some m.cls := findClass_of_methodNamed B.named
  have hinX12 : ∀ w ∈ u_ws RX12 TX12 79, w ∈ wsX12_opens := fun w h => List.mem_cons_of_mem _ (iT_X12 w h)
  have hS : va_S (fm_A nb ad) s.heap s.heap [] := va_S.rf
  have hE : fm_same [60064, 60065, 60066, 60067] M M := fm_same.rf
  have hl := lv_entry ([.ref (ad 60 0)]) (n := 2) (Nat.le_of_ble_eq_true rfl)
  rw [lg_entry_eq]
  generalize (lg_sl ([.ref (ad 60 0)]) ++ List.replicate (2 - (lg_sl ([.ref (ad 60 0)])).length) Slot.unset).toArray = ls at hl ⊢
  have hl : lv_has ls 2 [(0, .ref (ad 60 0))] := hl
  refine lv_aload_n hx hb dX12_opens_0 rfl (lv_at hl 0 rfl) ?_
  refine fm_getI (a := 60) (j := 66) (T := TX12) (N := 79) hx hb hts hinX12 hown hc hw hI kl_60 sh_60 rfl (by decide) rfl bd_60_66 (hts (.fieldLink RX12 372 "RedTentModel" "open" "I") (List.mem_cons_of_mem _ tw_5_186)) (fun _ h9 => h9) dX12_opens_1 (fun x1 ex1 bx1 => ?_)
  have wx1 : x1.toInt = (M.1 60 0 66).toInt := by rw [ex1]
  refine lv_iconst (v := 5) hx hb dX12_opens_4 (by decide) ?_
  refine fx_icmp_ne (tgt := 15) hx hb dX12_opens_5 (by decide) rfl zk_5 (fun c2 => ?_) (fun c2 => ?_)
  · refine lv_aload_n hx hb dX12_opens_15 rfl (lv_at hl 0 rfl) ?_
    refine lv_dup hx hb dX12_opens_16 rfl ?_
    refine fm_getI (a := 60) (j := 66) (T := TX12) (N := 79) hx hb hts hinX12 hown hc hw hI kl_60 sh_60 rfl (by decide) rfl bd_60_66 (hts (.fieldLink RX12 372 "RedTentModel" "open" "I") (List.mem_cons_of_mem _ tw_5_186)) (fun _ h9 => h9) dX12_opens_17 (fun x3 ex3 bx3 => ?_)
    have wx3 : x3.toInt = (M.1 60 0 66).toInt := by rw [ex3]
    obtain rfl : x1 = x3 := by rw [ex3]; exact ex1
    refine lv_iconst (v := 1) hx hb dX12_opens_20 (by decide) ?_
    refine fx_iadd hx hb dX12_opens_21 rfl zk_1 (by omega) (fun y4 ey4 ty4 => ?_)
    refine fm_putI (a := 60) (j := 66) (T := TX12) (N := 79) hx hb hts hinX12 tyX12 tyX12_ok nmX12 hown hc hw hI hE hS kl_60 sh_60 od_60 rfl (by decide) rfl bd_60_66 (hts (.fieldLink RX12 372 "RedTentModel" "open" "I") (List.mem_cons_of_mem _ tw_5_186)) (fun _ h9 => h9) rfl (by decide +kernel) (by omega) (by decide) (by decide) dX12_opens_22 (fun M5 H locs eM5 hw hI hE hS => ?_)
    have mM5_60_63 : (M5.1 60 0 63).toInt = (M.1 60 0 63).toInt := by rw [eM5, fm_wI_nj (fun z => absurd z.2.2 (by decide))]
    have mM5_60_64 : (M5.1 60 0 64).toInt = (M.1 60 0 64).toInt := by rw [eM5, fm_wI_nj (fun z => absurd z.2.2 (by decide))]
    have mM5_60_65 : (M5.1 60 0 65).toInt = (M.1 60 0 65).toInt := by rw [eM5, fm_wI_nj (fun z => absurd z.2.2 (by decide))]
    have mM5_60_66 : (M5.1 60 0 66).toInt = y4.toInt := by rw [eM5, fm_wI_at]
    have hEM5 : fm_same [60066] M M5 := by rw [eM5]; exact fm_same.rf.wI (by decide)
    have mwM5 := rt_ms_same hEM5 (by decide) hms
    refine lv_aload_n hx hb dX12_opens_25 rfl (lv_at hl 0 rfl) ?_
    have tk6 := rt_TMs hE (by decide) hTK
    refine fm_cv (va_runV (As := []) (rest := []) ⟨hx, hb, hml, hown, hts⟩ (fc_X12_next l D ad C nb M5 hI (rt_mto tk6 mwM5)) (cwV 0 hts gX12_opens_X12_next rfl rfl rfl (by decide +kernel) ⟨Nat.le_of_ble_eq_true rfl, Nat.le_of_ble_eq_true rfl⟩) (fm_preV hc hw hS kl_60 sh_60 rfl) rfl rfl hl.1 rfl (lv_room (Nat.le_of_ble_eq_true rfl)) dX12_opens_26 ⟨by decide +kernel, by decide +kernel⟩) hS hc (fun M8 H locs hr7 hw hS => ?_)
    obtain ⟨hI, hEM8, hr7⟩ := hr7
    have hE := hE.tr hEM8 (by decide)
    have mM8_60_63 : (M8.1 60 0 63).toInt = (M5.1 60 0 63).toInt := by rw [(hEM8 60 0 63 (by decide)).1]
    have mM8_60_66 : (M8.1 60 0 66).toInt = (M5.1 60 0 66).toInt := by rw [(hEM8 60 0 66 (by decide)).1]
    obtain ⟨ahr7, bhr7, nhr7⟩ := hr7
    have mhr7 := rt_ms_next tk6 mwM5 nhr7 (hEM8 60 0 67 (by decide)).1
    refine lv_iconst (v := 1) hx hb dX12_opens_29 (by decide) ?_
    have qx1 : x1.toInt = (M.1 60 0 66).toInt := by rw [ex1]
    exact W.zret (v := 1) hx hb hr rfl (fun t ht hW => ⟨⟨1, M8, rfl, ⟨hI, hE, Or.inl ⟨rfl, by omega, by omega, by omega, mhr7⟩⟩, by show fm_at D ad C nb _ t.heap; rw [ht]; exact hw⟩, hS.F ht⟩) hS.2.2 dX12_opens_30
  · refine lv_aload_n hx hb dX12_opens_8 rfl (lv_at hl 0 rfl) ?_
    have hJ9 := hI
    refine fm_ci (va_runV (As := []) (rest := []) ⟨hx, hb, hml, hown, hts⟩ (fc_X12_wrong l D ad C nb M hI kc S9 B9 (s9) hms) (cwV 0 hts gX12_opens_X12_wrong rfl rfl rfl (by decide +kernel) ⟨Nat.le_of_ble_eq_true rfl, Nat.le_of_ble_eq_true rfl⟩) (fm_preV hc hw hS kl_60 sh_60 rfl) rfl rfl hl.1 rfl (lv_room (Nat.le_of_ble_eq_true rfl)) dX12_opens_9 ⟨by decide +kernel, by decide +kernel⟩) hS hc (fun r10 M11 H locs hr10 hw hS => ?_)
    obtain ⟨hI, hEM11, hr10⟩ := hr10
    have hE := hE.tr hEM11 (by decide)
    have mM11_60_63 : (M11.1 60 0 63).toInt = (M.1 60 0 63).toInt := by rw [(hEM11 60 0 63 (by decide)).1]
    have mM11_60_64 : (M11.1 60 0 64).toInt = (M.1 60 0 64).toInt := by rw [(hEM11 60 0 64 (by decide)).1]
    have mM11_60_65 : (M11.1 60 0 65).toInt = (M.1 60 0 65).toInt := by rw [(hEM11 60 0 65 (by decide)).1]
    have mM11_60_66 : (M11.1 60 0 66).toInt = (M.1 60 0 66).toInt := by rw [(hEM11 60 0 66 (by decide)).1]
    obtain ⟨bhr10, mhr10⟩ := hr10
    refine lv_istore_n (lv' := [(1, .int r10), (0, .ref (ad 60 0))]) hx hb dX12_opens_12 rfl hl (by decide) rfl (fun ls hl => ?_)
    refine lv_iconst (v := 0) hx hb dX12_opens_13 (by decide) ?_
    have qx1 : x1.toInt = (M.1 60 0 66).toInt := by rw [ex1]
    exact W.zret (v := 0) hx hb hr rfl (fun t ht hW => ⟨⟨0, M11, rfl, ⟨hI, hE, Or.inr ⟨rfl, by omega, by omega, by omega, by omega, mhr10⟩⟩, by show fm_at D ad C nb _ t.heap; rw [ht]; exact hw⟩, hS.F ht⟩) hS.2.2 dX12_opens_14
set_option maxHeartbeats 400000 in
set_option maxRecDepth 20000 in
theorem fc_X12_one_5 (l : Launch) (D : va_G) (ad : Nat → Nat → Nat) (C : Nat → Nat → ClassId) (nb : Nat) (M : fm_M) (hI : fm_I nb ad M) (kc : Nat) (S9 B9 T9 : Nat → Int) (s9 : Nat × Int) (hft : (M.1 60 0 64).toInt ≤ (M.1 60 0 65).toInt) (hop : 5 ≤ (M.1 60 0 66).toInt) (hTK : rt_TM M kc S9 B9 T9) (hms : rt_ms kc S9 B9 M s9) (hoo : s9.2 < 0 → (M.1 60 0 66).toInt = 5) : Met l yX12_one wsX12_one ({ frames := 5, cells := 0, slots := 0, locals := 108 }) (va_Pc [.ref (ad 60 0)] (fm_P D ad C nb M)) (va_Qi (fun (r : Int32) (u : fm_M) => fm_I nb ad u ∧ fm_same [60064, 60065, 60066, 60067] M u ∧ ((M.1 60 0 64).toInt ≤ (u.1 60 0 64).toInt ∧ (M.1 60 0 66).toInt ≤ (u.1 60 0 66).toInt ∧ (u.1 60 0 64).toInt ≤ (u.1 60 0 65).toInt ∧ ∃ s8 : Nat × Int, rt_PS T9 S9 10 5 s9 s8 ∧ rt_ms kc S9 B9 u s8 ∧ (s8.2 < 0 → (u.1 60 0 66).toInt = 5))) (fun u t => fm_at D ad C nb u t.heap) (fm_A nb ad)) 0 0 (fm_A nb ad) := by
  refine Met.ofW (cc := cX12_one) (maxL := 3) (ret := (some .int)) (by decide) rfl ?_
  intro p e s m args below meth c s₁ B hml hv
  obtain ⟨rfl, hw, hc⟩ := hv
  have hx := B.exec
  have hb := B.bytes
  have hr := B.returns
  have hts := atoms_spec (ws := wsX12_one) B.pre
  have hown : s.vm.findClass RX12 = some m.cls := findClass_of_methodNamed B.named
  have hinX12 : ∀ w ∈ u_ws RX12 TX12 79, w ∈ wsX12_one := fun w h => List.mem_cons_of_mem _ (iT_X12 w h)
  have hS : va_S (fm_A nb ad) s.heap s.heap [] := va_S.rf
  have hE : fm_same [60064, 60065, 60066, 60067] M M := fm_same.rf
  have hl := lv_entry ([.ref (ad 60 0)]) (n := 3) (Nat.le_of_ble_eq_true rfl)
  rw [lg_entry_eq]
  generalize (lg_sl ([.ref (ad 60 0)]) ++ List.replicate (3 - (lg_sl ([.ref (ad 60 0)])).length) Slot.unset).toArray = ls at hl ⊢
  have hl : lv_has ls 3 [(0, .ref (ad 60 0))] := hl
  refine lv_aload_n hx hb dX12_one_0 rfl (lv_at hl 0 rfl) ?_
  refine fm_getI (a := 60) (j := 67) (T := TX12) (N := 79) hx hb hts hinX12 hown hc hw hI kl_60 sh_60 rfl (by decide) rfl bd_60_67 (hts (.fieldLink RX12 349 "RedTentModel" "fault" "I") (List.mem_cons_of_mem _ tw_5_187)) (fun _ h9 => h9) dX12_one_1 (fun x1 ex1 bx1 => ?_)
  refine fx_if_lt (tgt := 9) hx hb dX12_one_4 (by decide) rfl (fun c2 => ?_) (fun c2 => ?_)
  · have gh : s9.2 = x1.toInt := by rw [ex1]; exact hms.2.2.2.symm
    have hs0 : s9.2 < 0 := by omega
    have ho0 := hoo hs0
    refine lv_aload_n hx hb dX12_one_9 rfl (lv_at hl 0 rfl) ?_
    obtain ⟨q3, vq3, hQq3, hRq3⟩ := hc.2.2.2.2.1 (RX12, 396, "-", [45]) (by decide)
    refine va_ldcwS hx hb hown hRq3 dX12_one_10 ?_
    refine vp_callSi (va_Run.run (va_runV (As := [.ref q3]) (rest := []) ⟨hx, hb, hml, hown, hts⟩ (fc_X12_is l D ad C nb M hI q3 vq3 1 (fun j => ([45] : List Int32).getD j 0) (by decide) (rt_mto hTK hms) rt_cd_45.2.1) (cwV 1 hts gX12_one_X12_is rfl rfl rfl (by decide +kernel) ⟨Nat.le_of_ble_eq_true rfl, Nat.le_of_ble_eq_true rfl⟩) (fm_preVS hc hw hS hQq3 kl_60 sh_60 rfl) rfl rfl hl.1 rfl (lv_room (Nat.le_of_ble_eq_true rfl)) dX12_one_13 ⟨by decide +kernel, by decide +kernel⟩)) (fun r4 hr4 => ?_)
    rcases hr4 with ⟨rfl, chr4⟩ | ⟨rfl, chr4⟩
    · have sv5 := (rt_is hTK hms rt_cd_45).mp chr4
      refine fx_if_eq (tgt := 46) hx hb dX12_one_16 (by decide) zk_1 (fun c6 => by exfalso; omega) (fun c6 => ?_)
      refine lv_aload_n hx hb dX12_one_19 rfl (lv_at hl 0 rfl) ?_
      have hJ7 := hI
      refine fm_ci (va_runV (As := []) (rest := []) ⟨hx, hb, hml, hown, hts⟩ (fc_X12_opens l D ad C nb M hI kc S9 B9 T9 (s9) hTK hms) (cwV 0 hts gX12_one_X12_opens rfl rfl rfl (by decide +kernel) ⟨Nat.le_of_ble_eq_true rfl, Nat.le_of_ble_eq_true rfl⟩) (fm_preV hc hw hS kl_60 sh_60 rfl) rfl rfl hl.1 rfl (lv_room (Nat.le_of_ble_eq_true rfl)) dX12_one_20 ⟨by decide +kernel, by decide +kernel⟩) hS hc (fun r8 M9 H locs hr8 hw hS => ?_)
      obtain ⟨hI, hEM9, hr8⟩ := hr8
      have hE := hE.tr hEM9 (by decide)
      have mM9_60_63 : (M9.1 60 0 63).toInt = (M.1 60 0 63).toInt := by rw [(hEM9 60 0 63 (by decide)).1]
      rcases hr8 with ⟨rfl, ahr8, bhr8, dhr8, mhr8⟩ | ⟨rfl, zhr8, ahr8, bhr8, dhr8, mhr8⟩
      · have ooM9 : (rt_adv T9 (s9)).2 < 0 → (M9.1 60 0 66).toInt = 6 := fun z => by have z9 := hoo z; omega
        refine fx_if_ne (tgt := 28) hx hb dX12_one_23 (by decide) zk_1 (fun c10 => ?_) (fun c10 => by exfalso; omega)
        refine lv_aload_n hx hb dX12_one_28 rfl (lv_at hl 0 rfl) ?_
        have dd11 := hI.bd (k := 0) bd_60_63
        have dd12 := hI.bd (k := 0) bd_60_64
        have dd13 := hI.bd (k := 0) bd_60_65
        have dd14 := hI.bd (k := 0) bd_60_66
        exfalso; omega
      · have ooM9 : (rt_fail S9 (s9)).2 < 0 → (M9.1 60 0 66).toInt = 5 := rt_ms_f0 hms (hJ7.bd (k := 0) bd_60_64).1
        refine fx_if_ne (tgt := 28) hx hb dX12_one_23 (by decide) zk_0 (fun c15 => by exfalso; omega) (fun c15 => ?_)
        refine lv_iconst (v := 0) hx hb dX12_one_26 (by decide) ?_
        exact W.iret (v := 0) hx hb hr (fun t ht hW => ⟨⟨0, M9, rfl, ⟨hI, hE, ⟨by omega, by omega, by omega, rt_fail S9 (s9), (rt_PS_10f (by omega)), mhr8, ooM9⟩⟩, by show fm_at D ad C nb _ t.heap; rw [ht]; exact hw⟩, hS.F ht⟩) hS.2.2 dX12_one_27
    · have sv16 : ¬ T9 (s9).1 = 45 := fun z => chr4 ((rt_is hTK hms rt_cd_45).mpr z)
      refine fx_if_eq (tgt := 46) hx hb dX12_one_16 (by decide) zk_0 (fun c17 => ?_) (fun c17 => by exfalso; omega)
      refine lv_aload_n hx hb dX12_one_46 rfl (lv_at hl 0 rfl) ?_
      obtain ⟨q18, vq18, hQq18, hRq18⟩ := hc.2.2.2.2.1 (RX12, 403, "(", [40]) (by decide)
      refine va_ldcwS hx hb hown hRq18 dX12_one_47 ?_
      refine vp_callSi (va_Run.run (va_runV (As := [.ref q18]) (rest := []) ⟨hx, hb, hml, hown, hts⟩ (fc_X12_is l D ad C nb M hI q18 vq18 1 (fun j => ([40] : List Int32).getD j 0) (by decide) (rt_mto hTK hms) rt_cd_40.2.1) (cwV 1 hts gX12_one_X12_is rfl rfl rfl (by decide +kernel) ⟨Nat.le_of_ble_eq_true rfl, Nat.le_of_ble_eq_true rfl⟩) (fm_preVS hc hw hS hQq18 kl_60 sh_60 rfl) rfl rfl hl.1 rfl (lv_room (Nat.le_of_ble_eq_true rfl)) dX12_one_50 ⟨by decide +kernel, by decide +kernel⟩)) (fun r19 hr19 => ?_)
      rcases hr19 with ⟨rfl, chr19⟩ | ⟨rfl, chr19⟩
      · have sv20 := (rt_is hTK hms rt_cd_40).mp chr19
        refine fx_if_eq (tgt := 97) hx hb dX12_one_53 (by decide) zk_1 (fun c21 => by exfalso; omega) (fun c21 => ?_)
        refine lv_aload_n hx hb dX12_one_56 rfl (lv_at hl 0 rfl) ?_
        have hJ22 := hI
        refine fm_ci (va_runV (As := []) (rest := []) ⟨hx, hb, hml, hown, hts⟩ (fc_X12_opens l D ad C nb M hI kc S9 B9 T9 (s9) hTK hms) (cwV 0 hts gX12_one_X12_opens rfl rfl rfl (by decide +kernel) ⟨Nat.le_of_ble_eq_true rfl, Nat.le_of_ble_eq_true rfl⟩) (fm_preV hc hw hS kl_60 sh_60 rfl) rfl rfl hl.1 rfl (lv_room (Nat.le_of_ble_eq_true rfl)) dX12_one_57 ⟨by decide +kernel, by decide +kernel⟩) hS hc (fun r23 M24 H locs hr23 hw hS => ?_)
        obtain ⟨hI, hEM24, hr23⟩ := hr23
        have hE := hE.tr hEM24 (by decide)
        have mM24_60_63 : (M24.1 60 0 63).toInt = (M.1 60 0 63).toInt := by rw [(hEM24 60 0 63 (by decide)).1]
        rcases hr23 with ⟨rfl, ahr23, bhr23, dhr23, mhr23⟩ | ⟨rfl, zhr23, ahr23, bhr23, dhr23, mhr23⟩
        · have ooM24 : (rt_adv T9 (s9)).2 < 0 → (M24.1 60 0 66).toInt = 6 := fun z => by have z9 := hoo z; omega
          refine fx_if_ne (tgt := 65) hx hb dX12_one_60 (by decide) zk_1 (fun c25 => ?_) (fun c25 => by exfalso; omega)
          refine lv_aload_n hx hb dX12_one_65 rfl (lv_at hl 0 rfl) ?_
          have dd26 := hI.bd (k := 0) bd_60_63
          have dd27 := hI.bd (k := 0) bd_60_64
          have dd28 := hI.bd (k := 0) bd_60_65
          have dd29 := hI.bd (k := 0) bd_60_66
          exfalso; omega
        · have ooM24 : (rt_fail S9 (s9)).2 < 0 → (M24.1 60 0 66).toInt = 5 := rt_ms_f0 hms (hJ22.bd (k := 0) bd_60_64).1
          refine fx_if_ne (tgt := 65) hx hb dX12_one_60 (by decide) zk_0 (fun c30 => by exfalso; omega) (fun c30 => ?_)
          refine lv_iconst (v := 0) hx hb dX12_one_63 (by decide) ?_
          exact W.iret (v := 0) hx hb hr (fun t ht hW => ⟨⟨0, M24, rfl, ⟨hI, hE, ⟨by omega, by omega, by omega, rt_fail S9 (s9), (rt_PS_10f (by omega)), mhr23, ooM24⟩⟩, by show fm_at D ad C nb _ t.heap; rw [ht]; exact hw⟩, hS.F ht⟩) hS.2.2 dX12_one_64
      · have sv31 : ¬ T9 (s9).1 = 40 := fun z => chr19 ((rt_is hTK hms rt_cd_40).mpr z)
        refine fx_if_eq (tgt := 97) hx hb dX12_one_53 (by decide) zk_0 (fun c32 => ?_) (fun c32 => by exfalso; omega)
        refine lv_aload_n hx hb dX12_one_97 rfl (lv_at hl 0 rfl) ?_
        refine lv_aload_n hx hb dX12_one_98 rfl (lv_at hl 0 rfl) ?_
        refine fm_getI (a := 60) (j := 64) (T := TX12) (N := 79) hx hb hts hinX12 hown hc hw hI kl_60 sh_60 rfl (by decide) rfl bd_60_64 (hts (.fieldLink RX12 340 "RedTentModel" "from" "I") (List.mem_cons_of_mem _ tw_5_184)) (fun _ h9 => h9) dX12_one_99 (fun x33 ex33 bx33 => ?_)
        have wx33 : x33.toInt = (M.1 60 0 64).toInt := by rw [ex33]
        refine vp_callSi (va_Run.run (va_runV (As := [.int x33]) (rest := []) ⟨hx, hb, hml, hown, hts⟩ (fc_X12_isDigit l D ad C nb M hI x33 (by omega)) (cwV 1 hts gX12_one_X12_isDigit rfl rfl rfl (by decide +kernel) ⟨Nat.le_of_ble_eq_true rfl, Nat.le_of_ble_eq_true rfl⟩) (fm_preV hc hw hS kl_60 sh_60 rfl) rfl rfl hl.1 rfl (lv_room (Nat.le_of_ble_eq_true rfl)) dX12_one_102 ⟨by decide +kernel, by decide +kernel⟩)) (fun r34 hr34 => ?_)
        have bqq35 := hI.bd (k := 0) bd_60_62
        have bqq36 := hI.bd (k := 0) bd_60_63
        rcases hr34 with ⟨rfl, c37⟩ | ⟨rfl, c37⟩
        · have g38 : x33.toInt = (M.1 60 0 64).toInt := by omega
          rw [g38] at c37
          have gd := rt_isd hTK hms c37
          refine fx_if_eq (tgt := 167) hx hb dX12_one_105 (by decide) zk_1 (fun c39 => by exfalso; omega) (fun c39 => ?_)
          refine lv_aload_n hx hb dX12_one_108 rfl (lv_at hl 0 rfl) ?_
          refine fm_getI (a := 60) (j := 65) (T := TX12) (N := 79) hx hb hts hinX12 hown hc hw hI kl_60 sh_60 rfl (by decide) rfl bd_60_65 (hts (.fieldLink RX12 337 "RedTentModel" "to" "I") (List.mem_cons_of_mem _ tw_5_185)) (fun _ h9 => h9) dX12_one_109 (fun x40 ex40 bx40 => ?_)
          have wx40 : x40.toInt = (M.1 60 0 65).toInt := by rw [ex40]
          refine lv_aload_n hx hb dX12_one_112 rfl (lv_at hl 0 rfl) ?_
          refine fm_getI (a := 60) (j := 64) (T := TX12) (N := 79) hx hb hts hinX12 hown hc hw hI kl_60 sh_60 rfl (by decide) rfl bd_60_64 (hts (.fieldLink RX12 340 "RedTentModel" "from" "I") (List.mem_cons_of_mem _ tw_5_184)) (fun _ h9 => h9) dX12_one_113 (fun x41 ex41 bx41 => ?_)
          have wx41 : x41.toInt = (M.1 60 0 64).toInt := by rw [ex41]
          obtain rfl : x33 = x41 := by rw [ex41]; exact ex33
          refine fx_isub hx hb dX12_one_116 rfl rfl (by omega) (fun y42 ey42 ty42 => ?_)
          refine lv_iconst (v := 4) hx hb dX12_one_117 (by decide) ?_
          refine fx_icmp_le (tgt := 126) hx hb dX12_one_118 (by decide) rfl zk_4 (fun c43 => ?_) (fun c43 => ?_)
          · refine lv_iconst (v := 0) hx hb dX12_one_126 (by decide) ?_
            refine lv_istore_n (lv' := [(1, .int 0), (0, .ref (ad 60 0))]) hx hb dX12_one_127 rfl hl (by decide) rfl (fun ls hl => ?_)
            refine lv_aload_n hx hb dX12_one_128 rfl (lv_at hl 1 rfl) ?_
            refine fm_getI (a := 60) (j := 64) (T := TX12) (N := 79) hx hb hts hinX12 hown hc hw hI kl_60 sh_60 rfl (by decide) rfl bd_60_64 (hts (.fieldLink RX12 340 "RedTentModel" "from" "I") (List.mem_cons_of_mem _ tw_5_184)) (fun _ h9 => h9) dX12_one_129 (fun x44 ex44 bx44 => ?_)
            have wx44 : x44.toInt = (M.1 60 0 64).toInt := by rw [ex44]
            obtain rfl : x33 = x44 := by rw [ex44]; exact ex33
            refine lv_istore_n (lv' := [(2, .int x33), (1, .int 0), (0, .ref (ad 60 0))]) hx hb dX12_one_132 rfl hl (by decide) rfl (fun ls hl => ?_)
            have lp : ∀ (n_lp : Nat) (lp_2 : Int32) (lp_1 : Int32), (160 - lp_2.toInt).toNat < n_lp → (0 ≤ lp_2.toInt ∧ lp_2.toInt ≤ 160) → ∀ (ls : Array Slot), lv_has ls 3 [(2, .int lp_2), (1, .int lp_1), (0, .ref (ad 60 0))] → W p l e (headSpec wsX12_one ({ frames := 5, cells := 0, slots := 0, locals := 108 })).room s m ([.ref (ad 60 0)] : List Value).toArray below meth c s.heap [] 0 0 (MQ below (va_Qi (fun (r : Int32) (u : fm_M) => fm_I nb ad u ∧ fm_same [60064, 60065, 60066, 60067] M u ∧ ((M.1 60 0 64).toInt ≤ (u.1 60 0 64).toInt ∧ (M.1 60 0 66).toInt ≤ (u.1 60 0 66).toInt ∧ (u.1 60 0 64).toInt ≤ (u.1 60 0 65).toInt ∧ ∃ s8 : Nat × Int, rt_PS T9 S9 10 5 s9 s8 ∧ rt_ms kc S9 B9 u s8 ∧ (s8.2 < 0 → (u.1 60 0 66).toInt = 5))) (fun u t => fm_at D ad C nb u t.heap) (fm_A nb ad)) ([.ref (ad 60 0)] : List Value).toArray s 0 0 (fm_A nb ad)) (F0 m 133 ls []) := by
              intro n_lp
              induction n_lp with
              | zero => intro lp_2 lp_1 hm_lp b_lp_2 ls hl; exact absurd hm_lp (Nat.not_lt_zero _)
              | succ n_lp ih_lp =>
                intro lp_2 lp_1 hm_lp b_lp_2 ls hl
                refine lv_iload_n hx hb dX12_one_133 rfl (lv_at hl 0 rfl) ?_
                refine lv_aload_n hx hb dX12_one_134 rfl (lv_at hl 2 rfl) ?_
                refine fm_getI (a := 60) (j := 65) (T := TX12) (N := 79) hx hb hts hinX12 hown hc hw hI kl_60 sh_60 rfl (by decide) rfl bd_60_65 (hts (.fieldLink RX12 337 "RedTentModel" "to" "I") (List.mem_cons_of_mem _ tw_5_185)) (fun _ h9 => h9) dX12_one_135 (fun x45 ex45 bx45 => ?_)
                have wx45 : x45.toInt = (M.1 60 0 65).toInt := by rw [ex45]
                obtain rfl : x40 = x45 := by rw [ex45]; exact ex40
                refine fx_icmp_ge (tgt := 161) hx hb dX12_one_138 (by decide) rfl rfl (fun c46 => ?_) (fun c46 => ?_)
                · refine lv_aload_n hx hb dX12_one_161 rfl (lv_at hl 2 rfl) ?_
                  refine fm_cv (va_runV (As := []) (rest := []) ⟨hx, hb, hml, hown, hts⟩ (fc_X12_next l D ad C nb M hI (rt_mto hTK hms)) (cwV 0 hts gX12_one_X12_next rfl rfl rfl (by decide +kernel) ⟨Nat.le_of_ble_eq_true rfl, Nat.le_of_ble_eq_true rfl⟩) (fm_preV hc hw hS kl_60 sh_60 rfl) rfl rfl hl.1 rfl (lv_room (Nat.le_of_ble_eq_true rfl)) dX12_one_162 ⟨by decide +kernel, by decide +kernel⟩) hS hc (fun M48 H locs hr47 hw hS => ?_)
                  obtain ⟨hI, hEM48, hr47⟩ := hr47
                  have hE := hE.tr hEM48 (by decide)
                  have mM48_60_63 : (M48.1 60 0 63).toInt = (M.1 60 0 63).toInt := by rw [(hEM48 60 0 63 (by decide)).1]
                  have mM48_60_66 : (M48.1 60 0 66).toInt = (M.1 60 0 66).toInt := by rw [(hEM48 60 0 66 (by decide)).1]
                  obtain ⟨ahr47, bhr47, nhr47⟩ := hr47
                  have mhr47 := rt_ms_next hTK hms nhr47 (hEM48 60 0 67 (by decide)).1
                  have ooM48 : (rt_adv T9 (s9)).2 < 0 → (M48.1 60 0 66).toInt = 5 := fun z => by have z9 := hoo z; omega
                  refine lv_iload_n hx hb dX12_one_165 rfl (lv_at hl 1 rfl) ?_
                  have qx33 : x33.toInt = (M.1 60 0 64).toInt := by rw [ex33]
                  exact W.iret (v := lp_1) hx hb hr (fun t ht hW => ⟨⟨lp_1, M48, rfl, ⟨hI, hE, ⟨by omega, by omega, by omega, rt_adv T9 (s9), (rt_PS_10v ⟨hs0, Or.inl (gd.1 (by omega))⟩), mhr47, ooM48⟩⟩, by show fm_at D ad C nb _ t.heap; rw [ht]; exact hw⟩, hS.F ht⟩) hS.2.2 dX12_one_166
                · refine lv_bipush (v := 10) hx hb dX12_one_141 (by decide) ?_
                  refine lv_iload_n hx hb dX12_one_143 rfl (lv_at hl 1 rfl) ?_
                  refine fx_imulU hx hb dX12_one_144 (fun y49 ey49 => ?_)
                  refine lv_aload_n hx hb dX12_one_145 rfl (lv_at hl 2 rfl) ?_
                  refine lv_iload_n hx hb dX12_one_146 rfl (lv_at hl 0 rfl) ?_
                  refine vp_callSi (va_Run.run (va_runV (As := [.int lp_2]) (rest := [.int y49]) ⟨hx, hb, hml, hown, hts⟩ (fc_X12_byteAt l D ad C nb M hI lp_2 (by omega)) (cwV 1 hts gX12_one_X12_byteAt rfl rfl rfl (by decide +kernel) ⟨Nat.le_of_ble_eq_true rfl, Nat.le_of_ble_eq_true rfl⟩) (fm_preV hc hw hS kl_60 sh_60 rfl) rfl rfl hl.1 rfl (lv_room (Nat.le_of_ble_eq_true rfl)) dX12_one_147 ⟨by decide +kernel, by decide +kernel⟩)) (fun r50 hr50 => ?_)
                  refine fx_iaddU hx hb dX12_one_150 (fun y51 ey51 => ?_)
                  refine lv_bipush (v := 48) hx hb dX12_one_151 (by decide) ?_
                  refine fx_isubU hx hb dX12_one_153 (fun y52 ey52 => ?_)
                  refine lv_istore_n (lv' := [(1, .int y52), (2, .int lp_2), (0, .ref (ad 60 0))]) hx hb dX12_one_154 rfl hl (by decide) rfl (fun ls hl => ?_)
                  obtain ⟨y53, ey53⟩ : ∃ y : Int32, y = lp_2 + 1 := ⟨_, rfl⟩
                  have ty53 : y53.toInt = lp_2.toInt + 1 := by rw [ey53, zi_add _ _ (by rw [zk_1]; omega) (by rw [zk_1]; omega), zk_1]
                  refine lv_iinc (v := y53) (lv' := [(2, .int y53), (1, .int y52), (0, .ref (ad 60 0))]) hx hb dX12_one_155 hl (k := 1) rfl (by rw [ey53]; rfl) (by decide) rfl (fun ls hl => ?_)
                  refine lv_goto (tgt := 133) hx hb dX12_one_158 (by decide) ?_
                  exact ih_lp y53 y52 (by omega) (by omega) ls (lv_sub hl [0, 1, 2] rfl)
            exact lp _ x33 0 (Nat.lt_succ_self _) (by omega) ls (lv_sub hl [0, 1, 2] rfl)
          · have ge := gd.2 (by omega)
            refine lv_aload_n hx hb dX12_one_121 rfl (lv_at hl 0 rfl) ?_
            have hJ54 := hI
            refine fm_ci (va_runV (As := []) (rest := []) ⟨hx, hb, hml, hown, hts⟩ (fc_X12_wrong l D ad C nb M hI kc S9 B9 (s9) hms) (cwV 0 hts gX12_one_X12_wrong rfl rfl rfl (by decide +kernel) ⟨Nat.le_of_ble_eq_true rfl, Nat.le_of_ble_eq_true rfl⟩) (fm_preV hc hw hS kl_60 sh_60 rfl) rfl rfl hl.1 rfl (lv_room (Nat.le_of_ble_eq_true rfl)) dX12_one_122 ⟨by decide +kernel, by decide +kernel⟩) hS hc (fun r55 M56 H locs hr55 hw hS => ?_)
            obtain ⟨hI, hEM56, hr55⟩ := hr55
            have hE := hE.tr hEM56 (by decide)
            have mM56_60_63 : (M56.1 60 0 63).toInt = (M.1 60 0 63).toInt := by rw [(hEM56 60 0 63 (by decide)).1]
            have mM56_60_64 : (M56.1 60 0 64).toInt = (M.1 60 0 64).toInt := by rw [(hEM56 60 0 64 (by decide)).1]
            have mM56_60_65 : (M56.1 60 0 65).toInt = (M.1 60 0 65).toInt := by rw [(hEM56 60 0 65 (by decide)).1]
            have mM56_60_66 : (M56.1 60 0 66).toInt = (M.1 60 0 66).toInt := by rw [(hEM56 60 0 66 (by decide)).1]
            obtain ⟨bhr55, mhr55⟩ := hr55
            have ooM56 : (rt_fail S9 (s9)).2 < 0 → (M56.1 60 0 66).toInt = 5 := rt_ms_f0 hms (hJ54.bd (k := 0) bd_60_64).1
            have qx33 : x33.toInt = (M.1 60 0 64).toInt := by rw [ex33]
            exact W.iret (v := r55) hx hb hr (fun t ht hW => ⟨⟨r55, M56, rfl, ⟨hI, hE, ⟨by omega, by omega, by omega, rt_fail S9 (s9), (rt_PS_10f (by omega)), mhr55, ooM56⟩⟩, by show fm_at D ad C nb _ t.heap; rw [ht]; exact hw⟩, hS.F ht⟩) hS.2.2 dX12_one_125
        · have g57 : x33.toInt = (M.1 60 0 64).toInt := by omega
          rw [g57] at c37
          have gd := rt_isn hTK hms c37
          refine fx_if_eq (tgt := 167) hx hb dX12_one_105 (by decide) zk_0 (fun c58 => ?_) (fun c58 => by exfalso; omega)
          have jt : ∀ (jt_1 : Int32), ((-1) ≤ jt_1.toInt ∧ jt_1.toInt ≤ 5) → ((jt_1.toInt < 0 ∧ ¬ (0 < T9 s9.1 ∧ T9 s9.1 ≤ 6)) ∨ (0 ≤ jt_1.toInt ∧ 0 < T9 s9.1 ∧ T9 s9.1 ≤ 6)) → ∀ (ls : Array Slot), lv_has ls 3 [(0, .ref (ad 60 0)), (1, .int jt_1)] → W p l e (headSpec wsX12_one ({ frames := 5, cells := 0, slots := 0, locals := 108 })).room s m ([.ref (ad 60 0)] : List Value).toArray below meth c s.heap [] 0 0 (MQ below (va_Qi (fun (r : Int32) (u : fm_M) => fm_I nb ad u ∧ fm_same [60064, 60065, 60066, 60067] M u ∧ ((M.1 60 0 64).toInt ≤ (u.1 60 0 64).toInt ∧ (M.1 60 0 66).toInt ≤ (u.1 60 0 66).toInt ∧ (u.1 60 0 64).toInt ≤ (u.1 60 0 65).toInt ∧ ∃ s8 : Nat × Int, rt_PS T9 S9 10 5 s9 s8 ∧ rt_ms kc S9 B9 u s8 ∧ (s8.2 < 0 → (u.1 60 0 66).toInt = 5))) (fun u t => fm_at D ad C nb u t.heap) (fm_A nb ad)) ([.ref (ad 60 0)] : List Value).toArray s 0 0 (fm_A nb ad)) (F0 m 253 ls []) := by
            intro jt_1 b_jt_1 hj ls hl
            refine lv_iload_n hx hb dX12_one_253 rfl (lv_at hl 1 rfl) ?_
            refine fx_if_ge (tgt := 262) hx hb dX12_one_254 (by decide) rfl (fun c59 => ?_) (fun c59 => ?_)
            · refine lv_aload_n hx hb dX12_one_262 rfl (lv_at hl 0 rfl) ?_
              refine fm_cv (va_runV (As := []) (rest := []) ⟨hx, hb, hml, hown, hts⟩ (fc_X12_next l D ad C nb M hI (rt_mto hTK hms)) (cwV 0 hts gX12_one_X12_next rfl rfl rfl (by decide +kernel) ⟨Nat.le_of_ble_eq_true rfl, Nat.le_of_ble_eq_true rfl⟩) (fm_preV hc hw hS kl_60 sh_60 rfl) rfl rfl hl.1 rfl (lv_room (Nat.le_of_ble_eq_true rfl)) dX12_one_263 ⟨by decide +kernel, by decide +kernel⟩) hS hc (fun M61 H locs hr60 hw hS => ?_)
              obtain ⟨hI, hEM61, hr60⟩ := hr60
              have hE := hE.tr hEM61 (by decide)
              have mM61_60_63 : (M61.1 60 0 63).toInt = (M.1 60 0 63).toInt := by rw [(hEM61 60 0 63 (by decide)).1]
              have mM61_60_66 : (M61.1 60 0 66).toInt = (M.1 60 0 66).toInt := by rw [(hEM61 60 0 66 (by decide)).1]
              obtain ⟨ahr60, bhr60, nhr60⟩ := hr60
              have mhr60 := rt_ms_next hTK hms nhr60 (hEM61 60 0 67 (by decide)).1
              have ooM61 : (rt_adv T9 (s9)).2 < 0 → (M61.1 60 0 66).toInt = 5 := fun z => by have z9 := hoo z; omega
              refine lv_aload_n hx hb dX12_one_266 rfl (lv_at hl 0 rfl) ?_
              refine fm_getG (a := 60) (j := 68) (T := TX12) (N := 79) hx hb hts hinX12 hown hc hw kl_60 sh_60 rfl (by decide) rfl (hI.to kl_60 tg_60_68) (hts (.fieldLink RX12 143 "RedTentModel" "names" "[I") (List.mem_cons_of_mem _ tw_5_188)) (fun _ h9 => h9) dX12_one_267 ?_
              refine lv_iload_n hx hb dX12_one_270 rfl (lv_at hl 1 rfl) ?_
              refine fm_iald (a := 168) hx hb hc hw hI kl_168 sh_168 ty_168 bd_168 (by omega) dX12_one_271 (fun x62 ex62 bx62 => ?_)
              have qx33 : x33.toInt = (M.1 60 0 64).toInt := by rw [ex33]
              exact W.iret (v := x62) hx hb hr (fun t ht hW => ⟨⟨x62, M61, rfl, ⟨hI, hE, ⟨by omega, by omega, by omega, rt_adv T9 (s9), (rt_PS_10v ⟨hs0, Or.inr (by rcases hj with ⟨hj, _⟩ | ⟨_, hj⟩; exfalso; omega; exact hj)⟩), mhr60, ooM61⟩⟩, by show fm_at D ad C nb _ t.heap; rw [ht]; exact hw⟩, hS.F ht⟩) hS.2.2 dX12_one_272
            · refine lv_aload_n hx hb dX12_one_257 rfl (lv_at hl 0 rfl) ?_
              have hJ63 := hI
              refine fm_ci (va_runV (As := []) (rest := []) ⟨hx, hb, hml, hown, hts⟩ (fc_X12_wrong l D ad C nb M hI kc S9 B9 (s9) hms) (cwV 0 hts gX12_one_X12_wrong rfl rfl rfl (by decide +kernel) ⟨Nat.le_of_ble_eq_true rfl, Nat.le_of_ble_eq_true rfl⟩) (fm_preV hc hw hS kl_60 sh_60 rfl) rfl rfl hl.1 rfl (lv_room (Nat.le_of_ble_eq_true rfl)) dX12_one_258 ⟨by decide +kernel, by decide +kernel⟩) hS hc (fun r64 M65 H locs hr64 hw hS => ?_)
              obtain ⟨hI, hEM65, hr64⟩ := hr64
              have hE := hE.tr hEM65 (by decide)
              have mM65_60_63 : (M65.1 60 0 63).toInt = (M.1 60 0 63).toInt := by rw [(hEM65 60 0 63 (by decide)).1]
              have mM65_60_64 : (M65.1 60 0 64).toInt = (M.1 60 0 64).toInt := by rw [(hEM65 60 0 64 (by decide)).1]
              have mM65_60_65 : (M65.1 60 0 65).toInt = (M.1 60 0 65).toInt := by rw [(hEM65 60 0 65 (by decide)).1]
              have mM65_60_66 : (M65.1 60 0 66).toInt = (M.1 60 0 66).toInt := by rw [(hEM65 60 0 66 (by decide)).1]
              obtain ⟨bhr64, mhr64⟩ := hr64
              have ooM65 : (rt_fail S9 (s9)).2 < 0 → (M65.1 60 0 66).toInt = 5 := rt_ms_f0 hms (hJ63.bd (k := 0) bd_60_64).1
              have qx33 : x33.toInt = (M.1 60 0 64).toInt := by rw [ex33]
              exact W.iret (v := r64) hx hb hr (fun t ht hW => ⟨⟨r64, M65, rfl, ⟨hI, hE, ⟨by omega, by omega, by omega, rt_fail S9 (s9), (rt_PS_10f (by rcases hj with ⟨_, hj⟩ | ⟨hj, _⟩ <;> omega)), mhr64, ooM65⟩⟩, by show fm_at D ad C nb _ t.heap; rw [ht]; exact hw⟩, hS.F ht⟩) hS.2.2 dX12_one_261
          refine lv_aload_n hx hb dX12_one_167 rfl (lv_at hl 0 rfl) ?_
          obtain ⟨q66, vq66, hQq66, hRq66⟩ := hc.2.2.2.2.1 (RX12, 410, "strength", [115, 116, 114, 101, 110, 103, 116, 104]) (by decide)
          refine va_ldcwS hx hb hown hRq66 dX12_one_168 ?_
          refine vp_callSi (va_Run.run (va_runV (As := [.ref q66]) (rest := []) ⟨hx, hb, hml, hown, hts⟩ (fc_X12_is l D ad C nb M hI q66 vq66 8 (fun j => ([115, 116, 114, 101, 110, 103, 116, 104] : List Int32).getD j 0) (by decide) (rt_mto hTK hms) rt_cd_1.2.1) (cwV 1 hts gX12_one_X12_is rfl rfl rfl (by decide +kernel) ⟨Nat.le_of_ble_eq_true rfl, Nat.le_of_ble_eq_true rfl⟩) (fm_preVS hc hw hS hQq66 kl_60 sh_60 rfl) rfl rfl hl.1 rfl (lv_room (Nat.le_of_ble_eq_true rfl)) dX12_one_171 ⟨by decide +kernel, by decide +kernel⟩)) (fun r67 hr67 => ?_)
          rcases hr67 with ⟨rfl, chr67⟩ | ⟨rfl, chr67⟩
          · have sv68 := (rt_is hTK hms rt_cd_1).mp chr67
            refine fx_if_eq (tgt := 181) hx hb dX12_one_174 (by decide) zk_1 (fun c69 => by exfalso; omega) (fun c69 => ?_)
            refine lv_iconst (v := 0) hx hb dX12_one_177 (by decide) ?_
            refine lv_goto (tgt := 252) hx hb dX12_one_178 (by decide) ?_
            refine lv_istore_n (lv' := [(1, .int 0), (0, .ref (ad 60 0))]) hx hb dX12_one_252 rfl hl (by decide) rfl (fun ls hl => ?_)
            exact jt 0 (by decide) (Or.inr ⟨by decide, by omega⟩) ls (lv_sub hl [1, 0] rfl)
          · have sv70 : ¬ T9 (s9).1 = 1 := fun z => chr67 ((rt_is hTK hms rt_cd_1).mpr z)
            refine fx_if_eq (tgt := 181) hx hb dX12_one_174 (by decide) zk_0 (fun c71 => ?_) (fun c71 => by exfalso; omega)
            refine lv_aload_n hx hb dX12_one_181 rfl (lv_at hl 0 rfl) ?_
            obtain ⟨q72, vq72, hQq72, hRq72⟩ := hc.2.2.2.2.1 (RX12, 411, "hurt", [104, 117, 114, 116]) (by decide)
            refine va_ldcwS hx hb hown hRq72 dX12_one_182 ?_
            refine vp_callSi (va_Run.run (va_runV (As := [.ref q72]) (rest := []) ⟨hx, hb, hml, hown, hts⟩ (fc_X12_is l D ad C nb M hI q72 vq72 4 (fun j => ([104, 117, 114, 116] : List Int32).getD j 0) (by decide) (rt_mto hTK hms) rt_cd_2.2.1) (cwV 1 hts gX12_one_X12_is rfl rfl rfl (by decide +kernel) ⟨Nat.le_of_ble_eq_true rfl, Nat.le_of_ble_eq_true rfl⟩) (fm_preVS hc hw hS hQq72 kl_60 sh_60 rfl) rfl rfl hl.1 rfl (lv_room (Nat.le_of_ble_eq_true rfl)) dX12_one_185 ⟨by decide +kernel, by decide +kernel⟩)) (fun r73 hr73 => ?_)
            rcases hr73 with ⟨rfl, chr73⟩ | ⟨rfl, chr73⟩
            · have sv74 := (rt_is hTK hms rt_cd_2).mp chr73
              refine fx_if_eq (tgt := 195) hx hb dX12_one_188 (by decide) zk_1 (fun c75 => by exfalso; omega) (fun c75 => ?_)
              refine lv_iconst (v := 1) hx hb dX12_one_191 (by decide) ?_
              refine lv_goto (tgt := 252) hx hb dX12_one_192 (by decide) ?_
              refine lv_istore_n (lv' := [(1, .int 1), (0, .ref (ad 60 0))]) hx hb dX12_one_252 rfl hl (by decide) rfl (fun ls hl => ?_)
              exact jt 1 (by decide) (Or.inr ⟨by decide, by omega⟩) ls (lv_sub hl [1, 0] rfl)
            · have sv76 : ¬ T9 (s9).1 = 2 := fun z => chr73 ((rt_is hTK hms rt_cd_2).mpr z)
              refine fx_if_eq (tgt := 195) hx hb dX12_one_188 (by decide) zk_0 (fun c77 => ?_) (fun c77 => by exfalso; omega)
              refine lv_aload_n hx hb dX12_one_195 rfl (lv_at hl 0 rfl) ?_
              obtain ⟨q78, vq78, hQq78, hRq78⟩ := hc.2.2.2.2.1 (RX12, 412, "skill", [115, 107, 105, 108, 108]) (by decide)
              refine va_ldcwS hx hb hown hRq78 dX12_one_196 ?_
              refine vp_callSi (va_Run.run (va_runV (As := [.ref q78]) (rest := []) ⟨hx, hb, hml, hown, hts⟩ (fc_X12_is l D ad C nb M hI q78 vq78 5 (fun j => ([115, 107, 105, 108, 108] : List Int32).getD j 0) (by decide) (rt_mto hTK hms) rt_cd_3.2.1) (cwV 1 hts gX12_one_X12_is rfl rfl rfl (by decide +kernel) ⟨Nat.le_of_ble_eq_true rfl, Nat.le_of_ble_eq_true rfl⟩) (fm_preVS hc hw hS hQq78 kl_60 sh_60 rfl) rfl rfl hl.1 rfl (lv_room (Nat.le_of_ble_eq_true rfl)) dX12_one_199 ⟨by decide +kernel, by decide +kernel⟩)) (fun r79 hr79 => ?_)
              rcases hr79 with ⟨rfl, chr79⟩ | ⟨rfl, chr79⟩
              · have sv80 := (rt_is hTK hms rt_cd_3).mp chr79
                refine fx_if_eq (tgt := 209) hx hb dX12_one_202 (by decide) zk_1 (fun c81 => by exfalso; omega) (fun c81 => ?_)
                refine lv_iconst (v := 2) hx hb dX12_one_205 (by decide) ?_
                refine lv_goto (tgt := 252) hx hb dX12_one_206 (by decide) ?_
                refine lv_istore_n (lv' := [(1, .int 2), (0, .ref (ad 60 0))]) hx hb dX12_one_252 rfl hl (by decide) rfl (fun ls hl => ?_)
                exact jt 2 (by decide) (Or.inr ⟨by decide, by omega⟩) ls (lv_sub hl [1, 0] rfl)
              · have sv82 : ¬ T9 (s9).1 = 3 := fun z => chr79 ((rt_is hTK hms rt_cd_3).mpr z)
                refine fx_if_eq (tgt := 209) hx hb dX12_one_202 (by decide) zk_0 (fun c83 => ?_) (fun c83 => by exfalso; omega)
                refine lv_aload_n hx hb dX12_one_209 rfl (lv_at hl 0 rfl) ?_
                obtain ⟨q84, vq84, hQq84, hRq84⟩ := hc.2.2.2.2.1 (RX12, 413, "hour", [104, 111, 117, 114]) (by decide)
                refine va_ldcwS hx hb hown hRq84 dX12_one_210 ?_
                refine vp_callSi (va_Run.run (va_runV (As := [.ref q84]) (rest := []) ⟨hx, hb, hml, hown, hts⟩ (fc_X12_is l D ad C nb M hI q84 vq84 4 (fun j => ([104, 111, 117, 114] : List Int32).getD j 0) (by decide) (rt_mto hTK hms) rt_cd_4.2.1) (cwV 1 hts gX12_one_X12_is rfl rfl rfl (by decide +kernel) ⟨Nat.le_of_ble_eq_true rfl, Nat.le_of_ble_eq_true rfl⟩) (fm_preVS hc hw hS hQq84 kl_60 sh_60 rfl) rfl rfl hl.1 rfl (lv_room (Nat.le_of_ble_eq_true rfl)) dX12_one_213 ⟨by decide +kernel, by decide +kernel⟩)) (fun r85 hr85 => ?_)
                rcases hr85 with ⟨rfl, chr85⟩ | ⟨rfl, chr85⟩
                · have sv86 := (rt_is hTK hms rt_cd_4).mp chr85
                  refine fx_if_eq (tgt := 223) hx hb dX12_one_216 (by decide) zk_1 (fun c87 => by exfalso; omega) (fun c87 => ?_)
                  refine lv_iconst (v := 3) hx hb dX12_one_219 (by decide) ?_
                  refine lv_goto (tgt := 252) hx hb dX12_one_220 (by decide) ?_
                  refine lv_istore_n (lv' := [(1, .int 3), (0, .ref (ad 60 0))]) hx hb dX12_one_252 rfl hl (by decide) rfl (fun ls hl => ?_)
                  exact jt 3 (by decide) (Or.inr ⟨by decide, by omega⟩) ls (lv_sub hl [1, 0] rfl)
                · have sv88 : ¬ T9 (s9).1 = 4 := fun z => chr85 ((rt_is hTK hms rt_cd_4).mpr z)
                  refine fx_if_eq (tgt := 223) hx hb dX12_one_216 (by decide) zk_0 (fun c89 => ?_) (fun c89 => by exfalso; omega)
                  refine lv_aload_n hx hb dX12_one_223 rfl (lv_at hl 0 rfl) ?_
                  obtain ⟨q90, vq90, hQq90, hRq90⟩ := hc.2.2.2.2.1 (RX12, 414, "fuel", [102, 117, 101, 108]) (by decide)
                  refine va_ldcwS hx hb hown hRq90 dX12_one_224 ?_
                  refine vp_callSi (va_Run.run (va_runV (As := [.ref q90]) (rest := []) ⟨hx, hb, hml, hown, hts⟩ (fc_X12_is l D ad C nb M hI q90 vq90 4 (fun j => ([102, 117, 101, 108] : List Int32).getD j 0) (by decide) (rt_mto hTK hms) rt_cd_5.2.1) (cwV 1 hts gX12_one_X12_is rfl rfl rfl (by decide +kernel) ⟨Nat.le_of_ble_eq_true rfl, Nat.le_of_ble_eq_true rfl⟩) (fm_preVS hc hw hS hQq90 kl_60 sh_60 rfl) rfl rfl hl.1 rfl (lv_room (Nat.le_of_ble_eq_true rfl)) dX12_one_227 ⟨by decide +kernel, by decide +kernel⟩)) (fun r91 hr91 => ?_)
                  rcases hr91 with ⟨rfl, chr91⟩ | ⟨rfl, chr91⟩
                  · have sv92 := (rt_is hTK hms rt_cd_5).mp chr91
                    refine fx_if_eq (tgt := 237) hx hb dX12_one_230 (by decide) zk_1 (fun c93 => by exfalso; omega) (fun c93 => ?_)
                    refine lv_iconst (v := 4) hx hb dX12_one_233 (by decide) ?_
                    refine lv_goto (tgt := 252) hx hb dX12_one_234 (by decide) ?_
                    refine lv_istore_n (lv' := [(1, .int 4), (0, .ref (ad 60 0))]) hx hb dX12_one_252 rfl hl (by decide) rfl (fun ls hl => ?_)
                    exact jt 4 (by decide) (Or.inr ⟨by decide, by omega⟩) ls (lv_sub hl [1, 0] rfl)
                  · have sv94 : ¬ T9 (s9).1 = 5 := fun z => chr91 ((rt_is hTK hms rt_cd_5).mpr z)
                    refine fx_if_eq (tgt := 237) hx hb dX12_one_230 (by decide) zk_0 (fun c95 => ?_) (fun c95 => by exfalso; omega)
                    refine lv_aload_n hx hb dX12_one_237 rfl (lv_at hl 0 rfl) ?_
                    obtain ⟨q96, vq96, hQq96, hRq96⟩ := hc.2.2.2.2.1 (RX12, 415, "far", [102, 97, 114]) (by decide)
                    refine va_ldcwS hx hb hown hRq96 dX12_one_238 ?_
                    refine vp_callSi (va_Run.run (va_runV (As := [.ref q96]) (rest := []) ⟨hx, hb, hml, hown, hts⟩ (fc_X12_is l D ad C nb M hI q96 vq96 3 (fun j => ([102, 97, 114] : List Int32).getD j 0) (by decide) (rt_mto hTK hms) rt_cd_6.2.1) (cwV 1 hts gX12_one_X12_is rfl rfl rfl (by decide +kernel) ⟨Nat.le_of_ble_eq_true rfl, Nat.le_of_ble_eq_true rfl⟩) (fm_preVS hc hw hS hQq96 kl_60 sh_60 rfl) rfl rfl hl.1 rfl (lv_room (Nat.le_of_ble_eq_true rfl)) dX12_one_241 ⟨by decide +kernel, by decide +kernel⟩)) (fun r97 hr97 => ?_)
                    rcases hr97 with ⟨rfl, chr97⟩ | ⟨rfl, chr97⟩
                    · have sv98 := (rt_is hTK hms rt_cd_6).mp chr97
                      refine fx_if_eq (tgt := 251) hx hb dX12_one_244 (by decide) zk_1 (fun c99 => by exfalso; omega) (fun c99 => ?_)
                      refine lv_iconst (v := 5) hx hb dX12_one_247 (by decide) ?_
                      refine lv_goto (tgt := 252) hx hb dX12_one_248 (by decide) ?_
                      refine lv_istore_n (lv' := [(1, .int 5), (0, .ref (ad 60 0))]) hx hb dX12_one_252 rfl hl (by decide) rfl (fun ls hl => ?_)
                      exact jt 5 (by decide) (Or.inr ⟨by decide, by omega⟩) ls (lv_sub hl [1, 0] rfl)
                    · have sv100 : ¬ T9 (s9).1 = 6 := fun z => chr97 ((rt_is hTK hms rt_cd_6).mpr z)
                      refine fx_if_eq (tgt := 251) hx hb dX12_one_244 (by decide) zk_0 (fun c101 => ?_) (fun c101 => by exfalso; omega)
                      refine lv_iconst (v := (-1)) hx hb dX12_one_251 (by decide) ?_
                      refine lv_istore_n (lv' := [(1, .int (-1)), (0, .ref (ad 60 0))]) hx hb dX12_one_252 rfl hl (by decide) rfl (fun ls hl => ?_)
                      exact jt (-1) (by decide) (Or.inl ⟨by decide, by omega⟩) ls (lv_sub hl [1, 0] rfl)
  · refine lv_iconst (v := 0) hx hb dX12_one_7 (by decide) ?_
    exact W.iret (v := 0) hx hb hr (fun t ht hW => ⟨⟨0, M, rfl, ⟨hI, hE, ⟨by omega, by omega, by omega, s9, (rt_PS_id (by rw [← hms.2.2.2, ← ex1]; omega) (by decide)), hms, hoo⟩⟩, by show fm_at D ad C nb _ t.heap; rw [ht]; exact hw⟩, hS.F ht⟩) hS.2.2 dX12_one_8
set_option maxHeartbeats 400000 in
set_option maxRecDepth 20000 in
theorem fc_X12_product_5 (l : Launch) (D : va_G) (ad : Nat → Nat → Nat) (C : Nat → Nat → ClassId) (nb : Nat) (M : fm_M) (hI : fm_I nb ad M) (kc : Nat) (S9 B9 T9 : Nat → Int) (s9 : Nat × Int) (hft : (M.1 60 0 64).toInt ≤ (M.1 60 0 65).toInt) (hop : 5 ≤ (M.1 60 0 66).toInt) (hTK : rt_TM M kc S9 B9 T9) (hms : rt_ms kc S9 B9 M s9) (hoo : s9.2 < 0 → (M.1 60 0 66).toInt = 5) : Met l yX12_product wsX12_product ({ frames := 6, cells := 0, slots := 0, locals := 130 }) (va_Pc [.ref (ad 60 0)] (fm_P D ad C nb M)) (va_Qi (fun (r : Int32) (u : fm_M) => fm_I nb ad u ∧ fm_same [60064, 60065, 60066, 60067] M u ∧ ((M.1 60 0 64).toInt ≤ (u.1 60 0 64).toInt ∧ (M.1 60 0 66).toInt ≤ (u.1 60 0 66).toInt ∧ (u.1 60 0 64).toInt ≤ (u.1 60 0 65).toInt ∧ ∃ s8 : Nat × Int, rt_PS T9 S9 8 5 s9 s8 ∧ rt_ms kc S9 B9 u s8 ∧ (s8.2 < 0 → (u.1 60 0 66).toInt = 5))) (fun u t => fm_at D ad C nb u t.heap) (fm_A nb ad)) 0 0 (fm_A nb ad) := by
  refine Met.ofW (cc := cX12_product) (maxL := 2) (ret := (some .int)) (by decide) rfl ?_
  intro p e s m args below meth c s₁ B hml hv
  obtain ⟨rfl, hw, hc⟩ := hv
  have hx := B.exec
  have hb := B.bytes
  have hr := B.returns
  have hts := atoms_spec (ws := wsX12_product) B.pre
  have hown : s.vm.findClass RX12 = some m.cls := findClass_of_methodNamed B.named
  have hS : va_S (fm_A nb ad) s.heap s.heap [] := va_S.rf
  have hE : fm_same [60064, 60065, 60066, 60067] M M := fm_same.rf
  have hl := lv_entry ([.ref (ad 60 0)]) (n := 2) (Nat.le_of_ble_eq_true rfl)
  rw [lg_entry_eq]
  generalize (lg_sl ([.ref (ad 60 0)]) ++ List.replicate (2 - (lg_sl ([.ref (ad 60 0)])).length) Slot.unset).toArray = ls at hl ⊢
  have hl : lv_has ls 2 [(0, .ref (ad 60 0))] := hl
  refine lv_aload_n hx hb dX12_product_0 rfl (lv_at hl 0 rfl) ?_
  have d1_63 := hI.bd (k := 0) bd_60_63
  have d1_64 := hI.bd (k := 0) bd_60_64
  have d1_65 := hI.bd (k := 0) bd_60_65
  have d1_66 := hI.bd (k := 0) bd_60_66
  refine fm_ci (va_runV (As := []) (rest := []) ⟨hx, hb, hml, hown, hts⟩ (fc_X12_one_5 l D ad C nb M hI kc S9 B9 T9 (s9) (by omega) (by omega) hTK hms hoo) (cwV 0 hts gX12_product_X12_one rfl rfl rfl (by decide +kernel) ⟨Nat.le_of_ble_eq_true rfl, Nat.le_of_ble_eq_true rfl⟩) (fm_preV hc hw hS kl_60 sh_60 rfl) rfl rfl hl.1 rfl (lv_room (Nat.le_of_ble_eq_true rfl)) dX12_product_1 ⟨by decide +kernel, by decide +kernel⟩) hS hc (fun r2 M3 H locs hr2 hw hS => ?_)
  obtain ⟨hI, hEM3, hr2⟩ := hr2
  have hE := hE.tr hEM3 (by decide)
  have mM3_60_63 : (M3.1 60 0 63).toInt = (M.1 60 0 63).toInt := by rw [(hEM3 60 0 63 (by decide)).1]
  obtain ⟨ahr2, bhr2, dhr2, shr2, phr2, mhr2, ohr2⟩ := hr2
  refine lv_istore_n (lv' := [(1, .int r2), (0, .ref (ad 60 0))]) hx hb dX12_product_4 rfl hl (by decide) rfl (fun ls hl => ?_)
  have lp : ∀ (n_lp : Nat) (lp_1 : Int32) (M_lp : fm_M), (161 - (M_lp.1 60 0 64).toInt).toNat < n_lp → ((M.1 60 0 64).toInt ≤ (M_lp.1 60 0 64).toInt ∧ (M.1 60 0 66).toInt ≤ (M_lp.1 60 0 66).toInt ∧ (M_lp.1 60 0 64).toInt ≤ (M_lp.1 60 0 65).toInt) → (∃ s : Nat × Int, rt_ms kc S9 B9 M_lp s ∧ (s.2 < 0 → (M_lp.1 60 0 66).toInt = 5) ∧ ∀ r : Nat × Int, rt_PS T9 S9 9 5 s r → rt_PS T9 S9 8 5 s9 r) → fm_I nb ad M_lp → fm_same [60064, 60065, 60066, 60067] M M_lp → ∀ (H : Heap) (locs : List Loc), fm_at D ad C nb M_lp H → va_S (fm_A nb ad) s.heap H locs → ∀ (ls : Array Slot), lv_has ls 2 [(1, .int lp_1), (0, .ref (ad 60 0))] → W p l e (headSpec wsX12_product ({ frames := 6, cells := 0, slots := 0, locals := 130 })).room s m ([.ref (ad 60 0)] : List Value).toArray below meth c H locs 0 0 (MQ below (va_Qi (fun (r : Int32) (u : fm_M) => fm_I nb ad u ∧ fm_same [60064, 60065, 60066, 60067] M u ∧ ((M.1 60 0 64).toInt ≤ (u.1 60 0 64).toInt ∧ (M.1 60 0 66).toInt ≤ (u.1 60 0 66).toInt ∧ (u.1 60 0 64).toInt ≤ (u.1 60 0 65).toInt ∧ ∃ s8 : Nat × Int, rt_PS T9 S9 8 5 s9 s8 ∧ rt_ms kc S9 B9 u s8 ∧ (s8.2 < 0 → (u.1 60 0 66).toInt = 5))) (fun u t => fm_at D ad C nb u t.heap) (fm_A nb ad)) ([.ref (ad 60 0)] : List Value).toArray s 0 0 (fm_A nb ad)) (F0 m 5 ls []) := by
    intro n_lp
    induction n_lp with
    | zero => intro lp_1 M_lp hm_lp hv hq hI hE H locs hw hS ls hl; exact absurd hm_lp (Nat.not_lt_zero _)
    | succ n_lp ih_lp =>
      intro lp_1 M_lp hm_lp hv hq hI hE H locs hw hS ls hl
      obtain ⟨s7, ms7, oo7, hq7⟩ := hq
      refine lv_aload_n hx hb dX12_product_5 rfl (lv_at hl 1 rfl) ?_
      obtain ⟨q4, vq4, hQq4, hRq4⟩ := hc.2.2.2.2.1 (RX12, 401, "*", [42]) (by decide)
      refine va_ldcwS hx hb hown hRq4 dX12_product_6 ?_
      have tk5 := rt_TMs hE (by decide) hTK
      refine fm_ci (va_runV (As := [.ref q4]) (rest := []) ⟨hx, hb, hml, hown, hts⟩ (fc_X12_take l D ad C nb M_lp hI q4 vq4 1 (fun j => ([42] : List Int32).getD j 0) (by decide) kc S9 B9 T9 (s7) 42 (by omega) tk5 ms7 rt_cd_42) (cwV 1 hts gX12_product_X12_take rfl rfl rfl (by decide +kernel) ⟨Nat.le_of_ble_eq_true rfl, Nat.le_of_ble_eq_true rfl⟩) (fm_preVS hc hw hS hQq4 kl_60 sh_60 rfl) rfl rfl hl.1 rfl (lv_room (Nat.le_of_ble_eq_true rfl)) dX12_product_9 ⟨by decide +kernel, by decide +kernel⟩) hS hc (fun r6 M7 H locs hr6 hw hS => ?_)
      obtain ⟨hI, hEM7, hr6⟩ := hr6
      have hE := hE.tr hEM7 (by decide)
      have mM7_60_63 : (M7.1 60 0 63).toInt = (M_lp.1 60 0 63).toInt := by rw [(hEM7 60 0 63 (by decide)).1]
      have mM7_60_66 : (M7.1 60 0 66).toInt = (M_lp.1 60 0 66).toInt := by rw [(hEM7 60 0 66 (by decide)).1]
      rcases hr6 with ⟨rfl, ahr6, bhr6, dhr6, ehr6, mhr6⟩ | ⟨rfl, ahr6, bhr6, dhr6, mhr6⟩
      · have ooM7 : (rt_adv T9 (s7)).2 < 0 → (M7.1 60 0 66).toInt = 5 := fun z => by have z9 := oo7 z; omega
        refine fx_if_eq (tgt := 25) hx hb dX12_product_12 (by decide) zk_1 (fun c8 => by exfalso; omega) (fun c8 => ?_)
        refine lv_iload_n hx hb dX12_product_15 rfl (lv_at hl 0 rfl) ?_
        refine lv_aload_n hx hb dX12_product_16 rfl (lv_at hl 1 rfl) ?_
        have tk9 := rt_TMs hE (by decide) hTK
        have d10_63 := hI.bd (k := 0) bd_60_63
        have d10_64 := hI.bd (k := 0) bd_60_64
        have d10_65 := hI.bd (k := 0) bd_60_65
        have d10_66 := hI.bd (k := 0) bd_60_66
        refine fm_ci (va_runV (As := []) (rest := [.int lp_1]) ⟨hx, hb, hml, hown, hts⟩ (fc_X12_one_5 l D ad C nb M7 hI kc S9 B9 T9 (rt_adv T9 (s7)) (by omega) (by omega) tk9 mhr6 ooM7) (cwV 0 hts gX12_product_X12_one rfl rfl rfl (by decide +kernel) ⟨Nat.le_of_ble_eq_true rfl, Nat.le_of_ble_eq_true rfl⟩) (fm_preV hc hw hS kl_60 sh_60 rfl) rfl rfl hl.1 rfl (lv_room (Nat.le_of_ble_eq_true rfl)) dX12_product_17 ⟨by decide +kernel, by decide +kernel⟩) hS hc (fun r11 M12 H locs hr11 hw hS => ?_)
        obtain ⟨hI, hEM12, hr11⟩ := hr11
        have hE := hE.tr hEM12 (by decide)
        have mM12_60_63 : (M12.1 60 0 63).toInt = (M7.1 60 0 63).toInt := by rw [(hEM12 60 0 63 (by decide)).1]
        obtain ⟨ahr11, bhr11, dhr11, shr11, phr11, mhr11, ohr11⟩ := hr11
        refine fx_imulU hx hb dX12_product_20 (fun y13 ey13 => ?_)
        refine lv_istore_n (lv' := [(1, .int y13), (0, .ref (ad 60 0))]) hx hb dX12_product_21 rfl hl (by decide) rfl (fun ls hl => ?_)
        refine lv_goto (tgt := 5) hx hb dX12_product_22 (by decide) ?_
        exact ih_lp y13 M12 (by omega) (by omega) ⟨shr11, mhr11, ohr11, fun r h => hq7 r (rt_PS_9y ⟨dhr6, ehr6⟩ phr11 h)⟩ hI hE _ _ hw hS ls (lv_sub hl [0, 1] rfl)
      · have ooM7 : (s7).2 < 0 → (M7.1 60 0 66).toInt = 5 := fun z => by have z9 := oo7 z; omega
        refine fx_if_eq (tgt := 25) hx hb dX12_product_12 (by decide) zk_0 (fun c14 => ?_) (fun c14 => by exfalso; omega)
        refine lv_iload_n hx hb dX12_product_25 rfl (lv_at hl 0 rfl) ?_
        exact W.iret (v := lp_1) hx hb hr (fun t ht hW => ⟨⟨lp_1, M7, rfl, ⟨hI, hE, ⟨by omega, by omega, by omega, s7, (hq7 _ (rt_PS_9n dhr6)), mhr6, ooM7⟩⟩, by show fm_at D ad C nb _ t.heap; rw [ht]; exact hw⟩, hS.F ht⟩) hS.2.2 dX12_product_26
  exact lp _ r2 M3 (Nat.lt_succ_self _) (by omega) ⟨shr2, mhr2, ohr2, fun r h => rt_PS_8 phr2 h⟩ hI hE _ _ hw hS ls (lv_sub hl [0, 1] rfl)
set_option maxHeartbeats 400000 in
set_option maxRecDepth 20000 in
theorem fc_X12_sum_5 (l : Launch) (D : va_G) (ad : Nat → Nat → Nat) (C : Nat → Nat → ClassId) (nb : Nat) (M : fm_M) (hI : fm_I nb ad M) (kc : Nat) (S9 B9 T9 : Nat → Int) (s9 : Nat × Int) (hft : (M.1 60 0 64).toInt ≤ (M.1 60 0 65).toInt) (hop : 5 ≤ (M.1 60 0 66).toInt) (hTK : rt_TM M kc S9 B9 T9) (hms : rt_ms kc S9 B9 M s9) (hoo : s9.2 < 0 → (M.1 60 0 66).toInt = 5) : Met l yX12_sum wsX12_sum ({ frames := 7, cells := 0, slots := 0, locals := 151 }) (va_Pc [.ref (ad 60 0)] (fm_P D ad C nb M)) (va_Qi (fun (r : Int32) (u : fm_M) => fm_I nb ad u ∧ fm_same [60064, 60065, 60066, 60067] M u ∧ ((M.1 60 0 64).toInt ≤ (u.1 60 0 64).toInt ∧ (M.1 60 0 66).toInt ≤ (u.1 60 0 66).toInt ∧ (u.1 60 0 64).toInt ≤ (u.1 60 0 65).toInt ∧ ∃ s8 : Nat × Int, rt_PS T9 S9 6 5 s9 s8 ∧ rt_ms kc S9 B9 u s8 ∧ (s8.2 < 0 → (u.1 60 0 66).toInt = 5))) (fun u t => fm_at D ad C nb u t.heap) (fm_A nb ad)) 0 0 (fm_A nb ad) := by
  refine Met.ofW (cc := cX12_sum) (maxL := 3) (ret := (some .int)) (by decide) rfl ?_
  intro p e s m args below meth c s₁ B hml hv
  obtain ⟨rfl, hw, hc⟩ := hv
  have hx := B.exec
  have hb := B.bytes
  have hr := B.returns
  have hts := atoms_spec (ws := wsX12_sum) B.pre
  have hown : s.vm.findClass RX12 = some m.cls := findClass_of_methodNamed B.named
  have hS : va_S (fm_A nb ad) s.heap s.heap [] := va_S.rf
  have hE : fm_same [60064, 60065, 60066, 60067] M M := fm_same.rf
  have hl := lv_entry ([.ref (ad 60 0)]) (n := 3) (Nat.le_of_ble_eq_true rfl)
  rw [lg_entry_eq]
  generalize (lg_sl ([.ref (ad 60 0)]) ++ List.replicate (3 - (lg_sl ([.ref (ad 60 0)])).length) Slot.unset).toArray = ls at hl ⊢
  have hl : lv_has ls 3 [(0, .ref (ad 60 0))] := hl
  refine lv_aload_n hx hb dX12_sum_0 rfl (lv_at hl 0 rfl) ?_
  have d1_63 := hI.bd (k := 0) bd_60_63
  have d1_64 := hI.bd (k := 0) bd_60_64
  have d1_65 := hI.bd (k := 0) bd_60_65
  have d1_66 := hI.bd (k := 0) bd_60_66
  refine fm_ci (va_runV (As := []) (rest := []) ⟨hx, hb, hml, hown, hts⟩ (fc_X12_product_5 l D ad C nb M hI kc S9 B9 T9 (s9) (by omega) (by omega) hTK hms hoo) (cwV 0 hts gX12_sum_X12_product rfl rfl rfl (by decide +kernel) ⟨Nat.le_of_ble_eq_true rfl, Nat.le_of_ble_eq_true rfl⟩) (fm_preV hc hw hS kl_60 sh_60 rfl) rfl rfl hl.1 rfl (lv_room (Nat.le_of_ble_eq_true rfl)) dX12_sum_1 ⟨by decide +kernel, by decide +kernel⟩) hS hc (fun r2 M3 H locs hr2 hw hS => ?_)
  obtain ⟨hI, hEM3, hr2⟩ := hr2
  have hE := hE.tr hEM3 (by decide)
  have mM3_60_63 : (M3.1 60 0 63).toInt = (M.1 60 0 63).toInt := by rw [(hEM3 60 0 63 (by decide)).1]
  obtain ⟨ahr2, bhr2, dhr2, shr2, phr2, mhr2, ohr2⟩ := hr2
  refine lv_istore_n (lv' := [(1, .int r2), (0, .ref (ad 60 0))]) hx hb dX12_sum_4 rfl hl (by decide) rfl (fun ls hl => ?_)
  refine lv_iconst (v := 1) hx hb dX12_sum_5 (by decide) ?_
  refine lv_istore_n (lv' := [(2, .int 1), (1, .int r2), (0, .ref (ad 60 0))]) hx hb dX12_sum_6 rfl hl (by decide) rfl (fun ls hl => ?_)
  have lp : ∀ (n_lp : Nat) (lp_2 : Int32) (lp_1 : Int32) (M_lp : fm_M), 2 * (161 - (M_lp.1 60 0 64).toInt).toNat + lp_2.toInt.toNat < n_lp → (0 ≤ lp_2.toInt ∧ lp_2.toInt ≤ 1) → ((M.1 60 0 64).toInt ≤ (M_lp.1 60 0 64).toInt ∧ (M.1 60 0 66).toInt ≤ (M_lp.1 60 0 66).toInt ∧ (M_lp.1 60 0 64).toInt ≤ (M_lp.1 60 0 65).toInt) → (∃ s : Nat × Int, rt_ms kc S9 B9 M_lp s ∧ (s.2 < 0 → (M_lp.1 60 0 66).toInt = 5) ∧ (lp_2.toInt = 1 → ∀ r : Nat × Int, rt_PS T9 S9 7 5 s r → rt_PS T9 S9 6 5 s9 r) ∧ (lp_2.toInt = 0 → rt_PS T9 S9 6 5 s9 s)) → fm_I nb ad M_lp → fm_same [60064, 60065, 60066, 60067] M M_lp → ∀ (H : Heap) (locs : List Loc), fm_at D ad C nb M_lp H → va_S (fm_A nb ad) s.heap H locs → ∀ (ls : Array Slot), lv_has ls 3 [(2, .int lp_2), (1, .int lp_1), (0, .ref (ad 60 0))] → W p l e (headSpec wsX12_sum ({ frames := 7, cells := 0, slots := 0, locals := 151 })).room s m ([.ref (ad 60 0)] : List Value).toArray below meth c H locs 0 0 (MQ below (va_Qi (fun (r : Int32) (u : fm_M) => fm_I nb ad u ∧ fm_same [60064, 60065, 60066, 60067] M u ∧ ((M.1 60 0 64).toInt ≤ (u.1 60 0 64).toInt ∧ (M.1 60 0 66).toInt ≤ (u.1 60 0 66).toInt ∧ (u.1 60 0 64).toInt ≤ (u.1 60 0 65).toInt ∧ ∃ s8 : Nat × Int, rt_PS T9 S9 6 5 s9 s8 ∧ rt_ms kc S9 B9 u s8 ∧ (s8.2 < 0 → (u.1 60 0 66).toInt = 5))) (fun u t => fm_at D ad C nb u t.heap) (fm_A nb ad)) ([.ref (ad 60 0)] : List Value).toArray s 0 0 (fm_A nb ad)) (F0 m 7 ls []) := by
    intro n_lp
    induction n_lp with
    | zero => intro lp_2 lp_1 M_lp hm_lp b_lp_2 hv hq hI hE H locs hw hS ls hl; exact absurd hm_lp (Nat.not_lt_zero _)
    | succ n_lp ih_lp =>
      intro lp_2 lp_1 M_lp hm_lp b_lp_2 hv hq hI hE H locs hw hS ls hl
      obtain ⟨s7, ms7, oo7, hq7, hq0⟩ := hq
      refine lv_iload_n hx hb dX12_sum_7 rfl (lv_at hl 0 rfl) ?_
      refine fx_if_eq (tgt := 56) hx hb dX12_sum_8 (by decide) rfl (fun c4 => ?_) (fun c4 => ?_)
      · refine lv_iload_n hx hb dX12_sum_56 rfl (lv_at hl 1 rfl) ?_
        exact W.iret (v := lp_1) hx hb hr (fun t ht hW => ⟨⟨lp_1, M_lp, rfl, ⟨hI, hE, ⟨by omega, by omega, by omega, s7, (hq0 (by omega)), ms7, oo7⟩⟩, by show fm_at D ad C nb _ t.heap; rw [ht]; exact hw⟩, hS.F ht⟩) hS.2.2 dX12_sum_57
      · refine lv_aload_n hx hb dX12_sum_11 rfl (lv_at hl 2 rfl) ?_
        obtain ⟨q5, vq5, hQq5, hRq5⟩ := hc.2.2.2.2.1 (RX12, 394, "+", [43]) (by decide)
        refine va_ldcwS hx hb hown hRq5 dX12_sum_12 ?_
        have tk6 := rt_TMs hE (by decide) hTK
        refine fm_ci (va_runV (As := [.ref q5]) (rest := []) ⟨hx, hb, hml, hown, hts⟩ (fc_X12_take l D ad C nb M_lp hI q5 vq5 1 (fun j => ([43] : List Int32).getD j 0) (by decide) kc S9 B9 T9 (s7) 43 (by omega) tk6 ms7 rt_cd_43) (cwV 1 hts gX12_sum_X12_take rfl rfl rfl (by decide +kernel) ⟨Nat.le_of_ble_eq_true rfl, Nat.le_of_ble_eq_true rfl⟩) (fm_preVS hc hw hS hQq5 kl_60 sh_60 rfl) rfl rfl hl.1 rfl (lv_room (Nat.le_of_ble_eq_true rfl)) dX12_sum_15 ⟨by decide +kernel, by decide +kernel⟩) hS hc (fun r7 M8 H locs hr7 hw hS => ?_)
        obtain ⟨hI, hEM8, hr7⟩ := hr7
        have hE := hE.tr hEM8 (by decide)
        have mM8_60_63 : (M8.1 60 0 63).toInt = (M_lp.1 60 0 63).toInt := by rw [(hEM8 60 0 63 (by decide)).1]
        have mM8_60_66 : (M8.1 60 0 66).toInt = (M_lp.1 60 0 66).toInt := by rw [(hEM8 60 0 66 (by decide)).1]
        rcases hr7 with ⟨rfl, ahr7, bhr7, dhr7, ehr7, mhr7⟩ | ⟨rfl, ahr7, bhr7, dhr7, mhr7⟩
        · have ooM8 : (rt_adv T9 (s7)).2 < 0 → (M8.1 60 0 66).toInt = 5 := fun z => by have z9 := oo7 z; omega
          refine fx_if_eq (tgt := 31) hx hb dX12_sum_18 (by decide) zk_1 (fun c9 => by exfalso; omega) (fun c9 => ?_)
          refine lv_iload_n hx hb dX12_sum_21 rfl (lv_at hl 1 rfl) ?_
          refine lv_aload_n hx hb dX12_sum_22 rfl (lv_at hl 2 rfl) ?_
          have tk10 := rt_TMs hE (by decide) hTK
          have d11_63 := hI.bd (k := 0) bd_60_63
          have d11_64 := hI.bd (k := 0) bd_60_64
          have d11_65 := hI.bd (k := 0) bd_60_65
          have d11_66 := hI.bd (k := 0) bd_60_66
          refine fm_ci (va_runV (As := []) (rest := [.int lp_1]) ⟨hx, hb, hml, hown, hts⟩ (fc_X12_product_5 l D ad C nb M8 hI kc S9 B9 T9 (rt_adv T9 (s7)) (by omega) (by omega) tk10 mhr7 ooM8) (cwV 0 hts gX12_sum_X12_product rfl rfl rfl (by decide +kernel) ⟨Nat.le_of_ble_eq_true rfl, Nat.le_of_ble_eq_true rfl⟩) (fm_preV hc hw hS kl_60 sh_60 rfl) rfl rfl hl.1 rfl (lv_room (Nat.le_of_ble_eq_true rfl)) dX12_sum_23 ⟨by decide +kernel, by decide +kernel⟩) hS hc (fun r12 M13 H locs hr12 hw hS => ?_)
          obtain ⟨hI, hEM13, hr12⟩ := hr12
          have hE := hE.tr hEM13 (by decide)
          have mM13_60_63 : (M13.1 60 0 63).toInt = (M8.1 60 0 63).toInt := by rw [(hEM13 60 0 63 (by decide)).1]
          obtain ⟨ahr12, bhr12, dhr12, shr12, phr12, mhr12, ohr12⟩ := hr12
          refine fx_iaddU hx hb dX12_sum_26 (fun y14 ey14 => ?_)
          refine lv_istore_n (lv' := [(1, .int y14), (2, .int lp_2), (0, .ref (ad 60 0))]) hx hb dX12_sum_27 rfl hl (by decide) rfl (fun ls hl => ?_)
          refine lv_goto (tgt := 7) hx hb dX12_sum_28 (by decide) ?_
          exact ih_lp lp_2 y14 M13 (by omega) (by omega) (by omega) ⟨shr12, mhr12, ohr12, fun _ r h => hq7 (by omega) r (rt_PS_7y ⟨dhr7, Or.inl ehr7⟩ phr12 h), fun z => absurd z (by omega)⟩ hI hE _ _ hw hS ls (lv_sub hl [1, 0, 2] rfl)
        · have ooM8 : (s7).2 < 0 → (M8.1 60 0 66).toInt = 5 := fun z => by have z9 := oo7 z; omega
          refine fx_if_eq (tgt := 31) hx hb dX12_sum_18 (by decide) zk_0 (fun c15 => ?_) (fun c15 => by exfalso; omega)
          refine lv_aload_n hx hb dX12_sum_31 rfl (lv_at hl 2 rfl) ?_
          obtain ⟨q16, vq16, hQq16, hRq16⟩ := hc.2.2.2.2.1 (RX12, 396, "-", [45]) (by decide)
          refine va_ldcwS hx hb hown hRq16 dX12_sum_32 ?_
          have tk17 := rt_TMs hE (by decide) hTK
          refine fm_ci (va_runV (As := [.ref q16]) (rest := []) ⟨hx, hb, hml, hown, hts⟩ (fc_X12_take l D ad C nb M8 hI q16 vq16 1 (fun j => ([45] : List Int32).getD j 0) (by decide) kc S9 B9 T9 (s7) 45 (by omega) tk17 mhr7 rt_cd_45) (cwV 1 hts gX12_sum_X12_take rfl rfl rfl (by decide +kernel) ⟨Nat.le_of_ble_eq_true rfl, Nat.le_of_ble_eq_true rfl⟩) (fm_preVS hc hw hS hQq16 kl_60 sh_60 rfl) rfl rfl hl.1 rfl (lv_room (Nat.le_of_ble_eq_true rfl)) dX12_sum_35 ⟨by decide +kernel, by decide +kernel⟩) hS hc (fun r18 M19 H locs hr18 hw hS => ?_)
          obtain ⟨hI, hEM19, hr18⟩ := hr18
          have hE := hE.tr hEM19 (by decide)
          have mM19_60_63 : (M19.1 60 0 63).toInt = (M8.1 60 0 63).toInt := by rw [(hEM19 60 0 63 (by decide)).1]
          have mM19_60_66 : (M19.1 60 0 66).toInt = (M8.1 60 0 66).toInt := by rw [(hEM19 60 0 66 (by decide)).1]
          rcases hr18 with ⟨rfl, ahr18, bhr18, dhr18, ehr18, mhr18⟩ | ⟨rfl, ahr18, bhr18, dhr18, mhr18⟩
          · have ooM19 : (rt_adv T9 (s7)).2 < 0 → (M19.1 60 0 66).toInt = 5 := fun z => by have z9 := ooM8 z; omega
            refine fx_if_eq (tgt := 51) hx hb dX12_sum_38 (by decide) zk_1 (fun c20 => by exfalso; omega) (fun c20 => ?_)
            refine lv_iload_n hx hb dX12_sum_41 rfl (lv_at hl 1 rfl) ?_
            refine lv_aload_n hx hb dX12_sum_42 rfl (lv_at hl 2 rfl) ?_
            have tk21 := rt_TMs hE (by decide) hTK
            have d22_63 := hI.bd (k := 0) bd_60_63
            have d22_64 := hI.bd (k := 0) bd_60_64
            have d22_65 := hI.bd (k := 0) bd_60_65
            have d22_66 := hI.bd (k := 0) bd_60_66
            refine fm_ci (va_runV (As := []) (rest := [.int lp_1]) ⟨hx, hb, hml, hown, hts⟩ (fc_X12_product_5 l D ad C nb M19 hI kc S9 B9 T9 (rt_adv T9 (s7)) (by omega) (by omega) tk21 mhr18 ooM19) (cwV 0 hts gX12_sum_X12_product rfl rfl rfl (by decide +kernel) ⟨Nat.le_of_ble_eq_true rfl, Nat.le_of_ble_eq_true rfl⟩) (fm_preV hc hw hS kl_60 sh_60 rfl) rfl rfl hl.1 rfl (lv_room (Nat.le_of_ble_eq_true rfl)) dX12_sum_43 ⟨by decide +kernel, by decide +kernel⟩) hS hc (fun r23 M24 H locs hr23 hw hS => ?_)
            obtain ⟨hI, hEM24, hr23⟩ := hr23
            have hE := hE.tr hEM24 (by decide)
            have mM24_60_63 : (M24.1 60 0 63).toInt = (M19.1 60 0 63).toInt := by rw [(hEM24 60 0 63 (by decide)).1]
            obtain ⟨ahr23, bhr23, dhr23, shr23, phr23, mhr23, ohr23⟩ := hr23
            refine fx_isubU hx hb dX12_sum_46 (fun y25 ey25 => ?_)
            refine lv_istore_n (lv' := [(1, .int y25), (2, .int lp_2), (0, .ref (ad 60 0))]) hx hb dX12_sum_47 rfl hl (by decide) rfl (fun ls hl => ?_)
            refine lv_goto (tgt := 7) hx hb dX12_sum_48 (by decide) ?_
            exact ih_lp lp_2 y25 M24 (by omega) (by omega) (by omega) ⟨shr23, mhr23, ohr23, fun _ r h => hq7 (by omega) r (rt_PS_7y ⟨dhr18, Or.inr ehr18⟩ phr23 h), fun z => absurd z (by omega)⟩ hI hE _ _ hw hS ls (lv_sub hl [1, 0, 2] rfl)
          · have ooM19 : (s7).2 < 0 → (M19.1 60 0 66).toInt = 5 := fun z => by have z9 := ooM8 z; omega
            refine fx_if_eq (tgt := 51) hx hb dX12_sum_38 (by decide) zk_0 (fun c26 => ?_) (fun c26 => by exfalso; omega)
            refine lv_iconst (v := 0) hx hb dX12_sum_51 (by decide) ?_
            refine lv_istore_n (lv' := [(2, .int 0), (1, .int lp_1), (0, .ref (ad 60 0))]) hx hb dX12_sum_52 rfl hl (by decide) rfl (fun ls hl => ?_)
            refine lv_goto (tgt := 7) hx hb dX12_sum_53 (by decide) ?_
            exact ih_lp 0 lp_1 M19 (by have zlp_2 := zk_0; omega) (by decide) (by omega) ⟨s7, mhr18, ooM19, fun z => absurd z (by decide), fun _ => hq7 (by omega) _ (rt_PS_7n (by have za := dhr7; have zb := dhr18; omega))⟩ hI hE _ _ hw hS ls (lv_sub hl [0, 1, 2] rfl)
  exact lp _ 1 r2 M3 (Nat.lt_succ_self _) (by decide) (by omega) ⟨shr2, mhr2, ohr2, fun _ r h => rt_PS_6 phr2 h, fun z => absurd z (by decide)⟩ hI hE _ _ hw hS ls (lv_sub hl [0, 1, 2] rfl)
set_option maxHeartbeats 400000 in
set_option maxRecDepth 20000 in
theorem fc_X12_turned_5 (l : Launch) (D : va_G) (ad : Nat → Nat → Nat) (C : Nat → Nat → ClassId) (nb : Nat) (M : fm_M) (hI : fm_I nb ad M) (kc : Nat) (S9 B9 T9 : Nat → Int) (s9 : Nat × Int) (hft : (M.1 60 0 64).toInt ≤ (M.1 60 0 65).toInt) (hop : 5 ≤ (M.1 60 0 66).toInt) (hTK : rt_TM M kc S9 B9 T9) (hms : rt_ms kc S9 B9 M s9) (hoo : s9.2 < 0 → (M.1 60 0 66).toInt = 5) : Met l yX12_turned wsX12_turned ({ frames := 8, cells := 0, slots := 0, locals := 173 }) (va_Pc [.ref (ad 60 0)] (fm_P D ad C nb M)) (va_Qi (fun (r : Int32) (u : fm_M) => fm_I nb ad u ∧ fm_same [60064, 60065, 60066, 60067] M u ∧ ((M.1 60 0 64).toInt ≤ (u.1 60 0 64).toInt ∧ (M.1 60 0 66).toInt ≤ (u.1 60 0 66).toInt ∧ (u.1 60 0 64).toInt ≤ (u.1 60 0 65).toInt ∧ ∃ s8 : Nat × Int, rt_PS T9 S9 4 5 s9 s8 ∧ rt_ms kc S9 B9 u s8 ∧ (s8.2 < 0 → (u.1 60 0 66).toInt = 5))) (fun u t => fm_at D ad C nb u t.heap) (fm_A nb ad)) 0 0 (fm_A nb ad) := by
  refine Met.ofW (cc := cX12_turned) (maxL := 2) (ret := (some .int)) (by decide) rfl ?_
  intro p e s m args below meth c s₁ B hml hv
  obtain ⟨rfl, hw, hc⟩ := hv
  have hx := B.exec
  have hb := B.bytes
  have hr := B.returns
  have hts := atoms_spec (ws := wsX12_turned) B.pre
  have hown : s.vm.findClass RX12 = some m.cls := findClass_of_methodNamed B.named
  have hinX12 : ∀ w ∈ u_ws RX12 TX12 79, w ∈ wsX12_turned := fun w h => List.mem_cons_of_mem _ (iT_X12 w h)
  have hS : va_S (fm_A nb ad) s.heap s.heap [] := va_S.rf
  have hE : fm_same [60064, 60065, 60066, 60067] M M := fm_same.rf
  have hl := lv_entry ([.ref (ad 60 0)]) (n := 2) (Nat.le_of_ble_eq_true rfl)
  rw [lg_entry_eq]
  generalize (lg_sl ([.ref (ad 60 0)]) ++ List.replicate (2 - (lg_sl ([.ref (ad 60 0)])).length) Slot.unset).toArray = ls at hl ⊢
  have hl : lv_has ls 2 [(0, .ref (ad 60 0))] := hl
  refine lv_aload_n hx hb dX12_turned_0 rfl (lv_at hl 0 rfl) ?_
  refine fm_getI (a := 60) (j := 67) (T := TX12) (N := 79) hx hb hts hinX12 hown hc hw hI kl_60 sh_60 rfl (by decide) rfl bd_60_67 (hts (.fieldLink RX12 349 "RedTentModel" "fault" "I") (List.mem_cons_of_mem _ tw_5_187)) (fun _ h9 => h9) dX12_turned_1 (fun x1 ex1 bx1 => ?_)
  refine fx_if_lt (tgt := 9) hx hb dX12_turned_4 (by decide) rfl (fun c2 => ?_) (fun c2 => ?_)
  · have gh : s9.2 = x1.toInt := by rw [ex1]; exact hms.2.2.2.symm
    have hs0 : s9.2 < 0 := by omega
    have ho0 := hoo hs0
    refine lv_aload_n hx hb dX12_turned_9 rfl (lv_at hl 0 rfl) ?_
    obtain ⟨q3, vq3, hQq3, hRq3⟩ := hc.2.2.2.2.1 (RX12, 378, "not", [110, 111, 116]) (by decide)
    refine va_ldcwS hx hb hown hRq3 dX12_turned_10 ?_
    refine vp_callSi (va_Run.run (va_runV (As := [.ref q3]) (rest := []) ⟨hx, hb, hml, hown, hts⟩ (fc_X12_is l D ad C nb M hI q3 vq3 3 (fun j => ([110, 111, 116] : List Int32).getD j 0) (by decide) (rt_mto hTK hms) rt_cd_11.2.1) (cwV 1 hts gX12_turned_X12_is rfl rfl rfl (by decide +kernel) ⟨Nat.le_of_ble_eq_true rfl, Nat.le_of_ble_eq_true rfl⟩) (fm_preVS hc hw hS hQq3 kl_60 sh_60 rfl) rfl rfl hl.1 rfl (lv_room (Nat.le_of_ble_eq_true rfl)) dX12_turned_13 ⟨by decide +kernel, by decide +kernel⟩)) (fun r4 hr4 => ?_)
    rcases hr4 with ⟨rfl, chr4⟩ | ⟨rfl, chr4⟩
    · have sv5 := (rt_is hTK hms rt_cd_11).mp chr4
      refine fx_if_eq (tgt := 53) hx hb dX12_turned_16 (by decide) zk_1 (fun c6 => by exfalso; omega) (fun c6 => ?_)
      refine lv_aload_n hx hb dX12_turned_19 rfl (lv_at hl 0 rfl) ?_
      have hJ7 := hI
      refine fm_ci (va_runV (As := []) (rest := []) ⟨hx, hb, hml, hown, hts⟩ (fc_X12_opens l D ad C nb M hI kc S9 B9 T9 (s9) hTK hms) (cwV 0 hts gX12_turned_X12_opens rfl rfl rfl (by decide +kernel) ⟨Nat.le_of_ble_eq_true rfl, Nat.le_of_ble_eq_true rfl⟩) (fm_preV hc hw hS kl_60 sh_60 rfl) rfl rfl hl.1 rfl (lv_room (Nat.le_of_ble_eq_true rfl)) dX12_turned_20 ⟨by decide +kernel, by decide +kernel⟩) hS hc (fun r8 M9 H locs hr8 hw hS => ?_)
      obtain ⟨hI, hEM9, hr8⟩ := hr8
      have hE := hE.tr hEM9 (by decide)
      have mM9_60_63 : (M9.1 60 0 63).toInt = (M.1 60 0 63).toInt := by rw [(hEM9 60 0 63 (by decide)).1]
      rcases hr8 with ⟨rfl, ahr8, bhr8, dhr8, mhr8⟩ | ⟨rfl, zhr8, ahr8, bhr8, dhr8, mhr8⟩
      · have ooM9 : (rt_adv T9 (s9)).2 < 0 → (M9.1 60 0 66).toInt = 6 := fun z => by have z9 := hoo z; omega
        refine fx_if_ne (tgt := 28) hx hb dX12_turned_23 (by decide) zk_1 (fun c10 => ?_) (fun c10 => by exfalso; omega)
        refine lv_aload_n hx hb dX12_turned_28 rfl (lv_at hl 0 rfl) ?_
        have dd11 := hI.bd (k := 0) bd_60_63
        have dd12 := hI.bd (k := 0) bd_60_64
        have dd13 := hI.bd (k := 0) bd_60_65
        have dd14 := hI.bd (k := 0) bd_60_66
        exfalso; omega
      · have ooM9 : (rt_fail S9 (s9)).2 < 0 → (M9.1 60 0 66).toInt = 5 := rt_ms_f0 hms (hJ7.bd (k := 0) bd_60_64).1
        refine fx_if_ne (tgt := 28) hx hb dX12_turned_23 (by decide) zk_0 (fun c15 => by exfalso; omega) (fun c15 => ?_)
        refine lv_iconst (v := 0) hx hb dX12_turned_26 (by decide) ?_
        exact W.iret (v := 0) hx hb hr (fun t ht hW => ⟨⟨0, M9, rfl, ⟨hI, hE, ⟨by omega, by omega, by omega, rt_fail S9 (s9), (rt_PS_4f ⟨hs0, sv5⟩ (by decide)), mhr8, ooM9⟩⟩, by show fm_at D ad C nb _ t.heap; rw [ht]; exact hw⟩, hS.F ht⟩) hS.2.2 dX12_turned_27
    · have sv16 : ¬ T9 (s9).1 = 11 := fun z => chr4 ((rt_is hTK hms rt_cd_11).mpr z)
      refine fx_if_eq (tgt := 53) hx hb dX12_turned_16 (by decide) zk_0 (fun c17 => ?_) (fun c17 => by exfalso; omega)
      refine lv_aload_n hx hb dX12_turned_53 rfl (lv_at hl 0 rfl) ?_
      have d18_63 := hI.bd (k := 0) bd_60_63
      have d18_64 := hI.bd (k := 0) bd_60_64
      have d18_65 := hI.bd (k := 0) bd_60_65
      have d18_66 := hI.bd (k := 0) bd_60_66
      refine fm_ci (va_runV (As := []) (rest := []) ⟨hx, hb, hml, hown, hts⟩ (fc_X12_sum_5 l D ad C nb M hI kc S9 B9 T9 (s9) (by omega) (by omega) hTK hms hoo) (cwV 0 hts gX12_turned_X12_sum rfl rfl rfl (by decide +kernel) ⟨Nat.le_of_ble_eq_true rfl, Nat.le_of_ble_eq_true rfl⟩) (fm_preV hc hw hS kl_60 sh_60 rfl) rfl rfl hl.1 rfl (lv_room (Nat.le_of_ble_eq_true rfl)) dX12_turned_54 ⟨by decide +kernel, by decide +kernel⟩) hS hc (fun r19 M20 H locs hr19 hw hS => ?_)
      obtain ⟨hI, hEM20, hr19⟩ := hr19
      have hE := hE.tr hEM20 (by decide)
      have mM20_60_63 : (M20.1 60 0 63).toInt = (M.1 60 0 63).toInt := by rw [(hEM20 60 0 63 (by decide)).1]
      obtain ⟨ahr19, bhr19, dhr19, shr19, phr19, mhr19, ohr19⟩ := hr19
      refine lv_istore_n (lv' := [(1, .int r19), (0, .ref (ad 60 0))]) hx hb dX12_turned_57 rfl hl (by decide) rfl (fun ls hl => ?_)
      refine lv_aload_n hx hb dX12_turned_58 rfl (lv_at hl 1 rfl) ?_
      obtain ⟨q21, vq21, hQq21, hRq21⟩ := hc.2.2.2.2.1 (RX12, 387, "<", [60]) (by decide)
      refine va_ldcwS hx hb hown hRq21 dX12_turned_59 ?_
      have tk22 := rt_TMs hE (by decide) hTK
      refine fm_ci (va_runV (As := [.ref q21]) (rest := []) ⟨hx, hb, hml, hown, hts⟩ (fc_X12_take l D ad C nb M20 hI q21 vq21 1 (fun j => ([60] : List Int32).getD j 0) (by decide) kc S9 B9 T9 (shr19) 60 (by omega) tk22 mhr19 rt_cd_60) (cwV 1 hts gX12_turned_X12_take rfl rfl rfl (by decide +kernel) ⟨Nat.le_of_ble_eq_true rfl, Nat.le_of_ble_eq_true rfl⟩) (fm_preVS hc hw hS hQq21 kl_60 sh_60 rfl) rfl rfl hl.1 rfl (lv_room (Nat.le_of_ble_eq_true rfl)) dX12_turned_62 ⟨by decide +kernel, by decide +kernel⟩) hS hc (fun r23 M24 H locs hr23 hw hS => ?_)
      obtain ⟨hI, hEM24, hr23⟩ := hr23
      have hE := hE.tr hEM24 (by decide)
      have mM24_60_63 : (M24.1 60 0 63).toInt = (M20.1 60 0 63).toInt := by rw [(hEM24 60 0 63 (by decide)).1]
      have mM24_60_66 : (M24.1 60 0 66).toInt = (M20.1 60 0 66).toInt := by rw [(hEM24 60 0 66 (by decide)).1]
      rcases hr23 with ⟨rfl, ahr23, bhr23, dhr23, ehr23, mhr23⟩ | ⟨rfl, ahr23, bhr23, dhr23, mhr23⟩
      · have ooM24 : (rt_adv T9 (shr19)).2 < 0 → (M24.1 60 0 66).toInt = 5 := fun z => by have z9 := ohr19 z; omega
        refine fx_if_eq (tgt := 82) hx hb dX12_turned_65 (by decide) zk_1 (fun c25 => by exfalso; omega) (fun c25 => ?_)
        refine lv_iload_n hx hb dX12_turned_68 rfl (lv_at hl 0 rfl) ?_
        refine lv_aload_n hx hb dX12_turned_69 rfl (lv_at hl 1 rfl) ?_
        have tk26 := rt_TMs hE (by decide) hTK
        have d27_63 := hI.bd (k := 0) bd_60_63
        have d27_64 := hI.bd (k := 0) bd_60_64
        have d27_65 := hI.bd (k := 0) bd_60_65
        have d27_66 := hI.bd (k := 0) bd_60_66
        refine fm_ci (va_runV (As := []) (rest := [.int r19]) ⟨hx, hb, hml, hown, hts⟩ (fc_X12_sum_5 l D ad C nb M24 hI kc S9 B9 T9 (rt_adv T9 (shr19)) (by omega) (by omega) tk26 mhr23 ooM24) (cwV 0 hts gX12_turned_X12_sum rfl rfl rfl (by decide +kernel) ⟨Nat.le_of_ble_eq_true rfl, Nat.le_of_ble_eq_true rfl⟩) (fm_preV hc hw hS kl_60 sh_60 rfl) rfl rfl hl.1 rfl (lv_room (Nat.le_of_ble_eq_true rfl)) dX12_turned_70 ⟨by decide +kernel, by decide +kernel⟩) hS hc (fun r28 M29 H locs hr28 hw hS => ?_)
        obtain ⟨hI, hEM29, hr28⟩ := hr28
        have hE := hE.tr hEM29 (by decide)
        have mM29_60_63 : (M29.1 60 0 63).toInt = (M24.1 60 0 63).toInt := by rw [(hEM29 60 0 63 (by decide)).1]
        obtain ⟨ahr28, bhr28, dhr28, shr28, phr28, mhr28, ohr28⟩ := hr28
        refine fx_icmp_ge (tgt := 80) hx hb dX12_turned_73 (by decide) rfl rfl (fun c30 => ?_) (fun c30 => ?_)
        · refine lv_iconst (v := 0) hx hb dX12_turned_80 (by decide) ?_
          exact W.iret (v := 0) hx hb hr (fun t ht hW => ⟨⟨0, M29, rfl, ⟨hI, hE, ⟨by omega, by omega, by omega, shr28, (rt_PS_4n (fun z => sv16 z.2) (rt_PS_5 phr19 (rt_PS_11y ⟨dhr23, Or.inl ehr23⟩ phr28))), mhr28, ohr28⟩⟩, by show fm_at D ad C nb _ t.heap; rw [ht]; exact hw⟩, hS.F ht⟩) hS.2.2 dX12_turned_81
        · refine lv_iconst (v := 1) hx hb dX12_turned_76 (by decide) ?_
          refine lv_goto (tgt := 81) hx hb dX12_turned_77 (by decide) ?_
          exact W.iret (v := 1) hx hb hr (fun t ht hW => ⟨⟨1, M29, rfl, ⟨hI, hE, ⟨by omega, by omega, by omega, shr28, (rt_PS_4n (fun z => sv16 z.2) (rt_PS_5 phr19 (rt_PS_11y ⟨dhr23, Or.inl ehr23⟩ phr28))), mhr28, ohr28⟩⟩, by show fm_at D ad C nb _ t.heap; rw [ht]; exact hw⟩, hS.F ht⟩) hS.2.2 dX12_turned_81
      · have ooM24 : (shr19).2 < 0 → (M24.1 60 0 66).toInt = 5 := fun z => by have z9 := ohr19 z; omega
        refine fx_if_eq (tgt := 82) hx hb dX12_turned_65 (by decide) zk_0 (fun c31 => ?_) (fun c31 => by exfalso; omega)
        refine lv_aload_n hx hb dX12_turned_82 rfl (lv_at hl 1 rfl) ?_
        obtain ⟨q32, vq32, hQq32, hRq32⟩ := hc.2.2.2.2.1 (RX12, 389, "=", [61]) (by decide)
        refine va_ldcwS hx hb hown hRq32 dX12_turned_83 ?_
        have tk33 := rt_TMs hE (by decide) hTK
        refine fm_ci (va_runV (As := [.ref q32]) (rest := []) ⟨hx, hb, hml, hown, hts⟩ (fc_X12_take l D ad C nb M24 hI q32 vq32 1 (fun j => ([61] : List Int32).getD j 0) (by decide) kc S9 B9 T9 (shr19) 61 (by omega) tk33 mhr23 rt_cd_61) (cwV 1 hts gX12_turned_X12_take rfl rfl rfl (by decide +kernel) ⟨Nat.le_of_ble_eq_true rfl, Nat.le_of_ble_eq_true rfl⟩) (fm_preVS hc hw hS hQq32 kl_60 sh_60 rfl) rfl rfl hl.1 rfl (lv_room (Nat.le_of_ble_eq_true rfl)) dX12_turned_86 ⟨by decide +kernel, by decide +kernel⟩) hS hc (fun r34 M35 H locs hr34 hw hS => ?_)
        obtain ⟨hI, hEM35, hr34⟩ := hr34
        have hE := hE.tr hEM35 (by decide)
        have mM35_60_63 : (M35.1 60 0 63).toInt = (M24.1 60 0 63).toInt := by rw [(hEM35 60 0 63 (by decide)).1]
        have mM35_60_66 : (M35.1 60 0 66).toInt = (M24.1 60 0 66).toInt := by rw [(hEM35 60 0 66 (by decide)).1]
        rcases hr34 with ⟨rfl, ahr34, bhr34, dhr34, ehr34, mhr34⟩ | ⟨rfl, ahr34, bhr34, dhr34, mhr34⟩
        · have ooM35 : (rt_adv T9 (shr19)).2 < 0 → (M35.1 60 0 66).toInt = 5 := fun z => by have z9 := ooM24 z; omega
          refine fx_if_eq (tgt := 106) hx hb dX12_turned_89 (by decide) zk_1 (fun c36 => by exfalso; omega) (fun c36 => ?_)
          refine lv_iload_n hx hb dX12_turned_92 rfl (lv_at hl 0 rfl) ?_
          refine lv_aload_n hx hb dX12_turned_93 rfl (lv_at hl 1 rfl) ?_
          have tk37 := rt_TMs hE (by decide) hTK
          have d38_63 := hI.bd (k := 0) bd_60_63
          have d38_64 := hI.bd (k := 0) bd_60_64
          have d38_65 := hI.bd (k := 0) bd_60_65
          have d38_66 := hI.bd (k := 0) bd_60_66
          refine fm_ci (va_runV (As := []) (rest := [.int r19]) ⟨hx, hb, hml, hown, hts⟩ (fc_X12_sum_5 l D ad C nb M35 hI kc S9 B9 T9 (rt_adv T9 (shr19)) (by omega) (by omega) tk37 mhr34 ooM35) (cwV 0 hts gX12_turned_X12_sum rfl rfl rfl (by decide +kernel) ⟨Nat.le_of_ble_eq_true rfl, Nat.le_of_ble_eq_true rfl⟩) (fm_preV hc hw hS kl_60 sh_60 rfl) rfl rfl hl.1 rfl (lv_room (Nat.le_of_ble_eq_true rfl)) dX12_turned_94 ⟨by decide +kernel, by decide +kernel⟩) hS hc (fun r39 M40 H locs hr39 hw hS => ?_)
          obtain ⟨hI, hEM40, hr39⟩ := hr39
          have hE := hE.tr hEM40 (by decide)
          have mM40_60_63 : (M40.1 60 0 63).toInt = (M35.1 60 0 63).toInt := by rw [(hEM40 60 0 63 (by decide)).1]
          obtain ⟨ahr39, bhr39, dhr39, shr39, phr39, mhr39, ohr39⟩ := hr39
          refine fx_icmp_ne (tgt := 104) hx hb dX12_turned_97 (by decide) rfl rfl (fun c41 => ?_) (fun c41 => ?_)
          · refine lv_iconst (v := 0) hx hb dX12_turned_104 (by decide) ?_
            exact W.iret (v := 0) hx hb hr (fun t ht hW => ⟨⟨0, M40, rfl, ⟨hI, hE, ⟨by omega, by omega, by omega, shr39, (rt_PS_4n (fun z => sv16 z.2) (rt_PS_5 phr19 (rt_PS_11y ⟨dhr34, Or.inr ehr34⟩ phr39))), mhr39, ohr39⟩⟩, by show fm_at D ad C nb _ t.heap; rw [ht]; exact hw⟩, hS.F ht⟩) hS.2.2 dX12_turned_105
          · refine lv_iconst (v := 1) hx hb dX12_turned_100 (by decide) ?_
            refine lv_goto (tgt := 105) hx hb dX12_turned_101 (by decide) ?_
            exact W.iret (v := 1) hx hb hr (fun t ht hW => ⟨⟨1, M40, rfl, ⟨hI, hE, ⟨by omega, by omega, by omega, shr39, (rt_PS_4n (fun z => sv16 z.2) (rt_PS_5 phr19 (rt_PS_11y ⟨dhr34, Or.inr ehr34⟩ phr39))), mhr39, ohr39⟩⟩, by show fm_at D ad C nb _ t.heap; rw [ht]; exact hw⟩, hS.F ht⟩) hS.2.2 dX12_turned_105
        · have ooM35 : (shr19).2 < 0 → (M35.1 60 0 66).toInt = 5 := fun z => by have z9 := ooM24 z; omega
          refine fx_if_eq (tgt := 106) hx hb dX12_turned_89 (by decide) zk_0 (fun c42 => ?_) (fun c42 => by exfalso; omega)
          refine lv_iload_n hx hb dX12_turned_106 rfl (lv_at hl 0 rfl) ?_
          exact W.iret (v := r19) hx hb hr (fun t ht hW => ⟨⟨r19, M35, rfl, ⟨hI, hE, ⟨by omega, by omega, by omega, shr19, (rt_PS_4n (fun z => sv16 z.2) (rt_PS_5 phr19 (rt_PS_11n (by have za := dhr23; have zb := dhr34; omega)))), mhr34, ooM35⟩⟩, by show fm_at D ad C nb _ t.heap; rw [ht]; exact hw⟩, hS.F ht⟩) hS.2.2 dX12_turned_107
  · refine lv_iconst (v := 0) hx hb dX12_turned_7 (by decide) ?_
    exact W.iret (v := 0) hx hb hr (fun t ht hW => ⟨⟨0, M, rfl, ⟨hI, hE, ⟨by omega, by omega, by omega, s9, (rt_PS_id (by rw [← hms.2.2.2, ← ex1]; omega) (by decide)), hms, hoo⟩⟩, by show fm_at D ad C nb _ t.heap; rw [ht]; exact hw⟩, hS.F ht⟩) hS.2.2 dX12_turned_8
set_option maxHeartbeats 400000 in
set_option maxRecDepth 20000 in
theorem fc_X12_both_5 (l : Launch) (D : va_G) (ad : Nat → Nat → Nat) (C : Nat → Nat → ClassId) (nb : Nat) (M : fm_M) (hI : fm_I nb ad M) (kc : Nat) (S9 B9 T9 : Nat → Int) (s9 : Nat × Int) (hft : (M.1 60 0 64).toInt ≤ (M.1 60 0 65).toInt) (hop : 5 ≤ (M.1 60 0 66).toInt) (hTK : rt_TM M kc S9 B9 T9) (hms : rt_ms kc S9 B9 M s9) (hoo : s9.2 < 0 → (M.1 60 0 66).toInt = 5) : Met l yX12_both wsX12_both ({ frames := 9, cells := 0, slots := 0, locals := 194 }) (va_Pc [.ref (ad 60 0)] (fm_P D ad C nb M)) (va_Qi (fun (r : Int32) (u : fm_M) => fm_I nb ad u ∧ fm_same [60064, 60065, 60066, 60067] M u ∧ ((M.1 60 0 64).toInt ≤ (u.1 60 0 64).toInt ∧ (M.1 60 0 66).toInt ≤ (u.1 60 0 66).toInt ∧ (u.1 60 0 64).toInt ≤ (u.1 60 0 65).toInt ∧ ∃ s8 : Nat × Int, rt_PS T9 S9 2 5 s9 s8 ∧ rt_ms kc S9 B9 u s8 ∧ (s8.2 < 0 → (u.1 60 0 66).toInt = 5))) (fun u t => fm_at D ad C nb u t.heap) (fm_A nb ad)) 0 0 (fm_A nb ad) := by
  refine Met.ofW (cc := cX12_both) (maxL := 3) (ret := (some .int)) (by decide) rfl ?_
  intro p e s m args below meth c s₁ B hml hv
  obtain ⟨rfl, hw, hc⟩ := hv
  have hx := B.exec
  have hb := B.bytes
  have hr := B.returns
  have hts := atoms_spec (ws := wsX12_both) B.pre
  have hown : s.vm.findClass RX12 = some m.cls := findClass_of_methodNamed B.named
  have hS : va_S (fm_A nb ad) s.heap s.heap [] := va_S.rf
  have hE : fm_same [60064, 60065, 60066, 60067] M M := fm_same.rf
  have hl := lv_entry ([.ref (ad 60 0)]) (n := 3) (Nat.le_of_ble_eq_true rfl)
  rw [lg_entry_eq]
  generalize (lg_sl ([.ref (ad 60 0)]) ++ List.replicate (3 - (lg_sl ([.ref (ad 60 0)])).length) Slot.unset).toArray = ls at hl ⊢
  have hl : lv_has ls 3 [(0, .ref (ad 60 0))] := hl
  refine lv_aload_n hx hb dX12_both_0 rfl (lv_at hl 0 rfl) ?_
  have d1_63 := hI.bd (k := 0) bd_60_63
  have d1_64 := hI.bd (k := 0) bd_60_64
  have d1_65 := hI.bd (k := 0) bd_60_65
  have d1_66 := hI.bd (k := 0) bd_60_66
  refine fm_ci (va_runV (As := []) (rest := []) ⟨hx, hb, hml, hown, hts⟩ (fc_X12_turned_5 l D ad C nb M hI kc S9 B9 T9 (s9) (by omega) (by omega) hTK hms hoo) (cwV 0 hts gX12_both_X12_turned rfl rfl rfl (by decide +kernel) ⟨Nat.le_of_ble_eq_true rfl, Nat.le_of_ble_eq_true rfl⟩) (fm_preV hc hw hS kl_60 sh_60 rfl) rfl rfl hl.1 rfl (lv_room (Nat.le_of_ble_eq_true rfl)) dX12_both_1 ⟨by decide +kernel, by decide +kernel⟩) hS hc (fun r2 M3 H locs hr2 hw hS => ?_)
  obtain ⟨hI, hEM3, hr2⟩ := hr2
  have hE := hE.tr hEM3 (by decide)
  have mM3_60_63 : (M3.1 60 0 63).toInt = (M.1 60 0 63).toInt := by rw [(hEM3 60 0 63 (by decide)).1]
  obtain ⟨ahr2, bhr2, dhr2, shr2, phr2, mhr2, ohr2⟩ := hr2
  refine lv_istore_n (lv' := [(1, .int r2), (0, .ref (ad 60 0))]) hx hb dX12_both_4 rfl hl (by decide) rfl (fun ls hl => ?_)
  have lp : ∀ (n_lp : Nat) (lp_1 : Int32) (M_lp : fm_M), (161 - (M_lp.1 60 0 64).toInt).toNat < n_lp → ((M.1 60 0 64).toInt ≤ (M_lp.1 60 0 64).toInt ∧ (M.1 60 0 66).toInt ≤ (M_lp.1 60 0 66).toInt ∧ (M_lp.1 60 0 64).toInt ≤ (M_lp.1 60 0 65).toInt) → (∃ s : Nat × Int, rt_ms kc S9 B9 M_lp s ∧ (s.2 < 0 → (M_lp.1 60 0 66).toInt = 5) ∧ ∀ r : Nat × Int, rt_PS T9 S9 3 5 s r → rt_PS T9 S9 2 5 s9 r) → fm_I nb ad M_lp → fm_same [60064, 60065, 60066, 60067] M M_lp → ∀ (H : Heap) (locs : List Loc), fm_at D ad C nb M_lp H → va_S (fm_A nb ad) s.heap H locs → ∀ (ls : Array Slot), lv_has ls 3 [(1, .int lp_1), (0, .ref (ad 60 0))] → W p l e (headSpec wsX12_both ({ frames := 9, cells := 0, slots := 0, locals := 194 })).room s m ([.ref (ad 60 0)] : List Value).toArray below meth c H locs 0 0 (MQ below (va_Qi (fun (r : Int32) (u : fm_M) => fm_I nb ad u ∧ fm_same [60064, 60065, 60066, 60067] M u ∧ ((M.1 60 0 64).toInt ≤ (u.1 60 0 64).toInt ∧ (M.1 60 0 66).toInt ≤ (u.1 60 0 66).toInt ∧ (u.1 60 0 64).toInt ≤ (u.1 60 0 65).toInt ∧ ∃ s8 : Nat × Int, rt_PS T9 S9 2 5 s9 s8 ∧ rt_ms kc S9 B9 u s8 ∧ (s8.2 < 0 → (u.1 60 0 66).toInt = 5))) (fun u t => fm_at D ad C nb u t.heap) (fm_A nb ad)) ([.ref (ad 60 0)] : List Value).toArray s 0 0 (fm_A nb ad)) (F0 m 5 ls []) := by
    intro n_lp
    induction n_lp with
    | zero => intro lp_1 M_lp hm_lp hv hq hI hE H locs hw hS ls hl; exact absurd hm_lp (Nat.not_lt_zero _)
    | succ n_lp ih_lp =>
      intro lp_1 M_lp hm_lp hv hq hI hE H locs hw hS ls hl
      obtain ⟨s7, ms7, oo7, hq7⟩ := hq
      refine lv_aload_n hx hb dX12_both_5 rfl (lv_at hl 1 rfl) ?_
      obtain ⟨q4, vq4, hQq4, hRq4⟩ := hc.2.2.2.2.1 (RX12, 370, "and", [97, 110, 100]) (by decide)
      refine va_ldcwS hx hb hown hRq4 dX12_both_6 ?_
      have tk5 := rt_TMs hE (by decide) hTK
      refine fm_ci (va_runV (As := [.ref q4]) (rest := []) ⟨hx, hb, hml, hown, hts⟩ (fc_X12_take l D ad C nb M_lp hI q4 vq4 3 (fun j => ([97, 110, 100] : List Int32).getD j 0) (by decide) kc S9 B9 T9 (s7) 10 (by omega) tk5 ms7 rt_cd_10) (cwV 1 hts gX12_both_X12_take rfl rfl rfl (by decide +kernel) ⟨Nat.le_of_ble_eq_true rfl, Nat.le_of_ble_eq_true rfl⟩) (fm_preVS hc hw hS hQq4 kl_60 sh_60 rfl) rfl rfl hl.1 rfl (lv_room (Nat.le_of_ble_eq_true rfl)) dX12_both_9 ⟨by decide +kernel, by decide +kernel⟩) hS hc (fun r6 M7 H locs hr6 hw hS => ?_)
      obtain ⟨hI, hEM7, hr6⟩ := hr6
      have hE := hE.tr hEM7 (by decide)
      have mM7_60_63 : (M7.1 60 0 63).toInt = (M_lp.1 60 0 63).toInt := by rw [(hEM7 60 0 63 (by decide)).1]
      have mM7_60_66 : (M7.1 60 0 66).toInt = (M_lp.1 60 0 66).toInt := by rw [(hEM7 60 0 66 (by decide)).1]
      rcases hr6 with ⟨rfl, ahr6, bhr6, dhr6, ehr6, mhr6⟩ | ⟨rfl, ahr6, bhr6, dhr6, mhr6⟩
      · have ooM7 : (rt_adv T9 (s7)).2 < 0 → (M7.1 60 0 66).toInt = 5 := fun z => by have z9 := oo7 z; omega
        refine fx_if_eq (tgt := 37) hx hb dX12_both_12 (by decide) zk_1 (fun c8 => by exfalso; omega) (fun c8 => ?_)
        refine lv_aload_n hx hb dX12_both_15 rfl (lv_at hl 1 rfl) ?_
        have tk9 := rt_TMs hE (by decide) hTK
        have d10_63 := hI.bd (k := 0) bd_60_63
        have d10_64 := hI.bd (k := 0) bd_60_64
        have d10_65 := hI.bd (k := 0) bd_60_65
        have d10_66 := hI.bd (k := 0) bd_60_66
        refine fm_ci (va_runV (As := []) (rest := []) ⟨hx, hb, hml, hown, hts⟩ (fc_X12_turned_5 l D ad C nb M7 hI kc S9 B9 T9 (rt_adv T9 (s7)) (by omega) (by omega) tk9 mhr6 ooM7) (cwV 0 hts gX12_both_X12_turned rfl rfl rfl (by decide +kernel) ⟨Nat.le_of_ble_eq_true rfl, Nat.le_of_ble_eq_true rfl⟩) (fm_preV hc hw hS kl_60 sh_60 rfl) rfl rfl hl.1 rfl (lv_room (Nat.le_of_ble_eq_true rfl)) dX12_both_16 ⟨by decide +kernel, by decide +kernel⟩) hS hc (fun r11 M12 H locs hr11 hw hS => ?_)
        obtain ⟨hI, hEM12, hr11⟩ := hr11
        have hE := hE.tr hEM12 (by decide)
        have mM12_60_63 : (M12.1 60 0 63).toInt = (M7.1 60 0 63).toInt := by rw [(hEM12 60 0 63 (by decide)).1]
        obtain ⟨ahr11, bhr11, dhr11, shr11, phr11, mhr11, ohr11⟩ := hr11
        refine lv_istore_n (lv' := [(2, .int r11), (1, .int lp_1), (0, .ref (ad 60 0))]) hx hb dX12_both_19 rfl hl (by decide) rfl (fun ls hl => ?_)
        refine lv_iload_n hx hb dX12_both_20 rfl (lv_at hl 1 rfl) ?_
        refine fx_if_eq (tgt := 32) hx hb dX12_both_21 (by decide) rfl (fun c13 => ?_) (fun c13 => ?_)
        · refine lv_iconst (v := 0) hx hb dX12_both_32 (by decide) ?_
          refine lv_istore_n (lv' := [(1, .int 0), (2, .int r11), (0, .ref (ad 60 0))]) hx hb dX12_both_33 rfl hl (by decide) rfl (fun ls hl => ?_)
          refine lv_goto (tgt := 5) hx hb dX12_both_34 (by decide) ?_
          exact ih_lp 0 M12 (by omega) (by omega) ⟨shr11, mhr11, ohr11, fun r h => hq7 r (rt_PS_3y ⟨dhr6, ehr6⟩ phr11 h)⟩ hI hE _ _ hw hS ls (lv_sub hl [0, 2] rfl)
        · refine lv_iload_n hx hb dX12_both_24 rfl (lv_at hl 0 rfl) ?_
          refine fx_if_eq (tgt := 32) hx hb dX12_both_25 (by decide) rfl (fun c14 => ?_) (fun c14 => ?_)
          · refine lv_iconst (v := 0) hx hb dX12_both_32 (by decide) ?_
            refine lv_istore_n (lv' := [(1, .int 0), (2, .int r11), (0, .ref (ad 60 0))]) hx hb dX12_both_33 rfl hl (by decide) rfl (fun ls hl => ?_)
            refine lv_goto (tgt := 5) hx hb dX12_both_34 (by decide) ?_
            exact ih_lp 0 M12 (by omega) (by omega) ⟨shr11, mhr11, ohr11, fun r h => hq7 r (rt_PS_3y ⟨dhr6, ehr6⟩ phr11 h)⟩ hI hE _ _ hw hS ls (lv_sub hl [0, 2] rfl)
          · refine lv_iconst (v := 1) hx hb dX12_both_28 (by decide) ?_
            refine lv_goto (tgt := 33) hx hb dX12_both_29 (by decide) ?_
            refine lv_istore_n (lv' := [(1, .int 1), (2, .int r11), (0, .ref (ad 60 0))]) hx hb dX12_both_33 rfl hl (by decide) rfl (fun ls hl => ?_)
            refine lv_goto (tgt := 5) hx hb dX12_both_34 (by decide) ?_
            exact ih_lp 1 M12 (by omega) (by omega) ⟨shr11, mhr11, ohr11, fun r h => hq7 r (rt_PS_3y ⟨dhr6, ehr6⟩ phr11 h)⟩ hI hE _ _ hw hS ls (lv_sub hl [0, 2] rfl)
      · have ooM7 : (s7).2 < 0 → (M7.1 60 0 66).toInt = 5 := fun z => by have z9 := oo7 z; omega
        refine fx_if_eq (tgt := 37) hx hb dX12_both_12 (by decide) zk_0 (fun c15 => ?_) (fun c15 => by exfalso; omega)
        refine lv_iload_n hx hb dX12_both_37 rfl (lv_at hl 0 rfl) ?_
        exact W.iret (v := lp_1) hx hb hr (fun t ht hW => ⟨⟨lp_1, M7, rfl, ⟨hI, hE, ⟨by omega, by omega, by omega, s7, (hq7 _ (rt_PS_3n dhr6)), mhr6, ooM7⟩⟩, by show fm_at D ad C nb _ t.heap; rw [ht]; exact hw⟩, hS.F ht⟩) hS.2.2 dX12_both_38
  exact lp _ r2 M3 (Nat.lt_succ_self _) (by omega) ⟨shr2, mhr2, ohr2, fun r h => rt_PS_2 phr2 h⟩ hI hE _ _ hw hS ls (lv_sub hl [0, 1] rfl)
set_option maxHeartbeats 400000 in
set_option maxRecDepth 20000 in
theorem fc_X12_either_5 (l : Launch) (D : va_G) (ad : Nat → Nat → Nat) (C : Nat → Nat → ClassId) (nb : Nat) (M : fm_M) (hI : fm_I nb ad M) (kc : Nat) (S9 B9 T9 : Nat → Int) (s9 : Nat × Int) (hft : (M.1 60 0 64).toInt ≤ (M.1 60 0 65).toInt) (hop : 5 ≤ (M.1 60 0 66).toInt) (hTK : rt_TM M kc S9 B9 T9) (hms : rt_ms kc S9 B9 M s9) (hoo : s9.2 < 0 → (M.1 60 0 66).toInt = 5) : Met l yX12_either wsX12_either ({ frames := 10, cells := 0, slots := 0, locals := 216 }) (va_Pc [.ref (ad 60 0)] (fm_P D ad C nb M)) (va_Qi (fun (r : Int32) (u : fm_M) => fm_I nb ad u ∧ fm_same [60064, 60065, 60066, 60067] M u ∧ ((M.1 60 0 64).toInt ≤ (u.1 60 0 64).toInt ∧ (M.1 60 0 66).toInt ≤ (u.1 60 0 66).toInt ∧ (u.1 60 0 64).toInt ≤ (u.1 60 0 65).toInt ∧ ∃ s8 : Nat × Int, rt_PS T9 S9 0 5 s9 s8 ∧ rt_ms kc S9 B9 u s8 ∧ (s8.2 < 0 → (u.1 60 0 66).toInt = 5))) (fun u t => fm_at D ad C nb u t.heap) (fm_A nb ad)) 0 0 (fm_A nb ad) := by
  refine Met.ofW (cc := cX12_either) (maxL := 3) (ret := (some .int)) (by decide) rfl ?_
  intro p e s m args below meth c s₁ B hml hv
  obtain ⟨rfl, hw, hc⟩ := hv
  have hx := B.exec
  have hb := B.bytes
  have hr := B.returns
  have hts := atoms_spec (ws := wsX12_either) B.pre
  have hown : s.vm.findClass RX12 = some m.cls := findClass_of_methodNamed B.named
  have hS : va_S (fm_A nb ad) s.heap s.heap [] := va_S.rf
  have hE : fm_same [60064, 60065, 60066, 60067] M M := fm_same.rf
  have hl := lv_entry ([.ref (ad 60 0)]) (n := 3) (Nat.le_of_ble_eq_true rfl)
  rw [lg_entry_eq]
  generalize (lg_sl ([.ref (ad 60 0)]) ++ List.replicate (3 - (lg_sl ([.ref (ad 60 0)])).length) Slot.unset).toArray = ls at hl ⊢
  have hl : lv_has ls 3 [(0, .ref (ad 60 0))] := hl
  refine lv_aload_n hx hb dX12_either_0 rfl (lv_at hl 0 rfl) ?_
  have d1_63 := hI.bd (k := 0) bd_60_63
  have d1_64 := hI.bd (k := 0) bd_60_64
  have d1_65 := hI.bd (k := 0) bd_60_65
  have d1_66 := hI.bd (k := 0) bd_60_66
  refine fm_ci (va_runV (As := []) (rest := []) ⟨hx, hb, hml, hown, hts⟩ (fc_X12_both_5 l D ad C nb M hI kc S9 B9 T9 (s9) (by omega) (by omega) hTK hms hoo) (cwV 0 hts gX12_either_X12_both rfl rfl rfl (by decide +kernel) ⟨Nat.le_of_ble_eq_true rfl, Nat.le_of_ble_eq_true rfl⟩) (fm_preV hc hw hS kl_60 sh_60 rfl) rfl rfl hl.1 rfl (lv_room (Nat.le_of_ble_eq_true rfl)) dX12_either_1 ⟨by decide +kernel, by decide +kernel⟩) hS hc (fun r2 M3 H locs hr2 hw hS => ?_)
  obtain ⟨hI, hEM3, hr2⟩ := hr2
  have hE := hE.tr hEM3 (by decide)
  have mM3_60_63 : (M3.1 60 0 63).toInt = (M.1 60 0 63).toInt := by rw [(hEM3 60 0 63 (by decide)).1]
  obtain ⟨ahr2, bhr2, dhr2, shr2, phr2, mhr2, ohr2⟩ := hr2
  refine lv_istore_n (lv' := [(1, .int r2), (0, .ref (ad 60 0))]) hx hb dX12_either_4 rfl hl (by decide) rfl (fun ls hl => ?_)
  have lp : ∀ (n_lp : Nat) (lp_1 : Int32) (M_lp : fm_M), (161 - (M_lp.1 60 0 64).toInt).toNat < n_lp → ((M.1 60 0 64).toInt ≤ (M_lp.1 60 0 64).toInt ∧ (M.1 60 0 66).toInt ≤ (M_lp.1 60 0 66).toInt ∧ (M_lp.1 60 0 64).toInt ≤ (M_lp.1 60 0 65).toInt) → (∃ s : Nat × Int, rt_ms kc S9 B9 M_lp s ∧ (s.2 < 0 → (M_lp.1 60 0 66).toInt = 5) ∧ ∀ r : Nat × Int, rt_PS T9 S9 1 5 s r → rt_PS T9 S9 0 5 s9 r) → fm_I nb ad M_lp → fm_same [60064, 60065, 60066, 60067] M M_lp → ∀ (H : Heap) (locs : List Loc), fm_at D ad C nb M_lp H → va_S (fm_A nb ad) s.heap H locs → ∀ (ls : Array Slot), lv_has ls 3 [(1, .int lp_1), (0, .ref (ad 60 0))] → W p l e (headSpec wsX12_either ({ frames := 10, cells := 0, slots := 0, locals := 216 })).room s m ([.ref (ad 60 0)] : List Value).toArray below meth c H locs 0 0 (MQ below (va_Qi (fun (r : Int32) (u : fm_M) => fm_I nb ad u ∧ fm_same [60064, 60065, 60066, 60067] M u ∧ ((M.1 60 0 64).toInt ≤ (u.1 60 0 64).toInt ∧ (M.1 60 0 66).toInt ≤ (u.1 60 0 66).toInt ∧ (u.1 60 0 64).toInt ≤ (u.1 60 0 65).toInt ∧ ∃ s8 : Nat × Int, rt_PS T9 S9 0 5 s9 s8 ∧ rt_ms kc S9 B9 u s8 ∧ (s8.2 < 0 → (u.1 60 0 66).toInt = 5))) (fun u t => fm_at D ad C nb u t.heap) (fm_A nb ad)) ([.ref (ad 60 0)] : List Value).toArray s 0 0 (fm_A nb ad)) (F0 m 5 ls []) := by
    intro n_lp
    induction n_lp with
    | zero => intro lp_1 M_lp hm_lp hv hq hI hE H locs hw hS ls hl; exact absurd hm_lp (Nat.not_lt_zero _)
    | succ n_lp ih_lp =>
      intro lp_1 M_lp hm_lp hv hq hI hE H locs hw hS ls hl
      obtain ⟨s7, ms7, oo7, hq7⟩ := hq
      refine lv_aload_n hx hb dX12_either_5 rfl (lv_at hl 1 rfl) ?_
      obtain ⟨q4, vq4, hQq4, hRq4⟩ := hc.2.2.2.2.1 (RX12, 362, "or", [111, 114]) (by decide)
      refine va_ldcwS hx hb hown hRq4 dX12_either_6 ?_
      have tk5 := rt_TMs hE (by decide) hTK
      refine fm_ci (va_runV (As := [.ref q4]) (rest := []) ⟨hx, hb, hml, hown, hts⟩ (fc_X12_take l D ad C nb M_lp hI q4 vq4 2 (fun j => ([111, 114] : List Int32).getD j 0) (by decide) kc S9 B9 T9 (s7) 9 (by omega) tk5 ms7 rt_cd_9) (cwV 1 hts gX12_either_X12_take rfl rfl rfl (by decide +kernel) ⟨Nat.le_of_ble_eq_true rfl, Nat.le_of_ble_eq_true rfl⟩) (fm_preVS hc hw hS hQq4 kl_60 sh_60 rfl) rfl rfl hl.1 rfl (lv_room (Nat.le_of_ble_eq_true rfl)) dX12_either_9 ⟨by decide +kernel, by decide +kernel⟩) hS hc (fun r6 M7 H locs hr6 hw hS => ?_)
      obtain ⟨hI, hEM7, hr6⟩ := hr6
      have hE := hE.tr hEM7 (by decide)
      have mM7_60_63 : (M7.1 60 0 63).toInt = (M_lp.1 60 0 63).toInt := by rw [(hEM7 60 0 63 (by decide)).1]
      have mM7_60_66 : (M7.1 60 0 66).toInt = (M_lp.1 60 0 66).toInt := by rw [(hEM7 60 0 66 (by decide)).1]
      rcases hr6 with ⟨rfl, ahr6, bhr6, dhr6, ehr6, mhr6⟩ | ⟨rfl, ahr6, bhr6, dhr6, mhr6⟩
      · have ooM7 : (rt_adv T9 (s7)).2 < 0 → (M7.1 60 0 66).toInt = 5 := fun z => by have z9 := oo7 z; omega
        refine fx_if_eq (tgt := 37) hx hb dX12_either_12 (by decide) zk_1 (fun c8 => by exfalso; omega) (fun c8 => ?_)
        refine lv_aload_n hx hb dX12_either_15 rfl (lv_at hl 1 rfl) ?_
        have tk9 := rt_TMs hE (by decide) hTK
        have d10_63 := hI.bd (k := 0) bd_60_63
        have d10_64 := hI.bd (k := 0) bd_60_64
        have d10_65 := hI.bd (k := 0) bd_60_65
        have d10_66 := hI.bd (k := 0) bd_60_66
        refine fm_ci (va_runV (As := []) (rest := []) ⟨hx, hb, hml, hown, hts⟩ (fc_X12_both_5 l D ad C nb M7 hI kc S9 B9 T9 (rt_adv T9 (s7)) (by omega) (by omega) tk9 mhr6 ooM7) (cwV 0 hts gX12_either_X12_both rfl rfl rfl (by decide +kernel) ⟨Nat.le_of_ble_eq_true rfl, Nat.le_of_ble_eq_true rfl⟩) (fm_preV hc hw hS kl_60 sh_60 rfl) rfl rfl hl.1 rfl (lv_room (Nat.le_of_ble_eq_true rfl)) dX12_either_16 ⟨by decide +kernel, by decide +kernel⟩) hS hc (fun r11 M12 H locs hr11 hw hS => ?_)
        obtain ⟨hI, hEM12, hr11⟩ := hr11
        have hE := hE.tr hEM12 (by decide)
        have mM12_60_63 : (M12.1 60 0 63).toInt = (M7.1 60 0 63).toInt := by rw [(hEM12 60 0 63 (by decide)).1]
        obtain ⟨ahr11, bhr11, dhr11, shr11, phr11, mhr11, ohr11⟩ := hr11
        refine lv_istore_n (lv' := [(2, .int r11), (1, .int lp_1), (0, .ref (ad 60 0))]) hx hb dX12_either_19 rfl hl (by decide) rfl (fun ls hl => ?_)
        refine lv_iload_n hx hb dX12_either_20 rfl (lv_at hl 1 rfl) ?_
        refine fx_if_ne (tgt := 28) hx hb dX12_either_21 (by decide) rfl (fun c13 => ?_) (fun c13 => ?_)
        · refine lv_iconst (v := 1) hx hb dX12_either_28 (by decide) ?_
          refine lv_goto (tgt := 33) hx hb dX12_either_29 (by decide) ?_
          refine lv_istore_n (lv' := [(1, .int 1), (2, .int r11), (0, .ref (ad 60 0))]) hx hb dX12_either_33 rfl hl (by decide) rfl (fun ls hl => ?_)
          refine lv_goto (tgt := 5) hx hb dX12_either_34 (by decide) ?_
          exact ih_lp 1 M12 (by omega) (by omega) ⟨shr11, mhr11, ohr11, fun r h => hq7 r (rt_PS_1y ⟨dhr6, ehr6⟩ phr11 h)⟩ hI hE _ _ hw hS ls (lv_sub hl [0, 2] rfl)
        · refine lv_iload_n hx hb dX12_either_24 rfl (lv_at hl 0 rfl) ?_
          refine fx_if_eq (tgt := 32) hx hb dX12_either_25 (by decide) rfl (fun c14 => ?_) (fun c14 => ?_)
          · refine lv_iconst (v := 0) hx hb dX12_either_32 (by decide) ?_
            refine lv_istore_n (lv' := [(1, .int 0), (2, .int r11), (0, .ref (ad 60 0))]) hx hb dX12_either_33 rfl hl (by decide) rfl (fun ls hl => ?_)
            refine lv_goto (tgt := 5) hx hb dX12_either_34 (by decide) ?_
            exact ih_lp 0 M12 (by omega) (by omega) ⟨shr11, mhr11, ohr11, fun r h => hq7 r (rt_PS_1y ⟨dhr6, ehr6⟩ phr11 h)⟩ hI hE _ _ hw hS ls (lv_sub hl [0, 2] rfl)
          · refine lv_iconst (v := 1) hx hb dX12_either_28 (by decide) ?_
            refine lv_goto (tgt := 33) hx hb dX12_either_29 (by decide) ?_
            refine lv_istore_n (lv' := [(1, .int 1), (2, .int r11), (0, .ref (ad 60 0))]) hx hb dX12_either_33 rfl hl (by decide) rfl (fun ls hl => ?_)
            refine lv_goto (tgt := 5) hx hb dX12_either_34 (by decide) ?_
            exact ih_lp 1 M12 (by omega) (by omega) ⟨shr11, mhr11, ohr11, fun r h => hq7 r (rt_PS_1y ⟨dhr6, ehr6⟩ phr11 h)⟩ hI hE _ _ hw hS ls (lv_sub hl [0, 2] rfl)
      · have ooM7 : (s7).2 < 0 → (M7.1 60 0 66).toInt = 5 := fun z => by have z9 := oo7 z; omega
        refine fx_if_eq (tgt := 37) hx hb dX12_either_12 (by decide) zk_0 (fun c15 => ?_) (fun c15 => by exfalso; omega)
        refine lv_iload_n hx hb dX12_either_37 rfl (lv_at hl 0 rfl) ?_
        exact W.iret (v := lp_1) hx hb hr (fun t ht hW => ⟨⟨lp_1, M7, rfl, ⟨hI, hE, ⟨by omega, by omega, by omega, s7, (hq7 _ (rt_PS_1n dhr6)), mhr6, ooM7⟩⟩, by show fm_at D ad C nb _ t.heap; rw [ht]; exact hw⟩, hS.F ht⟩) hS.2.2 dX12_either_38
  exact lp _ r2 M3 (Nat.lt_succ_self _) (by omega) ⟨shr2, mhr2, ohr2, fun r h => rt_PS_0 phr2 h⟩ hI hE _ _ hw hS ls (lv_sub hl [0, 1] rfl)
set_option maxHeartbeats 400000 in
set_option maxRecDepth 20000 in
theorem fc_X12_one_4 (l : Launch) (D : va_G) (ad : Nat → Nat → Nat) (C : Nat → Nat → ClassId) (nb : Nat) (M : fm_M) (hI : fm_I nb ad M) (kc : Nat) (S9 B9 T9 : Nat → Int) (s9 : Nat × Int) (hft : (M.1 60 0 64).toInt ≤ (M.1 60 0 65).toInt) (hop : 4 ≤ (M.1 60 0 66).toInt) (hTK : rt_TM M kc S9 B9 T9) (hms : rt_ms kc S9 B9 M s9) (hoo : s9.2 < 0 → (M.1 60 0 66).toInt = 4) : Met l yX12_one wsX12_one ({ frames := 11, cells := 0, slots := 0, locals := 238 }) (va_Pc [.ref (ad 60 0)] (fm_P D ad C nb M)) (va_Qi (fun (r : Int32) (u : fm_M) => fm_I nb ad u ∧ fm_same [60064, 60065, 60066, 60067] M u ∧ ((M.1 60 0 64).toInt ≤ (u.1 60 0 64).toInt ∧ (M.1 60 0 66).toInt ≤ (u.1 60 0 66).toInt ∧ (u.1 60 0 64).toInt ≤ (u.1 60 0 65).toInt ∧ ∃ s8 : Nat × Int, rt_PS T9 S9 10 4 s9 s8 ∧ rt_ms kc S9 B9 u s8 ∧ (s8.2 < 0 → (u.1 60 0 66).toInt = 4))) (fun u t => fm_at D ad C nb u t.heap) (fm_A nb ad)) 0 0 (fm_A nb ad) := by
  refine Met.ofW (cc := cX12_one) (maxL := 3) (ret := (some .int)) (by decide) rfl ?_
  intro p e s m args below meth c s₁ B hml hv
  obtain ⟨rfl, hw, hc⟩ := hv
  have hx := B.exec
  have hb := B.bytes
  have hr := B.returns
  have hts := atoms_spec (ws := wsX12_one) B.pre
  have hown : s.vm.findClass RX12 = some m.cls := findClass_of_methodNamed B.named
  have hinX12 : ∀ w ∈ u_ws RX12 TX12 79, w ∈ wsX12_one := fun w h => List.mem_cons_of_mem _ (iT_X12 w h)
  have hS : va_S (fm_A nb ad) s.heap s.heap [] := va_S.rf
  have hE : fm_same [60064, 60065, 60066, 60067] M M := fm_same.rf
  have hl := lv_entry ([.ref (ad 60 0)]) (n := 3) (Nat.le_of_ble_eq_true rfl)
  rw [lg_entry_eq]
  generalize (lg_sl ([.ref (ad 60 0)]) ++ List.replicate (3 - (lg_sl ([.ref (ad 60 0)])).length) Slot.unset).toArray = ls at hl ⊢
  have hl : lv_has ls 3 [(0, .ref (ad 60 0))] := hl
  refine lv_aload_n hx hb dX12_one_0 rfl (lv_at hl 0 rfl) ?_
  refine fm_getI (a := 60) (j := 67) (T := TX12) (N := 79) hx hb hts hinX12 hown hc hw hI kl_60 sh_60 rfl (by decide) rfl bd_60_67 (hts (.fieldLink RX12 349 "RedTentModel" "fault" "I") (List.mem_cons_of_mem _ tw_5_187)) (fun _ h9 => h9) dX12_one_1 (fun x1 ex1 bx1 => ?_)
  refine fx_if_lt (tgt := 9) hx hb dX12_one_4 (by decide) rfl (fun c2 => ?_) (fun c2 => ?_)
  · have gh : s9.2 = x1.toInt := by rw [ex1]; exact hms.2.2.2.symm
    have hs0 : s9.2 < 0 := by omega
    have ho0 := hoo hs0
    refine lv_aload_n hx hb dX12_one_9 rfl (lv_at hl 0 rfl) ?_
    obtain ⟨q3, vq3, hQq3, hRq3⟩ := hc.2.2.2.2.1 (RX12, 396, "-", [45]) (by decide)
    refine va_ldcwS hx hb hown hRq3 dX12_one_10 ?_
    refine vp_callSi (va_Run.run (va_runV (As := [.ref q3]) (rest := []) ⟨hx, hb, hml, hown, hts⟩ (fc_X12_is l D ad C nb M hI q3 vq3 1 (fun j => ([45] : List Int32).getD j 0) (by decide) (rt_mto hTK hms) rt_cd_45.2.1) (cwV 1 hts gX12_one_X12_is rfl rfl rfl (by decide +kernel) ⟨Nat.le_of_ble_eq_true rfl, Nat.le_of_ble_eq_true rfl⟩) (fm_preVS hc hw hS hQq3 kl_60 sh_60 rfl) rfl rfl hl.1 rfl (lv_room (Nat.le_of_ble_eq_true rfl)) dX12_one_13 ⟨by decide +kernel, by decide +kernel⟩)) (fun r4 hr4 => ?_)
    rcases hr4 with ⟨rfl, chr4⟩ | ⟨rfl, chr4⟩
    · have sv5 := (rt_is hTK hms rt_cd_45).mp chr4
      refine fx_if_eq (tgt := 46) hx hb dX12_one_16 (by decide) zk_1 (fun c6 => by exfalso; omega) (fun c6 => ?_)
      refine lv_aload_n hx hb dX12_one_19 rfl (lv_at hl 0 rfl) ?_
      have hJ7 := hI
      refine fm_ci (va_runV (As := []) (rest := []) ⟨hx, hb, hml, hown, hts⟩ (fc_X12_opens l D ad C nb M hI kc S9 B9 T9 (s9) hTK hms) (cwV 0 hts gX12_one_X12_opens rfl rfl rfl (by decide +kernel) ⟨Nat.le_of_ble_eq_true rfl, Nat.le_of_ble_eq_true rfl⟩) (fm_preV hc hw hS kl_60 sh_60 rfl) rfl rfl hl.1 rfl (lv_room (Nat.le_of_ble_eq_true rfl)) dX12_one_20 ⟨by decide +kernel, by decide +kernel⟩) hS hc (fun r8 M9 H locs hr8 hw hS => ?_)
      obtain ⟨hI, hEM9, hr8⟩ := hr8
      have hE := hE.tr hEM9 (by decide)
      have mM9_60_63 : (M9.1 60 0 63).toInt = (M.1 60 0 63).toInt := by rw [(hEM9 60 0 63 (by decide)).1]
      rcases hr8 with ⟨rfl, ahr8, bhr8, dhr8, mhr8⟩ | ⟨rfl, zhr8, ahr8, bhr8, dhr8, mhr8⟩
      · have ooM9 : (rt_adv T9 (s9)).2 < 0 → (M9.1 60 0 66).toInt = 5 := fun z => by have z9 := hoo z; omega
        refine fx_if_ne (tgt := 28) hx hb dX12_one_23 (by decide) zk_1 (fun c10 => ?_) (fun c10 => by exfalso; omega)
        refine lv_aload_n hx hb dX12_one_28 rfl (lv_at hl 0 rfl) ?_
        have tk11 := rt_TMs hE (by decide) hTK
        have d12_63 := hI.bd (k := 0) bd_60_63
        have d12_64 := hI.bd (k := 0) bd_60_64
        have d12_65 := hI.bd (k := 0) bd_60_65
        have d12_66 := hI.bd (k := 0) bd_60_66
        refine fm_ci (va_runV (As := []) (rest := []) ⟨hx, hb, hml, hown, hts⟩ (fc_X12_one_5 l D ad C nb M9 hI kc S9 B9 T9 (rt_adv T9 (s9)) (by omega) (by omega) tk11 mhr8 ooM9) (cwV 0 hts gX12_one_X12_one rfl rfl rfl (by decide +kernel) ⟨Nat.le_of_ble_eq_true rfl, Nat.le_of_ble_eq_true rfl⟩) (fm_preV hc hw hS kl_60 sh_60 rfl) rfl rfl hl.1 rfl (lv_room (Nat.le_of_ble_eq_true rfl)) dX12_one_29 ⟨by decide +kernel, by decide +kernel⟩) hS hc (fun r13 M14 H locs hr13 hw hS => ?_)
        obtain ⟨hI, hEM14, hr13⟩ := hr13
        have hE := hE.tr hEM14 (by decide)
        have mM14_60_63 : (M14.1 60 0 63).toInt = (M9.1 60 0 63).toInt := by rw [(hEM14 60 0 63 (by decide)).1]
        obtain ⟨ahr13, bhr13, dhr13, shr13, phr13, mhr13, ohr13⟩ := hr13
        refine lv_istore_n (lv' := [(1, .int r13), (0, .ref (ad 60 0))]) hx hb dX12_one_32 rfl hl (by decide) rfl (fun ls hl => ?_)
        refine lv_aload_n hx hb dX12_one_33 rfl (lv_at hl 1 rfl) ?_
        refine lv_dup hx hb dX12_one_34 rfl ?_
        refine fm_getI (a := 60) (j := 66) (T := TX12) (N := 79) hx hb hts hinX12 hown hc hw hI kl_60 sh_60 rfl (by decide) rfl bd_60_66 (hts (.fieldLink RX12 372 "RedTentModel" "open" "I") (List.mem_cons_of_mem _ tw_5_186)) (fun _ h9 => h9) dX12_one_35 (fun x15 ex15 bx15 => ?_)
        have wx15 : x15.toInt = (M14.1 60 0 66).toInt := by rw [ex15]
        refine lv_iconst (v := 1) hx hb dX12_one_38 (by decide) ?_
        refine fx_isub hx hb dX12_one_39 rfl zk_1 (by omega) (fun y16 ey16 ty16 => ?_)
        refine fm_putI (a := 60) (j := 66) (T := TX12) (N := 79) hx hb hts hinX12 tyX12 tyX12_ok nmX12 hown hc hw hI hE hS kl_60 sh_60 od_60 rfl (by decide) rfl bd_60_66 (hts (.fieldLink RX12 372 "RedTentModel" "open" "I") (List.mem_cons_of_mem _ tw_5_186)) (fun _ h9 => h9) rfl (by decide +kernel) (by omega) (by decide) (by decide) dX12_one_40 (fun M17 H locs eM17 hw hI hE hS => ?_)
        have mM17_60_63 : (M17.1 60 0 63).toInt = (M14.1 60 0 63).toInt := by rw [eM17, fm_wI_nj (fun z => absurd z.2.2 (by decide))]
        have mM17_60_64 : (M17.1 60 0 64).toInt = (M14.1 60 0 64).toInt := by rw [eM17, fm_wI_nj (fun z => absurd z.2.2 (by decide))]
        have mM17_60_65 : (M17.1 60 0 65).toInt = (M14.1 60 0 65).toInt := by rw [eM17, fm_wI_nj (fun z => absurd z.2.2 (by decide))]
        have mM17_60_66 : (M17.1 60 0 66).toInt = y16.toInt := by rw [eM17, fm_wI_at]
        have hEM17 : fm_same [60066] M14 M17 := by rw [eM17]; exact fm_same.rf.wI (by decide)
        have mwM17 := rt_ms_same hEM17 (by decide) mhr13
        have ooM17 : (shr13).2 < 0 → (M17.1 60 0 66).toInt = 4 := fun z => by have z9 := ohr13 z; omega
        refine lv_iload_n hx hb dX12_one_43 rfl (lv_at hl 0 rfl) ?_
        refine lv_ineg hx hb dX12_one_44 ?_
        refine lv_topi (fun y18 ey18 => ?_)
        exact W.iret (v := y18) hx hb hr (fun t ht hW => ⟨⟨y18, M17, rfl, ⟨hI, hE, ⟨by omega, by omega, by omega, shr13, (rt_PS_10m ⟨⟨hs0, sv5⟩, by decide⟩ phr13), mwM17, ooM17⟩⟩, by show fm_at D ad C nb _ t.heap; rw [ht]; exact hw⟩, hS.F ht⟩) hS.2.2 dX12_one_45
      · exfalso; omega
    · have sv19 : ¬ T9 (s9).1 = 45 := fun z => chr4 ((rt_is hTK hms rt_cd_45).mpr z)
      refine fx_if_eq (tgt := 46) hx hb dX12_one_16 (by decide) zk_0 (fun c20 => ?_) (fun c20 => by exfalso; omega)
      refine lv_aload_n hx hb dX12_one_46 rfl (lv_at hl 0 rfl) ?_
      obtain ⟨q21, vq21, hQq21, hRq21⟩ := hc.2.2.2.2.1 (RX12, 403, "(", [40]) (by decide)
      refine va_ldcwS hx hb hown hRq21 dX12_one_47 ?_
      refine vp_callSi (va_Run.run (va_runV (As := [.ref q21]) (rest := []) ⟨hx, hb, hml, hown, hts⟩ (fc_X12_is l D ad C nb M hI q21 vq21 1 (fun j => ([40] : List Int32).getD j 0) (by decide) (rt_mto hTK hms) rt_cd_40.2.1) (cwV 1 hts gX12_one_X12_is rfl rfl rfl (by decide +kernel) ⟨Nat.le_of_ble_eq_true rfl, Nat.le_of_ble_eq_true rfl⟩) (fm_preVS hc hw hS hQq21 kl_60 sh_60 rfl) rfl rfl hl.1 rfl (lv_room (Nat.le_of_ble_eq_true rfl)) dX12_one_50 ⟨by decide +kernel, by decide +kernel⟩)) (fun r22 hr22 => ?_)
      rcases hr22 with ⟨rfl, chr22⟩ | ⟨rfl, chr22⟩
      · have sv23 := (rt_is hTK hms rt_cd_40).mp chr22
        refine fx_if_eq (tgt := 97) hx hb dX12_one_53 (by decide) zk_1 (fun c24 => by exfalso; omega) (fun c24 => ?_)
        refine lv_aload_n hx hb dX12_one_56 rfl (lv_at hl 0 rfl) ?_
        have hJ25 := hI
        refine fm_ci (va_runV (As := []) (rest := []) ⟨hx, hb, hml, hown, hts⟩ (fc_X12_opens l D ad C nb M hI kc S9 B9 T9 (s9) hTK hms) (cwV 0 hts gX12_one_X12_opens rfl rfl rfl (by decide +kernel) ⟨Nat.le_of_ble_eq_true rfl, Nat.le_of_ble_eq_true rfl⟩) (fm_preV hc hw hS kl_60 sh_60 rfl) rfl rfl hl.1 rfl (lv_room (Nat.le_of_ble_eq_true rfl)) dX12_one_57 ⟨by decide +kernel, by decide +kernel⟩) hS hc (fun r26 M27 H locs hr26 hw hS => ?_)
        obtain ⟨hI, hEM27, hr26⟩ := hr26
        have hE := hE.tr hEM27 (by decide)
        have mM27_60_63 : (M27.1 60 0 63).toInt = (M.1 60 0 63).toInt := by rw [(hEM27 60 0 63 (by decide)).1]
        rcases hr26 with ⟨rfl, ahr26, bhr26, dhr26, mhr26⟩ | ⟨rfl, zhr26, ahr26, bhr26, dhr26, mhr26⟩
        · have ooM27 : (rt_adv T9 (s9)).2 < 0 → (M27.1 60 0 66).toInt = 5 := fun z => by have z9 := hoo z; omega
          refine fx_if_ne (tgt := 65) hx hb dX12_one_60 (by decide) zk_1 (fun c28 => ?_) (fun c28 => by exfalso; omega)
          refine lv_aload_n hx hb dX12_one_65 rfl (lv_at hl 0 rfl) ?_
          have tk29 := rt_TMs hE (by decide) hTK
          have d30_63 := hI.bd (k := 0) bd_60_63
          have d30_64 := hI.bd (k := 0) bd_60_64
          have d30_65 := hI.bd (k := 0) bd_60_65
          have d30_66 := hI.bd (k := 0) bd_60_66
          refine fm_ci (va_runV (As := []) (rest := []) ⟨hx, hb, hml, hown, hts⟩ (fc_X12_either_5 l D ad C nb M27 hI kc S9 B9 T9 (rt_adv T9 (s9)) (by omega) (by omega) tk29 mhr26 ooM27) (cwV 0 hts gX12_one_X12_either rfl rfl rfl (by decide +kernel) ⟨Nat.le_of_ble_eq_true rfl, Nat.le_of_ble_eq_true rfl⟩) (fm_preV hc hw hS kl_60 sh_60 rfl) rfl rfl hl.1 rfl (lv_room (Nat.le_of_ble_eq_true rfl)) dX12_one_66 ⟨by decide +kernel, by decide +kernel⟩) hS hc (fun r31 M32 H locs hr31 hw hS => ?_)
          obtain ⟨hI, hEM32, hr31⟩ := hr31
          have hE := hE.tr hEM32 (by decide)
          have mM32_60_63 : (M32.1 60 0 63).toInt = (M27.1 60 0 63).toInt := by rw [(hEM32 60 0 63 (by decide)).1]
          obtain ⟨ahr31, bhr31, dhr31, shr31, phr31, mhr31, ohr31⟩ := hr31
          refine lv_istore_n (lv' := [(1, .int r31), (0, .ref (ad 60 0))]) hx hb dX12_one_69 rfl hl (by decide) rfl (fun ls hl => ?_)
          refine lv_aload_n hx hb dX12_one_70 rfl (lv_at hl 1 rfl) ?_
          obtain ⟨q33, vq33, hQq33, hRq33⟩ := hc.2.2.2.2.1 (RX12, 408, ")", [41]) (by decide)
          refine va_ldcwS hx hb hown hRq33 dX12_one_71 ?_
          have tk34 := rt_TMs hE (by decide) hTK
          refine fm_ci (va_runV (As := [.ref q33]) (rest := []) ⟨hx, hb, hml, hown, hts⟩ (fc_X12_take l D ad C nb M32 hI q33 vq33 1 (fun j => ([41] : List Int32).getD j 0) (by decide) kc S9 B9 T9 (shr31) 41 (by omega) tk34 mhr31 rt_cd_41) (cwV 1 hts gX12_one_X12_take rfl rfl rfl (by decide +kernel) ⟨Nat.le_of_ble_eq_true rfl, Nat.le_of_ble_eq_true rfl⟩) (fm_preVS hc hw hS hQq33 kl_60 sh_60 rfl) rfl rfl hl.1 rfl (lv_room (Nat.le_of_ble_eq_true rfl)) dX12_one_74 ⟨by decide +kernel, by decide +kernel⟩) hS hc (fun r35 M36 H locs hr35 hw hS => ?_)
          obtain ⟨hI, hEM36, hr35⟩ := hr35
          have hE := hE.tr hEM36 (by decide)
          have mM36_60_63 : (M36.1 60 0 63).toInt = (M32.1 60 0 63).toInt := by rw [(hEM36 60 0 63 (by decide)).1]
          have mM36_60_66 : (M36.1 60 0 66).toInt = (M32.1 60 0 66).toInt := by rw [(hEM36 60 0 66 (by decide)).1]
          rcases hr35 with ⟨rfl, ahr35, bhr35, dhr35, ehr35, mhr35⟩ | ⟨rfl, ahr35, bhr35, dhr35, mhr35⟩
          · have ooM36 : (rt_adv T9 (shr31)).2 < 0 → (M36.1 60 0 66).toInt = 5 := fun z => by have z9 := ohr31 z; omega
            refine fx_if_ne (tgt := 85) hx hb dX12_one_77 (by decide) zk_1 (fun c37 => ?_) (fun c37 => by exfalso; omega)
            refine lv_aload_n hx hb dX12_one_85 rfl (lv_at hl 1 rfl) ?_
            refine lv_dup hx hb dX12_one_86 rfl ?_
            refine fm_getI (a := 60) (j := 66) (T := TX12) (N := 79) hx hb hts hinX12 hown hc hw hI kl_60 sh_60 rfl (by decide) rfl bd_60_66 (hts (.fieldLink RX12 372 "RedTentModel" "open" "I") (List.mem_cons_of_mem _ tw_5_186)) (fun _ h9 => h9) dX12_one_87 (fun x38 ex38 bx38 => ?_)
            have wx38 : x38.toInt = (M36.1 60 0 66).toInt := by rw [ex38]
            refine lv_iconst (v := 1) hx hb dX12_one_90 (by decide) ?_
            refine fx_isub hx hb dX12_one_91 rfl zk_1 (by omega) (fun y39 ey39 ty39 => ?_)
            refine fm_putI (a := 60) (j := 66) (T := TX12) (N := 79) hx hb hts hinX12 tyX12 tyX12_ok nmX12 hown hc hw hI hE hS kl_60 sh_60 od_60 rfl (by decide) rfl bd_60_66 (hts (.fieldLink RX12 372 "RedTentModel" "open" "I") (List.mem_cons_of_mem _ tw_5_186)) (fun _ h9 => h9) rfl (by decide +kernel) (by omega) (by decide) (by decide) dX12_one_92 (fun M40 H locs eM40 hw hI hE hS => ?_)
            have mM40_60_63 : (M40.1 60 0 63).toInt = (M36.1 60 0 63).toInt := by rw [eM40, fm_wI_nj (fun z => absurd z.2.2 (by decide))]
            have mM40_60_64 : (M40.1 60 0 64).toInt = (M36.1 60 0 64).toInt := by rw [eM40, fm_wI_nj (fun z => absurd z.2.2 (by decide))]
            have mM40_60_65 : (M40.1 60 0 65).toInt = (M36.1 60 0 65).toInt := by rw [eM40, fm_wI_nj (fun z => absurd z.2.2 (by decide))]
            have mM40_60_66 : (M40.1 60 0 66).toInt = y39.toInt := by rw [eM40, fm_wI_at]
            have hEM40 : fm_same [60066] M36 M40 := by rw [eM40]; exact fm_same.rf.wI (by decide)
            have mwM40 := rt_ms_same hEM40 (by decide) mhr35
            have ooM40 : (rt_adv T9 (shr31)).2 < 0 → (M40.1 60 0 66).toInt = 4 := fun z => by have z9 := ooM36 z; omega
            refine lv_iload_n hx hb dX12_one_95 rfl (lv_at hl 0 rfl) ?_
            exact W.iret (v := r31) hx hb hr (fun t ht hW => ⟨⟨r31, M40, rfl, ⟨hI, hE, ⟨by omega, by omega, by omega, rt_adv T9 (shr31), (by rw [← rt_need_y (S := S9) ⟨dhr35, ehr35⟩]; exact rt_PS_10b ⟨⟨hs0, sv23⟩, by decide⟩ phr31), mwM40, ooM40⟩⟩, by show fm_at D ad C nb _ t.heap; rw [ht]; exact hw⟩, hS.F ht⟩) hS.2.2 dX12_one_96
          · have ooM36 : (shr31).2 < 0 → (M36.1 60 0 66).toInt = 5 := fun z => by have z9 := ohr31 z; omega
            refine fx_if_ne (tgt := 85) hx hb dX12_one_77 (by decide) zk_0 (fun c41 => by exfalso; omega) (fun c41 => ?_)
            refine lv_aload_n hx hb dX12_one_80 rfl (lv_at hl 1 rfl) ?_
            have hJ42 := hI
            refine fm_ci (va_runV (As := []) (rest := []) ⟨hx, hb, hml, hown, hts⟩ (fc_X12_wrong l D ad C nb M36 hI kc S9 B9 (shr31) mhr35) (cwV 0 hts gX12_one_X12_wrong rfl rfl rfl (by decide +kernel) ⟨Nat.le_of_ble_eq_true rfl, Nat.le_of_ble_eq_true rfl⟩) (fm_preV hc hw hS kl_60 sh_60 rfl) rfl rfl hl.1 rfl (lv_room (Nat.le_of_ble_eq_true rfl)) dX12_one_81 ⟨by decide +kernel, by decide +kernel⟩) hS hc (fun r43 M44 H locs hr43 hw hS => ?_)
            obtain ⟨hI, hEM44, hr43⟩ := hr43
            have hE := hE.tr hEM44 (by decide)
            have mM44_60_63 : (M44.1 60 0 63).toInt = (M36.1 60 0 63).toInt := by rw [(hEM44 60 0 63 (by decide)).1]
            have mM44_60_64 : (M44.1 60 0 64).toInt = (M36.1 60 0 64).toInt := by rw [(hEM44 60 0 64 (by decide)).1]
            have mM44_60_65 : (M44.1 60 0 65).toInt = (M36.1 60 0 65).toInt := by rw [(hEM44 60 0 65 (by decide)).1]
            have mM44_60_66 : (M44.1 60 0 66).toInt = (M36.1 60 0 66).toInt := by rw [(hEM44 60 0 66 (by decide)).1]
            obtain ⟨bhr43, mhr43⟩ := hr43
            have ooM44 : (rt_fail S9 (shr31)).2 < 0 → (M44.1 60 0 66).toInt = 4 := rt_ms_f0 mhr35 (hJ42.bd (k := 0) bd_60_64).1
            exact W.iret (v := r43) hx hb hr (fun t ht hW => ⟨⟨r43, M44, rfl, ⟨hI, hE, ⟨by omega, by omega, by omega, rt_fail S9 (shr31), (by rw [← rt_need_n (S := S9) dhr35]; exact rt_PS_10b ⟨⟨hs0, sv23⟩, by decide⟩ phr31), mhr43, ooM44⟩⟩, by show fm_at D ad C nb _ t.heap; rw [ht]; exact hw⟩, hS.F ht⟩) hS.2.2 dX12_one_84
        · exfalso; omega
      · have sv45 : ¬ T9 (s9).1 = 40 := fun z => chr22 ((rt_is hTK hms rt_cd_40).mpr z)
        refine fx_if_eq (tgt := 97) hx hb dX12_one_53 (by decide) zk_0 (fun c46 => ?_) (fun c46 => by exfalso; omega)
        refine lv_aload_n hx hb dX12_one_97 rfl (lv_at hl 0 rfl) ?_
        refine lv_aload_n hx hb dX12_one_98 rfl (lv_at hl 0 rfl) ?_
        refine fm_getI (a := 60) (j := 64) (T := TX12) (N := 79) hx hb hts hinX12 hown hc hw hI kl_60 sh_60 rfl (by decide) rfl bd_60_64 (hts (.fieldLink RX12 340 "RedTentModel" "from" "I") (List.mem_cons_of_mem _ tw_5_184)) (fun _ h9 => h9) dX12_one_99 (fun x47 ex47 bx47 => ?_)
        have wx47 : x47.toInt = (M.1 60 0 64).toInt := by rw [ex47]
        refine vp_callSi (va_Run.run (va_runV (As := [.int x47]) (rest := []) ⟨hx, hb, hml, hown, hts⟩ (fc_X12_isDigit l D ad C nb M hI x47 (by omega)) (cwV 1 hts gX12_one_X12_isDigit rfl rfl rfl (by decide +kernel) ⟨Nat.le_of_ble_eq_true rfl, Nat.le_of_ble_eq_true rfl⟩) (fm_preV hc hw hS kl_60 sh_60 rfl) rfl rfl hl.1 rfl (lv_room (Nat.le_of_ble_eq_true rfl)) dX12_one_102 ⟨by decide +kernel, by decide +kernel⟩)) (fun r48 hr48 => ?_)
        have bqq49 := hI.bd (k := 0) bd_60_62
        have bqq50 := hI.bd (k := 0) bd_60_63
        rcases hr48 with ⟨rfl, c51⟩ | ⟨rfl, c51⟩
        · have g52 : x47.toInt = (M.1 60 0 64).toInt := by omega
          rw [g52] at c51
          have gd := rt_isd hTK hms c51
          refine fx_if_eq (tgt := 167) hx hb dX12_one_105 (by decide) zk_1 (fun c53 => by exfalso; omega) (fun c53 => ?_)
          refine lv_aload_n hx hb dX12_one_108 rfl (lv_at hl 0 rfl) ?_
          refine fm_getI (a := 60) (j := 65) (T := TX12) (N := 79) hx hb hts hinX12 hown hc hw hI kl_60 sh_60 rfl (by decide) rfl bd_60_65 (hts (.fieldLink RX12 337 "RedTentModel" "to" "I") (List.mem_cons_of_mem _ tw_5_185)) (fun _ h9 => h9) dX12_one_109 (fun x54 ex54 bx54 => ?_)
          have wx54 : x54.toInt = (M.1 60 0 65).toInt := by rw [ex54]
          refine lv_aload_n hx hb dX12_one_112 rfl (lv_at hl 0 rfl) ?_
          refine fm_getI (a := 60) (j := 64) (T := TX12) (N := 79) hx hb hts hinX12 hown hc hw hI kl_60 sh_60 rfl (by decide) rfl bd_60_64 (hts (.fieldLink RX12 340 "RedTentModel" "from" "I") (List.mem_cons_of_mem _ tw_5_184)) (fun _ h9 => h9) dX12_one_113 (fun x55 ex55 bx55 => ?_)
          have wx55 : x55.toInt = (M.1 60 0 64).toInt := by rw [ex55]
          obtain rfl : x47 = x55 := by rw [ex55]; exact ex47
          refine fx_isub hx hb dX12_one_116 rfl rfl (by omega) (fun y56 ey56 ty56 => ?_)
          refine lv_iconst (v := 4) hx hb dX12_one_117 (by decide) ?_
          refine fx_icmp_le (tgt := 126) hx hb dX12_one_118 (by decide) rfl zk_4 (fun c57 => ?_) (fun c57 => ?_)
          · refine lv_iconst (v := 0) hx hb dX12_one_126 (by decide) ?_
            refine lv_istore_n (lv' := [(1, .int 0), (0, .ref (ad 60 0))]) hx hb dX12_one_127 rfl hl (by decide) rfl (fun ls hl => ?_)
            refine lv_aload_n hx hb dX12_one_128 rfl (lv_at hl 1 rfl) ?_
            refine fm_getI (a := 60) (j := 64) (T := TX12) (N := 79) hx hb hts hinX12 hown hc hw hI kl_60 sh_60 rfl (by decide) rfl bd_60_64 (hts (.fieldLink RX12 340 "RedTentModel" "from" "I") (List.mem_cons_of_mem _ tw_5_184)) (fun _ h9 => h9) dX12_one_129 (fun x58 ex58 bx58 => ?_)
            have wx58 : x58.toInt = (M.1 60 0 64).toInt := by rw [ex58]
            obtain rfl : x47 = x58 := by rw [ex58]; exact ex47
            refine lv_istore_n (lv' := [(2, .int x47), (1, .int 0), (0, .ref (ad 60 0))]) hx hb dX12_one_132 rfl hl (by decide) rfl (fun ls hl => ?_)
            have lp : ∀ (n_lp : Nat) (lp_2 : Int32) (lp_1 : Int32), (160 - lp_2.toInt).toNat < n_lp → (0 ≤ lp_2.toInt ∧ lp_2.toInt ≤ 160) → ∀ (ls : Array Slot), lv_has ls 3 [(2, .int lp_2), (1, .int lp_1), (0, .ref (ad 60 0))] → W p l e (headSpec wsX12_one ({ frames := 11, cells := 0, slots := 0, locals := 238 })).room s m ([.ref (ad 60 0)] : List Value).toArray below meth c s.heap [] 0 0 (MQ below (va_Qi (fun (r : Int32) (u : fm_M) => fm_I nb ad u ∧ fm_same [60064, 60065, 60066, 60067] M u ∧ ((M.1 60 0 64).toInt ≤ (u.1 60 0 64).toInt ∧ (M.1 60 0 66).toInt ≤ (u.1 60 0 66).toInt ∧ (u.1 60 0 64).toInt ≤ (u.1 60 0 65).toInt ∧ ∃ s8 : Nat × Int, rt_PS T9 S9 10 4 s9 s8 ∧ rt_ms kc S9 B9 u s8 ∧ (s8.2 < 0 → (u.1 60 0 66).toInt = 4))) (fun u t => fm_at D ad C nb u t.heap) (fm_A nb ad)) ([.ref (ad 60 0)] : List Value).toArray s 0 0 (fm_A nb ad)) (F0 m 133 ls []) := by
              intro n_lp
              induction n_lp with
              | zero => intro lp_2 lp_1 hm_lp b_lp_2 ls hl; exact absurd hm_lp (Nat.not_lt_zero _)
              | succ n_lp ih_lp =>
                intro lp_2 lp_1 hm_lp b_lp_2 ls hl
                refine lv_iload_n hx hb dX12_one_133 rfl (lv_at hl 0 rfl) ?_
                refine lv_aload_n hx hb dX12_one_134 rfl (lv_at hl 2 rfl) ?_
                refine fm_getI (a := 60) (j := 65) (T := TX12) (N := 79) hx hb hts hinX12 hown hc hw hI kl_60 sh_60 rfl (by decide) rfl bd_60_65 (hts (.fieldLink RX12 337 "RedTentModel" "to" "I") (List.mem_cons_of_mem _ tw_5_185)) (fun _ h9 => h9) dX12_one_135 (fun x59 ex59 bx59 => ?_)
                have wx59 : x59.toInt = (M.1 60 0 65).toInt := by rw [ex59]
                obtain rfl : x54 = x59 := by rw [ex59]; exact ex54
                refine fx_icmp_ge (tgt := 161) hx hb dX12_one_138 (by decide) rfl rfl (fun c60 => ?_) (fun c60 => ?_)
                · refine lv_aload_n hx hb dX12_one_161 rfl (lv_at hl 2 rfl) ?_
                  refine fm_cv (va_runV (As := []) (rest := []) ⟨hx, hb, hml, hown, hts⟩ (fc_X12_next l D ad C nb M hI (rt_mto hTK hms)) (cwV 0 hts gX12_one_X12_next rfl rfl rfl (by decide +kernel) ⟨Nat.le_of_ble_eq_true rfl, Nat.le_of_ble_eq_true rfl⟩) (fm_preV hc hw hS kl_60 sh_60 rfl) rfl rfl hl.1 rfl (lv_room (Nat.le_of_ble_eq_true rfl)) dX12_one_162 ⟨by decide +kernel, by decide +kernel⟩) hS hc (fun M62 H locs hr61 hw hS => ?_)
                  obtain ⟨hI, hEM62, hr61⟩ := hr61
                  have hE := hE.tr hEM62 (by decide)
                  have mM62_60_63 : (M62.1 60 0 63).toInt = (M.1 60 0 63).toInt := by rw [(hEM62 60 0 63 (by decide)).1]
                  have mM62_60_66 : (M62.1 60 0 66).toInt = (M.1 60 0 66).toInt := by rw [(hEM62 60 0 66 (by decide)).1]
                  obtain ⟨ahr61, bhr61, nhr61⟩ := hr61
                  have mhr61 := rt_ms_next hTK hms nhr61 (hEM62 60 0 67 (by decide)).1
                  have ooM62 : (rt_adv T9 (s9)).2 < 0 → (M62.1 60 0 66).toInt = 4 := fun z => by have z9 := hoo z; omega
                  refine lv_iload_n hx hb dX12_one_165 rfl (lv_at hl 1 rfl) ?_
                  have qx47 : x47.toInt = (M.1 60 0 64).toInt := by rw [ex47]
                  exact W.iret (v := lp_1) hx hb hr (fun t ht hW => ⟨⟨lp_1, M62, rfl, ⟨hI, hE, ⟨by omega, by omega, by omega, rt_adv T9 (s9), (rt_PS_10v ⟨hs0, Or.inl (gd.1 (by omega))⟩), mhr61, ooM62⟩⟩, by show fm_at D ad C nb _ t.heap; rw [ht]; exact hw⟩, hS.F ht⟩) hS.2.2 dX12_one_166
                · refine lv_bipush (v := 10) hx hb dX12_one_141 (by decide) ?_
                  refine lv_iload_n hx hb dX12_one_143 rfl (lv_at hl 1 rfl) ?_
                  refine fx_imulU hx hb dX12_one_144 (fun y63 ey63 => ?_)
                  refine lv_aload_n hx hb dX12_one_145 rfl (lv_at hl 2 rfl) ?_
                  refine lv_iload_n hx hb dX12_one_146 rfl (lv_at hl 0 rfl) ?_
                  refine vp_callSi (va_Run.run (va_runV (As := [.int lp_2]) (rest := [.int y63]) ⟨hx, hb, hml, hown, hts⟩ (fc_X12_byteAt l D ad C nb M hI lp_2 (by omega)) (cwV 1 hts gX12_one_X12_byteAt rfl rfl rfl (by decide +kernel) ⟨Nat.le_of_ble_eq_true rfl, Nat.le_of_ble_eq_true rfl⟩) (fm_preV hc hw hS kl_60 sh_60 rfl) rfl rfl hl.1 rfl (lv_room (Nat.le_of_ble_eq_true rfl)) dX12_one_147 ⟨by decide +kernel, by decide +kernel⟩)) (fun r64 hr64 => ?_)
                  refine fx_iaddU hx hb dX12_one_150 (fun y65 ey65 => ?_)
                  refine lv_bipush (v := 48) hx hb dX12_one_151 (by decide) ?_
                  refine fx_isubU hx hb dX12_one_153 (fun y66 ey66 => ?_)
                  refine lv_istore_n (lv' := [(1, .int y66), (2, .int lp_2), (0, .ref (ad 60 0))]) hx hb dX12_one_154 rfl hl (by decide) rfl (fun ls hl => ?_)
                  obtain ⟨y67, ey67⟩ : ∃ y : Int32, y = lp_2 + 1 := ⟨_, rfl⟩
                  have ty67 : y67.toInt = lp_2.toInt + 1 := by rw [ey67, zi_add _ _ (by rw [zk_1]; omega) (by rw [zk_1]; omega), zk_1]
                  refine lv_iinc (v := y67) (lv' := [(2, .int y67), (1, .int y66), (0, .ref (ad 60 0))]) hx hb dX12_one_155 hl (k := 1) rfl (by rw [ey67]; rfl) (by decide) rfl (fun ls hl => ?_)
                  refine lv_goto (tgt := 133) hx hb dX12_one_158 (by decide) ?_
                  exact ih_lp y67 y66 (by omega) (by omega) ls (lv_sub hl [0, 1, 2] rfl)
            exact lp _ x47 0 (Nat.lt_succ_self _) (by omega) ls (lv_sub hl [0, 1, 2] rfl)
          · have ge := gd.2 (by omega)
            refine lv_aload_n hx hb dX12_one_121 rfl (lv_at hl 0 rfl) ?_
            have hJ68 := hI
            refine fm_ci (va_runV (As := []) (rest := []) ⟨hx, hb, hml, hown, hts⟩ (fc_X12_wrong l D ad C nb M hI kc S9 B9 (s9) hms) (cwV 0 hts gX12_one_X12_wrong rfl rfl rfl (by decide +kernel) ⟨Nat.le_of_ble_eq_true rfl, Nat.le_of_ble_eq_true rfl⟩) (fm_preV hc hw hS kl_60 sh_60 rfl) rfl rfl hl.1 rfl (lv_room (Nat.le_of_ble_eq_true rfl)) dX12_one_122 ⟨by decide +kernel, by decide +kernel⟩) hS hc (fun r69 M70 H locs hr69 hw hS => ?_)
            obtain ⟨hI, hEM70, hr69⟩ := hr69
            have hE := hE.tr hEM70 (by decide)
            have mM70_60_63 : (M70.1 60 0 63).toInt = (M.1 60 0 63).toInt := by rw [(hEM70 60 0 63 (by decide)).1]
            have mM70_60_64 : (M70.1 60 0 64).toInt = (M.1 60 0 64).toInt := by rw [(hEM70 60 0 64 (by decide)).1]
            have mM70_60_65 : (M70.1 60 0 65).toInt = (M.1 60 0 65).toInt := by rw [(hEM70 60 0 65 (by decide)).1]
            have mM70_60_66 : (M70.1 60 0 66).toInt = (M.1 60 0 66).toInt := by rw [(hEM70 60 0 66 (by decide)).1]
            obtain ⟨bhr69, mhr69⟩ := hr69
            have ooM70 : (rt_fail S9 (s9)).2 < 0 → (M70.1 60 0 66).toInt = 4 := rt_ms_f0 hms (hJ68.bd (k := 0) bd_60_64).1
            have qx47 : x47.toInt = (M.1 60 0 64).toInt := by rw [ex47]
            exact W.iret (v := r69) hx hb hr (fun t ht hW => ⟨⟨r69, M70, rfl, ⟨hI, hE, ⟨by omega, by omega, by omega, rt_fail S9 (s9), (rt_PS_10f (by omega)), mhr69, ooM70⟩⟩, by show fm_at D ad C nb _ t.heap; rw [ht]; exact hw⟩, hS.F ht⟩) hS.2.2 dX12_one_125
        · have g71 : x47.toInt = (M.1 60 0 64).toInt := by omega
          rw [g71] at c51
          have gd := rt_isn hTK hms c51
          refine fx_if_eq (tgt := 167) hx hb dX12_one_105 (by decide) zk_0 (fun c72 => ?_) (fun c72 => by exfalso; omega)
          have jt : ∀ (jt_1 : Int32), ((-1) ≤ jt_1.toInt ∧ jt_1.toInt ≤ 5) → ((jt_1.toInt < 0 ∧ ¬ (0 < T9 s9.1 ∧ T9 s9.1 ≤ 6)) ∨ (0 ≤ jt_1.toInt ∧ 0 < T9 s9.1 ∧ T9 s9.1 ≤ 6)) → ∀ (ls : Array Slot), lv_has ls 3 [(0, .ref (ad 60 0)), (1, .int jt_1)] → W p l e (headSpec wsX12_one ({ frames := 11, cells := 0, slots := 0, locals := 238 })).room s m ([.ref (ad 60 0)] : List Value).toArray below meth c s.heap [] 0 0 (MQ below (va_Qi (fun (r : Int32) (u : fm_M) => fm_I nb ad u ∧ fm_same [60064, 60065, 60066, 60067] M u ∧ ((M.1 60 0 64).toInt ≤ (u.1 60 0 64).toInt ∧ (M.1 60 0 66).toInt ≤ (u.1 60 0 66).toInt ∧ (u.1 60 0 64).toInt ≤ (u.1 60 0 65).toInt ∧ ∃ s8 : Nat × Int, rt_PS T9 S9 10 4 s9 s8 ∧ rt_ms kc S9 B9 u s8 ∧ (s8.2 < 0 → (u.1 60 0 66).toInt = 4))) (fun u t => fm_at D ad C nb u t.heap) (fm_A nb ad)) ([.ref (ad 60 0)] : List Value).toArray s 0 0 (fm_A nb ad)) (F0 m 253 ls []) := by
            intro jt_1 b_jt_1 hj ls hl
            refine lv_iload_n hx hb dX12_one_253 rfl (lv_at hl 1 rfl) ?_
            refine fx_if_ge (tgt := 262) hx hb dX12_one_254 (by decide) rfl (fun c73 => ?_) (fun c73 => ?_)
            · refine lv_aload_n hx hb dX12_one_262 rfl (lv_at hl 0 rfl) ?_
              refine fm_cv (va_runV (As := []) (rest := []) ⟨hx, hb, hml, hown, hts⟩ (fc_X12_next l D ad C nb M hI (rt_mto hTK hms)) (cwV 0 hts gX12_one_X12_next rfl rfl rfl (by decide +kernel) ⟨Nat.le_of_ble_eq_true rfl, Nat.le_of_ble_eq_true rfl⟩) (fm_preV hc hw hS kl_60 sh_60 rfl) rfl rfl hl.1 rfl (lv_room (Nat.le_of_ble_eq_true rfl)) dX12_one_263 ⟨by decide +kernel, by decide +kernel⟩) hS hc (fun M75 H locs hr74 hw hS => ?_)
              obtain ⟨hI, hEM75, hr74⟩ := hr74
              have hE := hE.tr hEM75 (by decide)
              have mM75_60_63 : (M75.1 60 0 63).toInt = (M.1 60 0 63).toInt := by rw [(hEM75 60 0 63 (by decide)).1]
              have mM75_60_66 : (M75.1 60 0 66).toInt = (M.1 60 0 66).toInt := by rw [(hEM75 60 0 66 (by decide)).1]
              obtain ⟨ahr74, bhr74, nhr74⟩ := hr74
              have mhr74 := rt_ms_next hTK hms nhr74 (hEM75 60 0 67 (by decide)).1
              have ooM75 : (rt_adv T9 (s9)).2 < 0 → (M75.1 60 0 66).toInt = 4 := fun z => by have z9 := hoo z; omega
              refine lv_aload_n hx hb dX12_one_266 rfl (lv_at hl 0 rfl) ?_
              refine fm_getG (a := 60) (j := 68) (T := TX12) (N := 79) hx hb hts hinX12 hown hc hw kl_60 sh_60 rfl (by decide) rfl (hI.to kl_60 tg_60_68) (hts (.fieldLink RX12 143 "RedTentModel" "names" "[I") (List.mem_cons_of_mem _ tw_5_188)) (fun _ h9 => h9) dX12_one_267 ?_
              refine lv_iload_n hx hb dX12_one_270 rfl (lv_at hl 1 rfl) ?_
              refine fm_iald (a := 168) hx hb hc hw hI kl_168 sh_168 ty_168 bd_168 (by omega) dX12_one_271 (fun x76 ex76 bx76 => ?_)
              have qx47 : x47.toInt = (M.1 60 0 64).toInt := by rw [ex47]
              exact W.iret (v := x76) hx hb hr (fun t ht hW => ⟨⟨x76, M75, rfl, ⟨hI, hE, ⟨by omega, by omega, by omega, rt_adv T9 (s9), (rt_PS_10v ⟨hs0, Or.inr (by rcases hj with ⟨hj, _⟩ | ⟨_, hj⟩; exfalso; omega; exact hj)⟩), mhr74, ooM75⟩⟩, by show fm_at D ad C nb _ t.heap; rw [ht]; exact hw⟩, hS.F ht⟩) hS.2.2 dX12_one_272
            · refine lv_aload_n hx hb dX12_one_257 rfl (lv_at hl 0 rfl) ?_
              have hJ77 := hI
              refine fm_ci (va_runV (As := []) (rest := []) ⟨hx, hb, hml, hown, hts⟩ (fc_X12_wrong l D ad C nb M hI kc S9 B9 (s9) hms) (cwV 0 hts gX12_one_X12_wrong rfl rfl rfl (by decide +kernel) ⟨Nat.le_of_ble_eq_true rfl, Nat.le_of_ble_eq_true rfl⟩) (fm_preV hc hw hS kl_60 sh_60 rfl) rfl rfl hl.1 rfl (lv_room (Nat.le_of_ble_eq_true rfl)) dX12_one_258 ⟨by decide +kernel, by decide +kernel⟩) hS hc (fun r78 M79 H locs hr78 hw hS => ?_)
              obtain ⟨hI, hEM79, hr78⟩ := hr78
              have hE := hE.tr hEM79 (by decide)
              have mM79_60_63 : (M79.1 60 0 63).toInt = (M.1 60 0 63).toInt := by rw [(hEM79 60 0 63 (by decide)).1]
              have mM79_60_64 : (M79.1 60 0 64).toInt = (M.1 60 0 64).toInt := by rw [(hEM79 60 0 64 (by decide)).1]
              have mM79_60_65 : (M79.1 60 0 65).toInt = (M.1 60 0 65).toInt := by rw [(hEM79 60 0 65 (by decide)).1]
              have mM79_60_66 : (M79.1 60 0 66).toInt = (M.1 60 0 66).toInt := by rw [(hEM79 60 0 66 (by decide)).1]
              obtain ⟨bhr78, mhr78⟩ := hr78
              have ooM79 : (rt_fail S9 (s9)).2 < 0 → (M79.1 60 0 66).toInt = 4 := rt_ms_f0 hms (hJ77.bd (k := 0) bd_60_64).1
              have qx47 : x47.toInt = (M.1 60 0 64).toInt := by rw [ex47]
              exact W.iret (v := r78) hx hb hr (fun t ht hW => ⟨⟨r78, M79, rfl, ⟨hI, hE, ⟨by omega, by omega, by omega, rt_fail S9 (s9), (rt_PS_10f (by rcases hj with ⟨_, hj⟩ | ⟨hj, _⟩ <;> omega)), mhr78, ooM79⟩⟩, by show fm_at D ad C nb _ t.heap; rw [ht]; exact hw⟩, hS.F ht⟩) hS.2.2 dX12_one_261
          refine lv_aload_n hx hb dX12_one_167 rfl (lv_at hl 0 rfl) ?_
          obtain ⟨q80, vq80, hQq80, hRq80⟩ := hc.2.2.2.2.1 (RX12, 410, "strength", [115, 116, 114, 101, 110, 103, 116, 104]) (by decide)
          refine va_ldcwS hx hb hown hRq80 dX12_one_168 ?_
          refine vp_callSi (va_Run.run (va_runV (As := [.ref q80]) (rest := []) ⟨hx, hb, hml, hown, hts⟩ (fc_X12_is l D ad C nb M hI q80 vq80 8 (fun j => ([115, 116, 114, 101, 110, 103, 116, 104] : List Int32).getD j 0) (by decide) (rt_mto hTK hms) rt_cd_1.2.1) (cwV 1 hts gX12_one_X12_is rfl rfl rfl (by decide +kernel) ⟨Nat.le_of_ble_eq_true rfl, Nat.le_of_ble_eq_true rfl⟩) (fm_preVS hc hw hS hQq80 kl_60 sh_60 rfl) rfl rfl hl.1 rfl (lv_room (Nat.le_of_ble_eq_true rfl)) dX12_one_171 ⟨by decide +kernel, by decide +kernel⟩)) (fun r81 hr81 => ?_)
          rcases hr81 with ⟨rfl, chr81⟩ | ⟨rfl, chr81⟩
          · have sv82 := (rt_is hTK hms rt_cd_1).mp chr81
            refine fx_if_eq (tgt := 181) hx hb dX12_one_174 (by decide) zk_1 (fun c83 => by exfalso; omega) (fun c83 => ?_)
            refine lv_iconst (v := 0) hx hb dX12_one_177 (by decide) ?_
            refine lv_goto (tgt := 252) hx hb dX12_one_178 (by decide) ?_
            refine lv_istore_n (lv' := [(1, .int 0), (0, .ref (ad 60 0))]) hx hb dX12_one_252 rfl hl (by decide) rfl (fun ls hl => ?_)
            exact jt 0 (by decide) (Or.inr ⟨by decide, by omega⟩) ls (lv_sub hl [1, 0] rfl)
          · have sv84 : ¬ T9 (s9).1 = 1 := fun z => chr81 ((rt_is hTK hms rt_cd_1).mpr z)
            refine fx_if_eq (tgt := 181) hx hb dX12_one_174 (by decide) zk_0 (fun c85 => ?_) (fun c85 => by exfalso; omega)
            refine lv_aload_n hx hb dX12_one_181 rfl (lv_at hl 0 rfl) ?_
            obtain ⟨q86, vq86, hQq86, hRq86⟩ := hc.2.2.2.2.1 (RX12, 411, "hurt", [104, 117, 114, 116]) (by decide)
            refine va_ldcwS hx hb hown hRq86 dX12_one_182 ?_
            refine vp_callSi (va_Run.run (va_runV (As := [.ref q86]) (rest := []) ⟨hx, hb, hml, hown, hts⟩ (fc_X12_is l D ad C nb M hI q86 vq86 4 (fun j => ([104, 117, 114, 116] : List Int32).getD j 0) (by decide) (rt_mto hTK hms) rt_cd_2.2.1) (cwV 1 hts gX12_one_X12_is rfl rfl rfl (by decide +kernel) ⟨Nat.le_of_ble_eq_true rfl, Nat.le_of_ble_eq_true rfl⟩) (fm_preVS hc hw hS hQq86 kl_60 sh_60 rfl) rfl rfl hl.1 rfl (lv_room (Nat.le_of_ble_eq_true rfl)) dX12_one_185 ⟨by decide +kernel, by decide +kernel⟩)) (fun r87 hr87 => ?_)
            rcases hr87 with ⟨rfl, chr87⟩ | ⟨rfl, chr87⟩
            · have sv88 := (rt_is hTK hms rt_cd_2).mp chr87
              refine fx_if_eq (tgt := 195) hx hb dX12_one_188 (by decide) zk_1 (fun c89 => by exfalso; omega) (fun c89 => ?_)
              refine lv_iconst (v := 1) hx hb dX12_one_191 (by decide) ?_
              refine lv_goto (tgt := 252) hx hb dX12_one_192 (by decide) ?_
              refine lv_istore_n (lv' := [(1, .int 1), (0, .ref (ad 60 0))]) hx hb dX12_one_252 rfl hl (by decide) rfl (fun ls hl => ?_)
              exact jt 1 (by decide) (Or.inr ⟨by decide, by omega⟩) ls (lv_sub hl [1, 0] rfl)
            · have sv90 : ¬ T9 (s9).1 = 2 := fun z => chr87 ((rt_is hTK hms rt_cd_2).mpr z)
              refine fx_if_eq (tgt := 195) hx hb dX12_one_188 (by decide) zk_0 (fun c91 => ?_) (fun c91 => by exfalso; omega)
              refine lv_aload_n hx hb dX12_one_195 rfl (lv_at hl 0 rfl) ?_
              obtain ⟨q92, vq92, hQq92, hRq92⟩ := hc.2.2.2.2.1 (RX12, 412, "skill", [115, 107, 105, 108, 108]) (by decide)
              refine va_ldcwS hx hb hown hRq92 dX12_one_196 ?_
              refine vp_callSi (va_Run.run (va_runV (As := [.ref q92]) (rest := []) ⟨hx, hb, hml, hown, hts⟩ (fc_X12_is l D ad C nb M hI q92 vq92 5 (fun j => ([115, 107, 105, 108, 108] : List Int32).getD j 0) (by decide) (rt_mto hTK hms) rt_cd_3.2.1) (cwV 1 hts gX12_one_X12_is rfl rfl rfl (by decide +kernel) ⟨Nat.le_of_ble_eq_true rfl, Nat.le_of_ble_eq_true rfl⟩) (fm_preVS hc hw hS hQq92 kl_60 sh_60 rfl) rfl rfl hl.1 rfl (lv_room (Nat.le_of_ble_eq_true rfl)) dX12_one_199 ⟨by decide +kernel, by decide +kernel⟩)) (fun r93 hr93 => ?_)
              rcases hr93 with ⟨rfl, chr93⟩ | ⟨rfl, chr93⟩
              · have sv94 := (rt_is hTK hms rt_cd_3).mp chr93
                refine fx_if_eq (tgt := 209) hx hb dX12_one_202 (by decide) zk_1 (fun c95 => by exfalso; omega) (fun c95 => ?_)
                refine lv_iconst (v := 2) hx hb dX12_one_205 (by decide) ?_
                refine lv_goto (tgt := 252) hx hb dX12_one_206 (by decide) ?_
                refine lv_istore_n (lv' := [(1, .int 2), (0, .ref (ad 60 0))]) hx hb dX12_one_252 rfl hl (by decide) rfl (fun ls hl => ?_)
                exact jt 2 (by decide) (Or.inr ⟨by decide, by omega⟩) ls (lv_sub hl [1, 0] rfl)
              · have sv96 : ¬ T9 (s9).1 = 3 := fun z => chr93 ((rt_is hTK hms rt_cd_3).mpr z)
                refine fx_if_eq (tgt := 209) hx hb dX12_one_202 (by decide) zk_0 (fun c97 => ?_) (fun c97 => by exfalso; omega)
                refine lv_aload_n hx hb dX12_one_209 rfl (lv_at hl 0 rfl) ?_
                obtain ⟨q98, vq98, hQq98, hRq98⟩ := hc.2.2.2.2.1 (RX12, 413, "hour", [104, 111, 117, 114]) (by decide)
                refine va_ldcwS hx hb hown hRq98 dX12_one_210 ?_
                refine vp_callSi (va_Run.run (va_runV (As := [.ref q98]) (rest := []) ⟨hx, hb, hml, hown, hts⟩ (fc_X12_is l D ad C nb M hI q98 vq98 4 (fun j => ([104, 111, 117, 114] : List Int32).getD j 0) (by decide) (rt_mto hTK hms) rt_cd_4.2.1) (cwV 1 hts gX12_one_X12_is rfl rfl rfl (by decide +kernel) ⟨Nat.le_of_ble_eq_true rfl, Nat.le_of_ble_eq_true rfl⟩) (fm_preVS hc hw hS hQq98 kl_60 sh_60 rfl) rfl rfl hl.1 rfl (lv_room (Nat.le_of_ble_eq_true rfl)) dX12_one_213 ⟨by decide +kernel, by decide +kernel⟩)) (fun r99 hr99 => ?_)
                rcases hr99 with ⟨rfl, chr99⟩ | ⟨rfl, chr99⟩
                · have sv100 := (rt_is hTK hms rt_cd_4).mp chr99
                  refine fx_if_eq (tgt := 223) hx hb dX12_one_216 (by decide) zk_1 (fun c101 => by exfalso; omega) (fun c101 => ?_)
                  refine lv_iconst (v := 3) hx hb dX12_one_219 (by decide) ?_
                  refine lv_goto (tgt := 252) hx hb dX12_one_220 (by decide) ?_
                  refine lv_istore_n (lv' := [(1, .int 3), (0, .ref (ad 60 0))]) hx hb dX12_one_252 rfl hl (by decide) rfl (fun ls hl => ?_)
                  exact jt 3 (by decide) (Or.inr ⟨by decide, by omega⟩) ls (lv_sub hl [1, 0] rfl)
                · have sv102 : ¬ T9 (s9).1 = 4 := fun z => chr99 ((rt_is hTK hms rt_cd_4).mpr z)
                  refine fx_if_eq (tgt := 223) hx hb dX12_one_216 (by decide) zk_0 (fun c103 => ?_) (fun c103 => by exfalso; omega)
                  refine lv_aload_n hx hb dX12_one_223 rfl (lv_at hl 0 rfl) ?_
                  obtain ⟨q104, vq104, hQq104, hRq104⟩ := hc.2.2.2.2.1 (RX12, 414, "fuel", [102, 117, 101, 108]) (by decide)
                  refine va_ldcwS hx hb hown hRq104 dX12_one_224 ?_
                  refine vp_callSi (va_Run.run (va_runV (As := [.ref q104]) (rest := []) ⟨hx, hb, hml, hown, hts⟩ (fc_X12_is l D ad C nb M hI q104 vq104 4 (fun j => ([102, 117, 101, 108] : List Int32).getD j 0) (by decide) (rt_mto hTK hms) rt_cd_5.2.1) (cwV 1 hts gX12_one_X12_is rfl rfl rfl (by decide +kernel) ⟨Nat.le_of_ble_eq_true rfl, Nat.le_of_ble_eq_true rfl⟩) (fm_preVS hc hw hS hQq104 kl_60 sh_60 rfl) rfl rfl hl.1 rfl (lv_room (Nat.le_of_ble_eq_true rfl)) dX12_one_227 ⟨by decide +kernel, by decide +kernel⟩)) (fun r105 hr105 => ?_)
                  rcases hr105 with ⟨rfl, chr105⟩ | ⟨rfl, chr105⟩
                  · have sv106 := (rt_is hTK hms rt_cd_5).mp chr105
                    refine fx_if_eq (tgt := 237) hx hb dX12_one_230 (by decide) zk_1 (fun c107 => by exfalso; omega) (fun c107 => ?_)
                    refine lv_iconst (v := 4) hx hb dX12_one_233 (by decide) ?_
                    refine lv_goto (tgt := 252) hx hb dX12_one_234 (by decide) ?_
                    refine lv_istore_n (lv' := [(1, .int 4), (0, .ref (ad 60 0))]) hx hb dX12_one_252 rfl hl (by decide) rfl (fun ls hl => ?_)
                    exact jt 4 (by decide) (Or.inr ⟨by decide, by omega⟩) ls (lv_sub hl [1, 0] rfl)
                  · have sv108 : ¬ T9 (s9).1 = 5 := fun z => chr105 ((rt_is hTK hms rt_cd_5).mpr z)
                    refine fx_if_eq (tgt := 237) hx hb dX12_one_230 (by decide) zk_0 (fun c109 => ?_) (fun c109 => by exfalso; omega)
                    refine lv_aload_n hx hb dX12_one_237 rfl (lv_at hl 0 rfl) ?_
                    obtain ⟨q110, vq110, hQq110, hRq110⟩ := hc.2.2.2.2.1 (RX12, 415, "far", [102, 97, 114]) (by decide)
                    refine va_ldcwS hx hb hown hRq110 dX12_one_238 ?_
                    refine vp_callSi (va_Run.run (va_runV (As := [.ref q110]) (rest := []) ⟨hx, hb, hml, hown, hts⟩ (fc_X12_is l D ad C nb M hI q110 vq110 3 (fun j => ([102, 97, 114] : List Int32).getD j 0) (by decide) (rt_mto hTK hms) rt_cd_6.2.1) (cwV 1 hts gX12_one_X12_is rfl rfl rfl (by decide +kernel) ⟨Nat.le_of_ble_eq_true rfl, Nat.le_of_ble_eq_true rfl⟩) (fm_preVS hc hw hS hQq110 kl_60 sh_60 rfl) rfl rfl hl.1 rfl (lv_room (Nat.le_of_ble_eq_true rfl)) dX12_one_241 ⟨by decide +kernel, by decide +kernel⟩)) (fun r111 hr111 => ?_)
                    rcases hr111 with ⟨rfl, chr111⟩ | ⟨rfl, chr111⟩
                    · have sv112 := (rt_is hTK hms rt_cd_6).mp chr111
                      refine fx_if_eq (tgt := 251) hx hb dX12_one_244 (by decide) zk_1 (fun c113 => by exfalso; omega) (fun c113 => ?_)
                      refine lv_iconst (v := 5) hx hb dX12_one_247 (by decide) ?_
                      refine lv_goto (tgt := 252) hx hb dX12_one_248 (by decide) ?_
                      refine lv_istore_n (lv' := [(1, .int 5), (0, .ref (ad 60 0))]) hx hb dX12_one_252 rfl hl (by decide) rfl (fun ls hl => ?_)
                      exact jt 5 (by decide) (Or.inr ⟨by decide, by omega⟩) ls (lv_sub hl [1, 0] rfl)
                    · have sv114 : ¬ T9 (s9).1 = 6 := fun z => chr111 ((rt_is hTK hms rt_cd_6).mpr z)
                      refine fx_if_eq (tgt := 251) hx hb dX12_one_244 (by decide) zk_0 (fun c115 => ?_) (fun c115 => by exfalso; omega)
                      refine lv_iconst (v := (-1)) hx hb dX12_one_251 (by decide) ?_
                      refine lv_istore_n (lv' := [(1, .int (-1)), (0, .ref (ad 60 0))]) hx hb dX12_one_252 rfl hl (by decide) rfl (fun ls hl => ?_)
                      exact jt (-1) (by decide) (Or.inl ⟨by decide, by omega⟩) ls (lv_sub hl [1, 0] rfl)
  · refine lv_iconst (v := 0) hx hb dX12_one_7 (by decide) ?_
    exact W.iret (v := 0) hx hb hr (fun t ht hW => ⟨⟨0, M, rfl, ⟨hI, hE, ⟨by omega, by omega, by omega, s9, (rt_PS_id (by rw [← hms.2.2.2, ← ex1]; omega) (by decide)), hms, hoo⟩⟩, by show fm_at D ad C nb _ t.heap; rw [ht]; exact hw⟩, hS.F ht⟩) hS.2.2 dX12_one_8
set_option maxHeartbeats 400000 in
set_option maxRecDepth 20000 in
theorem fc_X12_product_4 (l : Launch) (D : va_G) (ad : Nat → Nat → Nat) (C : Nat → Nat → ClassId) (nb : Nat) (M : fm_M) (hI : fm_I nb ad M) (kc : Nat) (S9 B9 T9 : Nat → Int) (s9 : Nat × Int) (hft : (M.1 60 0 64).toInt ≤ (M.1 60 0 65).toInt) (hop : 4 ≤ (M.1 60 0 66).toInt) (hTK : rt_TM M kc S9 B9 T9) (hms : rt_ms kc S9 B9 M s9) (hoo : s9.2 < 0 → (M.1 60 0 66).toInt = 4) : Met l yX12_product wsX12_product ({ frames := 12, cells := 0, slots := 0, locals := 260 }) (va_Pc [.ref (ad 60 0)] (fm_P D ad C nb M)) (va_Qi (fun (r : Int32) (u : fm_M) => fm_I nb ad u ∧ fm_same [60064, 60065, 60066, 60067] M u ∧ ((M.1 60 0 64).toInt ≤ (u.1 60 0 64).toInt ∧ (M.1 60 0 66).toInt ≤ (u.1 60 0 66).toInt ∧ (u.1 60 0 64).toInt ≤ (u.1 60 0 65).toInt ∧ ∃ s8 : Nat × Int, rt_PS T9 S9 8 4 s9 s8 ∧ rt_ms kc S9 B9 u s8 ∧ (s8.2 < 0 → (u.1 60 0 66).toInt = 4))) (fun u t => fm_at D ad C nb u t.heap) (fm_A nb ad)) 0 0 (fm_A nb ad) := by
  refine Met.ofW (cc := cX12_product) (maxL := 2) (ret := (some .int)) (by decide) rfl ?_
  intro p e s m args below meth c s₁ B hml hv
  obtain ⟨rfl, hw, hc⟩ := hv
  have hx := B.exec
  have hb := B.bytes
  have hr := B.returns
  have hts := atoms_spec (ws := wsX12_product) B.pre
  have hown : s.vm.findClass RX12 = some m.cls := findClass_of_methodNamed B.named
  have hS : va_S (fm_A nb ad) s.heap s.heap [] := va_S.rf
  have hE : fm_same [60064, 60065, 60066, 60067] M M := fm_same.rf
  have hl := lv_entry ([.ref (ad 60 0)]) (n := 2) (Nat.le_of_ble_eq_true rfl)
  rw [lg_entry_eq]
  generalize (lg_sl ([.ref (ad 60 0)]) ++ List.replicate (2 - (lg_sl ([.ref (ad 60 0)])).length) Slot.unset).toArray = ls at hl ⊢
  have hl : lv_has ls 2 [(0, .ref (ad 60 0))] := hl
  refine lv_aload_n hx hb dX12_product_0 rfl (lv_at hl 0 rfl) ?_
  have d1_63 := hI.bd (k := 0) bd_60_63
  have d1_64 := hI.bd (k := 0) bd_60_64
  have d1_65 := hI.bd (k := 0) bd_60_65
  have d1_66 := hI.bd (k := 0) bd_60_66
  refine fm_ci (va_runV (As := []) (rest := []) ⟨hx, hb, hml, hown, hts⟩ (fc_X12_one_4 l D ad C nb M hI kc S9 B9 T9 (s9) (by omega) (by omega) hTK hms hoo) (cwV 0 hts gX12_product_X12_one rfl rfl rfl (by decide +kernel) ⟨Nat.le_of_ble_eq_true rfl, Nat.le_of_ble_eq_true rfl⟩) (fm_preV hc hw hS kl_60 sh_60 rfl) rfl rfl hl.1 rfl (lv_room (Nat.le_of_ble_eq_true rfl)) dX12_product_1 ⟨by decide +kernel, by decide +kernel⟩) hS hc (fun r2 M3 H locs hr2 hw hS => ?_)
  obtain ⟨hI, hEM3, hr2⟩ := hr2
  have hE := hE.tr hEM3 (by decide)
  have mM3_60_63 : (M3.1 60 0 63).toInt = (M.1 60 0 63).toInt := by rw [(hEM3 60 0 63 (by decide)).1]
  obtain ⟨ahr2, bhr2, dhr2, shr2, phr2, mhr2, ohr2⟩ := hr2
  refine lv_istore_n (lv' := [(1, .int r2), (0, .ref (ad 60 0))]) hx hb dX12_product_4 rfl hl (by decide) rfl (fun ls hl => ?_)
  have lp : ∀ (n_lp : Nat) (lp_1 : Int32) (M_lp : fm_M), (161 - (M_lp.1 60 0 64).toInt).toNat < n_lp → ((M.1 60 0 64).toInt ≤ (M_lp.1 60 0 64).toInt ∧ (M.1 60 0 66).toInt ≤ (M_lp.1 60 0 66).toInt ∧ (M_lp.1 60 0 64).toInt ≤ (M_lp.1 60 0 65).toInt) → (∃ s : Nat × Int, rt_ms kc S9 B9 M_lp s ∧ (s.2 < 0 → (M_lp.1 60 0 66).toInt = 4) ∧ ∀ r : Nat × Int, rt_PS T9 S9 9 4 s r → rt_PS T9 S9 8 4 s9 r) → fm_I nb ad M_lp → fm_same [60064, 60065, 60066, 60067] M M_lp → ∀ (H : Heap) (locs : List Loc), fm_at D ad C nb M_lp H → va_S (fm_A nb ad) s.heap H locs → ∀ (ls : Array Slot), lv_has ls 2 [(1, .int lp_1), (0, .ref (ad 60 0))] → W p l e (headSpec wsX12_product ({ frames := 12, cells := 0, slots := 0, locals := 260 })).room s m ([.ref (ad 60 0)] : List Value).toArray below meth c H locs 0 0 (MQ below (va_Qi (fun (r : Int32) (u : fm_M) => fm_I nb ad u ∧ fm_same [60064, 60065, 60066, 60067] M u ∧ ((M.1 60 0 64).toInt ≤ (u.1 60 0 64).toInt ∧ (M.1 60 0 66).toInt ≤ (u.1 60 0 66).toInt ∧ (u.1 60 0 64).toInt ≤ (u.1 60 0 65).toInt ∧ ∃ s8 : Nat × Int, rt_PS T9 S9 8 4 s9 s8 ∧ rt_ms kc S9 B9 u s8 ∧ (s8.2 < 0 → (u.1 60 0 66).toInt = 4))) (fun u t => fm_at D ad C nb u t.heap) (fm_A nb ad)) ([.ref (ad 60 0)] : List Value).toArray s 0 0 (fm_A nb ad)) (F0 m 5 ls []) := by
    intro n_lp
    induction n_lp with
    | zero => intro lp_1 M_lp hm_lp hv hq hI hE H locs hw hS ls hl; exact absurd hm_lp (Nat.not_lt_zero _)
    | succ n_lp ih_lp =>
      intro lp_1 M_lp hm_lp hv hq hI hE H locs hw hS ls hl
      obtain ⟨s7, ms7, oo7, hq7⟩ := hq
      refine lv_aload_n hx hb dX12_product_5 rfl (lv_at hl 1 rfl) ?_
      obtain ⟨q4, vq4, hQq4, hRq4⟩ := hc.2.2.2.2.1 (RX12, 401, "*", [42]) (by decide)
      refine va_ldcwS hx hb hown hRq4 dX12_product_6 ?_
      have tk5 := rt_TMs hE (by decide) hTK
      refine fm_ci (va_runV (As := [.ref q4]) (rest := []) ⟨hx, hb, hml, hown, hts⟩ (fc_X12_take l D ad C nb M_lp hI q4 vq4 1 (fun j => ([42] : List Int32).getD j 0) (by decide) kc S9 B9 T9 (s7) 42 (by omega) tk5 ms7 rt_cd_42) (cwV 1 hts gX12_product_X12_take rfl rfl rfl (by decide +kernel) ⟨Nat.le_of_ble_eq_true rfl, Nat.le_of_ble_eq_true rfl⟩) (fm_preVS hc hw hS hQq4 kl_60 sh_60 rfl) rfl rfl hl.1 rfl (lv_room (Nat.le_of_ble_eq_true rfl)) dX12_product_9 ⟨by decide +kernel, by decide +kernel⟩) hS hc (fun r6 M7 H locs hr6 hw hS => ?_)
      obtain ⟨hI, hEM7, hr6⟩ := hr6
      have hE := hE.tr hEM7 (by decide)
      have mM7_60_63 : (M7.1 60 0 63).toInt = (M_lp.1 60 0 63).toInt := by rw [(hEM7 60 0 63 (by decide)).1]
      have mM7_60_66 : (M7.1 60 0 66).toInt = (M_lp.1 60 0 66).toInt := by rw [(hEM7 60 0 66 (by decide)).1]
      rcases hr6 with ⟨rfl, ahr6, bhr6, dhr6, ehr6, mhr6⟩ | ⟨rfl, ahr6, bhr6, dhr6, mhr6⟩
      · have ooM7 : (rt_adv T9 (s7)).2 < 0 → (M7.1 60 0 66).toInt = 4 := fun z => by have z9 := oo7 z; omega
        refine fx_if_eq (tgt := 25) hx hb dX12_product_12 (by decide) zk_1 (fun c8 => by exfalso; omega) (fun c8 => ?_)
        refine lv_iload_n hx hb dX12_product_15 rfl (lv_at hl 0 rfl) ?_
        refine lv_aload_n hx hb dX12_product_16 rfl (lv_at hl 1 rfl) ?_
        have tk9 := rt_TMs hE (by decide) hTK
        have d10_63 := hI.bd (k := 0) bd_60_63
        have d10_64 := hI.bd (k := 0) bd_60_64
        have d10_65 := hI.bd (k := 0) bd_60_65
        have d10_66 := hI.bd (k := 0) bd_60_66
        refine fm_ci (va_runV (As := []) (rest := [.int lp_1]) ⟨hx, hb, hml, hown, hts⟩ (fc_X12_one_4 l D ad C nb M7 hI kc S9 B9 T9 (rt_adv T9 (s7)) (by omega) (by omega) tk9 mhr6 ooM7) (cwV 0 hts gX12_product_X12_one rfl rfl rfl (by decide +kernel) ⟨Nat.le_of_ble_eq_true rfl, Nat.le_of_ble_eq_true rfl⟩) (fm_preV hc hw hS kl_60 sh_60 rfl) rfl rfl hl.1 rfl (lv_room (Nat.le_of_ble_eq_true rfl)) dX12_product_17 ⟨by decide +kernel, by decide +kernel⟩) hS hc (fun r11 M12 H locs hr11 hw hS => ?_)
        obtain ⟨hI, hEM12, hr11⟩ := hr11
        have hE := hE.tr hEM12 (by decide)
        have mM12_60_63 : (M12.1 60 0 63).toInt = (M7.1 60 0 63).toInt := by rw [(hEM12 60 0 63 (by decide)).1]
        obtain ⟨ahr11, bhr11, dhr11, shr11, phr11, mhr11, ohr11⟩ := hr11
        refine fx_imulU hx hb dX12_product_20 (fun y13 ey13 => ?_)
        refine lv_istore_n (lv' := [(1, .int y13), (0, .ref (ad 60 0))]) hx hb dX12_product_21 rfl hl (by decide) rfl (fun ls hl => ?_)
        refine lv_goto (tgt := 5) hx hb dX12_product_22 (by decide) ?_
        exact ih_lp y13 M12 (by omega) (by omega) ⟨shr11, mhr11, ohr11, fun r h => hq7 r (rt_PS_9y ⟨dhr6, ehr6⟩ phr11 h)⟩ hI hE _ _ hw hS ls (lv_sub hl [0, 1] rfl)
      · have ooM7 : (s7).2 < 0 → (M7.1 60 0 66).toInt = 4 := fun z => by have z9 := oo7 z; omega
        refine fx_if_eq (tgt := 25) hx hb dX12_product_12 (by decide) zk_0 (fun c14 => ?_) (fun c14 => by exfalso; omega)
        refine lv_iload_n hx hb dX12_product_25 rfl (lv_at hl 0 rfl) ?_
        exact W.iret (v := lp_1) hx hb hr (fun t ht hW => ⟨⟨lp_1, M7, rfl, ⟨hI, hE, ⟨by omega, by omega, by omega, s7, (hq7 _ (rt_PS_9n dhr6)), mhr6, ooM7⟩⟩, by show fm_at D ad C nb _ t.heap; rw [ht]; exact hw⟩, hS.F ht⟩) hS.2.2 dX12_product_26
  exact lp _ r2 M3 (Nat.lt_succ_self _) (by omega) ⟨shr2, mhr2, ohr2, fun r h => rt_PS_8 phr2 h⟩ hI hE _ _ hw hS ls (lv_sub hl [0, 1] rfl)
set_option maxHeartbeats 400000 in
set_option maxRecDepth 20000 in
theorem fc_X12_sum_4 (l : Launch) (D : va_G) (ad : Nat → Nat → Nat) (C : Nat → Nat → ClassId) (nb : Nat) (M : fm_M) (hI : fm_I nb ad M) (kc : Nat) (S9 B9 T9 : Nat → Int) (s9 : Nat × Int) (hft : (M.1 60 0 64).toInt ≤ (M.1 60 0 65).toInt) (hop : 4 ≤ (M.1 60 0 66).toInt) (hTK : rt_TM M kc S9 B9 T9) (hms : rt_ms kc S9 B9 M s9) (hoo : s9.2 < 0 → (M.1 60 0 66).toInt = 4) : Met l yX12_sum wsX12_sum ({ frames := 13, cells := 0, slots := 0, locals := 281 }) (va_Pc [.ref (ad 60 0)] (fm_P D ad C nb M)) (va_Qi (fun (r : Int32) (u : fm_M) => fm_I nb ad u ∧ fm_same [60064, 60065, 60066, 60067] M u ∧ ((M.1 60 0 64).toInt ≤ (u.1 60 0 64).toInt ∧ (M.1 60 0 66).toInt ≤ (u.1 60 0 66).toInt ∧ (u.1 60 0 64).toInt ≤ (u.1 60 0 65).toInt ∧ ∃ s8 : Nat × Int, rt_PS T9 S9 6 4 s9 s8 ∧ rt_ms kc S9 B9 u s8 ∧ (s8.2 < 0 → (u.1 60 0 66).toInt = 4))) (fun u t => fm_at D ad C nb u t.heap) (fm_A nb ad)) 0 0 (fm_A nb ad) := by
  refine Met.ofW (cc := cX12_sum) (maxL := 3) (ret := (some .int)) (by decide) rfl ?_
  intro p e s m args below meth c s₁ B hml hv
  obtain ⟨rfl, hw, hc⟩ := hv
  have hx := B.exec
  have hb := B.bytes
  have hr := B.returns
  have hts := atoms_spec (ws := wsX12_sum) B.pre
  have hown : s.vm.findClass RX12 = some m.cls := findClass_of_methodNamed B.named
  have hS : va_S (fm_A nb ad) s.heap s.heap [] := va_S.rf
  have hE : fm_same [60064, 60065, 60066, 60067] M M := fm_same.rf
  have hl := lv_entry ([.ref (ad 60 0)]) (n := 3) (Nat.le_of_ble_eq_true rfl)
  rw [lg_entry_eq]
  generalize (lg_sl ([.ref (ad 60 0)]) ++ List.replicate (3 - (lg_sl ([.ref (ad 60 0)])).length) Slot.unset).toArray = ls at hl ⊢
  have hl : lv_has ls 3 [(0, .ref (ad 60 0))] := hl
  refine lv_aload_n hx hb dX12_sum_0 rfl (lv_at hl 0 rfl) ?_
  have d1_63 := hI.bd (k := 0) bd_60_63
  have d1_64 := hI.bd (k := 0) bd_60_64
  have d1_65 := hI.bd (k := 0) bd_60_65
  have d1_66 := hI.bd (k := 0) bd_60_66
  refine fm_ci (va_runV (As := []) (rest := []) ⟨hx, hb, hml, hown, hts⟩ (fc_X12_product_4 l D ad C nb M hI kc S9 B9 T9 (s9) (by omega) (by omega) hTK hms hoo) (cwV 0 hts gX12_sum_X12_product rfl rfl rfl (by decide +kernel) ⟨Nat.le_of_ble_eq_true rfl, Nat.le_of_ble_eq_true rfl⟩) (fm_preV hc hw hS kl_60 sh_60 rfl) rfl rfl hl.1 rfl (lv_room (Nat.le_of_ble_eq_true rfl)) dX12_sum_1 ⟨by decide +kernel, by decide +kernel⟩) hS hc (fun r2 M3 H locs hr2 hw hS => ?_)
  obtain ⟨hI, hEM3, hr2⟩ := hr2
  have hE := hE.tr hEM3 (by decide)
  have mM3_60_63 : (M3.1 60 0 63).toInt = (M.1 60 0 63).toInt := by rw [(hEM3 60 0 63 (by decide)).1]
  obtain ⟨ahr2, bhr2, dhr2, shr2, phr2, mhr2, ohr2⟩ := hr2
  refine lv_istore_n (lv' := [(1, .int r2), (0, .ref (ad 60 0))]) hx hb dX12_sum_4 rfl hl (by decide) rfl (fun ls hl => ?_)
  refine lv_iconst (v := 1) hx hb dX12_sum_5 (by decide) ?_
  refine lv_istore_n (lv' := [(2, .int 1), (1, .int r2), (0, .ref (ad 60 0))]) hx hb dX12_sum_6 rfl hl (by decide) rfl (fun ls hl => ?_)
  have lp : ∀ (n_lp : Nat) (lp_2 : Int32) (lp_1 : Int32) (M_lp : fm_M), 2 * (161 - (M_lp.1 60 0 64).toInt).toNat + lp_2.toInt.toNat < n_lp → (0 ≤ lp_2.toInt ∧ lp_2.toInt ≤ 1) → ((M.1 60 0 64).toInt ≤ (M_lp.1 60 0 64).toInt ∧ (M.1 60 0 66).toInt ≤ (M_lp.1 60 0 66).toInt ∧ (M_lp.1 60 0 64).toInt ≤ (M_lp.1 60 0 65).toInt) → (∃ s : Nat × Int, rt_ms kc S9 B9 M_lp s ∧ (s.2 < 0 → (M_lp.1 60 0 66).toInt = 4) ∧ (lp_2.toInt = 1 → ∀ r : Nat × Int, rt_PS T9 S9 7 4 s r → rt_PS T9 S9 6 4 s9 r) ∧ (lp_2.toInt = 0 → rt_PS T9 S9 6 4 s9 s)) → fm_I nb ad M_lp → fm_same [60064, 60065, 60066, 60067] M M_lp → ∀ (H : Heap) (locs : List Loc), fm_at D ad C nb M_lp H → va_S (fm_A nb ad) s.heap H locs → ∀ (ls : Array Slot), lv_has ls 3 [(2, .int lp_2), (1, .int lp_1), (0, .ref (ad 60 0))] → W p l e (headSpec wsX12_sum ({ frames := 13, cells := 0, slots := 0, locals := 281 })).room s m ([.ref (ad 60 0)] : List Value).toArray below meth c H locs 0 0 (MQ below (va_Qi (fun (r : Int32) (u : fm_M) => fm_I nb ad u ∧ fm_same [60064, 60065, 60066, 60067] M u ∧ ((M.1 60 0 64).toInt ≤ (u.1 60 0 64).toInt ∧ (M.1 60 0 66).toInt ≤ (u.1 60 0 66).toInt ∧ (u.1 60 0 64).toInt ≤ (u.1 60 0 65).toInt ∧ ∃ s8 : Nat × Int, rt_PS T9 S9 6 4 s9 s8 ∧ rt_ms kc S9 B9 u s8 ∧ (s8.2 < 0 → (u.1 60 0 66).toInt = 4))) (fun u t => fm_at D ad C nb u t.heap) (fm_A nb ad)) ([.ref (ad 60 0)] : List Value).toArray s 0 0 (fm_A nb ad)) (F0 m 7 ls []) := by
    intro n_lp
    induction n_lp with
    | zero => intro lp_2 lp_1 M_lp hm_lp b_lp_2 hv hq hI hE H locs hw hS ls hl; exact absurd hm_lp (Nat.not_lt_zero _)
    | succ n_lp ih_lp =>
      intro lp_2 lp_1 M_lp hm_lp b_lp_2 hv hq hI hE H locs hw hS ls hl
      obtain ⟨s7, ms7, oo7, hq7, hq0⟩ := hq
      refine lv_iload_n hx hb dX12_sum_7 rfl (lv_at hl 0 rfl) ?_
      refine fx_if_eq (tgt := 56) hx hb dX12_sum_8 (by decide) rfl (fun c4 => ?_) (fun c4 => ?_)
      · refine lv_iload_n hx hb dX12_sum_56 rfl (lv_at hl 1 rfl) ?_
        exact W.iret (v := lp_1) hx hb hr (fun t ht hW => ⟨⟨lp_1, M_lp, rfl, ⟨hI, hE, ⟨by omega, by omega, by omega, s7, (hq0 (by omega)), ms7, oo7⟩⟩, by show fm_at D ad C nb _ t.heap; rw [ht]; exact hw⟩, hS.F ht⟩) hS.2.2 dX12_sum_57
      · refine lv_aload_n hx hb dX12_sum_11 rfl (lv_at hl 2 rfl) ?_
        obtain ⟨q5, vq5, hQq5, hRq5⟩ := hc.2.2.2.2.1 (RX12, 394, "+", [43]) (by decide)
        refine va_ldcwS hx hb hown hRq5 dX12_sum_12 ?_
        have tk6 := rt_TMs hE (by decide) hTK
        refine fm_ci (va_runV (As := [.ref q5]) (rest := []) ⟨hx, hb, hml, hown, hts⟩ (fc_X12_take l D ad C nb M_lp hI q5 vq5 1 (fun j => ([43] : List Int32).getD j 0) (by decide) kc S9 B9 T9 (s7) 43 (by omega) tk6 ms7 rt_cd_43) (cwV 1 hts gX12_sum_X12_take rfl rfl rfl (by decide +kernel) ⟨Nat.le_of_ble_eq_true rfl, Nat.le_of_ble_eq_true rfl⟩) (fm_preVS hc hw hS hQq5 kl_60 sh_60 rfl) rfl rfl hl.1 rfl (lv_room (Nat.le_of_ble_eq_true rfl)) dX12_sum_15 ⟨by decide +kernel, by decide +kernel⟩) hS hc (fun r7 M8 H locs hr7 hw hS => ?_)
        obtain ⟨hI, hEM8, hr7⟩ := hr7
        have hE := hE.tr hEM8 (by decide)
        have mM8_60_63 : (M8.1 60 0 63).toInt = (M_lp.1 60 0 63).toInt := by rw [(hEM8 60 0 63 (by decide)).1]
        have mM8_60_66 : (M8.1 60 0 66).toInt = (M_lp.1 60 0 66).toInt := by rw [(hEM8 60 0 66 (by decide)).1]
        rcases hr7 with ⟨rfl, ahr7, bhr7, dhr7, ehr7, mhr7⟩ | ⟨rfl, ahr7, bhr7, dhr7, mhr7⟩
        · have ooM8 : (rt_adv T9 (s7)).2 < 0 → (M8.1 60 0 66).toInt = 4 := fun z => by have z9 := oo7 z; omega
          refine fx_if_eq (tgt := 31) hx hb dX12_sum_18 (by decide) zk_1 (fun c9 => by exfalso; omega) (fun c9 => ?_)
          refine lv_iload_n hx hb dX12_sum_21 rfl (lv_at hl 1 rfl) ?_
          refine lv_aload_n hx hb dX12_sum_22 rfl (lv_at hl 2 rfl) ?_
          have tk10 := rt_TMs hE (by decide) hTK
          have d11_63 := hI.bd (k := 0) bd_60_63
          have d11_64 := hI.bd (k := 0) bd_60_64
          have d11_65 := hI.bd (k := 0) bd_60_65
          have d11_66 := hI.bd (k := 0) bd_60_66
          refine fm_ci (va_runV (As := []) (rest := [.int lp_1]) ⟨hx, hb, hml, hown, hts⟩ (fc_X12_product_4 l D ad C nb M8 hI kc S9 B9 T9 (rt_adv T9 (s7)) (by omega) (by omega) tk10 mhr7 ooM8) (cwV 0 hts gX12_sum_X12_product rfl rfl rfl (by decide +kernel) ⟨Nat.le_of_ble_eq_true rfl, Nat.le_of_ble_eq_true rfl⟩) (fm_preV hc hw hS kl_60 sh_60 rfl) rfl rfl hl.1 rfl (lv_room (Nat.le_of_ble_eq_true rfl)) dX12_sum_23 ⟨by decide +kernel, by decide +kernel⟩) hS hc (fun r12 M13 H locs hr12 hw hS => ?_)
          obtain ⟨hI, hEM13, hr12⟩ := hr12
          have hE := hE.tr hEM13 (by decide)
          have mM13_60_63 : (M13.1 60 0 63).toInt = (M8.1 60 0 63).toInt := by rw [(hEM13 60 0 63 (by decide)).1]
          obtain ⟨ahr12, bhr12, dhr12, shr12, phr12, mhr12, ohr12⟩ := hr12
          refine fx_iaddU hx hb dX12_sum_26 (fun y14 ey14 => ?_)
          refine lv_istore_n (lv' := [(1, .int y14), (2, .int lp_2), (0, .ref (ad 60 0))]) hx hb dX12_sum_27 rfl hl (by decide) rfl (fun ls hl => ?_)
          refine lv_goto (tgt := 7) hx hb dX12_sum_28 (by decide) ?_
          exact ih_lp lp_2 y14 M13 (by omega) (by omega) (by omega) ⟨shr12, mhr12, ohr12, fun _ r h => hq7 (by omega) r (rt_PS_7y ⟨dhr7, Or.inl ehr7⟩ phr12 h), fun z => absurd z (by omega)⟩ hI hE _ _ hw hS ls (lv_sub hl [1, 0, 2] rfl)
        · have ooM8 : (s7).2 < 0 → (M8.1 60 0 66).toInt = 4 := fun z => by have z9 := oo7 z; omega
          refine fx_if_eq (tgt := 31) hx hb dX12_sum_18 (by decide) zk_0 (fun c15 => ?_) (fun c15 => by exfalso; omega)
          refine lv_aload_n hx hb dX12_sum_31 rfl (lv_at hl 2 rfl) ?_
          obtain ⟨q16, vq16, hQq16, hRq16⟩ := hc.2.2.2.2.1 (RX12, 396, "-", [45]) (by decide)
          refine va_ldcwS hx hb hown hRq16 dX12_sum_32 ?_
          have tk17 := rt_TMs hE (by decide) hTK
          refine fm_ci (va_runV (As := [.ref q16]) (rest := []) ⟨hx, hb, hml, hown, hts⟩ (fc_X12_take l D ad C nb M8 hI q16 vq16 1 (fun j => ([45] : List Int32).getD j 0) (by decide) kc S9 B9 T9 (s7) 45 (by omega) tk17 mhr7 rt_cd_45) (cwV 1 hts gX12_sum_X12_take rfl rfl rfl (by decide +kernel) ⟨Nat.le_of_ble_eq_true rfl, Nat.le_of_ble_eq_true rfl⟩) (fm_preVS hc hw hS hQq16 kl_60 sh_60 rfl) rfl rfl hl.1 rfl (lv_room (Nat.le_of_ble_eq_true rfl)) dX12_sum_35 ⟨by decide +kernel, by decide +kernel⟩) hS hc (fun r18 M19 H locs hr18 hw hS => ?_)
          obtain ⟨hI, hEM19, hr18⟩ := hr18
          have hE := hE.tr hEM19 (by decide)
          have mM19_60_63 : (M19.1 60 0 63).toInt = (M8.1 60 0 63).toInt := by rw [(hEM19 60 0 63 (by decide)).1]
          have mM19_60_66 : (M19.1 60 0 66).toInt = (M8.1 60 0 66).toInt := by rw [(hEM19 60 0 66 (by decide)).1]
          rcases hr18 with ⟨rfl, ahr18, bhr18, dhr18, ehr18, mhr18⟩ | ⟨rfl, ahr18, bhr18, dhr18, mhr18⟩
          · have ooM19 : (rt_adv T9 (s7)).2 < 0 → (M19.1 60 0 66).toInt = 4 := fun z => by have z9 := ooM8 z; omega
            refine fx_if_eq (tgt := 51) hx hb dX12_sum_38 (by decide) zk_1 (fun c20 => by exfalso; omega) (fun c20 => ?_)
            refine lv_iload_n hx hb dX12_sum_41 rfl (lv_at hl 1 rfl) ?_
            refine lv_aload_n hx hb dX12_sum_42 rfl (lv_at hl 2 rfl) ?_
            have tk21 := rt_TMs hE (by decide) hTK
            have d22_63 := hI.bd (k := 0) bd_60_63
            have d22_64 := hI.bd (k := 0) bd_60_64
            have d22_65 := hI.bd (k := 0) bd_60_65
            have d22_66 := hI.bd (k := 0) bd_60_66
            refine fm_ci (va_runV (As := []) (rest := [.int lp_1]) ⟨hx, hb, hml, hown, hts⟩ (fc_X12_product_4 l D ad C nb M19 hI kc S9 B9 T9 (rt_adv T9 (s7)) (by omega) (by omega) tk21 mhr18 ooM19) (cwV 0 hts gX12_sum_X12_product rfl rfl rfl (by decide +kernel) ⟨Nat.le_of_ble_eq_true rfl, Nat.le_of_ble_eq_true rfl⟩) (fm_preV hc hw hS kl_60 sh_60 rfl) rfl rfl hl.1 rfl (lv_room (Nat.le_of_ble_eq_true rfl)) dX12_sum_43 ⟨by decide +kernel, by decide +kernel⟩) hS hc (fun r23 M24 H locs hr23 hw hS => ?_)
            obtain ⟨hI, hEM24, hr23⟩ := hr23
            have hE := hE.tr hEM24 (by decide)
            have mM24_60_63 : (M24.1 60 0 63).toInt = (M19.1 60 0 63).toInt := by rw [(hEM24 60 0 63 (by decide)).1]
            obtain ⟨ahr23, bhr23, dhr23, shr23, phr23, mhr23, ohr23⟩ := hr23
            refine fx_isubU hx hb dX12_sum_46 (fun y25 ey25 => ?_)
            refine lv_istore_n (lv' := [(1, .int y25), (2, .int lp_2), (0, .ref (ad 60 0))]) hx hb dX12_sum_47 rfl hl (by decide) rfl (fun ls hl => ?_)
            refine lv_goto (tgt := 7) hx hb dX12_sum_48 (by decide) ?_
            exact ih_lp lp_2 y25 M24 (by omega) (by omega) (by omega) ⟨shr23, mhr23, ohr23, fun _ r h => hq7 (by omega) r (rt_PS_7y ⟨dhr18, Or.inr ehr18⟩ phr23 h), fun z => absurd z (by omega)⟩ hI hE _ _ hw hS ls (lv_sub hl [1, 0, 2] rfl)
          · have ooM19 : (s7).2 < 0 → (M19.1 60 0 66).toInt = 4 := fun z => by have z9 := ooM8 z; omega
            refine fx_if_eq (tgt := 51) hx hb dX12_sum_38 (by decide) zk_0 (fun c26 => ?_) (fun c26 => by exfalso; omega)
            refine lv_iconst (v := 0) hx hb dX12_sum_51 (by decide) ?_
            refine lv_istore_n (lv' := [(2, .int 0), (1, .int lp_1), (0, .ref (ad 60 0))]) hx hb dX12_sum_52 rfl hl (by decide) rfl (fun ls hl => ?_)
            refine lv_goto (tgt := 7) hx hb dX12_sum_53 (by decide) ?_
            exact ih_lp 0 lp_1 M19 (by have zlp_2 := zk_0; omega) (by decide) (by omega) ⟨s7, mhr18, ooM19, fun z => absurd z (by decide), fun _ => hq7 (by omega) _ (rt_PS_7n (by have za := dhr7; have zb := dhr18; omega))⟩ hI hE _ _ hw hS ls (lv_sub hl [0, 1, 2] rfl)
  exact lp _ 1 r2 M3 (Nat.lt_succ_self _) (by decide) (by omega) ⟨shr2, mhr2, ohr2, fun _ r h => rt_PS_6 phr2 h, fun z => absurd z (by decide)⟩ hI hE _ _ hw hS ls (lv_sub hl [0, 1, 2] rfl)
set_option maxHeartbeats 400000 in
set_option maxRecDepth 20000 in
theorem fc_X12_turned_4 (l : Launch) (D : va_G) (ad : Nat → Nat → Nat) (C : Nat → Nat → ClassId) (nb : Nat) (M : fm_M) (hI : fm_I nb ad M) (kc : Nat) (S9 B9 T9 : Nat → Int) (s9 : Nat × Int) (hft : (M.1 60 0 64).toInt ≤ (M.1 60 0 65).toInt) (hop : 4 ≤ (M.1 60 0 66).toInt) (hTK : rt_TM M kc S9 B9 T9) (hms : rt_ms kc S9 B9 M s9) (hoo : s9.2 < 0 → (M.1 60 0 66).toInt = 4) : Met l yX12_turned wsX12_turned ({ frames := 14, cells := 0, slots := 0, locals := 303 }) (va_Pc [.ref (ad 60 0)] (fm_P D ad C nb M)) (va_Qi (fun (r : Int32) (u : fm_M) => fm_I nb ad u ∧ fm_same [60064, 60065, 60066, 60067] M u ∧ ((M.1 60 0 64).toInt ≤ (u.1 60 0 64).toInt ∧ (M.1 60 0 66).toInt ≤ (u.1 60 0 66).toInt ∧ (u.1 60 0 64).toInt ≤ (u.1 60 0 65).toInt ∧ ∃ s8 : Nat × Int, rt_PS T9 S9 4 4 s9 s8 ∧ rt_ms kc S9 B9 u s8 ∧ (s8.2 < 0 → (u.1 60 0 66).toInt = 4))) (fun u t => fm_at D ad C nb u t.heap) (fm_A nb ad)) 0 0 (fm_A nb ad) := by
  refine Met.ofW (cc := cX12_turned) (maxL := 2) (ret := (some .int)) (by decide) rfl ?_
  intro p e s m args below meth c s₁ B hml hv
  obtain ⟨rfl, hw, hc⟩ := hv
  have hx := B.exec
  have hb := B.bytes
  have hr := B.returns
  have hts := atoms_spec (ws := wsX12_turned) B.pre
  have hown : s.vm.findClass RX12 = some m.cls := findClass_of_methodNamed B.named
  have hinX12 : ∀ w ∈ u_ws RX12 TX12 79, w ∈ wsX12_turned := fun w h => List.mem_cons_of_mem _ (iT_X12 w h)
  have hS : va_S (fm_A nb ad) s.heap s.heap [] := va_S.rf
  have hE : fm_same [60064, 60065, 60066, 60067] M M := fm_same.rf
  have hl := lv_entry ([.ref (ad 60 0)]) (n := 2) (Nat.le_of_ble_eq_true rfl)
  rw [lg_entry_eq]
  generalize (lg_sl ([.ref (ad 60 0)]) ++ List.replicate (2 - (lg_sl ([.ref (ad 60 0)])).length) Slot.unset).toArray = ls at hl ⊢
  have hl : lv_has ls 2 [(0, .ref (ad 60 0))] := hl
  refine lv_aload_n hx hb dX12_turned_0 rfl (lv_at hl 0 rfl) ?_
  refine fm_getI (a := 60) (j := 67) (T := TX12) (N := 79) hx hb hts hinX12 hown hc hw hI kl_60 sh_60 rfl (by decide) rfl bd_60_67 (hts (.fieldLink RX12 349 "RedTentModel" "fault" "I") (List.mem_cons_of_mem _ tw_5_187)) (fun _ h9 => h9) dX12_turned_1 (fun x1 ex1 bx1 => ?_)
  refine fx_if_lt (tgt := 9) hx hb dX12_turned_4 (by decide) rfl (fun c2 => ?_) (fun c2 => ?_)
  · have gh : s9.2 = x1.toInt := by rw [ex1]; exact hms.2.2.2.symm
    have hs0 : s9.2 < 0 := by omega
    have ho0 := hoo hs0
    refine lv_aload_n hx hb dX12_turned_9 rfl (lv_at hl 0 rfl) ?_
    obtain ⟨q3, vq3, hQq3, hRq3⟩ := hc.2.2.2.2.1 (RX12, 378, "not", [110, 111, 116]) (by decide)
    refine va_ldcwS hx hb hown hRq3 dX12_turned_10 ?_
    refine vp_callSi (va_Run.run (va_runV (As := [.ref q3]) (rest := []) ⟨hx, hb, hml, hown, hts⟩ (fc_X12_is l D ad C nb M hI q3 vq3 3 (fun j => ([110, 111, 116] : List Int32).getD j 0) (by decide) (rt_mto hTK hms) rt_cd_11.2.1) (cwV 1 hts gX12_turned_X12_is rfl rfl rfl (by decide +kernel) ⟨Nat.le_of_ble_eq_true rfl, Nat.le_of_ble_eq_true rfl⟩) (fm_preVS hc hw hS hQq3 kl_60 sh_60 rfl) rfl rfl hl.1 rfl (lv_room (Nat.le_of_ble_eq_true rfl)) dX12_turned_13 ⟨by decide +kernel, by decide +kernel⟩)) (fun r4 hr4 => ?_)
    rcases hr4 with ⟨rfl, chr4⟩ | ⟨rfl, chr4⟩
    · have sv5 := (rt_is hTK hms rt_cd_11).mp chr4
      refine fx_if_eq (tgt := 53) hx hb dX12_turned_16 (by decide) zk_1 (fun c6 => by exfalso; omega) (fun c6 => ?_)
      refine lv_aload_n hx hb dX12_turned_19 rfl (lv_at hl 0 rfl) ?_
      have hJ7 := hI
      refine fm_ci (va_runV (As := []) (rest := []) ⟨hx, hb, hml, hown, hts⟩ (fc_X12_opens l D ad C nb M hI kc S9 B9 T9 (s9) hTK hms) (cwV 0 hts gX12_turned_X12_opens rfl rfl rfl (by decide +kernel) ⟨Nat.le_of_ble_eq_true rfl, Nat.le_of_ble_eq_true rfl⟩) (fm_preV hc hw hS kl_60 sh_60 rfl) rfl rfl hl.1 rfl (lv_room (Nat.le_of_ble_eq_true rfl)) dX12_turned_20 ⟨by decide +kernel, by decide +kernel⟩) hS hc (fun r8 M9 H locs hr8 hw hS => ?_)
      obtain ⟨hI, hEM9, hr8⟩ := hr8
      have hE := hE.tr hEM9 (by decide)
      have mM9_60_63 : (M9.1 60 0 63).toInt = (M.1 60 0 63).toInt := by rw [(hEM9 60 0 63 (by decide)).1]
      rcases hr8 with ⟨rfl, ahr8, bhr8, dhr8, mhr8⟩ | ⟨rfl, zhr8, ahr8, bhr8, dhr8, mhr8⟩
      · have ooM9 : (rt_adv T9 (s9)).2 < 0 → (M9.1 60 0 66).toInt = 5 := fun z => by have z9 := hoo z; omega
        refine fx_if_ne (tgt := 28) hx hb dX12_turned_23 (by decide) zk_1 (fun c10 => ?_) (fun c10 => by exfalso; omega)
        refine lv_aload_n hx hb dX12_turned_28 rfl (lv_at hl 0 rfl) ?_
        have tk11 := rt_TMs hE (by decide) hTK
        have d12_63 := hI.bd (k := 0) bd_60_63
        have d12_64 := hI.bd (k := 0) bd_60_64
        have d12_65 := hI.bd (k := 0) bd_60_65
        have d12_66 := hI.bd (k := 0) bd_60_66
        refine fm_ci (va_runV (As := []) (rest := []) ⟨hx, hb, hml, hown, hts⟩ (fc_X12_turned_5 l D ad C nb M9 hI kc S9 B9 T9 (rt_adv T9 (s9)) (by omega) (by omega) tk11 mhr8 ooM9) (cwV 0 hts gX12_turned_X12_turned rfl rfl rfl (by decide +kernel) ⟨Nat.le_of_ble_eq_true rfl, Nat.le_of_ble_eq_true rfl⟩) (fm_preV hc hw hS kl_60 sh_60 rfl) rfl rfl hl.1 rfl (lv_room (Nat.le_of_ble_eq_true rfl)) dX12_turned_29 ⟨by decide +kernel, by decide +kernel⟩) hS hc (fun r13 M14 H locs hr13 hw hS => ?_)
        obtain ⟨hI, hEM14, hr13⟩ := hr13
        have hE := hE.tr hEM14 (by decide)
        have mM14_60_63 : (M14.1 60 0 63).toInt = (M9.1 60 0 63).toInt := by rw [(hEM14 60 0 63 (by decide)).1]
        obtain ⟨ahr13, bhr13, dhr13, shr13, phr13, mhr13, ohr13⟩ := hr13
        refine lv_istore_n (lv' := [(1, .int r13), (0, .ref (ad 60 0))]) hx hb dX12_turned_32 rfl hl (by decide) rfl (fun ls hl => ?_)
        refine lv_aload_n hx hb dX12_turned_33 rfl (lv_at hl 1 rfl) ?_
        refine lv_dup hx hb dX12_turned_34 rfl ?_
        refine fm_getI (a := 60) (j := 66) (T := TX12) (N := 79) hx hb hts hinX12 hown hc hw hI kl_60 sh_60 rfl (by decide) rfl bd_60_66 (hts (.fieldLink RX12 372 "RedTentModel" "open" "I") (List.mem_cons_of_mem _ tw_5_186)) (fun _ h9 => h9) dX12_turned_35 (fun x15 ex15 bx15 => ?_)
        have wx15 : x15.toInt = (M14.1 60 0 66).toInt := by rw [ex15]
        refine lv_iconst (v := 1) hx hb dX12_turned_38 (by decide) ?_
        refine fx_isub hx hb dX12_turned_39 rfl zk_1 (by omega) (fun y16 ey16 ty16 => ?_)
        refine fm_putI (a := 60) (j := 66) (T := TX12) (N := 79) hx hb hts hinX12 tyX12 tyX12_ok nmX12 hown hc hw hI hE hS kl_60 sh_60 od_60 rfl (by decide) rfl bd_60_66 (hts (.fieldLink RX12 372 "RedTentModel" "open" "I") (List.mem_cons_of_mem _ tw_5_186)) (fun _ h9 => h9) rfl (by decide +kernel) (by omega) (by decide) (by decide) dX12_turned_40 (fun M17 H locs eM17 hw hI hE hS => ?_)
        have mM17_60_63 : (M17.1 60 0 63).toInt = (M14.1 60 0 63).toInt := by rw [eM17, fm_wI_nj (fun z => absurd z.2.2 (by decide))]
        have mM17_60_64 : (M17.1 60 0 64).toInt = (M14.1 60 0 64).toInt := by rw [eM17, fm_wI_nj (fun z => absurd z.2.2 (by decide))]
        have mM17_60_65 : (M17.1 60 0 65).toInt = (M14.1 60 0 65).toInt := by rw [eM17, fm_wI_nj (fun z => absurd z.2.2 (by decide))]
        have mM17_60_66 : (M17.1 60 0 66).toInt = y16.toInt := by rw [eM17, fm_wI_at]
        have hEM17 : fm_same [60066] M14 M17 := by rw [eM17]; exact fm_same.rf.wI (by decide)
        have mwM17 := rt_ms_same hEM17 (by decide) mhr13
        have ooM17 : (shr13).2 < 0 → (M17.1 60 0 66).toInt = 4 := fun z => by have z9 := ohr13 z; omega
        refine lv_iload_n hx hb dX12_turned_43 rfl (lv_at hl 0 rfl) ?_
        refine fx_if_ne (tgt := 51) hx hb dX12_turned_44 (by decide) rfl (fun c18 => ?_) (fun c18 => ?_)
        · refine lv_iconst (v := 0) hx hb dX12_turned_51 (by decide) ?_
          exact W.iret (v := 0) hx hb hr (fun t ht hW => ⟨⟨0, M17, rfl, ⟨hI, hE, ⟨by omega, by omega, by omega, shr13, (rt_PS_4y ⟨hs0, sv5⟩ (by decide) phr13), mwM17, ooM17⟩⟩, by show fm_at D ad C nb _ t.heap; rw [ht]; exact hw⟩, hS.F ht⟩) hS.2.2 dX12_turned_52
        · refine lv_iconst (v := 1) hx hb dX12_turned_47 (by decide) ?_
          refine lv_goto (tgt := 52) hx hb dX12_turned_48 (by decide) ?_
          exact W.iret (v := 1) hx hb hr (fun t ht hW => ⟨⟨1, M17, rfl, ⟨hI, hE, ⟨by omega, by omega, by omega, shr13, (rt_PS_4y ⟨hs0, sv5⟩ (by decide) phr13), mwM17, ooM17⟩⟩, by show fm_at D ad C nb _ t.heap; rw [ht]; exact hw⟩, hS.F ht⟩) hS.2.2 dX12_turned_52
      · exfalso; omega
    · have sv19 : ¬ T9 (s9).1 = 11 := fun z => chr4 ((rt_is hTK hms rt_cd_11).mpr z)
      refine fx_if_eq (tgt := 53) hx hb dX12_turned_16 (by decide) zk_0 (fun c20 => ?_) (fun c20 => by exfalso; omega)
      refine lv_aload_n hx hb dX12_turned_53 rfl (lv_at hl 0 rfl) ?_
      have d21_63 := hI.bd (k := 0) bd_60_63
      have d21_64 := hI.bd (k := 0) bd_60_64
      have d21_65 := hI.bd (k := 0) bd_60_65
      have d21_66 := hI.bd (k := 0) bd_60_66
      refine fm_ci (va_runV (As := []) (rest := []) ⟨hx, hb, hml, hown, hts⟩ (fc_X12_sum_4 l D ad C nb M hI kc S9 B9 T9 (s9) (by omega) (by omega) hTK hms hoo) (cwV 0 hts gX12_turned_X12_sum rfl rfl rfl (by decide +kernel) ⟨Nat.le_of_ble_eq_true rfl, Nat.le_of_ble_eq_true rfl⟩) (fm_preV hc hw hS kl_60 sh_60 rfl) rfl rfl hl.1 rfl (lv_room (Nat.le_of_ble_eq_true rfl)) dX12_turned_54 ⟨by decide +kernel, by decide +kernel⟩) hS hc (fun r22 M23 H locs hr22 hw hS => ?_)
      obtain ⟨hI, hEM23, hr22⟩ := hr22
      have hE := hE.tr hEM23 (by decide)
      have mM23_60_63 : (M23.1 60 0 63).toInt = (M.1 60 0 63).toInt := by rw [(hEM23 60 0 63 (by decide)).1]
      obtain ⟨ahr22, bhr22, dhr22, shr22, phr22, mhr22, ohr22⟩ := hr22
      refine lv_istore_n (lv' := [(1, .int r22), (0, .ref (ad 60 0))]) hx hb dX12_turned_57 rfl hl (by decide) rfl (fun ls hl => ?_)
      refine lv_aload_n hx hb dX12_turned_58 rfl (lv_at hl 1 rfl) ?_
      obtain ⟨q24, vq24, hQq24, hRq24⟩ := hc.2.2.2.2.1 (RX12, 387, "<", [60]) (by decide)
      refine va_ldcwS hx hb hown hRq24 dX12_turned_59 ?_
      have tk25 := rt_TMs hE (by decide) hTK
      refine fm_ci (va_runV (As := [.ref q24]) (rest := []) ⟨hx, hb, hml, hown, hts⟩ (fc_X12_take l D ad C nb M23 hI q24 vq24 1 (fun j => ([60] : List Int32).getD j 0) (by decide) kc S9 B9 T9 (shr22) 60 (by omega) tk25 mhr22 rt_cd_60) (cwV 1 hts gX12_turned_X12_take rfl rfl rfl (by decide +kernel) ⟨Nat.le_of_ble_eq_true rfl, Nat.le_of_ble_eq_true rfl⟩) (fm_preVS hc hw hS hQq24 kl_60 sh_60 rfl) rfl rfl hl.1 rfl (lv_room (Nat.le_of_ble_eq_true rfl)) dX12_turned_62 ⟨by decide +kernel, by decide +kernel⟩) hS hc (fun r26 M27 H locs hr26 hw hS => ?_)
      obtain ⟨hI, hEM27, hr26⟩ := hr26
      have hE := hE.tr hEM27 (by decide)
      have mM27_60_63 : (M27.1 60 0 63).toInt = (M23.1 60 0 63).toInt := by rw [(hEM27 60 0 63 (by decide)).1]
      have mM27_60_66 : (M27.1 60 0 66).toInt = (M23.1 60 0 66).toInt := by rw [(hEM27 60 0 66 (by decide)).1]
      rcases hr26 with ⟨rfl, ahr26, bhr26, dhr26, ehr26, mhr26⟩ | ⟨rfl, ahr26, bhr26, dhr26, mhr26⟩
      · have ooM27 : (rt_adv T9 (shr22)).2 < 0 → (M27.1 60 0 66).toInt = 4 := fun z => by have z9 := ohr22 z; omega
        refine fx_if_eq (tgt := 82) hx hb dX12_turned_65 (by decide) zk_1 (fun c28 => by exfalso; omega) (fun c28 => ?_)
        refine lv_iload_n hx hb dX12_turned_68 rfl (lv_at hl 0 rfl) ?_
        refine lv_aload_n hx hb dX12_turned_69 rfl (lv_at hl 1 rfl) ?_
        have tk29 := rt_TMs hE (by decide) hTK
        have d30_63 := hI.bd (k := 0) bd_60_63
        have d30_64 := hI.bd (k := 0) bd_60_64
        have d30_65 := hI.bd (k := 0) bd_60_65
        have d30_66 := hI.bd (k := 0) bd_60_66
        refine fm_ci (va_runV (As := []) (rest := [.int r22]) ⟨hx, hb, hml, hown, hts⟩ (fc_X12_sum_4 l D ad C nb M27 hI kc S9 B9 T9 (rt_adv T9 (shr22)) (by omega) (by omega) tk29 mhr26 ooM27) (cwV 0 hts gX12_turned_X12_sum rfl rfl rfl (by decide +kernel) ⟨Nat.le_of_ble_eq_true rfl, Nat.le_of_ble_eq_true rfl⟩) (fm_preV hc hw hS kl_60 sh_60 rfl) rfl rfl hl.1 rfl (lv_room (Nat.le_of_ble_eq_true rfl)) dX12_turned_70 ⟨by decide +kernel, by decide +kernel⟩) hS hc (fun r31 M32 H locs hr31 hw hS => ?_)
        obtain ⟨hI, hEM32, hr31⟩ := hr31
        have hE := hE.tr hEM32 (by decide)
        have mM32_60_63 : (M32.1 60 0 63).toInt = (M27.1 60 0 63).toInt := by rw [(hEM32 60 0 63 (by decide)).1]
        obtain ⟨ahr31, bhr31, dhr31, shr31, phr31, mhr31, ohr31⟩ := hr31
        refine fx_icmp_ge (tgt := 80) hx hb dX12_turned_73 (by decide) rfl rfl (fun c33 => ?_) (fun c33 => ?_)
        · refine lv_iconst (v := 0) hx hb dX12_turned_80 (by decide) ?_
          exact W.iret (v := 0) hx hb hr (fun t ht hW => ⟨⟨0, M32, rfl, ⟨hI, hE, ⟨by omega, by omega, by omega, shr31, (rt_PS_4n (fun z => sv19 z.2) (rt_PS_5 phr22 (rt_PS_11y ⟨dhr26, Or.inl ehr26⟩ phr31))), mhr31, ohr31⟩⟩, by show fm_at D ad C nb _ t.heap; rw [ht]; exact hw⟩, hS.F ht⟩) hS.2.2 dX12_turned_81
        · refine lv_iconst (v := 1) hx hb dX12_turned_76 (by decide) ?_
          refine lv_goto (tgt := 81) hx hb dX12_turned_77 (by decide) ?_
          exact W.iret (v := 1) hx hb hr (fun t ht hW => ⟨⟨1, M32, rfl, ⟨hI, hE, ⟨by omega, by omega, by omega, shr31, (rt_PS_4n (fun z => sv19 z.2) (rt_PS_5 phr22 (rt_PS_11y ⟨dhr26, Or.inl ehr26⟩ phr31))), mhr31, ohr31⟩⟩, by show fm_at D ad C nb _ t.heap; rw [ht]; exact hw⟩, hS.F ht⟩) hS.2.2 dX12_turned_81
      · have ooM27 : (shr22).2 < 0 → (M27.1 60 0 66).toInt = 4 := fun z => by have z9 := ohr22 z; omega
        refine fx_if_eq (tgt := 82) hx hb dX12_turned_65 (by decide) zk_0 (fun c34 => ?_) (fun c34 => by exfalso; omega)
        refine lv_aload_n hx hb dX12_turned_82 rfl (lv_at hl 1 rfl) ?_
        obtain ⟨q35, vq35, hQq35, hRq35⟩ := hc.2.2.2.2.1 (RX12, 389, "=", [61]) (by decide)
        refine va_ldcwS hx hb hown hRq35 dX12_turned_83 ?_
        have tk36 := rt_TMs hE (by decide) hTK
        refine fm_ci (va_runV (As := [.ref q35]) (rest := []) ⟨hx, hb, hml, hown, hts⟩ (fc_X12_take l D ad C nb M27 hI q35 vq35 1 (fun j => ([61] : List Int32).getD j 0) (by decide) kc S9 B9 T9 (shr22) 61 (by omega) tk36 mhr26 rt_cd_61) (cwV 1 hts gX12_turned_X12_take rfl rfl rfl (by decide +kernel) ⟨Nat.le_of_ble_eq_true rfl, Nat.le_of_ble_eq_true rfl⟩) (fm_preVS hc hw hS hQq35 kl_60 sh_60 rfl) rfl rfl hl.1 rfl (lv_room (Nat.le_of_ble_eq_true rfl)) dX12_turned_86 ⟨by decide +kernel, by decide +kernel⟩) hS hc (fun r37 M38 H locs hr37 hw hS => ?_)
        obtain ⟨hI, hEM38, hr37⟩ := hr37
        have hE := hE.tr hEM38 (by decide)
        have mM38_60_63 : (M38.1 60 0 63).toInt = (M27.1 60 0 63).toInt := by rw [(hEM38 60 0 63 (by decide)).1]
        have mM38_60_66 : (M38.1 60 0 66).toInt = (M27.1 60 0 66).toInt := by rw [(hEM38 60 0 66 (by decide)).1]
        rcases hr37 with ⟨rfl, ahr37, bhr37, dhr37, ehr37, mhr37⟩ | ⟨rfl, ahr37, bhr37, dhr37, mhr37⟩
        · have ooM38 : (rt_adv T9 (shr22)).2 < 0 → (M38.1 60 0 66).toInt = 4 := fun z => by have z9 := ooM27 z; omega
          refine fx_if_eq (tgt := 106) hx hb dX12_turned_89 (by decide) zk_1 (fun c39 => by exfalso; omega) (fun c39 => ?_)
          refine lv_iload_n hx hb dX12_turned_92 rfl (lv_at hl 0 rfl) ?_
          refine lv_aload_n hx hb dX12_turned_93 rfl (lv_at hl 1 rfl) ?_
          have tk40 := rt_TMs hE (by decide) hTK
          have d41_63 := hI.bd (k := 0) bd_60_63
          have d41_64 := hI.bd (k := 0) bd_60_64
          have d41_65 := hI.bd (k := 0) bd_60_65
          have d41_66 := hI.bd (k := 0) bd_60_66
          refine fm_ci (va_runV (As := []) (rest := [.int r22]) ⟨hx, hb, hml, hown, hts⟩ (fc_X12_sum_4 l D ad C nb M38 hI kc S9 B9 T9 (rt_adv T9 (shr22)) (by omega) (by omega) tk40 mhr37 ooM38) (cwV 0 hts gX12_turned_X12_sum rfl rfl rfl (by decide +kernel) ⟨Nat.le_of_ble_eq_true rfl, Nat.le_of_ble_eq_true rfl⟩) (fm_preV hc hw hS kl_60 sh_60 rfl) rfl rfl hl.1 rfl (lv_room (Nat.le_of_ble_eq_true rfl)) dX12_turned_94 ⟨by decide +kernel, by decide +kernel⟩) hS hc (fun r42 M43 H locs hr42 hw hS => ?_)
          obtain ⟨hI, hEM43, hr42⟩ := hr42
          have hE := hE.tr hEM43 (by decide)
          have mM43_60_63 : (M43.1 60 0 63).toInt = (M38.1 60 0 63).toInt := by rw [(hEM43 60 0 63 (by decide)).1]
          obtain ⟨ahr42, bhr42, dhr42, shr42, phr42, mhr42, ohr42⟩ := hr42
          refine fx_icmp_ne (tgt := 104) hx hb dX12_turned_97 (by decide) rfl rfl (fun c44 => ?_) (fun c44 => ?_)
          · refine lv_iconst (v := 0) hx hb dX12_turned_104 (by decide) ?_
            exact W.iret (v := 0) hx hb hr (fun t ht hW => ⟨⟨0, M43, rfl, ⟨hI, hE, ⟨by omega, by omega, by omega, shr42, (rt_PS_4n (fun z => sv19 z.2) (rt_PS_5 phr22 (rt_PS_11y ⟨dhr37, Or.inr ehr37⟩ phr42))), mhr42, ohr42⟩⟩, by show fm_at D ad C nb _ t.heap; rw [ht]; exact hw⟩, hS.F ht⟩) hS.2.2 dX12_turned_105
          · refine lv_iconst (v := 1) hx hb dX12_turned_100 (by decide) ?_
            refine lv_goto (tgt := 105) hx hb dX12_turned_101 (by decide) ?_
            exact W.iret (v := 1) hx hb hr (fun t ht hW => ⟨⟨1, M43, rfl, ⟨hI, hE, ⟨by omega, by omega, by omega, shr42, (rt_PS_4n (fun z => sv19 z.2) (rt_PS_5 phr22 (rt_PS_11y ⟨dhr37, Or.inr ehr37⟩ phr42))), mhr42, ohr42⟩⟩, by show fm_at D ad C nb _ t.heap; rw [ht]; exact hw⟩, hS.F ht⟩) hS.2.2 dX12_turned_105
        · have ooM38 : (shr22).2 < 0 → (M38.1 60 0 66).toInt = 4 := fun z => by have z9 := ooM27 z; omega
          refine fx_if_eq (tgt := 106) hx hb dX12_turned_89 (by decide) zk_0 (fun c45 => ?_) (fun c45 => by exfalso; omega)
          refine lv_iload_n hx hb dX12_turned_106 rfl (lv_at hl 0 rfl) ?_
          exact W.iret (v := r22) hx hb hr (fun t ht hW => ⟨⟨r22, M38, rfl, ⟨hI, hE, ⟨by omega, by omega, by omega, shr22, (rt_PS_4n (fun z => sv19 z.2) (rt_PS_5 phr22 (rt_PS_11n (by have za := dhr26; have zb := dhr37; omega)))), mhr37, ooM38⟩⟩, by show fm_at D ad C nb _ t.heap; rw [ht]; exact hw⟩, hS.F ht⟩) hS.2.2 dX12_turned_107
  · refine lv_iconst (v := 0) hx hb dX12_turned_7 (by decide) ?_
    exact W.iret (v := 0) hx hb hr (fun t ht hW => ⟨⟨0, M, rfl, ⟨hI, hE, ⟨by omega, by omega, by omega, s9, (rt_PS_id (by rw [← hms.2.2.2, ← ex1]; omega) (by decide)), hms, hoo⟩⟩, by show fm_at D ad C nb _ t.heap; rw [ht]; exact hw⟩, hS.F ht⟩) hS.2.2 dX12_turned_8
set_option maxHeartbeats 400000 in
set_option maxRecDepth 20000 in
theorem fc_X12_both_4 (l : Launch) (D : va_G) (ad : Nat → Nat → Nat) (C : Nat → Nat → ClassId) (nb : Nat) (M : fm_M) (hI : fm_I nb ad M) (kc : Nat) (S9 B9 T9 : Nat → Int) (s9 : Nat × Int) (hft : (M.1 60 0 64).toInt ≤ (M.1 60 0 65).toInt) (hop : 4 ≤ (M.1 60 0 66).toInt) (hTK : rt_TM M kc S9 B9 T9) (hms : rt_ms kc S9 B9 M s9) (hoo : s9.2 < 0 → (M.1 60 0 66).toInt = 4) : Met l yX12_both wsX12_both ({ frames := 15, cells := 0, slots := 0, locals := 324 }) (va_Pc [.ref (ad 60 0)] (fm_P D ad C nb M)) (va_Qi (fun (r : Int32) (u : fm_M) => fm_I nb ad u ∧ fm_same [60064, 60065, 60066, 60067] M u ∧ ((M.1 60 0 64).toInt ≤ (u.1 60 0 64).toInt ∧ (M.1 60 0 66).toInt ≤ (u.1 60 0 66).toInt ∧ (u.1 60 0 64).toInt ≤ (u.1 60 0 65).toInt ∧ ∃ s8 : Nat × Int, rt_PS T9 S9 2 4 s9 s8 ∧ rt_ms kc S9 B9 u s8 ∧ (s8.2 < 0 → (u.1 60 0 66).toInt = 4))) (fun u t => fm_at D ad C nb u t.heap) (fm_A nb ad)) 0 0 (fm_A nb ad) := by
  refine Met.ofW (cc := cX12_both) (maxL := 3) (ret := (some .int)) (by decide) rfl ?_
  intro p e s m args below meth c s₁ B hml hv
  obtain ⟨rfl, hw, hc⟩ := hv
  have hx := B.exec
  have hb := B.bytes
  have hr := B.returns
  have hts := atoms_spec (ws := wsX12_both) B.pre
  have hown : s.vm.findClass RX12 = some m.cls := findClass_of_methodNamed B.named
  have hS : va_S (fm_A nb ad) s.heap s.heap [] := va_S.rf
  have hE : fm_same [60064, 60065, 60066, 60067] M M := fm_same.rf
  have hl := lv_entry ([.ref (ad 60 0)]) (n := 3) (Nat.le_of_ble_eq_true rfl)
  rw [lg_entry_eq]
  generalize (lg_sl ([.ref (ad 60 0)]) ++ List.replicate (3 - (lg_sl ([.ref (ad 60 0)])).length) Slot.unset).toArray = ls at hl ⊢
  have hl : lv_has ls 3 [(0, .ref (ad 60 0))] := hl
  refine lv_aload_n hx hb dX12_both_0 rfl (lv_at hl 0 rfl) ?_
  have d1_63 := hI.bd (k := 0) bd_60_63
  have d1_64 := hI.bd (k := 0) bd_60_64
  have d1_65 := hI.bd (k := 0) bd_60_65
  have d1_66 := hI.bd (k := 0) bd_60_66
  refine fm_ci (va_runV (As := []) (rest := []) ⟨hx, hb, hml, hown, hts⟩ (fc_X12_turned_4 l D ad C nb M hI kc S9 B9 T9 (s9) (by omega) (by omega) hTK hms hoo) (cwV 0 hts gX12_both_X12_turned rfl rfl rfl (by decide +kernel) ⟨Nat.le_of_ble_eq_true rfl, Nat.le_of_ble_eq_true rfl⟩) (fm_preV hc hw hS kl_60 sh_60 rfl) rfl rfl hl.1 rfl (lv_room (Nat.le_of_ble_eq_true rfl)) dX12_both_1 ⟨by decide +kernel, by decide +kernel⟩) hS hc (fun r2 M3 H locs hr2 hw hS => ?_)
  obtain ⟨hI, hEM3, hr2⟩ := hr2
  have hE := hE.tr hEM3 (by decide)
  have mM3_60_63 : (M3.1 60 0 63).toInt = (M.1 60 0 63).toInt := by rw [(hEM3 60 0 63 (by decide)).1]
  obtain ⟨ahr2, bhr2, dhr2, shr2, phr2, mhr2, ohr2⟩ := hr2
  refine lv_istore_n (lv' := [(1, .int r2), (0, .ref (ad 60 0))]) hx hb dX12_both_4 rfl hl (by decide) rfl (fun ls hl => ?_)
  have lp : ∀ (n_lp : Nat) (lp_1 : Int32) (M_lp : fm_M), (161 - (M_lp.1 60 0 64).toInt).toNat < n_lp → ((M.1 60 0 64).toInt ≤ (M_lp.1 60 0 64).toInt ∧ (M.1 60 0 66).toInt ≤ (M_lp.1 60 0 66).toInt ∧ (M_lp.1 60 0 64).toInt ≤ (M_lp.1 60 0 65).toInt) → (∃ s : Nat × Int, rt_ms kc S9 B9 M_lp s ∧ (s.2 < 0 → (M_lp.1 60 0 66).toInt = 4) ∧ ∀ r : Nat × Int, rt_PS T9 S9 3 4 s r → rt_PS T9 S9 2 4 s9 r) → fm_I nb ad M_lp → fm_same [60064, 60065, 60066, 60067] M M_lp → ∀ (H : Heap) (locs : List Loc), fm_at D ad C nb M_lp H → va_S (fm_A nb ad) s.heap H locs → ∀ (ls : Array Slot), lv_has ls 3 [(1, .int lp_1), (0, .ref (ad 60 0))] → W p l e (headSpec wsX12_both ({ frames := 15, cells := 0, slots := 0, locals := 324 })).room s m ([.ref (ad 60 0)] : List Value).toArray below meth c H locs 0 0 (MQ below (va_Qi (fun (r : Int32) (u : fm_M) => fm_I nb ad u ∧ fm_same [60064, 60065, 60066, 60067] M u ∧ ((M.1 60 0 64).toInt ≤ (u.1 60 0 64).toInt ∧ (M.1 60 0 66).toInt ≤ (u.1 60 0 66).toInt ∧ (u.1 60 0 64).toInt ≤ (u.1 60 0 65).toInt ∧ ∃ s8 : Nat × Int, rt_PS T9 S9 2 4 s9 s8 ∧ rt_ms kc S9 B9 u s8 ∧ (s8.2 < 0 → (u.1 60 0 66).toInt = 4))) (fun u t => fm_at D ad C nb u t.heap) (fm_A nb ad)) ([.ref (ad 60 0)] : List Value).toArray s 0 0 (fm_A nb ad)) (F0 m 5 ls []) := by
    intro n_lp
    induction n_lp with
    | zero => intro lp_1 M_lp hm_lp hv hq hI hE H locs hw hS ls hl; exact absurd hm_lp (Nat.not_lt_zero _)
    | succ n_lp ih_lp =>
      intro lp_1 M_lp hm_lp hv hq hI hE H locs hw hS ls hl
      obtain ⟨s7, ms7, oo7, hq7⟩ := hq
      refine lv_aload_n hx hb dX12_both_5 rfl (lv_at hl 1 rfl) ?_
      obtain ⟨q4, vq4, hQq4, hRq4⟩ := hc.2.2.2.2.1 (RX12, 370, "and", [97, 110, 100]) (by decide)
      refine va_ldcwS hx hb hown hRq4 dX12_both_6 ?_
      have tk5 := rt_TMs hE (by decide) hTK
      refine fm_ci (va_runV (As := [.ref q4]) (rest := []) ⟨hx, hb, hml, hown, hts⟩ (fc_X12_take l D ad C nb M_lp hI q4 vq4 3 (fun j => ([97, 110, 100] : List Int32).getD j 0) (by decide) kc S9 B9 T9 (s7) 10 (by omega) tk5 ms7 rt_cd_10) (cwV 1 hts gX12_both_X12_take rfl rfl rfl (by decide +kernel) ⟨Nat.le_of_ble_eq_true rfl, Nat.le_of_ble_eq_true rfl⟩) (fm_preVS hc hw hS hQq4 kl_60 sh_60 rfl) rfl rfl hl.1 rfl (lv_room (Nat.le_of_ble_eq_true rfl)) dX12_both_9 ⟨by decide +kernel, by decide +kernel⟩) hS hc (fun r6 M7 H locs hr6 hw hS => ?_)
      obtain ⟨hI, hEM7, hr6⟩ := hr6
      have hE := hE.tr hEM7 (by decide)
      have mM7_60_63 : (M7.1 60 0 63).toInt = (M_lp.1 60 0 63).toInt := by rw [(hEM7 60 0 63 (by decide)).1]
      have mM7_60_66 : (M7.1 60 0 66).toInt = (M_lp.1 60 0 66).toInt := by rw [(hEM7 60 0 66 (by decide)).1]
      rcases hr6 with ⟨rfl, ahr6, bhr6, dhr6, ehr6, mhr6⟩ | ⟨rfl, ahr6, bhr6, dhr6, mhr6⟩
      · have ooM7 : (rt_adv T9 (s7)).2 < 0 → (M7.1 60 0 66).toInt = 4 := fun z => by have z9 := oo7 z; omega
        refine fx_if_eq (tgt := 37) hx hb dX12_both_12 (by decide) zk_1 (fun c8 => by exfalso; omega) (fun c8 => ?_)
        refine lv_aload_n hx hb dX12_both_15 rfl (lv_at hl 1 rfl) ?_
        have tk9 := rt_TMs hE (by decide) hTK
        have d10_63 := hI.bd (k := 0) bd_60_63
        have d10_64 := hI.bd (k := 0) bd_60_64
        have d10_65 := hI.bd (k := 0) bd_60_65
        have d10_66 := hI.bd (k := 0) bd_60_66
        refine fm_ci (va_runV (As := []) (rest := []) ⟨hx, hb, hml, hown, hts⟩ (fc_X12_turned_4 l D ad C nb M7 hI kc S9 B9 T9 (rt_adv T9 (s7)) (by omega) (by omega) tk9 mhr6 ooM7) (cwV 0 hts gX12_both_X12_turned rfl rfl rfl (by decide +kernel) ⟨Nat.le_of_ble_eq_true rfl, Nat.le_of_ble_eq_true rfl⟩) (fm_preV hc hw hS kl_60 sh_60 rfl) rfl rfl hl.1 rfl (lv_room (Nat.le_of_ble_eq_true rfl)) dX12_both_16 ⟨by decide +kernel, by decide +kernel⟩) hS hc (fun r11 M12 H locs hr11 hw hS => ?_)
        obtain ⟨hI, hEM12, hr11⟩ := hr11
        have hE := hE.tr hEM12 (by decide)
        have mM12_60_63 : (M12.1 60 0 63).toInt = (M7.1 60 0 63).toInt := by rw [(hEM12 60 0 63 (by decide)).1]
        obtain ⟨ahr11, bhr11, dhr11, shr11, phr11, mhr11, ohr11⟩ := hr11
        refine lv_istore_n (lv' := [(2, .int r11), (1, .int lp_1), (0, .ref (ad 60 0))]) hx hb dX12_both_19 rfl hl (by decide) rfl (fun ls hl => ?_)
        refine lv_iload_n hx hb dX12_both_20 rfl (lv_at hl 1 rfl) ?_
        refine fx_if_eq (tgt := 32) hx hb dX12_both_21 (by decide) rfl (fun c13 => ?_) (fun c13 => ?_)
        · refine lv_iconst (v := 0) hx hb dX12_both_32 (by decide) ?_
          refine lv_istore_n (lv' := [(1, .int 0), (2, .int r11), (0, .ref (ad 60 0))]) hx hb dX12_both_33 rfl hl (by decide) rfl (fun ls hl => ?_)
          refine lv_goto (tgt := 5) hx hb dX12_both_34 (by decide) ?_
          exact ih_lp 0 M12 (by omega) (by omega) ⟨shr11, mhr11, ohr11, fun r h => hq7 r (rt_PS_3y ⟨dhr6, ehr6⟩ phr11 h)⟩ hI hE _ _ hw hS ls (lv_sub hl [0, 2] rfl)
        · refine lv_iload_n hx hb dX12_both_24 rfl (lv_at hl 0 rfl) ?_
          refine fx_if_eq (tgt := 32) hx hb dX12_both_25 (by decide) rfl (fun c14 => ?_) (fun c14 => ?_)
          · refine lv_iconst (v := 0) hx hb dX12_both_32 (by decide) ?_
            refine lv_istore_n (lv' := [(1, .int 0), (2, .int r11), (0, .ref (ad 60 0))]) hx hb dX12_both_33 rfl hl (by decide) rfl (fun ls hl => ?_)
            refine lv_goto (tgt := 5) hx hb dX12_both_34 (by decide) ?_
            exact ih_lp 0 M12 (by omega) (by omega) ⟨shr11, mhr11, ohr11, fun r h => hq7 r (rt_PS_3y ⟨dhr6, ehr6⟩ phr11 h)⟩ hI hE _ _ hw hS ls (lv_sub hl [0, 2] rfl)
          · refine lv_iconst (v := 1) hx hb dX12_both_28 (by decide) ?_
            refine lv_goto (tgt := 33) hx hb dX12_both_29 (by decide) ?_
            refine lv_istore_n (lv' := [(1, .int 1), (2, .int r11), (0, .ref (ad 60 0))]) hx hb dX12_both_33 rfl hl (by decide) rfl (fun ls hl => ?_)
            refine lv_goto (tgt := 5) hx hb dX12_both_34 (by decide) ?_
            exact ih_lp 1 M12 (by omega) (by omega) ⟨shr11, mhr11, ohr11, fun r h => hq7 r (rt_PS_3y ⟨dhr6, ehr6⟩ phr11 h)⟩ hI hE _ _ hw hS ls (lv_sub hl [0, 2] rfl)
      · have ooM7 : (s7).2 < 0 → (M7.1 60 0 66).toInt = 4 := fun z => by have z9 := oo7 z; omega
        refine fx_if_eq (tgt := 37) hx hb dX12_both_12 (by decide) zk_0 (fun c15 => ?_) (fun c15 => by exfalso; omega)
        refine lv_iload_n hx hb dX12_both_37 rfl (lv_at hl 0 rfl) ?_
        exact W.iret (v := lp_1) hx hb hr (fun t ht hW => ⟨⟨lp_1, M7, rfl, ⟨hI, hE, ⟨by omega, by omega, by omega, s7, (hq7 _ (rt_PS_3n dhr6)), mhr6, ooM7⟩⟩, by show fm_at D ad C nb _ t.heap; rw [ht]; exact hw⟩, hS.F ht⟩) hS.2.2 dX12_both_38
  exact lp _ r2 M3 (Nat.lt_succ_self _) (by omega) ⟨shr2, mhr2, ohr2, fun r h => rt_PS_2 phr2 h⟩ hI hE _ _ hw hS ls (lv_sub hl [0, 1] rfl)
set_option maxHeartbeats 400000 in
set_option maxRecDepth 20000 in
theorem fc_X12_either_4 (l : Launch) (D : va_G) (ad : Nat → Nat → Nat) (C : Nat → Nat → ClassId) (nb : Nat) (M : fm_M) (hI : fm_I nb ad M) (kc : Nat) (S9 B9 T9 : Nat → Int) (s9 : Nat × Int) (hft : (M.1 60 0 64).toInt ≤ (M.1 60 0 65).toInt) (hop : 4 ≤ (M.1 60 0 66).toInt) (hTK : rt_TM M kc S9 B9 T9) (hms : rt_ms kc S9 B9 M s9) (hoo : s9.2 < 0 → (M.1 60 0 66).toInt = 4) : Met l yX12_either wsX12_either ({ frames := 16, cells := 0, slots := 0, locals := 346 }) (va_Pc [.ref (ad 60 0)] (fm_P D ad C nb M)) (va_Qi (fun (r : Int32) (u : fm_M) => fm_I nb ad u ∧ fm_same [60064, 60065, 60066, 60067] M u ∧ ((M.1 60 0 64).toInt ≤ (u.1 60 0 64).toInt ∧ (M.1 60 0 66).toInt ≤ (u.1 60 0 66).toInt ∧ (u.1 60 0 64).toInt ≤ (u.1 60 0 65).toInt ∧ ∃ s8 : Nat × Int, rt_PS T9 S9 0 4 s9 s8 ∧ rt_ms kc S9 B9 u s8 ∧ (s8.2 < 0 → (u.1 60 0 66).toInt = 4))) (fun u t => fm_at D ad C nb u t.heap) (fm_A nb ad)) 0 0 (fm_A nb ad) := by
  refine Met.ofW (cc := cX12_either) (maxL := 3) (ret := (some .int)) (by decide) rfl ?_
  intro p e s m args below meth c s₁ B hml hv
  obtain ⟨rfl, hw, hc⟩ := hv
  have hx := B.exec
  have hb := B.bytes
  have hr := B.returns
  have hts := atoms_spec (ws := wsX12_either) B.pre
  have hown : s.vm.findClass RX12 = some m.cls := findClass_of_methodNamed B.named
  have hS : va_S (fm_A nb ad) s.heap s.heap [] := va_S.rf
  have hE : fm_same [60064, 60065, 60066, 60067] M M := fm_same.rf
  have hl := lv_entry ([.ref (ad 60 0)]) (n := 3) (Nat.le_of_ble_eq_true rfl)
  rw [lg_entry_eq]
  generalize (lg_sl ([.ref (ad 60 0)]) ++ List.replicate (3 - (lg_sl ([.ref (ad 60 0)])).length) Slot.unset).toArray = ls at hl ⊢
  have hl : lv_has ls 3 [(0, .ref (ad 60 0))] := hl
  refine lv_aload_n hx hb dX12_either_0 rfl (lv_at hl 0 rfl) ?_
  have d1_63 := hI.bd (k := 0) bd_60_63
  have d1_64 := hI.bd (k := 0) bd_60_64
  have d1_65 := hI.bd (k := 0) bd_60_65
  have d1_66 := hI.bd (k := 0) bd_60_66
  refine fm_ci (va_runV (As := []) (rest := []) ⟨hx, hb, hml, hown, hts⟩ (fc_X12_both_4 l D ad C nb M hI kc S9 B9 T9 (s9) (by omega) (by omega) hTK hms hoo) (cwV 0 hts gX12_either_X12_both rfl rfl rfl (by decide +kernel) ⟨Nat.le_of_ble_eq_true rfl, Nat.le_of_ble_eq_true rfl⟩) (fm_preV hc hw hS kl_60 sh_60 rfl) rfl rfl hl.1 rfl (lv_room (Nat.le_of_ble_eq_true rfl)) dX12_either_1 ⟨by decide +kernel, by decide +kernel⟩) hS hc (fun r2 M3 H locs hr2 hw hS => ?_)
  obtain ⟨hI, hEM3, hr2⟩ := hr2
  have hE := hE.tr hEM3 (by decide)
  have mM3_60_63 : (M3.1 60 0 63).toInt = (M.1 60 0 63).toInt := by rw [(hEM3 60 0 63 (by decide)).1]
  obtain ⟨ahr2, bhr2, dhr2, shr2, phr2, mhr2, ohr2⟩ := hr2
  refine lv_istore_n (lv' := [(1, .int r2), (0, .ref (ad 60 0))]) hx hb dX12_either_4 rfl hl (by decide) rfl (fun ls hl => ?_)
  have lp : ∀ (n_lp : Nat) (lp_1 : Int32) (M_lp : fm_M), (161 - (M_lp.1 60 0 64).toInt).toNat < n_lp → ((M.1 60 0 64).toInt ≤ (M_lp.1 60 0 64).toInt ∧ (M.1 60 0 66).toInt ≤ (M_lp.1 60 0 66).toInt ∧ (M_lp.1 60 0 64).toInt ≤ (M_lp.1 60 0 65).toInt) → (∃ s : Nat × Int, rt_ms kc S9 B9 M_lp s ∧ (s.2 < 0 → (M_lp.1 60 0 66).toInt = 4) ∧ ∀ r : Nat × Int, rt_PS T9 S9 1 4 s r → rt_PS T9 S9 0 4 s9 r) → fm_I nb ad M_lp → fm_same [60064, 60065, 60066, 60067] M M_lp → ∀ (H : Heap) (locs : List Loc), fm_at D ad C nb M_lp H → va_S (fm_A nb ad) s.heap H locs → ∀ (ls : Array Slot), lv_has ls 3 [(1, .int lp_1), (0, .ref (ad 60 0))] → W p l e (headSpec wsX12_either ({ frames := 16, cells := 0, slots := 0, locals := 346 })).room s m ([.ref (ad 60 0)] : List Value).toArray below meth c H locs 0 0 (MQ below (va_Qi (fun (r : Int32) (u : fm_M) => fm_I nb ad u ∧ fm_same [60064, 60065, 60066, 60067] M u ∧ ((M.1 60 0 64).toInt ≤ (u.1 60 0 64).toInt ∧ (M.1 60 0 66).toInt ≤ (u.1 60 0 66).toInt ∧ (u.1 60 0 64).toInt ≤ (u.1 60 0 65).toInt ∧ ∃ s8 : Nat × Int, rt_PS T9 S9 0 4 s9 s8 ∧ rt_ms kc S9 B9 u s8 ∧ (s8.2 < 0 → (u.1 60 0 66).toInt = 4))) (fun u t => fm_at D ad C nb u t.heap) (fm_A nb ad)) ([.ref (ad 60 0)] : List Value).toArray s 0 0 (fm_A nb ad)) (F0 m 5 ls []) := by
    intro n_lp
    induction n_lp with
    | zero => intro lp_1 M_lp hm_lp hv hq hI hE H locs hw hS ls hl; exact absurd hm_lp (Nat.not_lt_zero _)
    | succ n_lp ih_lp =>
      intro lp_1 M_lp hm_lp hv hq hI hE H locs hw hS ls hl
      obtain ⟨s7, ms7, oo7, hq7⟩ := hq
      refine lv_aload_n hx hb dX12_either_5 rfl (lv_at hl 1 rfl) ?_
      obtain ⟨q4, vq4, hQq4, hRq4⟩ := hc.2.2.2.2.1 (RX12, 362, "or", [111, 114]) (by decide)
      refine va_ldcwS hx hb hown hRq4 dX12_either_6 ?_
      have tk5 := rt_TMs hE (by decide) hTK
      refine fm_ci (va_runV (As := [.ref q4]) (rest := []) ⟨hx, hb, hml, hown, hts⟩ (fc_X12_take l D ad C nb M_lp hI q4 vq4 2 (fun j => ([111, 114] : List Int32).getD j 0) (by decide) kc S9 B9 T9 (s7) 9 (by omega) tk5 ms7 rt_cd_9) (cwV 1 hts gX12_either_X12_take rfl rfl rfl (by decide +kernel) ⟨Nat.le_of_ble_eq_true rfl, Nat.le_of_ble_eq_true rfl⟩) (fm_preVS hc hw hS hQq4 kl_60 sh_60 rfl) rfl rfl hl.1 rfl (lv_room (Nat.le_of_ble_eq_true rfl)) dX12_either_9 ⟨by decide +kernel, by decide +kernel⟩) hS hc (fun r6 M7 H locs hr6 hw hS => ?_)
      obtain ⟨hI, hEM7, hr6⟩ := hr6
      have hE := hE.tr hEM7 (by decide)
      have mM7_60_63 : (M7.1 60 0 63).toInt = (M_lp.1 60 0 63).toInt := by rw [(hEM7 60 0 63 (by decide)).1]
      have mM7_60_66 : (M7.1 60 0 66).toInt = (M_lp.1 60 0 66).toInt := by rw [(hEM7 60 0 66 (by decide)).1]
      rcases hr6 with ⟨rfl, ahr6, bhr6, dhr6, ehr6, mhr6⟩ | ⟨rfl, ahr6, bhr6, dhr6, mhr6⟩
      · have ooM7 : (rt_adv T9 (s7)).2 < 0 → (M7.1 60 0 66).toInt = 4 := fun z => by have z9 := oo7 z; omega
        refine fx_if_eq (tgt := 37) hx hb dX12_either_12 (by decide) zk_1 (fun c8 => by exfalso; omega) (fun c8 => ?_)
        refine lv_aload_n hx hb dX12_either_15 rfl (lv_at hl 1 rfl) ?_
        have tk9 := rt_TMs hE (by decide) hTK
        have d10_63 := hI.bd (k := 0) bd_60_63
        have d10_64 := hI.bd (k := 0) bd_60_64
        have d10_65 := hI.bd (k := 0) bd_60_65
        have d10_66 := hI.bd (k := 0) bd_60_66
        refine fm_ci (va_runV (As := []) (rest := []) ⟨hx, hb, hml, hown, hts⟩ (fc_X12_both_4 l D ad C nb M7 hI kc S9 B9 T9 (rt_adv T9 (s7)) (by omega) (by omega) tk9 mhr6 ooM7) (cwV 0 hts gX12_either_X12_both rfl rfl rfl (by decide +kernel) ⟨Nat.le_of_ble_eq_true rfl, Nat.le_of_ble_eq_true rfl⟩) (fm_preV hc hw hS kl_60 sh_60 rfl) rfl rfl hl.1 rfl (lv_room (Nat.le_of_ble_eq_true rfl)) dX12_either_16 ⟨by decide +kernel, by decide +kernel⟩) hS hc (fun r11 M12 H locs hr11 hw hS => ?_)
        obtain ⟨hI, hEM12, hr11⟩ := hr11
        have hE := hE.tr hEM12 (by decide)
        have mM12_60_63 : (M12.1 60 0 63).toInt = (M7.1 60 0 63).toInt := by rw [(hEM12 60 0 63 (by decide)).1]
        obtain ⟨ahr11, bhr11, dhr11, shr11, phr11, mhr11, ohr11⟩ := hr11
        refine lv_istore_n (lv' := [(2, .int r11), (1, .int lp_1), (0, .ref (ad 60 0))]) hx hb dX12_either_19 rfl hl (by decide) rfl (fun ls hl => ?_)
        refine lv_iload_n hx hb dX12_either_20 rfl (lv_at hl 1 rfl) ?_
        refine fx_if_ne (tgt := 28) hx hb dX12_either_21 (by decide) rfl (fun c13 => ?_) (fun c13 => ?_)
        · refine lv_iconst (v := 1) hx hb dX12_either_28 (by decide) ?_
          refine lv_goto (tgt := 33) hx hb dX12_either_29 (by decide) ?_
          refine lv_istore_n (lv' := [(1, .int 1), (2, .int r11), (0, .ref (ad 60 0))]) hx hb dX12_either_33 rfl hl (by decide) rfl (fun ls hl => ?_)
          refine lv_goto (tgt := 5) hx hb dX12_either_34 (by decide) ?_
          exact ih_lp 1 M12 (by omega) (by omega) ⟨shr11, mhr11, ohr11, fun r h => hq7 r (rt_PS_1y ⟨dhr6, ehr6⟩ phr11 h)⟩ hI hE _ _ hw hS ls (lv_sub hl [0, 2] rfl)
        · refine lv_iload_n hx hb dX12_either_24 rfl (lv_at hl 0 rfl) ?_
          refine fx_if_eq (tgt := 32) hx hb dX12_either_25 (by decide) rfl (fun c14 => ?_) (fun c14 => ?_)
          · refine lv_iconst (v := 0) hx hb dX12_either_32 (by decide) ?_
            refine lv_istore_n (lv' := [(1, .int 0), (2, .int r11), (0, .ref (ad 60 0))]) hx hb dX12_either_33 rfl hl (by decide) rfl (fun ls hl => ?_)
            refine lv_goto (tgt := 5) hx hb dX12_either_34 (by decide) ?_
            exact ih_lp 0 M12 (by omega) (by omega) ⟨shr11, mhr11, ohr11, fun r h => hq7 r (rt_PS_1y ⟨dhr6, ehr6⟩ phr11 h)⟩ hI hE _ _ hw hS ls (lv_sub hl [0, 2] rfl)
          · refine lv_iconst (v := 1) hx hb dX12_either_28 (by decide) ?_
            refine lv_goto (tgt := 33) hx hb dX12_either_29 (by decide) ?_
            refine lv_istore_n (lv' := [(1, .int 1), (2, .int r11), (0, .ref (ad 60 0))]) hx hb dX12_either_33 rfl hl (by decide) rfl (fun ls hl => ?_)
            refine lv_goto (tgt := 5) hx hb dX12_either_34 (by decide) ?_
            exact ih_lp 1 M12 (by omega) (by omega) ⟨shr11, mhr11, ohr11, fun r h => hq7 r (rt_PS_1y ⟨dhr6, ehr6⟩ phr11 h)⟩ hI hE _ _ hw hS ls (lv_sub hl [0, 2] rfl)
      · have ooM7 : (s7).2 < 0 → (M7.1 60 0 66).toInt = 4 := fun z => by have z9 := oo7 z; omega
        refine fx_if_eq (tgt := 37) hx hb dX12_either_12 (by decide) zk_0 (fun c15 => ?_) (fun c15 => by exfalso; omega)
        refine lv_iload_n hx hb dX12_either_37 rfl (lv_at hl 0 rfl) ?_
        exact W.iret (v := lp_1) hx hb hr (fun t ht hW => ⟨⟨lp_1, M7, rfl, ⟨hI, hE, ⟨by omega, by omega, by omega, s7, (hq7 _ (rt_PS_1n dhr6)), mhr6, ooM7⟩⟩, by show fm_at D ad C nb _ t.heap; rw [ht]; exact hw⟩, hS.F ht⟩) hS.2.2 dX12_either_38
  exact lp _ r2 M3 (Nat.lt_succ_self _) (by omega) ⟨shr2, mhr2, ohr2, fun r h => rt_PS_0 phr2 h⟩ hI hE _ _ hw hS ls (lv_sub hl [0, 1] rfl)
set_option maxHeartbeats 400000 in
set_option maxRecDepth 20000 in
theorem fc_X12_one_3 (l : Launch) (D : va_G) (ad : Nat → Nat → Nat) (C : Nat → Nat → ClassId) (nb : Nat) (M : fm_M) (hI : fm_I nb ad M) (kc : Nat) (S9 B9 T9 : Nat → Int) (s9 : Nat × Int) (hft : (M.1 60 0 64).toInt ≤ (M.1 60 0 65).toInt) (hop : 3 ≤ (M.1 60 0 66).toInt) (hTK : rt_TM M kc S9 B9 T9) (hms : rt_ms kc S9 B9 M s9) (hoo : s9.2 < 0 → (M.1 60 0 66).toInt = 3) : Met l yX12_one wsX12_one ({ frames := 17, cells := 0, slots := 0, locals := 368 }) (va_Pc [.ref (ad 60 0)] (fm_P D ad C nb M)) (va_Qi (fun (r : Int32) (u : fm_M) => fm_I nb ad u ∧ fm_same [60064, 60065, 60066, 60067] M u ∧ ((M.1 60 0 64).toInt ≤ (u.1 60 0 64).toInt ∧ (M.1 60 0 66).toInt ≤ (u.1 60 0 66).toInt ∧ (u.1 60 0 64).toInt ≤ (u.1 60 0 65).toInt ∧ ∃ s8 : Nat × Int, rt_PS T9 S9 10 3 s9 s8 ∧ rt_ms kc S9 B9 u s8 ∧ (s8.2 < 0 → (u.1 60 0 66).toInt = 3))) (fun u t => fm_at D ad C nb u t.heap) (fm_A nb ad)) 0 0 (fm_A nb ad) := by
  refine Met.ofW (cc := cX12_one) (maxL := 3) (ret := (some .int)) (by decide) rfl ?_
  intro p e s m args below meth c s₁ B hml hv
  obtain ⟨rfl, hw, hc⟩ := hv
  have hx := B.exec
  have hb := B.bytes
  have hr := B.returns
  have hts := atoms_spec (ws := wsX12_one) B.pre
  have hown : s.vm.findClass RX12 = some m.cls := findClass_of_methodNamed B.named
  have hinX12 : ∀ w ∈ u_ws RX12 TX12 79, w ∈ wsX12_one := fun w h => List.mem_cons_of_mem _ (iT_X12 w h)
  have hS : va_S (fm_A nb ad) s.heap s.heap [] := va_S.rf
  have hE : fm_same [60064, 60065, 60066, 60067] M M := fm_same.rf
  have hl := lv_entry ([.ref (ad 60 0)]) (n := 3) (Nat.le_of_ble_eq_true rfl)
  rw [lg_entry_eq]
  generalize (lg_sl ([.ref (ad 60 0)]) ++ List.replicate (3 - (lg_sl ([.ref (ad 60 0)])).length) Slot.unset).toArray = ls at hl ⊢
  have hl : lv_has ls 3 [(0, .ref (ad 60 0))] := hl
  refine lv_aload_n hx hb dX12_one_0 rfl (lv_at hl 0 rfl) ?_
  refine fm_getI (a := 60) (j := 67) (T := TX12) (N := 79) hx hb hts hinX12 hown hc hw hI kl_60 sh_60 rfl (by decide) rfl bd_60_67 (hts (.fieldLink RX12 349 "RedTentModel" "fault" "I") (List.mem_cons_of_mem _ tw_5_187)) (fun _ h9 => h9) dX12_one_1 (fun x1 ex1 bx1 => ?_)
  refine fx_if_lt (tgt := 9) hx hb dX12_one_4 (by decide) rfl (fun c2 => ?_) (fun c2 => ?_)
  · have gh : s9.2 = x1.toInt := by rw [ex1]; exact hms.2.2.2.symm
    have hs0 : s9.2 < 0 := by omega
    have ho0 := hoo hs0
    refine lv_aload_n hx hb dX12_one_9 rfl (lv_at hl 0 rfl) ?_
    obtain ⟨q3, vq3, hQq3, hRq3⟩ := hc.2.2.2.2.1 (RX12, 396, "-", [45]) (by decide)
    refine va_ldcwS hx hb hown hRq3 dX12_one_10 ?_
    refine vp_callSi (va_Run.run (va_runV (As := [.ref q3]) (rest := []) ⟨hx, hb, hml, hown, hts⟩ (fc_X12_is l D ad C nb M hI q3 vq3 1 (fun j => ([45] : List Int32).getD j 0) (by decide) (rt_mto hTK hms) rt_cd_45.2.1) (cwV 1 hts gX12_one_X12_is rfl rfl rfl (by decide +kernel) ⟨Nat.le_of_ble_eq_true rfl, Nat.le_of_ble_eq_true rfl⟩) (fm_preVS hc hw hS hQq3 kl_60 sh_60 rfl) rfl rfl hl.1 rfl (lv_room (Nat.le_of_ble_eq_true rfl)) dX12_one_13 ⟨by decide +kernel, by decide +kernel⟩)) (fun r4 hr4 => ?_)
    rcases hr4 with ⟨rfl, chr4⟩ | ⟨rfl, chr4⟩
    · have sv5 := (rt_is hTK hms rt_cd_45).mp chr4
      refine fx_if_eq (tgt := 46) hx hb dX12_one_16 (by decide) zk_1 (fun c6 => by exfalso; omega) (fun c6 => ?_)
      refine lv_aload_n hx hb dX12_one_19 rfl (lv_at hl 0 rfl) ?_
      have hJ7 := hI
      refine fm_ci (va_runV (As := []) (rest := []) ⟨hx, hb, hml, hown, hts⟩ (fc_X12_opens l D ad C nb M hI kc S9 B9 T9 (s9) hTK hms) (cwV 0 hts gX12_one_X12_opens rfl rfl rfl (by decide +kernel) ⟨Nat.le_of_ble_eq_true rfl, Nat.le_of_ble_eq_true rfl⟩) (fm_preV hc hw hS kl_60 sh_60 rfl) rfl rfl hl.1 rfl (lv_room (Nat.le_of_ble_eq_true rfl)) dX12_one_20 ⟨by decide +kernel, by decide +kernel⟩) hS hc (fun r8 M9 H locs hr8 hw hS => ?_)
      obtain ⟨hI, hEM9, hr8⟩ := hr8
      have hE := hE.tr hEM9 (by decide)
      have mM9_60_63 : (M9.1 60 0 63).toInt = (M.1 60 0 63).toInt := by rw [(hEM9 60 0 63 (by decide)).1]
      rcases hr8 with ⟨rfl, ahr8, bhr8, dhr8, mhr8⟩ | ⟨rfl, zhr8, ahr8, bhr8, dhr8, mhr8⟩
      · have ooM9 : (rt_adv T9 (s9)).2 < 0 → (M9.1 60 0 66).toInt = 4 := fun z => by have z9 := hoo z; omega
        refine fx_if_ne (tgt := 28) hx hb dX12_one_23 (by decide) zk_1 (fun c10 => ?_) (fun c10 => by exfalso; omega)
        refine lv_aload_n hx hb dX12_one_28 rfl (lv_at hl 0 rfl) ?_
        have tk11 := rt_TMs hE (by decide) hTK
        have d12_63 := hI.bd (k := 0) bd_60_63
        have d12_64 := hI.bd (k := 0) bd_60_64
        have d12_65 := hI.bd (k := 0) bd_60_65
        have d12_66 := hI.bd (k := 0) bd_60_66
        refine fm_ci (va_runV (As := []) (rest := []) ⟨hx, hb, hml, hown, hts⟩ (fc_X12_one_4 l D ad C nb M9 hI kc S9 B9 T9 (rt_adv T9 (s9)) (by omega) (by omega) tk11 mhr8 ooM9) (cwV 0 hts gX12_one_X12_one rfl rfl rfl (by decide +kernel) ⟨Nat.le_of_ble_eq_true rfl, Nat.le_of_ble_eq_true rfl⟩) (fm_preV hc hw hS kl_60 sh_60 rfl) rfl rfl hl.1 rfl (lv_room (Nat.le_of_ble_eq_true rfl)) dX12_one_29 ⟨by decide +kernel, by decide +kernel⟩) hS hc (fun r13 M14 H locs hr13 hw hS => ?_)
        obtain ⟨hI, hEM14, hr13⟩ := hr13
        have hE := hE.tr hEM14 (by decide)
        have mM14_60_63 : (M14.1 60 0 63).toInt = (M9.1 60 0 63).toInt := by rw [(hEM14 60 0 63 (by decide)).1]
        obtain ⟨ahr13, bhr13, dhr13, shr13, phr13, mhr13, ohr13⟩ := hr13
        refine lv_istore_n (lv' := [(1, .int r13), (0, .ref (ad 60 0))]) hx hb dX12_one_32 rfl hl (by decide) rfl (fun ls hl => ?_)
        refine lv_aload_n hx hb dX12_one_33 rfl (lv_at hl 1 rfl) ?_
        refine lv_dup hx hb dX12_one_34 rfl ?_
        refine fm_getI (a := 60) (j := 66) (T := TX12) (N := 79) hx hb hts hinX12 hown hc hw hI kl_60 sh_60 rfl (by decide) rfl bd_60_66 (hts (.fieldLink RX12 372 "RedTentModel" "open" "I") (List.mem_cons_of_mem _ tw_5_186)) (fun _ h9 => h9) dX12_one_35 (fun x15 ex15 bx15 => ?_)
        have wx15 : x15.toInt = (M14.1 60 0 66).toInt := by rw [ex15]
        refine lv_iconst (v := 1) hx hb dX12_one_38 (by decide) ?_
        refine fx_isub hx hb dX12_one_39 rfl zk_1 (by omega) (fun y16 ey16 ty16 => ?_)
        refine fm_putI (a := 60) (j := 66) (T := TX12) (N := 79) hx hb hts hinX12 tyX12 tyX12_ok nmX12 hown hc hw hI hE hS kl_60 sh_60 od_60 rfl (by decide) rfl bd_60_66 (hts (.fieldLink RX12 372 "RedTentModel" "open" "I") (List.mem_cons_of_mem _ tw_5_186)) (fun _ h9 => h9) rfl (by decide +kernel) (by omega) (by decide) (by decide) dX12_one_40 (fun M17 H locs eM17 hw hI hE hS => ?_)
        have mM17_60_63 : (M17.1 60 0 63).toInt = (M14.1 60 0 63).toInt := by rw [eM17, fm_wI_nj (fun z => absurd z.2.2 (by decide))]
        have mM17_60_64 : (M17.1 60 0 64).toInt = (M14.1 60 0 64).toInt := by rw [eM17, fm_wI_nj (fun z => absurd z.2.2 (by decide))]
        have mM17_60_65 : (M17.1 60 0 65).toInt = (M14.1 60 0 65).toInt := by rw [eM17, fm_wI_nj (fun z => absurd z.2.2 (by decide))]
        have mM17_60_66 : (M17.1 60 0 66).toInt = y16.toInt := by rw [eM17, fm_wI_at]
        have hEM17 : fm_same [60066] M14 M17 := by rw [eM17]; exact fm_same.rf.wI (by decide)
        have mwM17 := rt_ms_same hEM17 (by decide) mhr13
        have ooM17 : (shr13).2 < 0 → (M17.1 60 0 66).toInt = 3 := fun z => by have z9 := ohr13 z; omega
        refine lv_iload_n hx hb dX12_one_43 rfl (lv_at hl 0 rfl) ?_
        refine lv_ineg hx hb dX12_one_44 ?_
        refine lv_topi (fun y18 ey18 => ?_)
        exact W.iret (v := y18) hx hb hr (fun t ht hW => ⟨⟨y18, M17, rfl, ⟨hI, hE, ⟨by omega, by omega, by omega, shr13, (rt_PS_10m ⟨⟨hs0, sv5⟩, by decide⟩ phr13), mwM17, ooM17⟩⟩, by show fm_at D ad C nb _ t.heap; rw [ht]; exact hw⟩, hS.F ht⟩) hS.2.2 dX12_one_45
      · exfalso; omega
    · have sv19 : ¬ T9 (s9).1 = 45 := fun z => chr4 ((rt_is hTK hms rt_cd_45).mpr z)
      refine fx_if_eq (tgt := 46) hx hb dX12_one_16 (by decide) zk_0 (fun c20 => ?_) (fun c20 => by exfalso; omega)
      refine lv_aload_n hx hb dX12_one_46 rfl (lv_at hl 0 rfl) ?_
      obtain ⟨q21, vq21, hQq21, hRq21⟩ := hc.2.2.2.2.1 (RX12, 403, "(", [40]) (by decide)
      refine va_ldcwS hx hb hown hRq21 dX12_one_47 ?_
      refine vp_callSi (va_Run.run (va_runV (As := [.ref q21]) (rest := []) ⟨hx, hb, hml, hown, hts⟩ (fc_X12_is l D ad C nb M hI q21 vq21 1 (fun j => ([40] : List Int32).getD j 0) (by decide) (rt_mto hTK hms) rt_cd_40.2.1) (cwV 1 hts gX12_one_X12_is rfl rfl rfl (by decide +kernel) ⟨Nat.le_of_ble_eq_true rfl, Nat.le_of_ble_eq_true rfl⟩) (fm_preVS hc hw hS hQq21 kl_60 sh_60 rfl) rfl rfl hl.1 rfl (lv_room (Nat.le_of_ble_eq_true rfl)) dX12_one_50 ⟨by decide +kernel, by decide +kernel⟩)) (fun r22 hr22 => ?_)
      rcases hr22 with ⟨rfl, chr22⟩ | ⟨rfl, chr22⟩
      · have sv23 := (rt_is hTK hms rt_cd_40).mp chr22
        refine fx_if_eq (tgt := 97) hx hb dX12_one_53 (by decide) zk_1 (fun c24 => by exfalso; omega) (fun c24 => ?_)
        refine lv_aload_n hx hb dX12_one_56 rfl (lv_at hl 0 rfl) ?_
        have hJ25 := hI
        refine fm_ci (va_runV (As := []) (rest := []) ⟨hx, hb, hml, hown, hts⟩ (fc_X12_opens l D ad C nb M hI kc S9 B9 T9 (s9) hTK hms) (cwV 0 hts gX12_one_X12_opens rfl rfl rfl (by decide +kernel) ⟨Nat.le_of_ble_eq_true rfl, Nat.le_of_ble_eq_true rfl⟩) (fm_preV hc hw hS kl_60 sh_60 rfl) rfl rfl hl.1 rfl (lv_room (Nat.le_of_ble_eq_true rfl)) dX12_one_57 ⟨by decide +kernel, by decide +kernel⟩) hS hc (fun r26 M27 H locs hr26 hw hS => ?_)
        obtain ⟨hI, hEM27, hr26⟩ := hr26
        have hE := hE.tr hEM27 (by decide)
        have mM27_60_63 : (M27.1 60 0 63).toInt = (M.1 60 0 63).toInt := by rw [(hEM27 60 0 63 (by decide)).1]
        rcases hr26 with ⟨rfl, ahr26, bhr26, dhr26, mhr26⟩ | ⟨rfl, zhr26, ahr26, bhr26, dhr26, mhr26⟩
        · have ooM27 : (rt_adv T9 (s9)).2 < 0 → (M27.1 60 0 66).toInt = 4 := fun z => by have z9 := hoo z; omega
          refine fx_if_ne (tgt := 65) hx hb dX12_one_60 (by decide) zk_1 (fun c28 => ?_) (fun c28 => by exfalso; omega)
          refine lv_aload_n hx hb dX12_one_65 rfl (lv_at hl 0 rfl) ?_
          have tk29 := rt_TMs hE (by decide) hTK
          have d30_63 := hI.bd (k := 0) bd_60_63
          have d30_64 := hI.bd (k := 0) bd_60_64
          have d30_65 := hI.bd (k := 0) bd_60_65
          have d30_66 := hI.bd (k := 0) bd_60_66
          refine fm_ci (va_runV (As := []) (rest := []) ⟨hx, hb, hml, hown, hts⟩ (fc_X12_either_4 l D ad C nb M27 hI kc S9 B9 T9 (rt_adv T9 (s9)) (by omega) (by omega) tk29 mhr26 ooM27) (cwV 0 hts gX12_one_X12_either rfl rfl rfl (by decide +kernel) ⟨Nat.le_of_ble_eq_true rfl, Nat.le_of_ble_eq_true rfl⟩) (fm_preV hc hw hS kl_60 sh_60 rfl) rfl rfl hl.1 rfl (lv_room (Nat.le_of_ble_eq_true rfl)) dX12_one_66 ⟨by decide +kernel, by decide +kernel⟩) hS hc (fun r31 M32 H locs hr31 hw hS => ?_)
          obtain ⟨hI, hEM32, hr31⟩ := hr31
          have hE := hE.tr hEM32 (by decide)
          have mM32_60_63 : (M32.1 60 0 63).toInt = (M27.1 60 0 63).toInt := by rw [(hEM32 60 0 63 (by decide)).1]
          obtain ⟨ahr31, bhr31, dhr31, shr31, phr31, mhr31, ohr31⟩ := hr31
          refine lv_istore_n (lv' := [(1, .int r31), (0, .ref (ad 60 0))]) hx hb dX12_one_69 rfl hl (by decide) rfl (fun ls hl => ?_)
          refine lv_aload_n hx hb dX12_one_70 rfl (lv_at hl 1 rfl) ?_
          obtain ⟨q33, vq33, hQq33, hRq33⟩ := hc.2.2.2.2.1 (RX12, 408, ")", [41]) (by decide)
          refine va_ldcwS hx hb hown hRq33 dX12_one_71 ?_
          have tk34 := rt_TMs hE (by decide) hTK
          refine fm_ci (va_runV (As := [.ref q33]) (rest := []) ⟨hx, hb, hml, hown, hts⟩ (fc_X12_take l D ad C nb M32 hI q33 vq33 1 (fun j => ([41] : List Int32).getD j 0) (by decide) kc S9 B9 T9 (shr31) 41 (by omega) tk34 mhr31 rt_cd_41) (cwV 1 hts gX12_one_X12_take rfl rfl rfl (by decide +kernel) ⟨Nat.le_of_ble_eq_true rfl, Nat.le_of_ble_eq_true rfl⟩) (fm_preVS hc hw hS hQq33 kl_60 sh_60 rfl) rfl rfl hl.1 rfl (lv_room (Nat.le_of_ble_eq_true rfl)) dX12_one_74 ⟨by decide +kernel, by decide +kernel⟩) hS hc (fun r35 M36 H locs hr35 hw hS => ?_)
          obtain ⟨hI, hEM36, hr35⟩ := hr35
          have hE := hE.tr hEM36 (by decide)
          have mM36_60_63 : (M36.1 60 0 63).toInt = (M32.1 60 0 63).toInt := by rw [(hEM36 60 0 63 (by decide)).1]
          have mM36_60_66 : (M36.1 60 0 66).toInt = (M32.1 60 0 66).toInt := by rw [(hEM36 60 0 66 (by decide)).1]
          rcases hr35 with ⟨rfl, ahr35, bhr35, dhr35, ehr35, mhr35⟩ | ⟨rfl, ahr35, bhr35, dhr35, mhr35⟩
          · have ooM36 : (rt_adv T9 (shr31)).2 < 0 → (M36.1 60 0 66).toInt = 4 := fun z => by have z9 := ohr31 z; omega
            refine fx_if_ne (tgt := 85) hx hb dX12_one_77 (by decide) zk_1 (fun c37 => ?_) (fun c37 => by exfalso; omega)
            refine lv_aload_n hx hb dX12_one_85 rfl (lv_at hl 1 rfl) ?_
            refine lv_dup hx hb dX12_one_86 rfl ?_
            refine fm_getI (a := 60) (j := 66) (T := TX12) (N := 79) hx hb hts hinX12 hown hc hw hI kl_60 sh_60 rfl (by decide) rfl bd_60_66 (hts (.fieldLink RX12 372 "RedTentModel" "open" "I") (List.mem_cons_of_mem _ tw_5_186)) (fun _ h9 => h9) dX12_one_87 (fun x38 ex38 bx38 => ?_)
            have wx38 : x38.toInt = (M36.1 60 0 66).toInt := by rw [ex38]
            refine lv_iconst (v := 1) hx hb dX12_one_90 (by decide) ?_
            refine fx_isub hx hb dX12_one_91 rfl zk_1 (by omega) (fun y39 ey39 ty39 => ?_)
            refine fm_putI (a := 60) (j := 66) (T := TX12) (N := 79) hx hb hts hinX12 tyX12 tyX12_ok nmX12 hown hc hw hI hE hS kl_60 sh_60 od_60 rfl (by decide) rfl bd_60_66 (hts (.fieldLink RX12 372 "RedTentModel" "open" "I") (List.mem_cons_of_mem _ tw_5_186)) (fun _ h9 => h9) rfl (by decide +kernel) (by omega) (by decide) (by decide) dX12_one_92 (fun M40 H locs eM40 hw hI hE hS => ?_)
            have mM40_60_63 : (M40.1 60 0 63).toInt = (M36.1 60 0 63).toInt := by rw [eM40, fm_wI_nj (fun z => absurd z.2.2 (by decide))]
            have mM40_60_64 : (M40.1 60 0 64).toInt = (M36.1 60 0 64).toInt := by rw [eM40, fm_wI_nj (fun z => absurd z.2.2 (by decide))]
            have mM40_60_65 : (M40.1 60 0 65).toInt = (M36.1 60 0 65).toInt := by rw [eM40, fm_wI_nj (fun z => absurd z.2.2 (by decide))]
            have mM40_60_66 : (M40.1 60 0 66).toInt = y39.toInt := by rw [eM40, fm_wI_at]
            have hEM40 : fm_same [60066] M36 M40 := by rw [eM40]; exact fm_same.rf.wI (by decide)
            have mwM40 := rt_ms_same hEM40 (by decide) mhr35
            have ooM40 : (rt_adv T9 (shr31)).2 < 0 → (M40.1 60 0 66).toInt = 3 := fun z => by have z9 := ooM36 z; omega
            refine lv_iload_n hx hb dX12_one_95 rfl (lv_at hl 0 rfl) ?_
            exact W.iret (v := r31) hx hb hr (fun t ht hW => ⟨⟨r31, M40, rfl, ⟨hI, hE, ⟨by omega, by omega, by omega, rt_adv T9 (shr31), (by rw [← rt_need_y (S := S9) ⟨dhr35, ehr35⟩]; exact rt_PS_10b ⟨⟨hs0, sv23⟩, by decide⟩ phr31), mwM40, ooM40⟩⟩, by show fm_at D ad C nb _ t.heap; rw [ht]; exact hw⟩, hS.F ht⟩) hS.2.2 dX12_one_96
          · have ooM36 : (shr31).2 < 0 → (M36.1 60 0 66).toInt = 4 := fun z => by have z9 := ohr31 z; omega
            refine fx_if_ne (tgt := 85) hx hb dX12_one_77 (by decide) zk_0 (fun c41 => by exfalso; omega) (fun c41 => ?_)
            refine lv_aload_n hx hb dX12_one_80 rfl (lv_at hl 1 rfl) ?_
            have hJ42 := hI
            refine fm_ci (va_runV (As := []) (rest := []) ⟨hx, hb, hml, hown, hts⟩ (fc_X12_wrong l D ad C nb M36 hI kc S9 B9 (shr31) mhr35) (cwV 0 hts gX12_one_X12_wrong rfl rfl rfl (by decide +kernel) ⟨Nat.le_of_ble_eq_true rfl, Nat.le_of_ble_eq_true rfl⟩) (fm_preV hc hw hS kl_60 sh_60 rfl) rfl rfl hl.1 rfl (lv_room (Nat.le_of_ble_eq_true rfl)) dX12_one_81 ⟨by decide +kernel, by decide +kernel⟩) hS hc (fun r43 M44 H locs hr43 hw hS => ?_)
            obtain ⟨hI, hEM44, hr43⟩ := hr43
            have hE := hE.tr hEM44 (by decide)
            have mM44_60_63 : (M44.1 60 0 63).toInt = (M36.1 60 0 63).toInt := by rw [(hEM44 60 0 63 (by decide)).1]
            have mM44_60_64 : (M44.1 60 0 64).toInt = (M36.1 60 0 64).toInt := by rw [(hEM44 60 0 64 (by decide)).1]
            have mM44_60_65 : (M44.1 60 0 65).toInt = (M36.1 60 0 65).toInt := by rw [(hEM44 60 0 65 (by decide)).1]
            have mM44_60_66 : (M44.1 60 0 66).toInt = (M36.1 60 0 66).toInt := by rw [(hEM44 60 0 66 (by decide)).1]
            obtain ⟨bhr43, mhr43⟩ := hr43
            have ooM44 : (rt_fail S9 (shr31)).2 < 0 → (M44.1 60 0 66).toInt = 3 := rt_ms_f0 mhr35 (hJ42.bd (k := 0) bd_60_64).1
            exact W.iret (v := r43) hx hb hr (fun t ht hW => ⟨⟨r43, M44, rfl, ⟨hI, hE, ⟨by omega, by omega, by omega, rt_fail S9 (shr31), (by rw [← rt_need_n (S := S9) dhr35]; exact rt_PS_10b ⟨⟨hs0, sv23⟩, by decide⟩ phr31), mhr43, ooM44⟩⟩, by show fm_at D ad C nb _ t.heap; rw [ht]; exact hw⟩, hS.F ht⟩) hS.2.2 dX12_one_84
        · exfalso; omega
      · have sv45 : ¬ T9 (s9).1 = 40 := fun z => chr22 ((rt_is hTK hms rt_cd_40).mpr z)
        refine fx_if_eq (tgt := 97) hx hb dX12_one_53 (by decide) zk_0 (fun c46 => ?_) (fun c46 => by exfalso; omega)
        refine lv_aload_n hx hb dX12_one_97 rfl (lv_at hl 0 rfl) ?_
        refine lv_aload_n hx hb dX12_one_98 rfl (lv_at hl 0 rfl) ?_
        refine fm_getI (a := 60) (j := 64) (T := TX12) (N := 79) hx hb hts hinX12 hown hc hw hI kl_60 sh_60 rfl (by decide) rfl bd_60_64 (hts (.fieldLink RX12 340 "RedTentModel" "from" "I") (List.mem_cons_of_mem _ tw_5_184)) (fun _ h9 => h9) dX12_one_99 (fun x47 ex47 bx47 => ?_)
        have wx47 : x47.toInt = (M.1 60 0 64).toInt := by rw [ex47]
        refine vp_callSi (va_Run.run (va_runV (As := [.int x47]) (rest := []) ⟨hx, hb, hml, hown, hts⟩ (fc_X12_isDigit l D ad C nb M hI x47 (by omega)) (cwV 1 hts gX12_one_X12_isDigit rfl rfl rfl (by decide +kernel) ⟨Nat.le_of_ble_eq_true rfl, Nat.le_of_ble_eq_true rfl⟩) (fm_preV hc hw hS kl_60 sh_60 rfl) rfl rfl hl.1 rfl (lv_room (Nat.le_of_ble_eq_true rfl)) dX12_one_102 ⟨by decide +kernel, by decide +kernel⟩)) (fun r48 hr48 => ?_)
        have bqq49 := hI.bd (k := 0) bd_60_62
        have bqq50 := hI.bd (k := 0) bd_60_63
        rcases hr48 with ⟨rfl, c51⟩ | ⟨rfl, c51⟩
        · have g52 : x47.toInt = (M.1 60 0 64).toInt := by omega
          rw [g52] at c51
          have gd := rt_isd hTK hms c51
          refine fx_if_eq (tgt := 167) hx hb dX12_one_105 (by decide) zk_1 (fun c53 => by exfalso; omega) (fun c53 => ?_)
          refine lv_aload_n hx hb dX12_one_108 rfl (lv_at hl 0 rfl) ?_
          refine fm_getI (a := 60) (j := 65) (T := TX12) (N := 79) hx hb hts hinX12 hown hc hw hI kl_60 sh_60 rfl (by decide) rfl bd_60_65 (hts (.fieldLink RX12 337 "RedTentModel" "to" "I") (List.mem_cons_of_mem _ tw_5_185)) (fun _ h9 => h9) dX12_one_109 (fun x54 ex54 bx54 => ?_)
          have wx54 : x54.toInt = (M.1 60 0 65).toInt := by rw [ex54]
          refine lv_aload_n hx hb dX12_one_112 rfl (lv_at hl 0 rfl) ?_
          refine fm_getI (a := 60) (j := 64) (T := TX12) (N := 79) hx hb hts hinX12 hown hc hw hI kl_60 sh_60 rfl (by decide) rfl bd_60_64 (hts (.fieldLink RX12 340 "RedTentModel" "from" "I") (List.mem_cons_of_mem _ tw_5_184)) (fun _ h9 => h9) dX12_one_113 (fun x55 ex55 bx55 => ?_)
          have wx55 : x55.toInt = (M.1 60 0 64).toInt := by rw [ex55]
          obtain rfl : x47 = x55 := by rw [ex55]; exact ex47
          refine fx_isub hx hb dX12_one_116 rfl rfl (by omega) (fun y56 ey56 ty56 => ?_)
          refine lv_iconst (v := 4) hx hb dX12_one_117 (by decide) ?_
          refine fx_icmp_le (tgt := 126) hx hb dX12_one_118 (by decide) rfl zk_4 (fun c57 => ?_) (fun c57 => ?_)
          · refine lv_iconst (v := 0) hx hb dX12_one_126 (by decide) ?_
            refine lv_istore_n (lv' := [(1, .int 0), (0, .ref (ad 60 0))]) hx hb dX12_one_127 rfl hl (by decide) rfl (fun ls hl => ?_)
            refine lv_aload_n hx hb dX12_one_128 rfl (lv_at hl 1 rfl) ?_
            refine fm_getI (a := 60) (j := 64) (T := TX12) (N := 79) hx hb hts hinX12 hown hc hw hI kl_60 sh_60 rfl (by decide) rfl bd_60_64 (hts (.fieldLink RX12 340 "RedTentModel" "from" "I") (List.mem_cons_of_mem _ tw_5_184)) (fun _ h9 => h9) dX12_one_129 (fun x58 ex58 bx58 => ?_)
            have wx58 : x58.toInt = (M.1 60 0 64).toInt := by rw [ex58]
            obtain rfl : x47 = x58 := by rw [ex58]; exact ex47
            refine lv_istore_n (lv' := [(2, .int x47), (1, .int 0), (0, .ref (ad 60 0))]) hx hb dX12_one_132 rfl hl (by decide) rfl (fun ls hl => ?_)
            have lp : ∀ (n_lp : Nat) (lp_2 : Int32) (lp_1 : Int32), (160 - lp_2.toInt).toNat < n_lp → (0 ≤ lp_2.toInt ∧ lp_2.toInt ≤ 160) → ∀ (ls : Array Slot), lv_has ls 3 [(2, .int lp_2), (1, .int lp_1), (0, .ref (ad 60 0))] → W p l e (headSpec wsX12_one ({ frames := 17, cells := 0, slots := 0, locals := 368 })).room s m ([.ref (ad 60 0)] : List Value).toArray below meth c s.heap [] 0 0 (MQ below (va_Qi (fun (r : Int32) (u : fm_M) => fm_I nb ad u ∧ fm_same [60064, 60065, 60066, 60067] M u ∧ ((M.1 60 0 64).toInt ≤ (u.1 60 0 64).toInt ∧ (M.1 60 0 66).toInt ≤ (u.1 60 0 66).toInt ∧ (u.1 60 0 64).toInt ≤ (u.1 60 0 65).toInt ∧ ∃ s8 : Nat × Int, rt_PS T9 S9 10 3 s9 s8 ∧ rt_ms kc S9 B9 u s8 ∧ (s8.2 < 0 → (u.1 60 0 66).toInt = 3))) (fun u t => fm_at D ad C nb u t.heap) (fm_A nb ad)) ([.ref (ad 60 0)] : List Value).toArray s 0 0 (fm_A nb ad)) (F0 m 133 ls []) := by
              intro n_lp
              induction n_lp with
              | zero => intro lp_2 lp_1 hm_lp b_lp_2 ls hl; exact absurd hm_lp (Nat.not_lt_zero _)
              | succ n_lp ih_lp =>
                intro lp_2 lp_1 hm_lp b_lp_2 ls hl
                refine lv_iload_n hx hb dX12_one_133 rfl (lv_at hl 0 rfl) ?_
                refine lv_aload_n hx hb dX12_one_134 rfl (lv_at hl 2 rfl) ?_
                refine fm_getI (a := 60) (j := 65) (T := TX12) (N := 79) hx hb hts hinX12 hown hc hw hI kl_60 sh_60 rfl (by decide) rfl bd_60_65 (hts (.fieldLink RX12 337 "RedTentModel" "to" "I") (List.mem_cons_of_mem _ tw_5_185)) (fun _ h9 => h9) dX12_one_135 (fun x59 ex59 bx59 => ?_)
                have wx59 : x59.toInt = (M.1 60 0 65).toInt := by rw [ex59]
                obtain rfl : x54 = x59 := by rw [ex59]; exact ex54
                refine fx_icmp_ge (tgt := 161) hx hb dX12_one_138 (by decide) rfl rfl (fun c60 => ?_) (fun c60 => ?_)
                · refine lv_aload_n hx hb dX12_one_161 rfl (lv_at hl 2 rfl) ?_
                  refine fm_cv (va_runV (As := []) (rest := []) ⟨hx, hb, hml, hown, hts⟩ (fc_X12_next l D ad C nb M hI (rt_mto hTK hms)) (cwV 0 hts gX12_one_X12_next rfl rfl rfl (by decide +kernel) ⟨Nat.le_of_ble_eq_true rfl, Nat.le_of_ble_eq_true rfl⟩) (fm_preV hc hw hS kl_60 sh_60 rfl) rfl rfl hl.1 rfl (lv_room (Nat.le_of_ble_eq_true rfl)) dX12_one_162 ⟨by decide +kernel, by decide +kernel⟩) hS hc (fun M62 H locs hr61 hw hS => ?_)
                  obtain ⟨hI, hEM62, hr61⟩ := hr61
                  have hE := hE.tr hEM62 (by decide)
                  have mM62_60_63 : (M62.1 60 0 63).toInt = (M.1 60 0 63).toInt := by rw [(hEM62 60 0 63 (by decide)).1]
                  have mM62_60_66 : (M62.1 60 0 66).toInt = (M.1 60 0 66).toInt := by rw [(hEM62 60 0 66 (by decide)).1]
                  obtain ⟨ahr61, bhr61, nhr61⟩ := hr61
                  have mhr61 := rt_ms_next hTK hms nhr61 (hEM62 60 0 67 (by decide)).1
                  have ooM62 : (rt_adv T9 (s9)).2 < 0 → (M62.1 60 0 66).toInt = 3 := fun z => by have z9 := hoo z; omega
                  refine lv_iload_n hx hb dX12_one_165 rfl (lv_at hl 1 rfl) ?_
                  have qx47 : x47.toInt = (M.1 60 0 64).toInt := by rw [ex47]
                  exact W.iret (v := lp_1) hx hb hr (fun t ht hW => ⟨⟨lp_1, M62, rfl, ⟨hI, hE, ⟨by omega, by omega, by omega, rt_adv T9 (s9), (rt_PS_10v ⟨hs0, Or.inl (gd.1 (by omega))⟩), mhr61, ooM62⟩⟩, by show fm_at D ad C nb _ t.heap; rw [ht]; exact hw⟩, hS.F ht⟩) hS.2.2 dX12_one_166
                · refine lv_bipush (v := 10) hx hb dX12_one_141 (by decide) ?_
                  refine lv_iload_n hx hb dX12_one_143 rfl (lv_at hl 1 rfl) ?_
                  refine fx_imulU hx hb dX12_one_144 (fun y63 ey63 => ?_)
                  refine lv_aload_n hx hb dX12_one_145 rfl (lv_at hl 2 rfl) ?_
                  refine lv_iload_n hx hb dX12_one_146 rfl (lv_at hl 0 rfl) ?_
                  refine vp_callSi (va_Run.run (va_runV (As := [.int lp_2]) (rest := [.int y63]) ⟨hx, hb, hml, hown, hts⟩ (fc_X12_byteAt l D ad C nb M hI lp_2 (by omega)) (cwV 1 hts gX12_one_X12_byteAt rfl rfl rfl (by decide +kernel) ⟨Nat.le_of_ble_eq_true rfl, Nat.le_of_ble_eq_true rfl⟩) (fm_preV hc hw hS kl_60 sh_60 rfl) rfl rfl hl.1 rfl (lv_room (Nat.le_of_ble_eq_true rfl)) dX12_one_147 ⟨by decide +kernel, by decide +kernel⟩)) (fun r64 hr64 => ?_)
                  refine fx_iaddU hx hb dX12_one_150 (fun y65 ey65 => ?_)
                  refine lv_bipush (v := 48) hx hb dX12_one_151 (by decide) ?_
                  refine fx_isubU hx hb dX12_one_153 (fun y66 ey66 => ?_)
                  refine lv_istore_n (lv' := [(1, .int y66), (2, .int lp_2), (0, .ref (ad 60 0))]) hx hb dX12_one_154 rfl hl (by decide) rfl (fun ls hl => ?_)
                  obtain ⟨y67, ey67⟩ : ∃ y : Int32, y = lp_2 + 1 := ⟨_, rfl⟩
                  have ty67 : y67.toInt = lp_2.toInt + 1 := by rw [ey67, zi_add _ _ (by rw [zk_1]; omega) (by rw [zk_1]; omega), zk_1]
                  refine lv_iinc (v := y67) (lv' := [(2, .int y67), (1, .int y66), (0, .ref (ad 60 0))]) hx hb dX12_one_155 hl (k := 1) rfl (by rw [ey67]; rfl) (by decide) rfl (fun ls hl => ?_)
                  refine lv_goto (tgt := 133) hx hb dX12_one_158 (by decide) ?_
                  exact ih_lp y67 y66 (by omega) (by omega) ls (lv_sub hl [0, 1, 2] rfl)
            exact lp _ x47 0 (Nat.lt_succ_self _) (by omega) ls (lv_sub hl [0, 1, 2] rfl)
          · have ge := gd.2 (by omega)
            refine lv_aload_n hx hb dX12_one_121 rfl (lv_at hl 0 rfl) ?_
            have hJ68 := hI
            refine fm_ci (va_runV (As := []) (rest := []) ⟨hx, hb, hml, hown, hts⟩ (fc_X12_wrong l D ad C nb M hI kc S9 B9 (s9) hms) (cwV 0 hts gX12_one_X12_wrong rfl rfl rfl (by decide +kernel) ⟨Nat.le_of_ble_eq_true rfl, Nat.le_of_ble_eq_true rfl⟩) (fm_preV hc hw hS kl_60 sh_60 rfl) rfl rfl hl.1 rfl (lv_room (Nat.le_of_ble_eq_true rfl)) dX12_one_122 ⟨by decide +kernel, by decide +kernel⟩) hS hc (fun r69 M70 H locs hr69 hw hS => ?_)
            obtain ⟨hI, hEM70, hr69⟩ := hr69
            have hE := hE.tr hEM70 (by decide)
            have mM70_60_63 : (M70.1 60 0 63).toInt = (M.1 60 0 63).toInt := by rw [(hEM70 60 0 63 (by decide)).1]
            have mM70_60_64 : (M70.1 60 0 64).toInt = (M.1 60 0 64).toInt := by rw [(hEM70 60 0 64 (by decide)).1]
            have mM70_60_65 : (M70.1 60 0 65).toInt = (M.1 60 0 65).toInt := by rw [(hEM70 60 0 65 (by decide)).1]
            have mM70_60_66 : (M70.1 60 0 66).toInt = (M.1 60 0 66).toInt := by rw [(hEM70 60 0 66 (by decide)).1]
            obtain ⟨bhr69, mhr69⟩ := hr69
            have ooM70 : (rt_fail S9 (s9)).2 < 0 → (M70.1 60 0 66).toInt = 3 := rt_ms_f0 hms (hJ68.bd (k := 0) bd_60_64).1
            have qx47 : x47.toInt = (M.1 60 0 64).toInt := by rw [ex47]
            exact W.iret (v := r69) hx hb hr (fun t ht hW => ⟨⟨r69, M70, rfl, ⟨hI, hE, ⟨by omega, by omega, by omega, rt_fail S9 (s9), (rt_PS_10f (by omega)), mhr69, ooM70⟩⟩, by show fm_at D ad C nb _ t.heap; rw [ht]; exact hw⟩, hS.F ht⟩) hS.2.2 dX12_one_125
        · have g71 : x47.toInt = (M.1 60 0 64).toInt := by omega
          rw [g71] at c51
          have gd := rt_isn hTK hms c51
          refine fx_if_eq (tgt := 167) hx hb dX12_one_105 (by decide) zk_0 (fun c72 => ?_) (fun c72 => by exfalso; omega)
          have jt : ∀ (jt_1 : Int32), ((-1) ≤ jt_1.toInt ∧ jt_1.toInt ≤ 5) → ((jt_1.toInt < 0 ∧ ¬ (0 < T9 s9.1 ∧ T9 s9.1 ≤ 6)) ∨ (0 ≤ jt_1.toInt ∧ 0 < T9 s9.1 ∧ T9 s9.1 ≤ 6)) → ∀ (ls : Array Slot), lv_has ls 3 [(0, .ref (ad 60 0)), (1, .int jt_1)] → W p l e (headSpec wsX12_one ({ frames := 17, cells := 0, slots := 0, locals := 368 })).room s m ([.ref (ad 60 0)] : List Value).toArray below meth c s.heap [] 0 0 (MQ below (va_Qi (fun (r : Int32) (u : fm_M) => fm_I nb ad u ∧ fm_same [60064, 60065, 60066, 60067] M u ∧ ((M.1 60 0 64).toInt ≤ (u.1 60 0 64).toInt ∧ (M.1 60 0 66).toInt ≤ (u.1 60 0 66).toInt ∧ (u.1 60 0 64).toInt ≤ (u.1 60 0 65).toInt ∧ ∃ s8 : Nat × Int, rt_PS T9 S9 10 3 s9 s8 ∧ rt_ms kc S9 B9 u s8 ∧ (s8.2 < 0 → (u.1 60 0 66).toInt = 3))) (fun u t => fm_at D ad C nb u t.heap) (fm_A nb ad)) ([.ref (ad 60 0)] : List Value).toArray s 0 0 (fm_A nb ad)) (F0 m 253 ls []) := by
            intro jt_1 b_jt_1 hj ls hl
            refine lv_iload_n hx hb dX12_one_253 rfl (lv_at hl 1 rfl) ?_
            refine fx_if_ge (tgt := 262) hx hb dX12_one_254 (by decide) rfl (fun c73 => ?_) (fun c73 => ?_)
            · refine lv_aload_n hx hb dX12_one_262 rfl (lv_at hl 0 rfl) ?_
              refine fm_cv (va_runV (As := []) (rest := []) ⟨hx, hb, hml, hown, hts⟩ (fc_X12_next l D ad C nb M hI (rt_mto hTK hms)) (cwV 0 hts gX12_one_X12_next rfl rfl rfl (by decide +kernel) ⟨Nat.le_of_ble_eq_true rfl, Nat.le_of_ble_eq_true rfl⟩) (fm_preV hc hw hS kl_60 sh_60 rfl) rfl rfl hl.1 rfl (lv_room (Nat.le_of_ble_eq_true rfl)) dX12_one_263 ⟨by decide +kernel, by decide +kernel⟩) hS hc (fun M75 H locs hr74 hw hS => ?_)
              obtain ⟨hI, hEM75, hr74⟩ := hr74
              have hE := hE.tr hEM75 (by decide)
              have mM75_60_63 : (M75.1 60 0 63).toInt = (M.1 60 0 63).toInt := by rw [(hEM75 60 0 63 (by decide)).1]
              have mM75_60_66 : (M75.1 60 0 66).toInt = (M.1 60 0 66).toInt := by rw [(hEM75 60 0 66 (by decide)).1]
              obtain ⟨ahr74, bhr74, nhr74⟩ := hr74
              have mhr74 := rt_ms_next hTK hms nhr74 (hEM75 60 0 67 (by decide)).1
              have ooM75 : (rt_adv T9 (s9)).2 < 0 → (M75.1 60 0 66).toInt = 3 := fun z => by have z9 := hoo z; omega
              refine lv_aload_n hx hb dX12_one_266 rfl (lv_at hl 0 rfl) ?_
              refine fm_getG (a := 60) (j := 68) (T := TX12) (N := 79) hx hb hts hinX12 hown hc hw kl_60 sh_60 rfl (by decide) rfl (hI.to kl_60 tg_60_68) (hts (.fieldLink RX12 143 "RedTentModel" "names" "[I") (List.mem_cons_of_mem _ tw_5_188)) (fun _ h9 => h9) dX12_one_267 ?_
              refine lv_iload_n hx hb dX12_one_270 rfl (lv_at hl 1 rfl) ?_
              refine fm_iald (a := 168) hx hb hc hw hI kl_168 sh_168 ty_168 bd_168 (by omega) dX12_one_271 (fun x76 ex76 bx76 => ?_)
              have qx47 : x47.toInt = (M.1 60 0 64).toInt := by rw [ex47]
              exact W.iret (v := x76) hx hb hr (fun t ht hW => ⟨⟨x76, M75, rfl, ⟨hI, hE, ⟨by omega, by omega, by omega, rt_adv T9 (s9), (rt_PS_10v ⟨hs0, Or.inr (by rcases hj with ⟨hj, _⟩ | ⟨_, hj⟩; exfalso; omega; exact hj)⟩), mhr74, ooM75⟩⟩, by show fm_at D ad C nb _ t.heap; rw [ht]; exact hw⟩, hS.F ht⟩) hS.2.2 dX12_one_272
            · refine lv_aload_n hx hb dX12_one_257 rfl (lv_at hl 0 rfl) ?_
              have hJ77 := hI
              refine fm_ci (va_runV (As := []) (rest := []) ⟨hx, hb, hml, hown, hts⟩ (fc_X12_wrong l D ad C nb M hI kc S9 B9 (s9) hms) (cwV 0 hts gX12_one_X12_wrong rfl rfl rfl (by decide +kernel) ⟨Nat.le_of_ble_eq_true rfl, Nat.le_of_ble_eq_true rfl⟩) (fm_preV hc hw hS kl_60 sh_60 rfl) rfl rfl hl.1 rfl (lv_room (Nat.le_of_ble_eq_true rfl)) dX12_one_258 ⟨by decide +kernel, by decide +kernel⟩) hS hc (fun r78 M79 H locs hr78 hw hS => ?_)
              obtain ⟨hI, hEM79, hr78⟩ := hr78
              have hE := hE.tr hEM79 (by decide)
              have mM79_60_63 : (M79.1 60 0 63).toInt = (M.1 60 0 63).toInt := by rw [(hEM79 60 0 63 (by decide)).1]
              have mM79_60_64 : (M79.1 60 0 64).toInt = (M.1 60 0 64).toInt := by rw [(hEM79 60 0 64 (by decide)).1]
              have mM79_60_65 : (M79.1 60 0 65).toInt = (M.1 60 0 65).toInt := by rw [(hEM79 60 0 65 (by decide)).1]
              have mM79_60_66 : (M79.1 60 0 66).toInt = (M.1 60 0 66).toInt := by rw [(hEM79 60 0 66 (by decide)).1]
              obtain ⟨bhr78, mhr78⟩ := hr78
              have ooM79 : (rt_fail S9 (s9)).2 < 0 → (M79.1 60 0 66).toInt = 3 := rt_ms_f0 hms (hJ77.bd (k := 0) bd_60_64).1
              have qx47 : x47.toInt = (M.1 60 0 64).toInt := by rw [ex47]
              exact W.iret (v := r78) hx hb hr (fun t ht hW => ⟨⟨r78, M79, rfl, ⟨hI, hE, ⟨by omega, by omega, by omega, rt_fail S9 (s9), (rt_PS_10f (by rcases hj with ⟨_, hj⟩ | ⟨hj, _⟩ <;> omega)), mhr78, ooM79⟩⟩, by show fm_at D ad C nb _ t.heap; rw [ht]; exact hw⟩, hS.F ht⟩) hS.2.2 dX12_one_261
          refine lv_aload_n hx hb dX12_one_167 rfl (lv_at hl 0 rfl) ?_
          obtain ⟨q80, vq80, hQq80, hRq80⟩ := hc.2.2.2.2.1 (RX12, 410, "strength", [115, 116, 114, 101, 110, 103, 116, 104]) (by decide)
          refine va_ldcwS hx hb hown hRq80 dX12_one_168 ?_
          refine vp_callSi (va_Run.run (va_runV (As := [.ref q80]) (rest := []) ⟨hx, hb, hml, hown, hts⟩ (fc_X12_is l D ad C nb M hI q80 vq80 8 (fun j => ([115, 116, 114, 101, 110, 103, 116, 104] : List Int32).getD j 0) (by decide) (rt_mto hTK hms) rt_cd_1.2.1) (cwV 1 hts gX12_one_X12_is rfl rfl rfl (by decide +kernel) ⟨Nat.le_of_ble_eq_true rfl, Nat.le_of_ble_eq_true rfl⟩) (fm_preVS hc hw hS hQq80 kl_60 sh_60 rfl) rfl rfl hl.1 rfl (lv_room (Nat.le_of_ble_eq_true rfl)) dX12_one_171 ⟨by decide +kernel, by decide +kernel⟩)) (fun r81 hr81 => ?_)
          rcases hr81 with ⟨rfl, chr81⟩ | ⟨rfl, chr81⟩
          · have sv82 := (rt_is hTK hms rt_cd_1).mp chr81
            refine fx_if_eq (tgt := 181) hx hb dX12_one_174 (by decide) zk_1 (fun c83 => by exfalso; omega) (fun c83 => ?_)
            refine lv_iconst (v := 0) hx hb dX12_one_177 (by decide) ?_
            refine lv_goto (tgt := 252) hx hb dX12_one_178 (by decide) ?_
            refine lv_istore_n (lv' := [(1, .int 0), (0, .ref (ad 60 0))]) hx hb dX12_one_252 rfl hl (by decide) rfl (fun ls hl => ?_)
            exact jt 0 (by decide) (Or.inr ⟨by decide, by omega⟩) ls (lv_sub hl [1, 0] rfl)
          · have sv84 : ¬ T9 (s9).1 = 1 := fun z => chr81 ((rt_is hTK hms rt_cd_1).mpr z)
            refine fx_if_eq (tgt := 181) hx hb dX12_one_174 (by decide) zk_0 (fun c85 => ?_) (fun c85 => by exfalso; omega)
            refine lv_aload_n hx hb dX12_one_181 rfl (lv_at hl 0 rfl) ?_
            obtain ⟨q86, vq86, hQq86, hRq86⟩ := hc.2.2.2.2.1 (RX12, 411, "hurt", [104, 117, 114, 116]) (by decide)
            refine va_ldcwS hx hb hown hRq86 dX12_one_182 ?_
            refine vp_callSi (va_Run.run (va_runV (As := [.ref q86]) (rest := []) ⟨hx, hb, hml, hown, hts⟩ (fc_X12_is l D ad C nb M hI q86 vq86 4 (fun j => ([104, 117, 114, 116] : List Int32).getD j 0) (by decide) (rt_mto hTK hms) rt_cd_2.2.1) (cwV 1 hts gX12_one_X12_is rfl rfl rfl (by decide +kernel) ⟨Nat.le_of_ble_eq_true rfl, Nat.le_of_ble_eq_true rfl⟩) (fm_preVS hc hw hS hQq86 kl_60 sh_60 rfl) rfl rfl hl.1 rfl (lv_room (Nat.le_of_ble_eq_true rfl)) dX12_one_185 ⟨by decide +kernel, by decide +kernel⟩)) (fun r87 hr87 => ?_)
            rcases hr87 with ⟨rfl, chr87⟩ | ⟨rfl, chr87⟩
            · have sv88 := (rt_is hTK hms rt_cd_2).mp chr87
              refine fx_if_eq (tgt := 195) hx hb dX12_one_188 (by decide) zk_1 (fun c89 => by exfalso; omega) (fun c89 => ?_)
              refine lv_iconst (v := 1) hx hb dX12_one_191 (by decide) ?_
              refine lv_goto (tgt := 252) hx hb dX12_one_192 (by decide) ?_
              refine lv_istore_n (lv' := [(1, .int 1), (0, .ref (ad 60 0))]) hx hb dX12_one_252 rfl hl (by decide) rfl (fun ls hl => ?_)
              exact jt 1 (by decide) (Or.inr ⟨by decide, by omega⟩) ls (lv_sub hl [1, 0] rfl)
            · have sv90 : ¬ T9 (s9).1 = 2 := fun z => chr87 ((rt_is hTK hms rt_cd_2).mpr z)
              refine fx_if_eq (tgt := 195) hx hb dX12_one_188 (by decide) zk_0 (fun c91 => ?_) (fun c91 => by exfalso; omega)
              refine lv_aload_n hx hb dX12_one_195 rfl (lv_at hl 0 rfl) ?_
              obtain ⟨q92, vq92, hQq92, hRq92⟩ := hc.2.2.2.2.1 (RX12, 412, "skill", [115, 107, 105, 108, 108]) (by decide)
              refine va_ldcwS hx hb hown hRq92 dX12_one_196 ?_
              refine vp_callSi (va_Run.run (va_runV (As := [.ref q92]) (rest := []) ⟨hx, hb, hml, hown, hts⟩ (fc_X12_is l D ad C nb M hI q92 vq92 5 (fun j => ([115, 107, 105, 108, 108] : List Int32).getD j 0) (by decide) (rt_mto hTK hms) rt_cd_3.2.1) (cwV 1 hts gX12_one_X12_is rfl rfl rfl (by decide +kernel) ⟨Nat.le_of_ble_eq_true rfl, Nat.le_of_ble_eq_true rfl⟩) (fm_preVS hc hw hS hQq92 kl_60 sh_60 rfl) rfl rfl hl.1 rfl (lv_room (Nat.le_of_ble_eq_true rfl)) dX12_one_199 ⟨by decide +kernel, by decide +kernel⟩)) (fun r93 hr93 => ?_)
              rcases hr93 with ⟨rfl, chr93⟩ | ⟨rfl, chr93⟩
              · have sv94 := (rt_is hTK hms rt_cd_3).mp chr93
                refine fx_if_eq (tgt := 209) hx hb dX12_one_202 (by decide) zk_1 (fun c95 => by exfalso; omega) (fun c95 => ?_)
                refine lv_iconst (v := 2) hx hb dX12_one_205 (by decide) ?_
                refine lv_goto (tgt := 252) hx hb dX12_one_206 (by decide) ?_
                refine lv_istore_n (lv' := [(1, .int 2), (0, .ref (ad 60 0))]) hx hb dX12_one_252 rfl hl (by decide) rfl (fun ls hl => ?_)
                exact jt 2 (by decide) (Or.inr ⟨by decide, by omega⟩) ls (lv_sub hl [1, 0] rfl)
              · have sv96 : ¬ T9 (s9).1 = 3 := fun z => chr93 ((rt_is hTK hms rt_cd_3).mpr z)
                refine fx_if_eq (tgt := 209) hx hb dX12_one_202 (by decide) zk_0 (fun c97 => ?_) (fun c97 => by exfalso; omega)
                refine lv_aload_n hx hb dX12_one_209 rfl (lv_at hl 0 rfl) ?_
                obtain ⟨q98, vq98, hQq98, hRq98⟩ := hc.2.2.2.2.1 (RX12, 413, "hour", [104, 111, 117, 114]) (by decide)
                refine va_ldcwS hx hb hown hRq98 dX12_one_210 ?_
                refine vp_callSi (va_Run.run (va_runV (As := [.ref q98]) (rest := []) ⟨hx, hb, hml, hown, hts⟩ (fc_X12_is l D ad C nb M hI q98 vq98 4 (fun j => ([104, 111, 117, 114] : List Int32).getD j 0) (by decide) (rt_mto hTK hms) rt_cd_4.2.1) (cwV 1 hts gX12_one_X12_is rfl rfl rfl (by decide +kernel) ⟨Nat.le_of_ble_eq_true rfl, Nat.le_of_ble_eq_true rfl⟩) (fm_preVS hc hw hS hQq98 kl_60 sh_60 rfl) rfl rfl hl.1 rfl (lv_room (Nat.le_of_ble_eq_true rfl)) dX12_one_213 ⟨by decide +kernel, by decide +kernel⟩)) (fun r99 hr99 => ?_)
                rcases hr99 with ⟨rfl, chr99⟩ | ⟨rfl, chr99⟩
                · have sv100 := (rt_is hTK hms rt_cd_4).mp chr99
                  refine fx_if_eq (tgt := 223) hx hb dX12_one_216 (by decide) zk_1 (fun c101 => by exfalso; omega) (fun c101 => ?_)
                  refine lv_iconst (v := 3) hx hb dX12_one_219 (by decide) ?_
                  refine lv_goto (tgt := 252) hx hb dX12_one_220 (by decide) ?_
                  refine lv_istore_n (lv' := [(1, .int 3), (0, .ref (ad 60 0))]) hx hb dX12_one_252 rfl hl (by decide) rfl (fun ls hl => ?_)
                  exact jt 3 (by decide) (Or.inr ⟨by decide, by omega⟩) ls (lv_sub hl [1, 0] rfl)
                · have sv102 : ¬ T9 (s9).1 = 4 := fun z => chr99 ((rt_is hTK hms rt_cd_4).mpr z)
                  refine fx_if_eq (tgt := 223) hx hb dX12_one_216 (by decide) zk_0 (fun c103 => ?_) (fun c103 => by exfalso; omega)
                  refine lv_aload_n hx hb dX12_one_223 rfl (lv_at hl 0 rfl) ?_
                  obtain ⟨q104, vq104, hQq104, hRq104⟩ := hc.2.2.2.2.1 (RX12, 414, "fuel", [102, 117, 101, 108]) (by decide)
                  refine va_ldcwS hx hb hown hRq104 dX12_one_224 ?_
                  refine vp_callSi (va_Run.run (va_runV (As := [.ref q104]) (rest := []) ⟨hx, hb, hml, hown, hts⟩ (fc_X12_is l D ad C nb M hI q104 vq104 4 (fun j => ([102, 117, 101, 108] : List Int32).getD j 0) (by decide) (rt_mto hTK hms) rt_cd_5.2.1) (cwV 1 hts gX12_one_X12_is rfl rfl rfl (by decide +kernel) ⟨Nat.le_of_ble_eq_true rfl, Nat.le_of_ble_eq_true rfl⟩) (fm_preVS hc hw hS hQq104 kl_60 sh_60 rfl) rfl rfl hl.1 rfl (lv_room (Nat.le_of_ble_eq_true rfl)) dX12_one_227 ⟨by decide +kernel, by decide +kernel⟩)) (fun r105 hr105 => ?_)
                  rcases hr105 with ⟨rfl, chr105⟩ | ⟨rfl, chr105⟩
                  · have sv106 := (rt_is hTK hms rt_cd_5).mp chr105
                    refine fx_if_eq (tgt := 237) hx hb dX12_one_230 (by decide) zk_1 (fun c107 => by exfalso; omega) (fun c107 => ?_)
                    refine lv_iconst (v := 4) hx hb dX12_one_233 (by decide) ?_
                    refine lv_goto (tgt := 252) hx hb dX12_one_234 (by decide) ?_
                    refine lv_istore_n (lv' := [(1, .int 4), (0, .ref (ad 60 0))]) hx hb dX12_one_252 rfl hl (by decide) rfl (fun ls hl => ?_)
                    exact jt 4 (by decide) (Or.inr ⟨by decide, by omega⟩) ls (lv_sub hl [1, 0] rfl)
                  · have sv108 : ¬ T9 (s9).1 = 5 := fun z => chr105 ((rt_is hTK hms rt_cd_5).mpr z)
                    refine fx_if_eq (tgt := 237) hx hb dX12_one_230 (by decide) zk_0 (fun c109 => ?_) (fun c109 => by exfalso; omega)
                    refine lv_aload_n hx hb dX12_one_237 rfl (lv_at hl 0 rfl) ?_
                    obtain ⟨q110, vq110, hQq110, hRq110⟩ := hc.2.2.2.2.1 (RX12, 415, "far", [102, 97, 114]) (by decide)
                    refine va_ldcwS hx hb hown hRq110 dX12_one_238 ?_
                    refine vp_callSi (va_Run.run (va_runV (As := [.ref q110]) (rest := []) ⟨hx, hb, hml, hown, hts⟩ (fc_X12_is l D ad C nb M hI q110 vq110 3 (fun j => ([102, 97, 114] : List Int32).getD j 0) (by decide) (rt_mto hTK hms) rt_cd_6.2.1) (cwV 1 hts gX12_one_X12_is rfl rfl rfl (by decide +kernel) ⟨Nat.le_of_ble_eq_true rfl, Nat.le_of_ble_eq_true rfl⟩) (fm_preVS hc hw hS hQq110 kl_60 sh_60 rfl) rfl rfl hl.1 rfl (lv_room (Nat.le_of_ble_eq_true rfl)) dX12_one_241 ⟨by decide +kernel, by decide +kernel⟩)) (fun r111 hr111 => ?_)
                    rcases hr111 with ⟨rfl, chr111⟩ | ⟨rfl, chr111⟩
                    · have sv112 := (rt_is hTK hms rt_cd_6).mp chr111
                      refine fx_if_eq (tgt := 251) hx hb dX12_one_244 (by decide) zk_1 (fun c113 => by exfalso; omega) (fun c113 => ?_)
                      refine lv_iconst (v := 5) hx hb dX12_one_247 (by decide) ?_
                      refine lv_goto (tgt := 252) hx hb dX12_one_248 (by decide) ?_
                      refine lv_istore_n (lv' := [(1, .int 5), (0, .ref (ad 60 0))]) hx hb dX12_one_252 rfl hl (by decide) rfl (fun ls hl => ?_)
                      exact jt 5 (by decide) (Or.inr ⟨by decide, by omega⟩) ls (lv_sub hl [1, 0] rfl)
                    · have sv114 : ¬ T9 (s9).1 = 6 := fun z => chr111 ((rt_is hTK hms rt_cd_6).mpr z)
                      refine fx_if_eq (tgt := 251) hx hb dX12_one_244 (by decide) zk_0 (fun c115 => ?_) (fun c115 => by exfalso; omega)
                      refine lv_iconst (v := (-1)) hx hb dX12_one_251 (by decide) ?_
                      refine lv_istore_n (lv' := [(1, .int (-1)), (0, .ref (ad 60 0))]) hx hb dX12_one_252 rfl hl (by decide) rfl (fun ls hl => ?_)
                      exact jt (-1) (by decide) (Or.inl ⟨by decide, by omega⟩) ls (lv_sub hl [1, 0] rfl)
  · refine lv_iconst (v := 0) hx hb dX12_one_7 (by decide) ?_
    exact W.iret (v := 0) hx hb hr (fun t ht hW => ⟨⟨0, M, rfl, ⟨hI, hE, ⟨by omega, by omega, by omega, s9, (rt_PS_id (by rw [← hms.2.2.2, ← ex1]; omega) (by decide)), hms, hoo⟩⟩, by show fm_at D ad C nb _ t.heap; rw [ht]; exact hw⟩, hS.F ht⟩) hS.2.2 dX12_one_8
set_option maxHeartbeats 400000 in
set_option maxRecDepth 20000 in
theorem fc_X12_product_3 (l : Launch) (D : va_G) (ad : Nat → Nat → Nat) (C : Nat → Nat → ClassId) (nb : Nat) (M : fm_M) (hI : fm_I nb ad M) (kc : Nat) (S9 B9 T9 : Nat → Int) (s9 : Nat × Int) (hft : (M.1 60 0 64).toInt ≤ (M.1 60 0 65).toInt) (hop : 3 ≤ (M.1 60 0 66).toInt) (hTK : rt_TM M kc S9 B9 T9) (hms : rt_ms kc S9 B9 M s9) (hoo : s9.2 < 0 → (M.1 60 0 66).toInt = 3) : Met l yX12_product wsX12_product ({ frames := 18, cells := 0, slots := 0, locals := 390 }) (va_Pc [.ref (ad 60 0)] (fm_P D ad C nb M)) (va_Qi (fun (r : Int32) (u : fm_M) => fm_I nb ad u ∧ fm_same [60064, 60065, 60066, 60067] M u ∧ ((M.1 60 0 64).toInt ≤ (u.1 60 0 64).toInt ∧ (M.1 60 0 66).toInt ≤ (u.1 60 0 66).toInt ∧ (u.1 60 0 64).toInt ≤ (u.1 60 0 65).toInt ∧ ∃ s8 : Nat × Int, rt_PS T9 S9 8 3 s9 s8 ∧ rt_ms kc S9 B9 u s8 ∧ (s8.2 < 0 → (u.1 60 0 66).toInt = 3))) (fun u t => fm_at D ad C nb u t.heap) (fm_A nb ad)) 0 0 (fm_A nb ad) := by
  refine Met.ofW (cc := cX12_product) (maxL := 2) (ret := (some .int)) (by decide) rfl ?_
  intro p e s m args below meth c s₁ B hml hv
  obtain ⟨rfl, hw, hc⟩ := hv
  have hx := B.exec
  have hb := B.bytes
  have hr := B.returns
  have hts := atoms_spec (ws := wsX12_product) B.pre
  have hown : s.vm.findClass RX12 = some m.cls := findClass_of_methodNamed B.named
  have hS : va_S (fm_A nb ad) s.heap s.heap [] := va_S.rf
  have hE : fm_same [60064, 60065, 60066, 60067] M M := fm_same.rf
  have hl := lv_entry ([.ref (ad 60 0)]) (n := 2) (Nat.le_of_ble_eq_true rfl)
  rw [lg_entry_eq]
  generalize (lg_sl ([.ref (ad 60 0)]) ++ List.replicate (2 - (lg_sl ([.ref (ad 60 0)])).length) Slot.unset).toArray = ls at hl ⊢
  have hl : lv_has ls 2 [(0, .ref (ad 60 0))] := hl
  refine lv_aload_n hx hb dX12_product_0 rfl (lv_at hl 0 rfl) ?_
  have d1_63 := hI.bd (k := 0) bd_60_63
  have d1_64 := hI.bd (k := 0) bd_60_64
  have d1_65 := hI.bd (k := 0) bd_60_65
  have d1_66 := hI.bd (k := 0) bd_60_66
  refine fm_ci (va_runV (As := []) (rest := []) ⟨hx, hb, hml, hown, hts⟩ (fc_X12_one_3 l D ad C nb M hI kc S9 B9 T9 (s9) (by omega) (by omega) hTK hms hoo) (cwV 0 hts gX12_product_X12_one rfl rfl rfl (by decide +kernel) ⟨Nat.le_of_ble_eq_true rfl, Nat.le_of_ble_eq_true rfl⟩) (fm_preV hc hw hS kl_60 sh_60 rfl) rfl rfl hl.1 rfl (lv_room (Nat.le_of_ble_eq_true rfl)) dX12_product_1 ⟨by decide +kernel, by decide +kernel⟩) hS hc (fun r2 M3 H locs hr2 hw hS => ?_)
  obtain ⟨hI, hEM3, hr2⟩ := hr2
  have hE := hE.tr hEM3 (by decide)
  have mM3_60_63 : (M3.1 60 0 63).toInt = (M.1 60 0 63).toInt := by rw [(hEM3 60 0 63 (by decide)).1]
  obtain ⟨ahr2, bhr2, dhr2, shr2, phr2, mhr2, ohr2⟩ := hr2
  refine lv_istore_n (lv' := [(1, .int r2), (0, .ref (ad 60 0))]) hx hb dX12_product_4 rfl hl (by decide) rfl (fun ls hl => ?_)
  have lp : ∀ (n_lp : Nat) (lp_1 : Int32) (M_lp : fm_M), (161 - (M_lp.1 60 0 64).toInt).toNat < n_lp → ((M.1 60 0 64).toInt ≤ (M_lp.1 60 0 64).toInt ∧ (M.1 60 0 66).toInt ≤ (M_lp.1 60 0 66).toInt ∧ (M_lp.1 60 0 64).toInt ≤ (M_lp.1 60 0 65).toInt) → (∃ s : Nat × Int, rt_ms kc S9 B9 M_lp s ∧ (s.2 < 0 → (M_lp.1 60 0 66).toInt = 3) ∧ ∀ r : Nat × Int, rt_PS T9 S9 9 3 s r → rt_PS T9 S9 8 3 s9 r) → fm_I nb ad M_lp → fm_same [60064, 60065, 60066, 60067] M M_lp → ∀ (H : Heap) (locs : List Loc), fm_at D ad C nb M_lp H → va_S (fm_A nb ad) s.heap H locs → ∀ (ls : Array Slot), lv_has ls 2 [(1, .int lp_1), (0, .ref (ad 60 0))] → W p l e (headSpec wsX12_product ({ frames := 18, cells := 0, slots := 0, locals := 390 })).room s m ([.ref (ad 60 0)] : List Value).toArray below meth c H locs 0 0 (MQ below (va_Qi (fun (r : Int32) (u : fm_M) => fm_I nb ad u ∧ fm_same [60064, 60065, 60066, 60067] M u ∧ ((M.1 60 0 64).toInt ≤ (u.1 60 0 64).toInt ∧ (M.1 60 0 66).toInt ≤ (u.1 60 0 66).toInt ∧ (u.1 60 0 64).toInt ≤ (u.1 60 0 65).toInt ∧ ∃ s8 : Nat × Int, rt_PS T9 S9 8 3 s9 s8 ∧ rt_ms kc S9 B9 u s8 ∧ (s8.2 < 0 → (u.1 60 0 66).toInt = 3))) (fun u t => fm_at D ad C nb u t.heap) (fm_A nb ad)) ([.ref (ad 60 0)] : List Value).toArray s 0 0 (fm_A nb ad)) (F0 m 5 ls []) := by
    intro n_lp
    induction n_lp with
    | zero => intro lp_1 M_lp hm_lp hv hq hI hE H locs hw hS ls hl; exact absurd hm_lp (Nat.not_lt_zero _)
    | succ n_lp ih_lp =>
      intro lp_1 M_lp hm_lp hv hq hI hE H locs hw hS ls hl
      obtain ⟨s7, ms7, oo7, hq7⟩ := hq
      refine lv_aload_n hx hb dX12_product_5 rfl (lv_at hl 1 rfl) ?_
      obtain ⟨q4, vq4, hQq4, hRq4⟩ := hc.2.2.2.2.1 (RX12, 401, "*", [42]) (by decide)
      refine va_ldcwS hx hb hown hRq4 dX12_product_6 ?_
      have tk5 := rt_TMs hE (by decide) hTK
      refine fm_ci (va_runV (As := [.ref q4]) (rest := []) ⟨hx, hb, hml, hown, hts⟩ (fc_X12_take l D ad C nb M_lp hI q4 vq4 1 (fun j => ([42] : List Int32).getD j 0) (by decide) kc S9 B9 T9 (s7) 42 (by omega) tk5 ms7 rt_cd_42) (cwV 1 hts gX12_product_X12_take rfl rfl rfl (by decide +kernel) ⟨Nat.le_of_ble_eq_true rfl, Nat.le_of_ble_eq_true rfl⟩) (fm_preVS hc hw hS hQq4 kl_60 sh_60 rfl) rfl rfl hl.1 rfl (lv_room (Nat.le_of_ble_eq_true rfl)) dX12_product_9 ⟨by decide +kernel, by decide +kernel⟩) hS hc (fun r6 M7 H locs hr6 hw hS => ?_)
      obtain ⟨hI, hEM7, hr6⟩ := hr6
      have hE := hE.tr hEM7 (by decide)
      have mM7_60_63 : (M7.1 60 0 63).toInt = (M_lp.1 60 0 63).toInt := by rw [(hEM7 60 0 63 (by decide)).1]
      have mM7_60_66 : (M7.1 60 0 66).toInt = (M_lp.1 60 0 66).toInt := by rw [(hEM7 60 0 66 (by decide)).1]
      rcases hr6 with ⟨rfl, ahr6, bhr6, dhr6, ehr6, mhr6⟩ | ⟨rfl, ahr6, bhr6, dhr6, mhr6⟩
      · have ooM7 : (rt_adv T9 (s7)).2 < 0 → (M7.1 60 0 66).toInt = 3 := fun z => by have z9 := oo7 z; omega
        refine fx_if_eq (tgt := 25) hx hb dX12_product_12 (by decide) zk_1 (fun c8 => by exfalso; omega) (fun c8 => ?_)
        refine lv_iload_n hx hb dX12_product_15 rfl (lv_at hl 0 rfl) ?_
        refine lv_aload_n hx hb dX12_product_16 rfl (lv_at hl 1 rfl) ?_
        have tk9 := rt_TMs hE (by decide) hTK
        have d10_63 := hI.bd (k := 0) bd_60_63
        have d10_64 := hI.bd (k := 0) bd_60_64
        have d10_65 := hI.bd (k := 0) bd_60_65
        have d10_66 := hI.bd (k := 0) bd_60_66
        refine fm_ci (va_runV (As := []) (rest := [.int lp_1]) ⟨hx, hb, hml, hown, hts⟩ (fc_X12_one_3 l D ad C nb M7 hI kc S9 B9 T9 (rt_adv T9 (s7)) (by omega) (by omega) tk9 mhr6 ooM7) (cwV 0 hts gX12_product_X12_one rfl rfl rfl (by decide +kernel) ⟨Nat.le_of_ble_eq_true rfl, Nat.le_of_ble_eq_true rfl⟩) (fm_preV hc hw hS kl_60 sh_60 rfl) rfl rfl hl.1 rfl (lv_room (Nat.le_of_ble_eq_true rfl)) dX12_product_17 ⟨by decide +kernel, by decide +kernel⟩) hS hc (fun r11 M12 H locs hr11 hw hS => ?_)
        obtain ⟨hI, hEM12, hr11⟩ := hr11
        have hE := hE.tr hEM12 (by decide)
        have mM12_60_63 : (M12.1 60 0 63).toInt = (M7.1 60 0 63).toInt := by rw [(hEM12 60 0 63 (by decide)).1]
        obtain ⟨ahr11, bhr11, dhr11, shr11, phr11, mhr11, ohr11⟩ := hr11
        refine fx_imulU hx hb dX12_product_20 (fun y13 ey13 => ?_)
        refine lv_istore_n (lv' := [(1, .int y13), (0, .ref (ad 60 0))]) hx hb dX12_product_21 rfl hl (by decide) rfl (fun ls hl => ?_)
        refine lv_goto (tgt := 5) hx hb dX12_product_22 (by decide) ?_
        exact ih_lp y13 M12 (by omega) (by omega) ⟨shr11, mhr11, ohr11, fun r h => hq7 r (rt_PS_9y ⟨dhr6, ehr6⟩ phr11 h)⟩ hI hE _ _ hw hS ls (lv_sub hl [0, 1] rfl)
      · have ooM7 : (s7).2 < 0 → (M7.1 60 0 66).toInt = 3 := fun z => by have z9 := oo7 z; omega
        refine fx_if_eq (tgt := 25) hx hb dX12_product_12 (by decide) zk_0 (fun c14 => ?_) (fun c14 => by exfalso; omega)
        refine lv_iload_n hx hb dX12_product_25 rfl (lv_at hl 0 rfl) ?_
        exact W.iret (v := lp_1) hx hb hr (fun t ht hW => ⟨⟨lp_1, M7, rfl, ⟨hI, hE, ⟨by omega, by omega, by omega, s7, (hq7 _ (rt_PS_9n dhr6)), mhr6, ooM7⟩⟩, by show fm_at D ad C nb _ t.heap; rw [ht]; exact hw⟩, hS.F ht⟩) hS.2.2 dX12_product_26
  exact lp _ r2 M3 (Nat.lt_succ_self _) (by omega) ⟨shr2, mhr2, ohr2, fun r h => rt_PS_8 phr2 h⟩ hI hE _ _ hw hS ls (lv_sub hl [0, 1] rfl)
set_option maxHeartbeats 400000 in
set_option maxRecDepth 20000 in
theorem fc_X12_sum_3 (l : Launch) (D : va_G) (ad : Nat → Nat → Nat) (C : Nat → Nat → ClassId) (nb : Nat) (M : fm_M) (hI : fm_I nb ad M) (kc : Nat) (S9 B9 T9 : Nat → Int) (s9 : Nat × Int) (hft : (M.1 60 0 64).toInt ≤ (M.1 60 0 65).toInt) (hop : 3 ≤ (M.1 60 0 66).toInt) (hTK : rt_TM M kc S9 B9 T9) (hms : rt_ms kc S9 B9 M s9) (hoo : s9.2 < 0 → (M.1 60 0 66).toInt = 3) : Met l yX12_sum wsX12_sum ({ frames := 19, cells := 0, slots := 0, locals := 411 }) (va_Pc [.ref (ad 60 0)] (fm_P D ad C nb M)) (va_Qi (fun (r : Int32) (u : fm_M) => fm_I nb ad u ∧ fm_same [60064, 60065, 60066, 60067] M u ∧ ((M.1 60 0 64).toInt ≤ (u.1 60 0 64).toInt ∧ (M.1 60 0 66).toInt ≤ (u.1 60 0 66).toInt ∧ (u.1 60 0 64).toInt ≤ (u.1 60 0 65).toInt ∧ ∃ s8 : Nat × Int, rt_PS T9 S9 6 3 s9 s8 ∧ rt_ms kc S9 B9 u s8 ∧ (s8.2 < 0 → (u.1 60 0 66).toInt = 3))) (fun u t => fm_at D ad C nb u t.heap) (fm_A nb ad)) 0 0 (fm_A nb ad) := by
  refine Met.ofW (cc := cX12_sum) (maxL := 3) (ret := (some .int)) (by decide) rfl ?_
  intro p e s m args below meth c s₁ B hml hv
  obtain ⟨rfl, hw, hc⟩ := hv
  have hx := B.exec
  have hb := B.bytes
  have hr := B.returns
  have hts := atoms_spec (ws := wsX12_sum) B.pre
  have hown : s.vm.findClass RX12 = some m.cls := findClass_of_methodNamed B.named
  have hS : va_S (fm_A nb ad) s.heap s.heap [] := va_S.rf
  have hE : fm_same [60064, 60065, 60066, 60067] M M := fm_same.rf
  have hl := lv_entry ([.ref (ad 60 0)]) (n := 3) (Nat.le_of_ble_eq_true rfl)
  rw [lg_entry_eq]
  generalize (lg_sl ([.ref (ad 60 0)]) ++ List.replicate (3 - (lg_sl ([.ref (ad 60 0)])).length) Slot.unset).toArray = ls at hl ⊢
  have hl : lv_has ls 3 [(0, .ref (ad 60 0))] := hl
  refine lv_aload_n hx hb dX12_sum_0 rfl (lv_at hl 0 rfl) ?_
  have d1_63 := hI.bd (k := 0) bd_60_63
  have d1_64 := hI.bd (k := 0) bd_60_64
  have d1_65 := hI.bd (k := 0) bd_60_65
  have d1_66 := hI.bd (k := 0) bd_60_66
  refine fm_ci (va_runV (As := []) (rest := []) ⟨hx, hb, hml, hown, hts⟩ (fc_X12_product_3 l D ad C nb M hI kc S9 B9 T9 (s9) (by omega) (by omega) hTK hms hoo) (cwV 0 hts gX12_sum_X12_product rfl rfl rfl (by decide +kernel) ⟨Nat.le_of_ble_eq_true rfl, Nat.le_of_ble_eq_true rfl⟩) (fm_preV hc hw hS kl_60 sh_60 rfl) rfl rfl hl.1 rfl (lv_room (Nat.le_of_ble_eq_true rfl)) dX12_sum_1 ⟨by decide +kernel, by decide +kernel⟩) hS hc (fun r2 M3 H locs hr2 hw hS => ?_)
  obtain ⟨hI, hEM3, hr2⟩ := hr2
  have hE := hE.tr hEM3 (by decide)
  have mM3_60_63 : (M3.1 60 0 63).toInt = (M.1 60 0 63).toInt := by rw [(hEM3 60 0 63 (by decide)).1]
  obtain ⟨ahr2, bhr2, dhr2, shr2, phr2, mhr2, ohr2⟩ := hr2
  refine lv_istore_n (lv' := [(1, .int r2), (0, .ref (ad 60 0))]) hx hb dX12_sum_4 rfl hl (by decide) rfl (fun ls hl => ?_)
  refine lv_iconst (v := 1) hx hb dX12_sum_5 (by decide) ?_
  refine lv_istore_n (lv' := [(2, .int 1), (1, .int r2), (0, .ref (ad 60 0))]) hx hb dX12_sum_6 rfl hl (by decide) rfl (fun ls hl => ?_)
  have lp : ∀ (n_lp : Nat) (lp_2 : Int32) (lp_1 : Int32) (M_lp : fm_M), 2 * (161 - (M_lp.1 60 0 64).toInt).toNat + lp_2.toInt.toNat < n_lp → (0 ≤ lp_2.toInt ∧ lp_2.toInt ≤ 1) → ((M.1 60 0 64).toInt ≤ (M_lp.1 60 0 64).toInt ∧ (M.1 60 0 66).toInt ≤ (M_lp.1 60 0 66).toInt ∧ (M_lp.1 60 0 64).toInt ≤ (M_lp.1 60 0 65).toInt) → (∃ s : Nat × Int, rt_ms kc S9 B9 M_lp s ∧ (s.2 < 0 → (M_lp.1 60 0 66).toInt = 3) ∧ (lp_2.toInt = 1 → ∀ r : Nat × Int, rt_PS T9 S9 7 3 s r → rt_PS T9 S9 6 3 s9 r) ∧ (lp_2.toInt = 0 → rt_PS T9 S9 6 3 s9 s)) → fm_I nb ad M_lp → fm_same [60064, 60065, 60066, 60067] M M_lp → ∀ (H : Heap) (locs : List Loc), fm_at D ad C nb M_lp H → va_S (fm_A nb ad) s.heap H locs → ∀ (ls : Array Slot), lv_has ls 3 [(2, .int lp_2), (1, .int lp_1), (0, .ref (ad 60 0))] → W p l e (headSpec wsX12_sum ({ frames := 19, cells := 0, slots := 0, locals := 411 })).room s m ([.ref (ad 60 0)] : List Value).toArray below meth c H locs 0 0 (MQ below (va_Qi (fun (r : Int32) (u : fm_M) => fm_I nb ad u ∧ fm_same [60064, 60065, 60066, 60067] M u ∧ ((M.1 60 0 64).toInt ≤ (u.1 60 0 64).toInt ∧ (M.1 60 0 66).toInt ≤ (u.1 60 0 66).toInt ∧ (u.1 60 0 64).toInt ≤ (u.1 60 0 65).toInt ∧ ∃ s8 : Nat × Int, rt_PS T9 S9 6 3 s9 s8 ∧ rt_ms kc S9 B9 u s8 ∧ (s8.2 < 0 → (u.1 60 0 66).toInt = 3))) (fun u t => fm_at D ad C nb u t.heap) (fm_A nb ad)) ([.ref (ad 60 0)] : List Value).toArray s 0 0 (fm_A nb ad)) (F0 m 7 ls []) := by
    intro n_lp
    induction n_lp with
    | zero => intro lp_2 lp_1 M_lp hm_lp b_lp_2 hv hq hI hE H locs hw hS ls hl; exact absurd hm_lp (Nat.not_lt_zero _)
    | succ n_lp ih_lp =>
      intro lp_2 lp_1 M_lp hm_lp b_lp_2 hv hq hI hE H locs hw hS ls hl
      obtain ⟨s7, ms7, oo7, hq7, hq0⟩ := hq
      refine lv_iload_n hx hb dX12_sum_7 rfl (lv_at hl 0 rfl) ?_
      refine fx_if_eq (tgt := 56) hx hb dX12_sum_8 (by decide) rfl (fun c4 => ?_) (fun c4 => ?_)
      · refine lv_iload_n hx hb dX12_sum_56 rfl (lv_at hl 1 rfl) ?_
        exact W.iret (v := lp_1) hx hb hr (fun t ht hW => ⟨⟨lp_1, M_lp, rfl, ⟨hI, hE, ⟨by omega, by omega, by omega, s7, (hq0 (by omega)), ms7, oo7⟩⟩, by show fm_at D ad C nb _ t.heap; rw [ht]; exact hw⟩, hS.F ht⟩) hS.2.2 dX12_sum_57
      · refine lv_aload_n hx hb dX12_sum_11 rfl (lv_at hl 2 rfl) ?_
        obtain ⟨q5, vq5, hQq5, hRq5⟩ := hc.2.2.2.2.1 (RX12, 394, "+", [43]) (by decide)
        refine va_ldcwS hx hb hown hRq5 dX12_sum_12 ?_
        have tk6 := rt_TMs hE (by decide) hTK
        refine fm_ci (va_runV (As := [.ref q5]) (rest := []) ⟨hx, hb, hml, hown, hts⟩ (fc_X12_take l D ad C nb M_lp hI q5 vq5 1 (fun j => ([43] : List Int32).getD j 0) (by decide) kc S9 B9 T9 (s7) 43 (by omega) tk6 ms7 rt_cd_43) (cwV 1 hts gX12_sum_X12_take rfl rfl rfl (by decide +kernel) ⟨Nat.le_of_ble_eq_true rfl, Nat.le_of_ble_eq_true rfl⟩) (fm_preVS hc hw hS hQq5 kl_60 sh_60 rfl) rfl rfl hl.1 rfl (lv_room (Nat.le_of_ble_eq_true rfl)) dX12_sum_15 ⟨by decide +kernel, by decide +kernel⟩) hS hc (fun r7 M8 H locs hr7 hw hS => ?_)
        obtain ⟨hI, hEM8, hr7⟩ := hr7
        have hE := hE.tr hEM8 (by decide)
        have mM8_60_63 : (M8.1 60 0 63).toInt = (M_lp.1 60 0 63).toInt := by rw [(hEM8 60 0 63 (by decide)).1]
        have mM8_60_66 : (M8.1 60 0 66).toInt = (M_lp.1 60 0 66).toInt := by rw [(hEM8 60 0 66 (by decide)).1]
        rcases hr7 with ⟨rfl, ahr7, bhr7, dhr7, ehr7, mhr7⟩ | ⟨rfl, ahr7, bhr7, dhr7, mhr7⟩
        · have ooM8 : (rt_adv T9 (s7)).2 < 0 → (M8.1 60 0 66).toInt = 3 := fun z => by have z9 := oo7 z; omega
          refine fx_if_eq (tgt := 31) hx hb dX12_sum_18 (by decide) zk_1 (fun c9 => by exfalso; omega) (fun c9 => ?_)
          refine lv_iload_n hx hb dX12_sum_21 rfl (lv_at hl 1 rfl) ?_
          refine lv_aload_n hx hb dX12_sum_22 rfl (lv_at hl 2 rfl) ?_
          have tk10 := rt_TMs hE (by decide) hTK
          have d11_63 := hI.bd (k := 0) bd_60_63
          have d11_64 := hI.bd (k := 0) bd_60_64
          have d11_65 := hI.bd (k := 0) bd_60_65
          have d11_66 := hI.bd (k := 0) bd_60_66
          refine fm_ci (va_runV (As := []) (rest := [.int lp_1]) ⟨hx, hb, hml, hown, hts⟩ (fc_X12_product_3 l D ad C nb M8 hI kc S9 B9 T9 (rt_adv T9 (s7)) (by omega) (by omega) tk10 mhr7 ooM8) (cwV 0 hts gX12_sum_X12_product rfl rfl rfl (by decide +kernel) ⟨Nat.le_of_ble_eq_true rfl, Nat.le_of_ble_eq_true rfl⟩) (fm_preV hc hw hS kl_60 sh_60 rfl) rfl rfl hl.1 rfl (lv_room (Nat.le_of_ble_eq_true rfl)) dX12_sum_23 ⟨by decide +kernel, by decide +kernel⟩) hS hc (fun r12 M13 H locs hr12 hw hS => ?_)
          obtain ⟨hI, hEM13, hr12⟩ := hr12
          have hE := hE.tr hEM13 (by decide)
          have mM13_60_63 : (M13.1 60 0 63).toInt = (M8.1 60 0 63).toInt := by rw [(hEM13 60 0 63 (by decide)).1]
          obtain ⟨ahr12, bhr12, dhr12, shr12, phr12, mhr12, ohr12⟩ := hr12
          refine fx_iaddU hx hb dX12_sum_26 (fun y14 ey14 => ?_)
          refine lv_istore_n (lv' := [(1, .int y14), (2, .int lp_2), (0, .ref (ad 60 0))]) hx hb dX12_sum_27 rfl hl (by decide) rfl (fun ls hl => ?_)
          refine lv_goto (tgt := 7) hx hb dX12_sum_28 (by decide) ?_
          exact ih_lp lp_2 y14 M13 (by omega) (by omega) (by omega) ⟨shr12, mhr12, ohr12, fun _ r h => hq7 (by omega) r (rt_PS_7y ⟨dhr7, Or.inl ehr7⟩ phr12 h), fun z => absurd z (by omega)⟩ hI hE _ _ hw hS ls (lv_sub hl [1, 0, 2] rfl)
        · have ooM8 : (s7).2 < 0 → (M8.1 60 0 66).toInt = 3 := fun z => by have z9 := oo7 z; omega
          refine fx_if_eq (tgt := 31) hx hb dX12_sum_18 (by decide) zk_0 (fun c15 => ?_) (fun c15 => by exfalso; omega)
          refine lv_aload_n hx hb dX12_sum_31 rfl (lv_at hl 2 rfl) ?_
          obtain ⟨q16, vq16, hQq16, hRq16⟩ := hc.2.2.2.2.1 (RX12, 396, "-", [45]) (by decide)
          refine va_ldcwS hx hb hown hRq16 dX12_sum_32 ?_
          have tk17 := rt_TMs hE (by decide) hTK
          refine fm_ci (va_runV (As := [.ref q16]) (rest := []) ⟨hx, hb, hml, hown, hts⟩ (fc_X12_take l D ad C nb M8 hI q16 vq16 1 (fun j => ([45] : List Int32).getD j 0) (by decide) kc S9 B9 T9 (s7) 45 (by omega) tk17 mhr7 rt_cd_45) (cwV 1 hts gX12_sum_X12_take rfl rfl rfl (by decide +kernel) ⟨Nat.le_of_ble_eq_true rfl, Nat.le_of_ble_eq_true rfl⟩) (fm_preVS hc hw hS hQq16 kl_60 sh_60 rfl) rfl rfl hl.1 rfl (lv_room (Nat.le_of_ble_eq_true rfl)) dX12_sum_35 ⟨by decide +kernel, by decide +kernel⟩) hS hc (fun r18 M19 H locs hr18 hw hS => ?_)
          obtain ⟨hI, hEM19, hr18⟩ := hr18
          have hE := hE.tr hEM19 (by decide)
          have mM19_60_63 : (M19.1 60 0 63).toInt = (M8.1 60 0 63).toInt := by rw [(hEM19 60 0 63 (by decide)).1]
          have mM19_60_66 : (M19.1 60 0 66).toInt = (M8.1 60 0 66).toInt := by rw [(hEM19 60 0 66 (by decide)).1]
          rcases hr18 with ⟨rfl, ahr18, bhr18, dhr18, ehr18, mhr18⟩ | ⟨rfl, ahr18, bhr18, dhr18, mhr18⟩
          · have ooM19 : (rt_adv T9 (s7)).2 < 0 → (M19.1 60 0 66).toInt = 3 := fun z => by have z9 := ooM8 z; omega
            refine fx_if_eq (tgt := 51) hx hb dX12_sum_38 (by decide) zk_1 (fun c20 => by exfalso; omega) (fun c20 => ?_)
            refine lv_iload_n hx hb dX12_sum_41 rfl (lv_at hl 1 rfl) ?_
            refine lv_aload_n hx hb dX12_sum_42 rfl (lv_at hl 2 rfl) ?_
            have tk21 := rt_TMs hE (by decide) hTK
            have d22_63 := hI.bd (k := 0) bd_60_63
            have d22_64 := hI.bd (k := 0) bd_60_64
            have d22_65 := hI.bd (k := 0) bd_60_65
            have d22_66 := hI.bd (k := 0) bd_60_66
            refine fm_ci (va_runV (As := []) (rest := [.int lp_1]) ⟨hx, hb, hml, hown, hts⟩ (fc_X12_product_3 l D ad C nb M19 hI kc S9 B9 T9 (rt_adv T9 (s7)) (by omega) (by omega) tk21 mhr18 ooM19) (cwV 0 hts gX12_sum_X12_product rfl rfl rfl (by decide +kernel) ⟨Nat.le_of_ble_eq_true rfl, Nat.le_of_ble_eq_true rfl⟩) (fm_preV hc hw hS kl_60 sh_60 rfl) rfl rfl hl.1 rfl (lv_room (Nat.le_of_ble_eq_true rfl)) dX12_sum_43 ⟨by decide +kernel, by decide +kernel⟩) hS hc (fun r23 M24 H locs hr23 hw hS => ?_)
            obtain ⟨hI, hEM24, hr23⟩ := hr23
            have hE := hE.tr hEM24 (by decide)
            have mM24_60_63 : (M24.1 60 0 63).toInt = (M19.1 60 0 63).toInt := by rw [(hEM24 60 0 63 (by decide)).1]
            obtain ⟨ahr23, bhr23, dhr23, shr23, phr23, mhr23, ohr23⟩ := hr23
            refine fx_isubU hx hb dX12_sum_46 (fun y25 ey25 => ?_)
            refine lv_istore_n (lv' := [(1, .int y25), (2, .int lp_2), (0, .ref (ad 60 0))]) hx hb dX12_sum_47 rfl hl (by decide) rfl (fun ls hl => ?_)
            refine lv_goto (tgt := 7) hx hb dX12_sum_48 (by decide) ?_
            exact ih_lp lp_2 y25 M24 (by omega) (by omega) (by omega) ⟨shr23, mhr23, ohr23, fun _ r h => hq7 (by omega) r (rt_PS_7y ⟨dhr18, Or.inr ehr18⟩ phr23 h), fun z => absurd z (by omega)⟩ hI hE _ _ hw hS ls (lv_sub hl [1, 0, 2] rfl)
          · have ooM19 : (s7).2 < 0 → (M19.1 60 0 66).toInt = 3 := fun z => by have z9 := ooM8 z; omega
            refine fx_if_eq (tgt := 51) hx hb dX12_sum_38 (by decide) zk_0 (fun c26 => ?_) (fun c26 => by exfalso; omega)
            refine lv_iconst (v := 0) hx hb dX12_sum_51 (by decide) ?_
            refine lv_istore_n (lv' := [(2, .int 0), (1, .int lp_1), (0, .ref (ad 60 0))]) hx hb dX12_sum_52 rfl hl (by decide) rfl (fun ls hl => ?_)
            refine lv_goto (tgt := 7) hx hb dX12_sum_53 (by decide) ?_
            exact ih_lp 0 lp_1 M19 (by have zlp_2 := zk_0; omega) (by decide) (by omega) ⟨s7, mhr18, ooM19, fun z => absurd z (by decide), fun _ => hq7 (by omega) _ (rt_PS_7n (by have za := dhr7; have zb := dhr18; omega))⟩ hI hE _ _ hw hS ls (lv_sub hl [0, 1, 2] rfl)
  exact lp _ 1 r2 M3 (Nat.lt_succ_self _) (by decide) (by omega) ⟨shr2, mhr2, ohr2, fun _ r h => rt_PS_6 phr2 h, fun z => absurd z (by decide)⟩ hI hE _ _ hw hS ls (lv_sub hl [0, 1, 2] rfl)
set_option maxHeartbeats 400000 in
set_option maxRecDepth 20000 in
theorem fc_X12_turned_3 (l : Launch) (D : va_G) (ad : Nat → Nat → Nat) (C : Nat → Nat → ClassId) (nb : Nat) (M : fm_M) (hI : fm_I nb ad M) (kc : Nat) (S9 B9 T9 : Nat → Int) (s9 : Nat × Int) (hft : (M.1 60 0 64).toInt ≤ (M.1 60 0 65).toInt) (hop : 3 ≤ (M.1 60 0 66).toInt) (hTK : rt_TM M kc S9 B9 T9) (hms : rt_ms kc S9 B9 M s9) (hoo : s9.2 < 0 → (M.1 60 0 66).toInt = 3) : Met l yX12_turned wsX12_turned ({ frames := 20, cells := 0, slots := 0, locals := 433 }) (va_Pc [.ref (ad 60 0)] (fm_P D ad C nb M)) (va_Qi (fun (r : Int32) (u : fm_M) => fm_I nb ad u ∧ fm_same [60064, 60065, 60066, 60067] M u ∧ ((M.1 60 0 64).toInt ≤ (u.1 60 0 64).toInt ∧ (M.1 60 0 66).toInt ≤ (u.1 60 0 66).toInt ∧ (u.1 60 0 64).toInt ≤ (u.1 60 0 65).toInt ∧ ∃ s8 : Nat × Int, rt_PS T9 S9 4 3 s9 s8 ∧ rt_ms kc S9 B9 u s8 ∧ (s8.2 < 0 → (u.1 60 0 66).toInt = 3))) (fun u t => fm_at D ad C nb u t.heap) (fm_A nb ad)) 0 0 (fm_A nb ad) := by
  refine Met.ofW (cc := cX12_turned) (maxL := 2) (ret := (some .int)) (by decide) rfl ?_
  intro p e s m args below meth c s₁ B hml hv
  obtain ⟨rfl, hw, hc⟩ := hv
  have hx := B.exec
  have hb := B.bytes
  have hr := B.returns
  have hts := atoms_spec (ws := wsX12_turned) B.pre
  have hown : s.vm.findClass RX12 = some m.cls := findClass_of_methodNamed B.named
  have hinX12 : ∀ w ∈ u_ws RX12 TX12 79, w ∈ wsX12_turned := fun w h => List.mem_cons_of_mem _ (iT_X12 w h)
  have hS : va_S (fm_A nb ad) s.heap s.heap [] := va_S.rf
  have hE : fm_same [60064, 60065, 60066, 60067] M M := fm_same.rf
  have hl := lv_entry ([.ref (ad 60 0)]) (n := 2) (Nat.le_of_ble_eq_true rfl)
  rw [lg_entry_eq]
  generalize (lg_sl ([.ref (ad 60 0)]) ++ List.replicate (2 - (lg_sl ([.ref (ad 60 0)])).length) Slot.unset).toArray = ls at hl ⊢
  have hl : lv_has ls 2 [(0, .ref (ad 60 0))] := hl
  refine lv_aload_n hx hb dX12_turned_0 rfl (lv_at hl 0 rfl) ?_
  refine fm_getI (a := 60) (j := 67) (T := TX12) (N := 79) hx hb hts hinX12 hown hc hw hI kl_60 sh_60 rfl (by decide) rfl bd_60_67 (hts (.fieldLink RX12 349 "RedTentModel" "fault" "I") (List.mem_cons_of_mem _ tw_5_187)) (fun _ h9 => h9) dX12_turned_1 (fun x1 ex1 bx1 => ?_)
  refine fx_if_lt (tgt := 9) hx hb dX12_turned_4 (by decide) rfl (fun c2 => ?_) (fun c2 => ?_)
  · have gh : s9.2 = x1.toInt := by rw [ex1]; exact hms.2.2.2.symm
    have hs0 : s9.2 < 0 := by omega
    have ho0 := hoo hs0
    refine lv_aload_n hx hb dX12_turned_9 rfl (lv_at hl 0 rfl) ?_
    obtain ⟨q3, vq3, hQq3, hRq3⟩ := hc.2.2.2.2.1 (RX12, 378, "not", [110, 111, 116]) (by decide)
    refine va_ldcwS hx hb hown hRq3 dX12_turned_10 ?_
    refine vp_callSi (va_Run.run (va_runV (As := [.ref q3]) (rest := []) ⟨hx, hb, hml, hown, hts⟩ (fc_X12_is l D ad C nb M hI q3 vq3 3 (fun j => ([110, 111, 116] : List Int32).getD j 0) (by decide) (rt_mto hTK hms) rt_cd_11.2.1) (cwV 1 hts gX12_turned_X12_is rfl rfl rfl (by decide +kernel) ⟨Nat.le_of_ble_eq_true rfl, Nat.le_of_ble_eq_true rfl⟩) (fm_preVS hc hw hS hQq3 kl_60 sh_60 rfl) rfl rfl hl.1 rfl (lv_room (Nat.le_of_ble_eq_true rfl)) dX12_turned_13 ⟨by decide +kernel, by decide +kernel⟩)) (fun r4 hr4 => ?_)
    rcases hr4 with ⟨rfl, chr4⟩ | ⟨rfl, chr4⟩
    · have sv5 := (rt_is hTK hms rt_cd_11).mp chr4
      refine fx_if_eq (tgt := 53) hx hb dX12_turned_16 (by decide) zk_1 (fun c6 => by exfalso; omega) (fun c6 => ?_)
      refine lv_aload_n hx hb dX12_turned_19 rfl (lv_at hl 0 rfl) ?_
      have hJ7 := hI
      refine fm_ci (va_runV (As := []) (rest := []) ⟨hx, hb, hml, hown, hts⟩ (fc_X12_opens l D ad C nb M hI kc S9 B9 T9 (s9) hTK hms) (cwV 0 hts gX12_turned_X12_opens rfl rfl rfl (by decide +kernel) ⟨Nat.le_of_ble_eq_true rfl, Nat.le_of_ble_eq_true rfl⟩) (fm_preV hc hw hS kl_60 sh_60 rfl) rfl rfl hl.1 rfl (lv_room (Nat.le_of_ble_eq_true rfl)) dX12_turned_20 ⟨by decide +kernel, by decide +kernel⟩) hS hc (fun r8 M9 H locs hr8 hw hS => ?_)
      obtain ⟨hI, hEM9, hr8⟩ := hr8
      have hE := hE.tr hEM9 (by decide)
      have mM9_60_63 : (M9.1 60 0 63).toInt = (M.1 60 0 63).toInt := by rw [(hEM9 60 0 63 (by decide)).1]
      rcases hr8 with ⟨rfl, ahr8, bhr8, dhr8, mhr8⟩ | ⟨rfl, zhr8, ahr8, bhr8, dhr8, mhr8⟩
      · have ooM9 : (rt_adv T9 (s9)).2 < 0 → (M9.1 60 0 66).toInt = 4 := fun z => by have z9 := hoo z; omega
        refine fx_if_ne (tgt := 28) hx hb dX12_turned_23 (by decide) zk_1 (fun c10 => ?_) (fun c10 => by exfalso; omega)
        refine lv_aload_n hx hb dX12_turned_28 rfl (lv_at hl 0 rfl) ?_
        have tk11 := rt_TMs hE (by decide) hTK
        have d12_63 := hI.bd (k := 0) bd_60_63
        have d12_64 := hI.bd (k := 0) bd_60_64
        have d12_65 := hI.bd (k := 0) bd_60_65
        have d12_66 := hI.bd (k := 0) bd_60_66
        refine fm_ci (va_runV (As := []) (rest := []) ⟨hx, hb, hml, hown, hts⟩ (fc_X12_turned_4 l D ad C nb M9 hI kc S9 B9 T9 (rt_adv T9 (s9)) (by omega) (by omega) tk11 mhr8 ooM9) (cwV 0 hts gX12_turned_X12_turned rfl rfl rfl (by decide +kernel) ⟨Nat.le_of_ble_eq_true rfl, Nat.le_of_ble_eq_true rfl⟩) (fm_preV hc hw hS kl_60 sh_60 rfl) rfl rfl hl.1 rfl (lv_room (Nat.le_of_ble_eq_true rfl)) dX12_turned_29 ⟨by decide +kernel, by decide +kernel⟩) hS hc (fun r13 M14 H locs hr13 hw hS => ?_)
        obtain ⟨hI, hEM14, hr13⟩ := hr13
        have hE := hE.tr hEM14 (by decide)
        have mM14_60_63 : (M14.1 60 0 63).toInt = (M9.1 60 0 63).toInt := by rw [(hEM14 60 0 63 (by decide)).1]
        obtain ⟨ahr13, bhr13, dhr13, shr13, phr13, mhr13, ohr13⟩ := hr13
        refine lv_istore_n (lv' := [(1, .int r13), (0, .ref (ad 60 0))]) hx hb dX12_turned_32 rfl hl (by decide) rfl (fun ls hl => ?_)
        refine lv_aload_n hx hb dX12_turned_33 rfl (lv_at hl 1 rfl) ?_
        refine lv_dup hx hb dX12_turned_34 rfl ?_
        refine fm_getI (a := 60) (j := 66) (T := TX12) (N := 79) hx hb hts hinX12 hown hc hw hI kl_60 sh_60 rfl (by decide) rfl bd_60_66 (hts (.fieldLink RX12 372 "RedTentModel" "open" "I") (List.mem_cons_of_mem _ tw_5_186)) (fun _ h9 => h9) dX12_turned_35 (fun x15 ex15 bx15 => ?_)
        have wx15 : x15.toInt = (M14.1 60 0 66).toInt := by rw [ex15]
        refine lv_iconst (v := 1) hx hb dX12_turned_38 (by decide) ?_
        refine fx_isub hx hb dX12_turned_39 rfl zk_1 (by omega) (fun y16 ey16 ty16 => ?_)
        refine fm_putI (a := 60) (j := 66) (T := TX12) (N := 79) hx hb hts hinX12 tyX12 tyX12_ok nmX12 hown hc hw hI hE hS kl_60 sh_60 od_60 rfl (by decide) rfl bd_60_66 (hts (.fieldLink RX12 372 "RedTentModel" "open" "I") (List.mem_cons_of_mem _ tw_5_186)) (fun _ h9 => h9) rfl (by decide +kernel) (by omega) (by decide) (by decide) dX12_turned_40 (fun M17 H locs eM17 hw hI hE hS => ?_)
        have mM17_60_63 : (M17.1 60 0 63).toInt = (M14.1 60 0 63).toInt := by rw [eM17, fm_wI_nj (fun z => absurd z.2.2 (by decide))]
        have mM17_60_64 : (M17.1 60 0 64).toInt = (M14.1 60 0 64).toInt := by rw [eM17, fm_wI_nj (fun z => absurd z.2.2 (by decide))]
        have mM17_60_65 : (M17.1 60 0 65).toInt = (M14.1 60 0 65).toInt := by rw [eM17, fm_wI_nj (fun z => absurd z.2.2 (by decide))]
        have mM17_60_66 : (M17.1 60 0 66).toInt = y16.toInt := by rw [eM17, fm_wI_at]
        have hEM17 : fm_same [60066] M14 M17 := by rw [eM17]; exact fm_same.rf.wI (by decide)
        have mwM17 := rt_ms_same hEM17 (by decide) mhr13
        have ooM17 : (shr13).2 < 0 → (M17.1 60 0 66).toInt = 3 := fun z => by have z9 := ohr13 z; omega
        refine lv_iload_n hx hb dX12_turned_43 rfl (lv_at hl 0 rfl) ?_
        refine fx_if_ne (tgt := 51) hx hb dX12_turned_44 (by decide) rfl (fun c18 => ?_) (fun c18 => ?_)
        · refine lv_iconst (v := 0) hx hb dX12_turned_51 (by decide) ?_
          exact W.iret (v := 0) hx hb hr (fun t ht hW => ⟨⟨0, M17, rfl, ⟨hI, hE, ⟨by omega, by omega, by omega, shr13, (rt_PS_4y ⟨hs0, sv5⟩ (by decide) phr13), mwM17, ooM17⟩⟩, by show fm_at D ad C nb _ t.heap; rw [ht]; exact hw⟩, hS.F ht⟩) hS.2.2 dX12_turned_52
        · refine lv_iconst (v := 1) hx hb dX12_turned_47 (by decide) ?_
          refine lv_goto (tgt := 52) hx hb dX12_turned_48 (by decide) ?_
          exact W.iret (v := 1) hx hb hr (fun t ht hW => ⟨⟨1, M17, rfl, ⟨hI, hE, ⟨by omega, by omega, by omega, shr13, (rt_PS_4y ⟨hs0, sv5⟩ (by decide) phr13), mwM17, ooM17⟩⟩, by show fm_at D ad C nb _ t.heap; rw [ht]; exact hw⟩, hS.F ht⟩) hS.2.2 dX12_turned_52
      · exfalso; omega
    · have sv19 : ¬ T9 (s9).1 = 11 := fun z => chr4 ((rt_is hTK hms rt_cd_11).mpr z)
      refine fx_if_eq (tgt := 53) hx hb dX12_turned_16 (by decide) zk_0 (fun c20 => ?_) (fun c20 => by exfalso; omega)
      refine lv_aload_n hx hb dX12_turned_53 rfl (lv_at hl 0 rfl) ?_
      have d21_63 := hI.bd (k := 0) bd_60_63
      have d21_64 := hI.bd (k := 0) bd_60_64
      have d21_65 := hI.bd (k := 0) bd_60_65
      have d21_66 := hI.bd (k := 0) bd_60_66
      refine fm_ci (va_runV (As := []) (rest := []) ⟨hx, hb, hml, hown, hts⟩ (fc_X12_sum_3 l D ad C nb M hI kc S9 B9 T9 (s9) (by omega) (by omega) hTK hms hoo) (cwV 0 hts gX12_turned_X12_sum rfl rfl rfl (by decide +kernel) ⟨Nat.le_of_ble_eq_true rfl, Nat.le_of_ble_eq_true rfl⟩) (fm_preV hc hw hS kl_60 sh_60 rfl) rfl rfl hl.1 rfl (lv_room (Nat.le_of_ble_eq_true rfl)) dX12_turned_54 ⟨by decide +kernel, by decide +kernel⟩) hS hc (fun r22 M23 H locs hr22 hw hS => ?_)
      obtain ⟨hI, hEM23, hr22⟩ := hr22
      have hE := hE.tr hEM23 (by decide)
      have mM23_60_63 : (M23.1 60 0 63).toInt = (M.1 60 0 63).toInt := by rw [(hEM23 60 0 63 (by decide)).1]
      obtain ⟨ahr22, bhr22, dhr22, shr22, phr22, mhr22, ohr22⟩ := hr22
      refine lv_istore_n (lv' := [(1, .int r22), (0, .ref (ad 60 0))]) hx hb dX12_turned_57 rfl hl (by decide) rfl (fun ls hl => ?_)
      refine lv_aload_n hx hb dX12_turned_58 rfl (lv_at hl 1 rfl) ?_
      obtain ⟨q24, vq24, hQq24, hRq24⟩ := hc.2.2.2.2.1 (RX12, 387, "<", [60]) (by decide)
      refine va_ldcwS hx hb hown hRq24 dX12_turned_59 ?_
      have tk25 := rt_TMs hE (by decide) hTK
      refine fm_ci (va_runV (As := [.ref q24]) (rest := []) ⟨hx, hb, hml, hown, hts⟩ (fc_X12_take l D ad C nb M23 hI q24 vq24 1 (fun j => ([60] : List Int32).getD j 0) (by decide) kc S9 B9 T9 (shr22) 60 (by omega) tk25 mhr22 rt_cd_60) (cwV 1 hts gX12_turned_X12_take rfl rfl rfl (by decide +kernel) ⟨Nat.le_of_ble_eq_true rfl, Nat.le_of_ble_eq_true rfl⟩) (fm_preVS hc hw hS hQq24 kl_60 sh_60 rfl) rfl rfl hl.1 rfl (lv_room (Nat.le_of_ble_eq_true rfl)) dX12_turned_62 ⟨by decide +kernel, by decide +kernel⟩) hS hc (fun r26 M27 H locs hr26 hw hS => ?_)
      obtain ⟨hI, hEM27, hr26⟩ := hr26
      have hE := hE.tr hEM27 (by decide)
      have mM27_60_63 : (M27.1 60 0 63).toInt = (M23.1 60 0 63).toInt := by rw [(hEM27 60 0 63 (by decide)).1]
      have mM27_60_66 : (M27.1 60 0 66).toInt = (M23.1 60 0 66).toInt := by rw [(hEM27 60 0 66 (by decide)).1]
      rcases hr26 with ⟨rfl, ahr26, bhr26, dhr26, ehr26, mhr26⟩ | ⟨rfl, ahr26, bhr26, dhr26, mhr26⟩
      · have ooM27 : (rt_adv T9 (shr22)).2 < 0 → (M27.1 60 0 66).toInt = 3 := fun z => by have z9 := ohr22 z; omega
        refine fx_if_eq (tgt := 82) hx hb dX12_turned_65 (by decide) zk_1 (fun c28 => by exfalso; omega) (fun c28 => ?_)
        refine lv_iload_n hx hb dX12_turned_68 rfl (lv_at hl 0 rfl) ?_
        refine lv_aload_n hx hb dX12_turned_69 rfl (lv_at hl 1 rfl) ?_
        have tk29 := rt_TMs hE (by decide) hTK
        have d30_63 := hI.bd (k := 0) bd_60_63
        have d30_64 := hI.bd (k := 0) bd_60_64
        have d30_65 := hI.bd (k := 0) bd_60_65
        have d30_66 := hI.bd (k := 0) bd_60_66
        refine fm_ci (va_runV (As := []) (rest := [.int r22]) ⟨hx, hb, hml, hown, hts⟩ (fc_X12_sum_3 l D ad C nb M27 hI kc S9 B9 T9 (rt_adv T9 (shr22)) (by omega) (by omega) tk29 mhr26 ooM27) (cwV 0 hts gX12_turned_X12_sum rfl rfl rfl (by decide +kernel) ⟨Nat.le_of_ble_eq_true rfl, Nat.le_of_ble_eq_true rfl⟩) (fm_preV hc hw hS kl_60 sh_60 rfl) rfl rfl hl.1 rfl (lv_room (Nat.le_of_ble_eq_true rfl)) dX12_turned_70 ⟨by decide +kernel, by decide +kernel⟩) hS hc (fun r31 M32 H locs hr31 hw hS => ?_)
        obtain ⟨hI, hEM32, hr31⟩ := hr31
        have hE := hE.tr hEM32 (by decide)
        have mM32_60_63 : (M32.1 60 0 63).toInt = (M27.1 60 0 63).toInt := by rw [(hEM32 60 0 63 (by decide)).1]
        obtain ⟨ahr31, bhr31, dhr31, shr31, phr31, mhr31, ohr31⟩ := hr31
        refine fx_icmp_ge (tgt := 80) hx hb dX12_turned_73 (by decide) rfl rfl (fun c33 => ?_) (fun c33 => ?_)
        · refine lv_iconst (v := 0) hx hb dX12_turned_80 (by decide) ?_
          exact W.iret (v := 0) hx hb hr (fun t ht hW => ⟨⟨0, M32, rfl, ⟨hI, hE, ⟨by omega, by omega, by omega, shr31, (rt_PS_4n (fun z => sv19 z.2) (rt_PS_5 phr22 (rt_PS_11y ⟨dhr26, Or.inl ehr26⟩ phr31))), mhr31, ohr31⟩⟩, by show fm_at D ad C nb _ t.heap; rw [ht]; exact hw⟩, hS.F ht⟩) hS.2.2 dX12_turned_81
        · refine lv_iconst (v := 1) hx hb dX12_turned_76 (by decide) ?_
          refine lv_goto (tgt := 81) hx hb dX12_turned_77 (by decide) ?_
          exact W.iret (v := 1) hx hb hr (fun t ht hW => ⟨⟨1, M32, rfl, ⟨hI, hE, ⟨by omega, by omega, by omega, shr31, (rt_PS_4n (fun z => sv19 z.2) (rt_PS_5 phr22 (rt_PS_11y ⟨dhr26, Or.inl ehr26⟩ phr31))), mhr31, ohr31⟩⟩, by show fm_at D ad C nb _ t.heap; rw [ht]; exact hw⟩, hS.F ht⟩) hS.2.2 dX12_turned_81
      · have ooM27 : (shr22).2 < 0 → (M27.1 60 0 66).toInt = 3 := fun z => by have z9 := ohr22 z; omega
        refine fx_if_eq (tgt := 82) hx hb dX12_turned_65 (by decide) zk_0 (fun c34 => ?_) (fun c34 => by exfalso; omega)
        refine lv_aload_n hx hb dX12_turned_82 rfl (lv_at hl 1 rfl) ?_
        obtain ⟨q35, vq35, hQq35, hRq35⟩ := hc.2.2.2.2.1 (RX12, 389, "=", [61]) (by decide)
        refine va_ldcwS hx hb hown hRq35 dX12_turned_83 ?_
        have tk36 := rt_TMs hE (by decide) hTK
        refine fm_ci (va_runV (As := [.ref q35]) (rest := []) ⟨hx, hb, hml, hown, hts⟩ (fc_X12_take l D ad C nb M27 hI q35 vq35 1 (fun j => ([61] : List Int32).getD j 0) (by decide) kc S9 B9 T9 (shr22) 61 (by omega) tk36 mhr26 rt_cd_61) (cwV 1 hts gX12_turned_X12_take rfl rfl rfl (by decide +kernel) ⟨Nat.le_of_ble_eq_true rfl, Nat.le_of_ble_eq_true rfl⟩) (fm_preVS hc hw hS hQq35 kl_60 sh_60 rfl) rfl rfl hl.1 rfl (lv_room (Nat.le_of_ble_eq_true rfl)) dX12_turned_86 ⟨by decide +kernel, by decide +kernel⟩) hS hc (fun r37 M38 H locs hr37 hw hS => ?_)
        obtain ⟨hI, hEM38, hr37⟩ := hr37
        have hE := hE.tr hEM38 (by decide)
        have mM38_60_63 : (M38.1 60 0 63).toInt = (M27.1 60 0 63).toInt := by rw [(hEM38 60 0 63 (by decide)).1]
        have mM38_60_66 : (M38.1 60 0 66).toInt = (M27.1 60 0 66).toInt := by rw [(hEM38 60 0 66 (by decide)).1]
        rcases hr37 with ⟨rfl, ahr37, bhr37, dhr37, ehr37, mhr37⟩ | ⟨rfl, ahr37, bhr37, dhr37, mhr37⟩
        · have ooM38 : (rt_adv T9 (shr22)).2 < 0 → (M38.1 60 0 66).toInt = 3 := fun z => by have z9 := ooM27 z; omega
          refine fx_if_eq (tgt := 106) hx hb dX12_turned_89 (by decide) zk_1 (fun c39 => by exfalso; omega) (fun c39 => ?_)
          refine lv_iload_n hx hb dX12_turned_92 rfl (lv_at hl 0 rfl) ?_
          refine lv_aload_n hx hb dX12_turned_93 rfl (lv_at hl 1 rfl) ?_
          have tk40 := rt_TMs hE (by decide) hTK
          have d41_63 := hI.bd (k := 0) bd_60_63
          have d41_64 := hI.bd (k := 0) bd_60_64
          have d41_65 := hI.bd (k := 0) bd_60_65
          have d41_66 := hI.bd (k := 0) bd_60_66
          refine fm_ci (va_runV (As := []) (rest := [.int r22]) ⟨hx, hb, hml, hown, hts⟩ (fc_X12_sum_3 l D ad C nb M38 hI kc S9 B9 T9 (rt_adv T9 (shr22)) (by omega) (by omega) tk40 mhr37 ooM38) (cwV 0 hts gX12_turned_X12_sum rfl rfl rfl (by decide +kernel) ⟨Nat.le_of_ble_eq_true rfl, Nat.le_of_ble_eq_true rfl⟩) (fm_preV hc hw hS kl_60 sh_60 rfl) rfl rfl hl.1 rfl (lv_room (Nat.le_of_ble_eq_true rfl)) dX12_turned_94 ⟨by decide +kernel, by decide +kernel⟩) hS hc (fun r42 M43 H locs hr42 hw hS => ?_)
          obtain ⟨hI, hEM43, hr42⟩ := hr42
          have hE := hE.tr hEM43 (by decide)
          have mM43_60_63 : (M43.1 60 0 63).toInt = (M38.1 60 0 63).toInt := by rw [(hEM43 60 0 63 (by decide)).1]
          obtain ⟨ahr42, bhr42, dhr42, shr42, phr42, mhr42, ohr42⟩ := hr42
          refine fx_icmp_ne (tgt := 104) hx hb dX12_turned_97 (by decide) rfl rfl (fun c44 => ?_) (fun c44 => ?_)
          · refine lv_iconst (v := 0) hx hb dX12_turned_104 (by decide) ?_
            exact W.iret (v := 0) hx hb hr (fun t ht hW => ⟨⟨0, M43, rfl, ⟨hI, hE, ⟨by omega, by omega, by omega, shr42, (rt_PS_4n (fun z => sv19 z.2) (rt_PS_5 phr22 (rt_PS_11y ⟨dhr37, Or.inr ehr37⟩ phr42))), mhr42, ohr42⟩⟩, by show fm_at D ad C nb _ t.heap; rw [ht]; exact hw⟩, hS.F ht⟩) hS.2.2 dX12_turned_105
          · refine lv_iconst (v := 1) hx hb dX12_turned_100 (by decide) ?_
            refine lv_goto (tgt := 105) hx hb dX12_turned_101 (by decide) ?_
            exact W.iret (v := 1) hx hb hr (fun t ht hW => ⟨⟨1, M43, rfl, ⟨hI, hE, ⟨by omega, by omega, by omega, shr42, (rt_PS_4n (fun z => sv19 z.2) (rt_PS_5 phr22 (rt_PS_11y ⟨dhr37, Or.inr ehr37⟩ phr42))), mhr42, ohr42⟩⟩, by show fm_at D ad C nb _ t.heap; rw [ht]; exact hw⟩, hS.F ht⟩) hS.2.2 dX12_turned_105
        · have ooM38 : (shr22).2 < 0 → (M38.1 60 0 66).toInt = 3 := fun z => by have z9 := ooM27 z; omega
          refine fx_if_eq (tgt := 106) hx hb dX12_turned_89 (by decide) zk_0 (fun c45 => ?_) (fun c45 => by exfalso; omega)
          refine lv_iload_n hx hb dX12_turned_106 rfl (lv_at hl 0 rfl) ?_
          exact W.iret (v := r22) hx hb hr (fun t ht hW => ⟨⟨r22, M38, rfl, ⟨hI, hE, ⟨by omega, by omega, by omega, shr22, (rt_PS_4n (fun z => sv19 z.2) (rt_PS_5 phr22 (rt_PS_11n (by have za := dhr26; have zb := dhr37; omega)))), mhr37, ooM38⟩⟩, by show fm_at D ad C nb _ t.heap; rw [ht]; exact hw⟩, hS.F ht⟩) hS.2.2 dX12_turned_107
  · refine lv_iconst (v := 0) hx hb dX12_turned_7 (by decide) ?_
    exact W.iret (v := 0) hx hb hr (fun t ht hW => ⟨⟨0, M, rfl, ⟨hI, hE, ⟨by omega, by omega, by omega, s9, (rt_PS_id (by rw [← hms.2.2.2, ← ex1]; omega) (by decide)), hms, hoo⟩⟩, by show fm_at D ad C nb _ t.heap; rw [ht]; exact hw⟩, hS.F ht⟩) hS.2.2 dX12_turned_8
set_option maxHeartbeats 400000 in
set_option maxRecDepth 20000 in
theorem fc_X12_both_3 (l : Launch) (D : va_G) (ad : Nat → Nat → Nat) (C : Nat → Nat → ClassId) (nb : Nat) (M : fm_M) (hI : fm_I nb ad M) (kc : Nat) (S9 B9 T9 : Nat → Int) (s9 : Nat × Int) (hft : (M.1 60 0 64).toInt ≤ (M.1 60 0 65).toInt) (hop : 3 ≤ (M.1 60 0 66).toInt) (hTK : rt_TM M kc S9 B9 T9) (hms : rt_ms kc S9 B9 M s9) (hoo : s9.2 < 0 → (M.1 60 0 66).toInt = 3) : Met l yX12_both wsX12_both ({ frames := 21, cells := 0, slots := 0, locals := 454 }) (va_Pc [.ref (ad 60 0)] (fm_P D ad C nb M)) (va_Qi (fun (r : Int32) (u : fm_M) => fm_I nb ad u ∧ fm_same [60064, 60065, 60066, 60067] M u ∧ ((M.1 60 0 64).toInt ≤ (u.1 60 0 64).toInt ∧ (M.1 60 0 66).toInt ≤ (u.1 60 0 66).toInt ∧ (u.1 60 0 64).toInt ≤ (u.1 60 0 65).toInt ∧ ∃ s8 : Nat × Int, rt_PS T9 S9 2 3 s9 s8 ∧ rt_ms kc S9 B9 u s8 ∧ (s8.2 < 0 → (u.1 60 0 66).toInt = 3))) (fun u t => fm_at D ad C nb u t.heap) (fm_A nb ad)) 0 0 (fm_A nb ad) := by
  refine Met.ofW (cc := cX12_both) (maxL := 3) (ret := (some .int)) (by decide) rfl ?_
  intro p e s m args below meth c s₁ B hml hv
  obtain ⟨rfl, hw, hc⟩ := hv
  have hx := B.exec
  have hb := B.bytes
  have hr := B.returns
  have hts := atoms_spec (ws := wsX12_both) B.pre
  have hown : s.vm.findClass RX12 = some m.cls := findClass_of_methodNamed B.named
  have hS : va_S (fm_A nb ad) s.heap s.heap [] := va_S.rf
  have hE : fm_same [60064, 60065, 60066, 60067] M M := fm_same.rf
  have hl := lv_entry ([.ref (ad 60 0)]) (n := 3) (Nat.le_of_ble_eq_true rfl)
  rw [lg_entry_eq]
  generalize (lg_sl ([.ref (ad 60 0)]) ++ List.replicate (3 - (lg_sl ([.ref (ad 60 0)])).length) Slot.unset).toArray = ls at hl ⊢
  have hl : lv_has ls 3 [(0, .ref (ad 60 0))] := hl
  refine lv_aload_n hx hb dX12_both_0 rfl (lv_at hl 0 rfl) ?_
  have d1_63 := hI.bd (k := 0) bd_60_63
  have d1_64 := hI.bd (k := 0) bd_60_64
  have d1_65 := hI.bd (k := 0) bd_60_65
  have d1_66 := hI.bd (k := 0) bd_60_66
  refine fm_ci (va_runV (As := []) (rest := []) ⟨hx, hb, hml, hown, hts⟩ (fc_X12_turned_3 l D ad C nb M hI kc S9 B9 T9 (s9) (by omega) (by omega) hTK hms hoo) (cwV 0 hts gX12_both_X12_turned rfl rfl rfl (by decide +kernel) ⟨Nat.le_of_ble_eq_true rfl, Nat.le_of_ble_eq_true rfl⟩) (fm_preV hc hw hS kl_60 sh_60 rfl) rfl rfl hl.1 rfl (lv_room (Nat.le_of_ble_eq_true rfl)) dX12_both_1 ⟨by decide +kernel, by decide +kernel⟩) hS hc (fun r2 M3 H locs hr2 hw hS => ?_)
  obtain ⟨hI, hEM3, hr2⟩ := hr2
  have hE := hE.tr hEM3 (by decide)
  have mM3_60_63 : (M3.1 60 0 63).toInt = (M.1 60 0 63).toInt := by rw [(hEM3 60 0 63 (by decide)).1]
  obtain ⟨ahr2, bhr2, dhr2, shr2, phr2, mhr2, ohr2⟩ := hr2
  refine lv_istore_n (lv' := [(1, .int r2), (0, .ref (ad 60 0))]) hx hb dX12_both_4 rfl hl (by decide) rfl (fun ls hl => ?_)
  have lp : ∀ (n_lp : Nat) (lp_1 : Int32) (M_lp : fm_M), (161 - (M_lp.1 60 0 64).toInt).toNat < n_lp → ((M.1 60 0 64).toInt ≤ (M_lp.1 60 0 64).toInt ∧ (M.1 60 0 66).toInt ≤ (M_lp.1 60 0 66).toInt ∧ (M_lp.1 60 0 64).toInt ≤ (M_lp.1 60 0 65).toInt) → (∃ s : Nat × Int, rt_ms kc S9 B9 M_lp s ∧ (s.2 < 0 → (M_lp.1 60 0 66).toInt = 3) ∧ ∀ r : Nat × Int, rt_PS T9 S9 3 3 s r → rt_PS T9 S9 2 3 s9 r) → fm_I nb ad M_lp → fm_same [60064, 60065, 60066, 60067] M M_lp → ∀ (H : Heap) (locs : List Loc), fm_at D ad C nb M_lp H → va_S (fm_A nb ad) s.heap H locs → ∀ (ls : Array Slot), lv_has ls 3 [(1, .int lp_1), (0, .ref (ad 60 0))] → W p l e (headSpec wsX12_both ({ frames := 21, cells := 0, slots := 0, locals := 454 })).room s m ([.ref (ad 60 0)] : List Value).toArray below meth c H locs 0 0 (MQ below (va_Qi (fun (r : Int32) (u : fm_M) => fm_I nb ad u ∧ fm_same [60064, 60065, 60066, 60067] M u ∧ ((M.1 60 0 64).toInt ≤ (u.1 60 0 64).toInt ∧ (M.1 60 0 66).toInt ≤ (u.1 60 0 66).toInt ∧ (u.1 60 0 64).toInt ≤ (u.1 60 0 65).toInt ∧ ∃ s8 : Nat × Int, rt_PS T9 S9 2 3 s9 s8 ∧ rt_ms kc S9 B9 u s8 ∧ (s8.2 < 0 → (u.1 60 0 66).toInt = 3))) (fun u t => fm_at D ad C nb u t.heap) (fm_A nb ad)) ([.ref (ad 60 0)] : List Value).toArray s 0 0 (fm_A nb ad)) (F0 m 5 ls []) := by
    intro n_lp
    induction n_lp with
    | zero => intro lp_1 M_lp hm_lp hv hq hI hE H locs hw hS ls hl; exact absurd hm_lp (Nat.not_lt_zero _)
    | succ n_lp ih_lp =>
      intro lp_1 M_lp hm_lp hv hq hI hE H locs hw hS ls hl
      obtain ⟨s7, ms7, oo7, hq7⟩ := hq
      refine lv_aload_n hx hb dX12_both_5 rfl (lv_at hl 1 rfl) ?_
      obtain ⟨q4, vq4, hQq4, hRq4⟩ := hc.2.2.2.2.1 (RX12, 370, "and", [97, 110, 100]) (by decide)
      refine va_ldcwS hx hb hown hRq4 dX12_both_6 ?_
      have tk5 := rt_TMs hE (by decide) hTK
      refine fm_ci (va_runV (As := [.ref q4]) (rest := []) ⟨hx, hb, hml, hown, hts⟩ (fc_X12_take l D ad C nb M_lp hI q4 vq4 3 (fun j => ([97, 110, 100] : List Int32).getD j 0) (by decide) kc S9 B9 T9 (s7) 10 (by omega) tk5 ms7 rt_cd_10) (cwV 1 hts gX12_both_X12_take rfl rfl rfl (by decide +kernel) ⟨Nat.le_of_ble_eq_true rfl, Nat.le_of_ble_eq_true rfl⟩) (fm_preVS hc hw hS hQq4 kl_60 sh_60 rfl) rfl rfl hl.1 rfl (lv_room (Nat.le_of_ble_eq_true rfl)) dX12_both_9 ⟨by decide +kernel, by decide +kernel⟩) hS hc (fun r6 M7 H locs hr6 hw hS => ?_)
      obtain ⟨hI, hEM7, hr6⟩ := hr6
      have hE := hE.tr hEM7 (by decide)
      have mM7_60_63 : (M7.1 60 0 63).toInt = (M_lp.1 60 0 63).toInt := by rw [(hEM7 60 0 63 (by decide)).1]
      have mM7_60_66 : (M7.1 60 0 66).toInt = (M_lp.1 60 0 66).toInt := by rw [(hEM7 60 0 66 (by decide)).1]
      rcases hr6 with ⟨rfl, ahr6, bhr6, dhr6, ehr6, mhr6⟩ | ⟨rfl, ahr6, bhr6, dhr6, mhr6⟩
      · have ooM7 : (rt_adv T9 (s7)).2 < 0 → (M7.1 60 0 66).toInt = 3 := fun z => by have z9 := oo7 z; omega
        refine fx_if_eq (tgt := 37) hx hb dX12_both_12 (by decide) zk_1 (fun c8 => by exfalso; omega) (fun c8 => ?_)
        refine lv_aload_n hx hb dX12_both_15 rfl (lv_at hl 1 rfl) ?_
        have tk9 := rt_TMs hE (by decide) hTK
        have d10_63 := hI.bd (k := 0) bd_60_63
        have d10_64 := hI.bd (k := 0) bd_60_64
        have d10_65 := hI.bd (k := 0) bd_60_65
        have d10_66 := hI.bd (k := 0) bd_60_66
        refine fm_ci (va_runV (As := []) (rest := []) ⟨hx, hb, hml, hown, hts⟩ (fc_X12_turned_3 l D ad C nb M7 hI kc S9 B9 T9 (rt_adv T9 (s7)) (by omega) (by omega) tk9 mhr6 ooM7) (cwV 0 hts gX12_both_X12_turned rfl rfl rfl (by decide +kernel) ⟨Nat.le_of_ble_eq_true rfl, Nat.le_of_ble_eq_true rfl⟩) (fm_preV hc hw hS kl_60 sh_60 rfl) rfl rfl hl.1 rfl (lv_room (Nat.le_of_ble_eq_true rfl)) dX12_both_16 ⟨by decide +kernel, by decide +kernel⟩) hS hc (fun r11 M12 H locs hr11 hw hS => ?_)
        obtain ⟨hI, hEM12, hr11⟩ := hr11
        have hE := hE.tr hEM12 (by decide)
        have mM12_60_63 : (M12.1 60 0 63).toInt = (M7.1 60 0 63).toInt := by rw [(hEM12 60 0 63 (by decide)).1]
        obtain ⟨ahr11, bhr11, dhr11, shr11, phr11, mhr11, ohr11⟩ := hr11
        refine lv_istore_n (lv' := [(2, .int r11), (1, .int lp_1), (0, .ref (ad 60 0))]) hx hb dX12_both_19 rfl hl (by decide) rfl (fun ls hl => ?_)
        refine lv_iload_n hx hb dX12_both_20 rfl (lv_at hl 1 rfl) ?_
        refine fx_if_eq (tgt := 32) hx hb dX12_both_21 (by decide) rfl (fun c13 => ?_) (fun c13 => ?_)
        · refine lv_iconst (v := 0) hx hb dX12_both_32 (by decide) ?_
          refine lv_istore_n (lv' := [(1, .int 0), (2, .int r11), (0, .ref (ad 60 0))]) hx hb dX12_both_33 rfl hl (by decide) rfl (fun ls hl => ?_)
          refine lv_goto (tgt := 5) hx hb dX12_both_34 (by decide) ?_
          exact ih_lp 0 M12 (by omega) (by omega) ⟨shr11, mhr11, ohr11, fun r h => hq7 r (rt_PS_3y ⟨dhr6, ehr6⟩ phr11 h)⟩ hI hE _ _ hw hS ls (lv_sub hl [0, 2] rfl)
        · refine lv_iload_n hx hb dX12_both_24 rfl (lv_at hl 0 rfl) ?_
          refine fx_if_eq (tgt := 32) hx hb dX12_both_25 (by decide) rfl (fun c14 => ?_) (fun c14 => ?_)
          · refine lv_iconst (v := 0) hx hb dX12_both_32 (by decide) ?_
            refine lv_istore_n (lv' := [(1, .int 0), (2, .int r11), (0, .ref (ad 60 0))]) hx hb dX12_both_33 rfl hl (by decide) rfl (fun ls hl => ?_)
            refine lv_goto (tgt := 5) hx hb dX12_both_34 (by decide) ?_
            exact ih_lp 0 M12 (by omega) (by omega) ⟨shr11, mhr11, ohr11, fun r h => hq7 r (rt_PS_3y ⟨dhr6, ehr6⟩ phr11 h)⟩ hI hE _ _ hw hS ls (lv_sub hl [0, 2] rfl)
          · refine lv_iconst (v := 1) hx hb dX12_both_28 (by decide) ?_
            refine lv_goto (tgt := 33) hx hb dX12_both_29 (by decide) ?_
            refine lv_istore_n (lv' := [(1, .int 1), (2, .int r11), (0, .ref (ad 60 0))]) hx hb dX12_both_33 rfl hl (by decide) rfl (fun ls hl => ?_)
            refine lv_goto (tgt := 5) hx hb dX12_both_34 (by decide) ?_
            exact ih_lp 1 M12 (by omega) (by omega) ⟨shr11, mhr11, ohr11, fun r h => hq7 r (rt_PS_3y ⟨dhr6, ehr6⟩ phr11 h)⟩ hI hE _ _ hw hS ls (lv_sub hl [0, 2] rfl)
      · have ooM7 : (s7).2 < 0 → (M7.1 60 0 66).toInt = 3 := fun z => by have z9 := oo7 z; omega
        refine fx_if_eq (tgt := 37) hx hb dX12_both_12 (by decide) zk_0 (fun c15 => ?_) (fun c15 => by exfalso; omega)
        refine lv_iload_n hx hb dX12_both_37 rfl (lv_at hl 0 rfl) ?_
        exact W.iret (v := lp_1) hx hb hr (fun t ht hW => ⟨⟨lp_1, M7, rfl, ⟨hI, hE, ⟨by omega, by omega, by omega, s7, (hq7 _ (rt_PS_3n dhr6)), mhr6, ooM7⟩⟩, by show fm_at D ad C nb _ t.heap; rw [ht]; exact hw⟩, hS.F ht⟩) hS.2.2 dX12_both_38
  exact lp _ r2 M3 (Nat.lt_succ_self _) (by omega) ⟨shr2, mhr2, ohr2, fun r h => rt_PS_2 phr2 h⟩ hI hE _ _ hw hS ls (lv_sub hl [0, 1] rfl)
set_option maxHeartbeats 400000 in
set_option maxRecDepth 20000 in
theorem fc_X12_either_3 (l : Launch) (D : va_G) (ad : Nat → Nat → Nat) (C : Nat → Nat → ClassId) (nb : Nat) (M : fm_M) (hI : fm_I nb ad M) (kc : Nat) (S9 B9 T9 : Nat → Int) (s9 : Nat × Int) (hft : (M.1 60 0 64).toInt ≤ (M.1 60 0 65).toInt) (hop : 3 ≤ (M.1 60 0 66).toInt) (hTK : rt_TM M kc S9 B9 T9) (hms : rt_ms kc S9 B9 M s9) (hoo : s9.2 < 0 → (M.1 60 0 66).toInt = 3) : Met l yX12_either wsX12_either ({ frames := 22, cells := 0, slots := 0, locals := 476 }) (va_Pc [.ref (ad 60 0)] (fm_P D ad C nb M)) (va_Qi (fun (r : Int32) (u : fm_M) => fm_I nb ad u ∧ fm_same [60064, 60065, 60066, 60067] M u ∧ ((M.1 60 0 64).toInt ≤ (u.1 60 0 64).toInt ∧ (M.1 60 0 66).toInt ≤ (u.1 60 0 66).toInt ∧ (u.1 60 0 64).toInt ≤ (u.1 60 0 65).toInt ∧ ∃ s8 : Nat × Int, rt_PS T9 S9 0 3 s9 s8 ∧ rt_ms kc S9 B9 u s8 ∧ (s8.2 < 0 → (u.1 60 0 66).toInt = 3))) (fun u t => fm_at D ad C nb u t.heap) (fm_A nb ad)) 0 0 (fm_A nb ad) := by
  refine Met.ofW (cc := cX12_either) (maxL := 3) (ret := (some .int)) (by decide) rfl ?_
  intro p e s m args below meth c s₁ B hml hv
  obtain ⟨rfl, hw, hc⟩ := hv
  have hx := B.exec
  have hb := B.bytes
  have hr := B.returns
  have hts := atoms_spec (ws := wsX12_either) B.pre
  have hown : s.vm.findClass RX12 = some m.cls := findClass_of_methodNamed B.named
  have hS : va_S (fm_A nb ad) s.heap s.heap [] := va_S.rf
  have hE : fm_same [60064, 60065, 60066, 60067] M M := fm_same.rf
  have hl := lv_entry ([.ref (ad 60 0)]) (n := 3) (Nat.le_of_ble_eq_true rfl)
  rw [lg_entry_eq]
  generalize (lg_sl ([.ref (ad 60 0)]) ++ List.replicate (3 - (lg_sl ([.ref (ad 60 0)])).length) Slot.unset).toArray = ls at hl ⊢
  have hl : lv_has ls 3 [(0, .ref (ad 60 0))] := hl
  refine lv_aload_n hx hb dX12_either_0 rfl (lv_at hl 0 rfl) ?_
  have d1_63 := hI.bd (k := 0) bd_60_63
  have d1_64 := hI.bd (k := 0) bd_60_64
  have d1_65 := hI.bd (k := 0) bd_60_65
  have d1_66 := hI.bd (k := 0) bd_60_66
  refine fm_ci (va_runV (As := []) (rest := []) ⟨hx, hb, hml, hown, hts⟩ (fc_X12_both_3 l D ad C nb M hI kc S9 B9 T9 (s9) (by omega) (by omega) hTK hms hoo) (cwV 0 hts gX12_either_X12_both rfl rfl rfl (by decide +kernel) ⟨Nat.le_of_ble_eq_true rfl, Nat.le_of_ble_eq_true rfl⟩) (fm_preV hc hw hS kl_60 sh_60 rfl) rfl rfl hl.1 rfl (lv_room (Nat.le_of_ble_eq_true rfl)) dX12_either_1 ⟨by decide +kernel, by decide +kernel⟩) hS hc (fun r2 M3 H locs hr2 hw hS => ?_)
  obtain ⟨hI, hEM3, hr2⟩ := hr2
  have hE := hE.tr hEM3 (by decide)
  have mM3_60_63 : (M3.1 60 0 63).toInt = (M.1 60 0 63).toInt := by rw [(hEM3 60 0 63 (by decide)).1]
  obtain ⟨ahr2, bhr2, dhr2, shr2, phr2, mhr2, ohr2⟩ := hr2
  refine lv_istore_n (lv' := [(1, .int r2), (0, .ref (ad 60 0))]) hx hb dX12_either_4 rfl hl (by decide) rfl (fun ls hl => ?_)
  have lp : ∀ (n_lp : Nat) (lp_1 : Int32) (M_lp : fm_M), (161 - (M_lp.1 60 0 64).toInt).toNat < n_lp → ((M.1 60 0 64).toInt ≤ (M_lp.1 60 0 64).toInt ∧ (M.1 60 0 66).toInt ≤ (M_lp.1 60 0 66).toInt ∧ (M_lp.1 60 0 64).toInt ≤ (M_lp.1 60 0 65).toInt) → (∃ s : Nat × Int, rt_ms kc S9 B9 M_lp s ∧ (s.2 < 0 → (M_lp.1 60 0 66).toInt = 3) ∧ ∀ r : Nat × Int, rt_PS T9 S9 1 3 s r → rt_PS T9 S9 0 3 s9 r) → fm_I nb ad M_lp → fm_same [60064, 60065, 60066, 60067] M M_lp → ∀ (H : Heap) (locs : List Loc), fm_at D ad C nb M_lp H → va_S (fm_A nb ad) s.heap H locs → ∀ (ls : Array Slot), lv_has ls 3 [(1, .int lp_1), (0, .ref (ad 60 0))] → W p l e (headSpec wsX12_either ({ frames := 22, cells := 0, slots := 0, locals := 476 })).room s m ([.ref (ad 60 0)] : List Value).toArray below meth c H locs 0 0 (MQ below (va_Qi (fun (r : Int32) (u : fm_M) => fm_I nb ad u ∧ fm_same [60064, 60065, 60066, 60067] M u ∧ ((M.1 60 0 64).toInt ≤ (u.1 60 0 64).toInt ∧ (M.1 60 0 66).toInt ≤ (u.1 60 0 66).toInt ∧ (u.1 60 0 64).toInt ≤ (u.1 60 0 65).toInt ∧ ∃ s8 : Nat × Int, rt_PS T9 S9 0 3 s9 s8 ∧ rt_ms kc S9 B9 u s8 ∧ (s8.2 < 0 → (u.1 60 0 66).toInt = 3))) (fun u t => fm_at D ad C nb u t.heap) (fm_A nb ad)) ([.ref (ad 60 0)] : List Value).toArray s 0 0 (fm_A nb ad)) (F0 m 5 ls []) := by
    intro n_lp
    induction n_lp with
    | zero => intro lp_1 M_lp hm_lp hv hq hI hE H locs hw hS ls hl; exact absurd hm_lp (Nat.not_lt_zero _)
    | succ n_lp ih_lp =>
      intro lp_1 M_lp hm_lp hv hq hI hE H locs hw hS ls hl
      obtain ⟨s7, ms7, oo7, hq7⟩ := hq
      refine lv_aload_n hx hb dX12_either_5 rfl (lv_at hl 1 rfl) ?_
      obtain ⟨q4, vq4, hQq4, hRq4⟩ := hc.2.2.2.2.1 (RX12, 362, "or", [111, 114]) (by decide)
      refine va_ldcwS hx hb hown hRq4 dX12_either_6 ?_
      have tk5 := rt_TMs hE (by decide) hTK
      refine fm_ci (va_runV (As := [.ref q4]) (rest := []) ⟨hx, hb, hml, hown, hts⟩ (fc_X12_take l D ad C nb M_lp hI q4 vq4 2 (fun j => ([111, 114] : List Int32).getD j 0) (by decide) kc S9 B9 T9 (s7) 9 (by omega) tk5 ms7 rt_cd_9) (cwV 1 hts gX12_either_X12_take rfl rfl rfl (by decide +kernel) ⟨Nat.le_of_ble_eq_true rfl, Nat.le_of_ble_eq_true rfl⟩) (fm_preVS hc hw hS hQq4 kl_60 sh_60 rfl) rfl rfl hl.1 rfl (lv_room (Nat.le_of_ble_eq_true rfl)) dX12_either_9 ⟨by decide +kernel, by decide +kernel⟩) hS hc (fun r6 M7 H locs hr6 hw hS => ?_)
      obtain ⟨hI, hEM7, hr6⟩ := hr6
      have hE := hE.tr hEM7 (by decide)
      have mM7_60_63 : (M7.1 60 0 63).toInt = (M_lp.1 60 0 63).toInt := by rw [(hEM7 60 0 63 (by decide)).1]
      have mM7_60_66 : (M7.1 60 0 66).toInt = (M_lp.1 60 0 66).toInt := by rw [(hEM7 60 0 66 (by decide)).1]
      rcases hr6 with ⟨rfl, ahr6, bhr6, dhr6, ehr6, mhr6⟩ | ⟨rfl, ahr6, bhr6, dhr6, mhr6⟩
      · have ooM7 : (rt_adv T9 (s7)).2 < 0 → (M7.1 60 0 66).toInt = 3 := fun z => by have z9 := oo7 z; omega
        refine fx_if_eq (tgt := 37) hx hb dX12_either_12 (by decide) zk_1 (fun c8 => by exfalso; omega) (fun c8 => ?_)
        refine lv_aload_n hx hb dX12_either_15 rfl (lv_at hl 1 rfl) ?_
        have tk9 := rt_TMs hE (by decide) hTK
        have d10_63 := hI.bd (k := 0) bd_60_63
        have d10_64 := hI.bd (k := 0) bd_60_64
        have d10_65 := hI.bd (k := 0) bd_60_65
        have d10_66 := hI.bd (k := 0) bd_60_66
        refine fm_ci (va_runV (As := []) (rest := []) ⟨hx, hb, hml, hown, hts⟩ (fc_X12_both_3 l D ad C nb M7 hI kc S9 B9 T9 (rt_adv T9 (s7)) (by omega) (by omega) tk9 mhr6 ooM7) (cwV 0 hts gX12_either_X12_both rfl rfl rfl (by decide +kernel) ⟨Nat.le_of_ble_eq_true rfl, Nat.le_of_ble_eq_true rfl⟩) (fm_preV hc hw hS kl_60 sh_60 rfl) rfl rfl hl.1 rfl (lv_room (Nat.le_of_ble_eq_true rfl)) dX12_either_16 ⟨by decide +kernel, by decide +kernel⟩) hS hc (fun r11 M12 H locs hr11 hw hS => ?_)
        obtain ⟨hI, hEM12, hr11⟩ := hr11
        have hE := hE.tr hEM12 (by decide)
        have mM12_60_63 : (M12.1 60 0 63).toInt = (M7.1 60 0 63).toInt := by rw [(hEM12 60 0 63 (by decide)).1]
        obtain ⟨ahr11, bhr11, dhr11, shr11, phr11, mhr11, ohr11⟩ := hr11
        refine lv_istore_n (lv' := [(2, .int r11), (1, .int lp_1), (0, .ref (ad 60 0))]) hx hb dX12_either_19 rfl hl (by decide) rfl (fun ls hl => ?_)
        refine lv_iload_n hx hb dX12_either_20 rfl (lv_at hl 1 rfl) ?_
        refine fx_if_ne (tgt := 28) hx hb dX12_either_21 (by decide) rfl (fun c13 => ?_) (fun c13 => ?_)
        · refine lv_iconst (v := 1) hx hb dX12_either_28 (by decide) ?_
          refine lv_goto (tgt := 33) hx hb dX12_either_29 (by decide) ?_
          refine lv_istore_n (lv' := [(1, .int 1), (2, .int r11), (0, .ref (ad 60 0))]) hx hb dX12_either_33 rfl hl (by decide) rfl (fun ls hl => ?_)
          refine lv_goto (tgt := 5) hx hb dX12_either_34 (by decide) ?_
          exact ih_lp 1 M12 (by omega) (by omega) ⟨shr11, mhr11, ohr11, fun r h => hq7 r (rt_PS_1y ⟨dhr6, ehr6⟩ phr11 h)⟩ hI hE _ _ hw hS ls (lv_sub hl [0, 2] rfl)
        · refine lv_iload_n hx hb dX12_either_24 rfl (lv_at hl 0 rfl) ?_
          refine fx_if_eq (tgt := 32) hx hb dX12_either_25 (by decide) rfl (fun c14 => ?_) (fun c14 => ?_)
          · refine lv_iconst (v := 0) hx hb dX12_either_32 (by decide) ?_
            refine lv_istore_n (lv' := [(1, .int 0), (2, .int r11), (0, .ref (ad 60 0))]) hx hb dX12_either_33 rfl hl (by decide) rfl (fun ls hl => ?_)
            refine lv_goto (tgt := 5) hx hb dX12_either_34 (by decide) ?_
            exact ih_lp 0 M12 (by omega) (by omega) ⟨shr11, mhr11, ohr11, fun r h => hq7 r (rt_PS_1y ⟨dhr6, ehr6⟩ phr11 h)⟩ hI hE _ _ hw hS ls (lv_sub hl [0, 2] rfl)
          · refine lv_iconst (v := 1) hx hb dX12_either_28 (by decide) ?_
            refine lv_goto (tgt := 33) hx hb dX12_either_29 (by decide) ?_
            refine lv_istore_n (lv' := [(1, .int 1), (2, .int r11), (0, .ref (ad 60 0))]) hx hb dX12_either_33 rfl hl (by decide) rfl (fun ls hl => ?_)
            refine lv_goto (tgt := 5) hx hb dX12_either_34 (by decide) ?_
            exact ih_lp 1 M12 (by omega) (by omega) ⟨shr11, mhr11, ohr11, fun r h => hq7 r (rt_PS_1y ⟨dhr6, ehr6⟩ phr11 h)⟩ hI hE _ _ hw hS ls (lv_sub hl [0, 2] rfl)
      · have ooM7 : (s7).2 < 0 → (M7.1 60 0 66).toInt = 3 := fun z => by have z9 := oo7 z; omega
        refine fx_if_eq (tgt := 37) hx hb dX12_either_12 (by decide) zk_0 (fun c15 => ?_) (fun c15 => by exfalso; omega)
        refine lv_iload_n hx hb dX12_either_37 rfl (lv_at hl 0 rfl) ?_
        exact W.iret (v := lp_1) hx hb hr (fun t ht hW => ⟨⟨lp_1, M7, rfl, ⟨hI, hE, ⟨by omega, by omega, by omega, s7, (hq7 _ (rt_PS_1n dhr6)), mhr6, ooM7⟩⟩, by show fm_at D ad C nb _ t.heap; rw [ht]; exact hw⟩, hS.F ht⟩) hS.2.2 dX12_either_38
  exact lp _ r2 M3 (Nat.lt_succ_self _) (by omega) ⟨shr2, mhr2, ohr2, fun r h => rt_PS_0 phr2 h⟩ hI hE _ _ hw hS ls (lv_sub hl [0, 1] rfl)
set_option maxHeartbeats 400000 in
set_option maxRecDepth 20000 in
theorem fc_X12_one_2 (l : Launch) (D : va_G) (ad : Nat → Nat → Nat) (C : Nat → Nat → ClassId) (nb : Nat) (M : fm_M) (hI : fm_I nb ad M) (kc : Nat) (S9 B9 T9 : Nat → Int) (s9 : Nat × Int) (hft : (M.1 60 0 64).toInt ≤ (M.1 60 0 65).toInt) (hop : 2 ≤ (M.1 60 0 66).toInt) (hTK : rt_TM M kc S9 B9 T9) (hms : rt_ms kc S9 B9 M s9) (hoo : s9.2 < 0 → (M.1 60 0 66).toInt = 2) : Met l yX12_one wsX12_one ({ frames := 23, cells := 0, slots := 0, locals := 498 }) (va_Pc [.ref (ad 60 0)] (fm_P D ad C nb M)) (va_Qi (fun (r : Int32) (u : fm_M) => fm_I nb ad u ∧ fm_same [60064, 60065, 60066, 60067] M u ∧ ((M.1 60 0 64).toInt ≤ (u.1 60 0 64).toInt ∧ (M.1 60 0 66).toInt ≤ (u.1 60 0 66).toInt ∧ (u.1 60 0 64).toInt ≤ (u.1 60 0 65).toInt ∧ ∃ s8 : Nat × Int, rt_PS T9 S9 10 2 s9 s8 ∧ rt_ms kc S9 B9 u s8 ∧ (s8.2 < 0 → (u.1 60 0 66).toInt = 2))) (fun u t => fm_at D ad C nb u t.heap) (fm_A nb ad)) 0 0 (fm_A nb ad) := by
  refine Met.ofW (cc := cX12_one) (maxL := 3) (ret := (some .int)) (by decide) rfl ?_
  intro p e s m args below meth c s₁ B hml hv
  obtain ⟨rfl, hw, hc⟩ := hv
  have hx := B.exec
  have hb := B.bytes
  have hr := B.returns
  have hts := atoms_spec (ws := wsX12_one) B.pre
  have hown : s.vm.findClass RX12 = some m.cls := findClass_of_methodNamed B.named
  have hinX12 : ∀ w ∈ u_ws RX12 TX12 79, w ∈ wsX12_one := fun w h => List.mem_cons_of_mem _ (iT_X12 w h)
  have hS : va_S (fm_A nb ad) s.heap s.heap [] := va_S.rf
  have hE : fm_same [60064, 60065, 60066, 60067] M M := fm_same.rf
  have hl := lv_entry ([.ref (ad 60 0)]) (n := 3) (Nat.le_of_ble_eq_true rfl)
  rw [lg_entry_eq]
  generalize (lg_sl ([.ref (ad 60 0)]) ++ List.replicate (3 - (lg_sl ([.ref (ad 60 0)])).length) Slot.unset).toArray = ls at hl ⊢
  have hl : lv_has ls 3 [(0, .ref (ad 60 0))] := hl
  refine lv_aload_n hx hb dX12_one_0 rfl (lv_at hl 0 rfl) ?_
  refine fm_getI (a := 60) (j := 67) (T := TX12) (N := 79) hx hb hts hinX12 hown hc hw hI kl_60 sh_60 rfl (by decide) rfl bd_60_67 (hts (.fieldLink RX12 349 "RedTentModel" "fault" "I") (List.mem_cons_of_mem _ tw_5_187)) (fun _ h9 => h9) dX12_one_1 (fun x1 ex1 bx1 => ?_)
  refine fx_if_lt (tgt := 9) hx hb dX12_one_4 (by decide) rfl (fun c2 => ?_) (fun c2 => ?_)
  · have gh : s9.2 = x1.toInt := by rw [ex1]; exact hms.2.2.2.symm
    have hs0 : s9.2 < 0 := by omega
    have ho0 := hoo hs0
    refine lv_aload_n hx hb dX12_one_9 rfl (lv_at hl 0 rfl) ?_
    obtain ⟨q3, vq3, hQq3, hRq3⟩ := hc.2.2.2.2.1 (RX12, 396, "-", [45]) (by decide)
    refine va_ldcwS hx hb hown hRq3 dX12_one_10 ?_
    refine vp_callSi (va_Run.run (va_runV (As := [.ref q3]) (rest := []) ⟨hx, hb, hml, hown, hts⟩ (fc_X12_is l D ad C nb M hI q3 vq3 1 (fun j => ([45] : List Int32).getD j 0) (by decide) (rt_mto hTK hms) rt_cd_45.2.1) (cwV 1 hts gX12_one_X12_is rfl rfl rfl (by decide +kernel) ⟨Nat.le_of_ble_eq_true rfl, Nat.le_of_ble_eq_true rfl⟩) (fm_preVS hc hw hS hQq3 kl_60 sh_60 rfl) rfl rfl hl.1 rfl (lv_room (Nat.le_of_ble_eq_true rfl)) dX12_one_13 ⟨by decide +kernel, by decide +kernel⟩)) (fun r4 hr4 => ?_)
    rcases hr4 with ⟨rfl, chr4⟩ | ⟨rfl, chr4⟩
    · have sv5 := (rt_is hTK hms rt_cd_45).mp chr4
      refine fx_if_eq (tgt := 46) hx hb dX12_one_16 (by decide) zk_1 (fun c6 => by exfalso; omega) (fun c6 => ?_)
      refine lv_aload_n hx hb dX12_one_19 rfl (lv_at hl 0 rfl) ?_
      have hJ7 := hI
      refine fm_ci (va_runV (As := []) (rest := []) ⟨hx, hb, hml, hown, hts⟩ (fc_X12_opens l D ad C nb M hI kc S9 B9 T9 (s9) hTK hms) (cwV 0 hts gX12_one_X12_opens rfl rfl rfl (by decide +kernel) ⟨Nat.le_of_ble_eq_true rfl, Nat.le_of_ble_eq_true rfl⟩) (fm_preV hc hw hS kl_60 sh_60 rfl) rfl rfl hl.1 rfl (lv_room (Nat.le_of_ble_eq_true rfl)) dX12_one_20 ⟨by decide +kernel, by decide +kernel⟩) hS hc (fun r8 M9 H locs hr8 hw hS => ?_)
      obtain ⟨hI, hEM9, hr8⟩ := hr8
      have hE := hE.tr hEM9 (by decide)
      have mM9_60_63 : (M9.1 60 0 63).toInt = (M.1 60 0 63).toInt := by rw [(hEM9 60 0 63 (by decide)).1]
      rcases hr8 with ⟨rfl, ahr8, bhr8, dhr8, mhr8⟩ | ⟨rfl, zhr8, ahr8, bhr8, dhr8, mhr8⟩
      · have ooM9 : (rt_adv T9 (s9)).2 < 0 → (M9.1 60 0 66).toInt = 3 := fun z => by have z9 := hoo z; omega
        refine fx_if_ne (tgt := 28) hx hb dX12_one_23 (by decide) zk_1 (fun c10 => ?_) (fun c10 => by exfalso; omega)
        refine lv_aload_n hx hb dX12_one_28 rfl (lv_at hl 0 rfl) ?_
        have tk11 := rt_TMs hE (by decide) hTK
        have d12_63 := hI.bd (k := 0) bd_60_63
        have d12_64 := hI.bd (k := 0) bd_60_64
        have d12_65 := hI.bd (k := 0) bd_60_65
        have d12_66 := hI.bd (k := 0) bd_60_66
        refine fm_ci (va_runV (As := []) (rest := []) ⟨hx, hb, hml, hown, hts⟩ (fc_X12_one_3 l D ad C nb M9 hI kc S9 B9 T9 (rt_adv T9 (s9)) (by omega) (by omega) tk11 mhr8 ooM9) (cwV 0 hts gX12_one_X12_one rfl rfl rfl (by decide +kernel) ⟨Nat.le_of_ble_eq_true rfl, Nat.le_of_ble_eq_true rfl⟩) (fm_preV hc hw hS kl_60 sh_60 rfl) rfl rfl hl.1 rfl (lv_room (Nat.le_of_ble_eq_true rfl)) dX12_one_29 ⟨by decide +kernel, by decide +kernel⟩) hS hc (fun r13 M14 H locs hr13 hw hS => ?_)
        obtain ⟨hI, hEM14, hr13⟩ := hr13
        have hE := hE.tr hEM14 (by decide)
        have mM14_60_63 : (M14.1 60 0 63).toInt = (M9.1 60 0 63).toInt := by rw [(hEM14 60 0 63 (by decide)).1]
        obtain ⟨ahr13, bhr13, dhr13, shr13, phr13, mhr13, ohr13⟩ := hr13
        refine lv_istore_n (lv' := [(1, .int r13), (0, .ref (ad 60 0))]) hx hb dX12_one_32 rfl hl (by decide) rfl (fun ls hl => ?_)
        refine lv_aload_n hx hb dX12_one_33 rfl (lv_at hl 1 rfl) ?_
        refine lv_dup hx hb dX12_one_34 rfl ?_
        refine fm_getI (a := 60) (j := 66) (T := TX12) (N := 79) hx hb hts hinX12 hown hc hw hI kl_60 sh_60 rfl (by decide) rfl bd_60_66 (hts (.fieldLink RX12 372 "RedTentModel" "open" "I") (List.mem_cons_of_mem _ tw_5_186)) (fun _ h9 => h9) dX12_one_35 (fun x15 ex15 bx15 => ?_)
        have wx15 : x15.toInt = (M14.1 60 0 66).toInt := by rw [ex15]
        refine lv_iconst (v := 1) hx hb dX12_one_38 (by decide) ?_
        refine fx_isub hx hb dX12_one_39 rfl zk_1 (by omega) (fun y16 ey16 ty16 => ?_)
        refine fm_putI (a := 60) (j := 66) (T := TX12) (N := 79) hx hb hts hinX12 tyX12 tyX12_ok nmX12 hown hc hw hI hE hS kl_60 sh_60 od_60 rfl (by decide) rfl bd_60_66 (hts (.fieldLink RX12 372 "RedTentModel" "open" "I") (List.mem_cons_of_mem _ tw_5_186)) (fun _ h9 => h9) rfl (by decide +kernel) (by omega) (by decide) (by decide) dX12_one_40 (fun M17 H locs eM17 hw hI hE hS => ?_)
        have mM17_60_63 : (M17.1 60 0 63).toInt = (M14.1 60 0 63).toInt := by rw [eM17, fm_wI_nj (fun z => absurd z.2.2 (by decide))]
        have mM17_60_64 : (M17.1 60 0 64).toInt = (M14.1 60 0 64).toInt := by rw [eM17, fm_wI_nj (fun z => absurd z.2.2 (by decide))]
        have mM17_60_65 : (M17.1 60 0 65).toInt = (M14.1 60 0 65).toInt := by rw [eM17, fm_wI_nj (fun z => absurd z.2.2 (by decide))]
        have mM17_60_66 : (M17.1 60 0 66).toInt = y16.toInt := by rw [eM17, fm_wI_at]
        have hEM17 : fm_same [60066] M14 M17 := by rw [eM17]; exact fm_same.rf.wI (by decide)
        have mwM17 := rt_ms_same hEM17 (by decide) mhr13
        have ooM17 : (shr13).2 < 0 → (M17.1 60 0 66).toInt = 2 := fun z => by have z9 := ohr13 z; omega
        refine lv_iload_n hx hb dX12_one_43 rfl (lv_at hl 0 rfl) ?_
        refine lv_ineg hx hb dX12_one_44 ?_
        refine lv_topi (fun y18 ey18 => ?_)
        exact W.iret (v := y18) hx hb hr (fun t ht hW => ⟨⟨y18, M17, rfl, ⟨hI, hE, ⟨by omega, by omega, by omega, shr13, (rt_PS_10m ⟨⟨hs0, sv5⟩, by decide⟩ phr13), mwM17, ooM17⟩⟩, by show fm_at D ad C nb _ t.heap; rw [ht]; exact hw⟩, hS.F ht⟩) hS.2.2 dX12_one_45
      · exfalso; omega
    · have sv19 : ¬ T9 (s9).1 = 45 := fun z => chr4 ((rt_is hTK hms rt_cd_45).mpr z)
      refine fx_if_eq (tgt := 46) hx hb dX12_one_16 (by decide) zk_0 (fun c20 => ?_) (fun c20 => by exfalso; omega)
      refine lv_aload_n hx hb dX12_one_46 rfl (lv_at hl 0 rfl) ?_
      obtain ⟨q21, vq21, hQq21, hRq21⟩ := hc.2.2.2.2.1 (RX12, 403, "(", [40]) (by decide)
      refine va_ldcwS hx hb hown hRq21 dX12_one_47 ?_
      refine vp_callSi (va_Run.run (va_runV (As := [.ref q21]) (rest := []) ⟨hx, hb, hml, hown, hts⟩ (fc_X12_is l D ad C nb M hI q21 vq21 1 (fun j => ([40] : List Int32).getD j 0) (by decide) (rt_mto hTK hms) rt_cd_40.2.1) (cwV 1 hts gX12_one_X12_is rfl rfl rfl (by decide +kernel) ⟨Nat.le_of_ble_eq_true rfl, Nat.le_of_ble_eq_true rfl⟩) (fm_preVS hc hw hS hQq21 kl_60 sh_60 rfl) rfl rfl hl.1 rfl (lv_room (Nat.le_of_ble_eq_true rfl)) dX12_one_50 ⟨by decide +kernel, by decide +kernel⟩)) (fun r22 hr22 => ?_)
      rcases hr22 with ⟨rfl, chr22⟩ | ⟨rfl, chr22⟩
      · have sv23 := (rt_is hTK hms rt_cd_40).mp chr22
        refine fx_if_eq (tgt := 97) hx hb dX12_one_53 (by decide) zk_1 (fun c24 => by exfalso; omega) (fun c24 => ?_)
        refine lv_aload_n hx hb dX12_one_56 rfl (lv_at hl 0 rfl) ?_
        have hJ25 := hI
        refine fm_ci (va_runV (As := []) (rest := []) ⟨hx, hb, hml, hown, hts⟩ (fc_X12_opens l D ad C nb M hI kc S9 B9 T9 (s9) hTK hms) (cwV 0 hts gX12_one_X12_opens rfl rfl rfl (by decide +kernel) ⟨Nat.le_of_ble_eq_true rfl, Nat.le_of_ble_eq_true rfl⟩) (fm_preV hc hw hS kl_60 sh_60 rfl) rfl rfl hl.1 rfl (lv_room (Nat.le_of_ble_eq_true rfl)) dX12_one_57 ⟨by decide +kernel, by decide +kernel⟩) hS hc (fun r26 M27 H locs hr26 hw hS => ?_)
        obtain ⟨hI, hEM27, hr26⟩ := hr26
        have hE := hE.tr hEM27 (by decide)
        have mM27_60_63 : (M27.1 60 0 63).toInt = (M.1 60 0 63).toInt := by rw [(hEM27 60 0 63 (by decide)).1]
        rcases hr26 with ⟨rfl, ahr26, bhr26, dhr26, mhr26⟩ | ⟨rfl, zhr26, ahr26, bhr26, dhr26, mhr26⟩
        · have ooM27 : (rt_adv T9 (s9)).2 < 0 → (M27.1 60 0 66).toInt = 3 := fun z => by have z9 := hoo z; omega
          refine fx_if_ne (tgt := 65) hx hb dX12_one_60 (by decide) zk_1 (fun c28 => ?_) (fun c28 => by exfalso; omega)
          refine lv_aload_n hx hb dX12_one_65 rfl (lv_at hl 0 rfl) ?_
          have tk29 := rt_TMs hE (by decide) hTK
          have d30_63 := hI.bd (k := 0) bd_60_63
          have d30_64 := hI.bd (k := 0) bd_60_64
          have d30_65 := hI.bd (k := 0) bd_60_65
          have d30_66 := hI.bd (k := 0) bd_60_66
          refine fm_ci (va_runV (As := []) (rest := []) ⟨hx, hb, hml, hown, hts⟩ (fc_X12_either_3 l D ad C nb M27 hI kc S9 B9 T9 (rt_adv T9 (s9)) (by omega) (by omega) tk29 mhr26 ooM27) (cwV 0 hts gX12_one_X12_either rfl rfl rfl (by decide +kernel) ⟨Nat.le_of_ble_eq_true rfl, Nat.le_of_ble_eq_true rfl⟩) (fm_preV hc hw hS kl_60 sh_60 rfl) rfl rfl hl.1 rfl (lv_room (Nat.le_of_ble_eq_true rfl)) dX12_one_66 ⟨by decide +kernel, by decide +kernel⟩) hS hc (fun r31 M32 H locs hr31 hw hS => ?_)
          obtain ⟨hI, hEM32, hr31⟩ := hr31
          have hE := hE.tr hEM32 (by decide)
          have mM32_60_63 : (M32.1 60 0 63).toInt = (M27.1 60 0 63).toInt := by rw [(hEM32 60 0 63 (by decide)).1]
          obtain ⟨ahr31, bhr31, dhr31, shr31, phr31, mhr31, ohr31⟩ := hr31
          refine lv_istore_n (lv' := [(1, .int r31), (0, .ref (ad 60 0))]) hx hb dX12_one_69 rfl hl (by decide) rfl (fun ls hl => ?_)
          refine lv_aload_n hx hb dX12_one_70 rfl (lv_at hl 1 rfl) ?_
          obtain ⟨q33, vq33, hQq33, hRq33⟩ := hc.2.2.2.2.1 (RX12, 408, ")", [41]) (by decide)
          refine va_ldcwS hx hb hown hRq33 dX12_one_71 ?_
          have tk34 := rt_TMs hE (by decide) hTK
          refine fm_ci (va_runV (As := [.ref q33]) (rest := []) ⟨hx, hb, hml, hown, hts⟩ (fc_X12_take l D ad C nb M32 hI q33 vq33 1 (fun j => ([41] : List Int32).getD j 0) (by decide) kc S9 B9 T9 (shr31) 41 (by omega) tk34 mhr31 rt_cd_41) (cwV 1 hts gX12_one_X12_take rfl rfl rfl (by decide +kernel) ⟨Nat.le_of_ble_eq_true rfl, Nat.le_of_ble_eq_true rfl⟩) (fm_preVS hc hw hS hQq33 kl_60 sh_60 rfl) rfl rfl hl.1 rfl (lv_room (Nat.le_of_ble_eq_true rfl)) dX12_one_74 ⟨by decide +kernel, by decide +kernel⟩) hS hc (fun r35 M36 H locs hr35 hw hS => ?_)
          obtain ⟨hI, hEM36, hr35⟩ := hr35
          have hE := hE.tr hEM36 (by decide)
          have mM36_60_63 : (M36.1 60 0 63).toInt = (M32.1 60 0 63).toInt := by rw [(hEM36 60 0 63 (by decide)).1]
          have mM36_60_66 : (M36.1 60 0 66).toInt = (M32.1 60 0 66).toInt := by rw [(hEM36 60 0 66 (by decide)).1]
          rcases hr35 with ⟨rfl, ahr35, bhr35, dhr35, ehr35, mhr35⟩ | ⟨rfl, ahr35, bhr35, dhr35, mhr35⟩
          · have ooM36 : (rt_adv T9 (shr31)).2 < 0 → (M36.1 60 0 66).toInt = 3 := fun z => by have z9 := ohr31 z; omega
            refine fx_if_ne (tgt := 85) hx hb dX12_one_77 (by decide) zk_1 (fun c37 => ?_) (fun c37 => by exfalso; omega)
            refine lv_aload_n hx hb dX12_one_85 rfl (lv_at hl 1 rfl) ?_
            refine lv_dup hx hb dX12_one_86 rfl ?_
            refine fm_getI (a := 60) (j := 66) (T := TX12) (N := 79) hx hb hts hinX12 hown hc hw hI kl_60 sh_60 rfl (by decide) rfl bd_60_66 (hts (.fieldLink RX12 372 "RedTentModel" "open" "I") (List.mem_cons_of_mem _ tw_5_186)) (fun _ h9 => h9) dX12_one_87 (fun x38 ex38 bx38 => ?_)
            have wx38 : x38.toInt = (M36.1 60 0 66).toInt := by rw [ex38]
            refine lv_iconst (v := 1) hx hb dX12_one_90 (by decide) ?_
            refine fx_isub hx hb dX12_one_91 rfl zk_1 (by omega) (fun y39 ey39 ty39 => ?_)
            refine fm_putI (a := 60) (j := 66) (T := TX12) (N := 79) hx hb hts hinX12 tyX12 tyX12_ok nmX12 hown hc hw hI hE hS kl_60 sh_60 od_60 rfl (by decide) rfl bd_60_66 (hts (.fieldLink RX12 372 "RedTentModel" "open" "I") (List.mem_cons_of_mem _ tw_5_186)) (fun _ h9 => h9) rfl (by decide +kernel) (by omega) (by decide) (by decide) dX12_one_92 (fun M40 H locs eM40 hw hI hE hS => ?_)
            have mM40_60_63 : (M40.1 60 0 63).toInt = (M36.1 60 0 63).toInt := by rw [eM40, fm_wI_nj (fun z => absurd z.2.2 (by decide))]
            have mM40_60_64 : (M40.1 60 0 64).toInt = (M36.1 60 0 64).toInt := by rw [eM40, fm_wI_nj (fun z => absurd z.2.2 (by decide))]
            have mM40_60_65 : (M40.1 60 0 65).toInt = (M36.1 60 0 65).toInt := by rw [eM40, fm_wI_nj (fun z => absurd z.2.2 (by decide))]
            have mM40_60_66 : (M40.1 60 0 66).toInt = y39.toInt := by rw [eM40, fm_wI_at]
            have hEM40 : fm_same [60066] M36 M40 := by rw [eM40]; exact fm_same.rf.wI (by decide)
            have mwM40 := rt_ms_same hEM40 (by decide) mhr35
            have ooM40 : (rt_adv T9 (shr31)).2 < 0 → (M40.1 60 0 66).toInt = 2 := fun z => by have z9 := ooM36 z; omega
            refine lv_iload_n hx hb dX12_one_95 rfl (lv_at hl 0 rfl) ?_
            exact W.iret (v := r31) hx hb hr (fun t ht hW => ⟨⟨r31, M40, rfl, ⟨hI, hE, ⟨by omega, by omega, by omega, rt_adv T9 (shr31), (by rw [← rt_need_y (S := S9) ⟨dhr35, ehr35⟩]; exact rt_PS_10b ⟨⟨hs0, sv23⟩, by decide⟩ phr31), mwM40, ooM40⟩⟩, by show fm_at D ad C nb _ t.heap; rw [ht]; exact hw⟩, hS.F ht⟩) hS.2.2 dX12_one_96
          · have ooM36 : (shr31).2 < 0 → (M36.1 60 0 66).toInt = 3 := fun z => by have z9 := ohr31 z; omega
            refine fx_if_ne (tgt := 85) hx hb dX12_one_77 (by decide) zk_0 (fun c41 => by exfalso; omega) (fun c41 => ?_)
            refine lv_aload_n hx hb dX12_one_80 rfl (lv_at hl 1 rfl) ?_
            have hJ42 := hI
            refine fm_ci (va_runV (As := []) (rest := []) ⟨hx, hb, hml, hown, hts⟩ (fc_X12_wrong l D ad C nb M36 hI kc S9 B9 (shr31) mhr35) (cwV 0 hts gX12_one_X12_wrong rfl rfl rfl (by decide +kernel) ⟨Nat.le_of_ble_eq_true rfl, Nat.le_of_ble_eq_true rfl⟩) (fm_preV hc hw hS kl_60 sh_60 rfl) rfl rfl hl.1 rfl (lv_room (Nat.le_of_ble_eq_true rfl)) dX12_one_81 ⟨by decide +kernel, by decide +kernel⟩) hS hc (fun r43 M44 H locs hr43 hw hS => ?_)
            obtain ⟨hI, hEM44, hr43⟩ := hr43
            have hE := hE.tr hEM44 (by decide)
            have mM44_60_63 : (M44.1 60 0 63).toInt = (M36.1 60 0 63).toInt := by rw [(hEM44 60 0 63 (by decide)).1]
            have mM44_60_64 : (M44.1 60 0 64).toInt = (M36.1 60 0 64).toInt := by rw [(hEM44 60 0 64 (by decide)).1]
            have mM44_60_65 : (M44.1 60 0 65).toInt = (M36.1 60 0 65).toInt := by rw [(hEM44 60 0 65 (by decide)).1]
            have mM44_60_66 : (M44.1 60 0 66).toInt = (M36.1 60 0 66).toInt := by rw [(hEM44 60 0 66 (by decide)).1]
            obtain ⟨bhr43, mhr43⟩ := hr43
            have ooM44 : (rt_fail S9 (shr31)).2 < 0 → (M44.1 60 0 66).toInt = 2 := rt_ms_f0 mhr35 (hJ42.bd (k := 0) bd_60_64).1
            exact W.iret (v := r43) hx hb hr (fun t ht hW => ⟨⟨r43, M44, rfl, ⟨hI, hE, ⟨by omega, by omega, by omega, rt_fail S9 (shr31), (by rw [← rt_need_n (S := S9) dhr35]; exact rt_PS_10b ⟨⟨hs0, sv23⟩, by decide⟩ phr31), mhr43, ooM44⟩⟩, by show fm_at D ad C nb _ t.heap; rw [ht]; exact hw⟩, hS.F ht⟩) hS.2.2 dX12_one_84
        · exfalso; omega
      · have sv45 : ¬ T9 (s9).1 = 40 := fun z => chr22 ((rt_is hTK hms rt_cd_40).mpr z)
        refine fx_if_eq (tgt := 97) hx hb dX12_one_53 (by decide) zk_0 (fun c46 => ?_) (fun c46 => by exfalso; omega)
        refine lv_aload_n hx hb dX12_one_97 rfl (lv_at hl 0 rfl) ?_
        refine lv_aload_n hx hb dX12_one_98 rfl (lv_at hl 0 rfl) ?_
        refine fm_getI (a := 60) (j := 64) (T := TX12) (N := 79) hx hb hts hinX12 hown hc hw hI kl_60 sh_60 rfl (by decide) rfl bd_60_64 (hts (.fieldLink RX12 340 "RedTentModel" "from" "I") (List.mem_cons_of_mem _ tw_5_184)) (fun _ h9 => h9) dX12_one_99 (fun x47 ex47 bx47 => ?_)
        have wx47 : x47.toInt = (M.1 60 0 64).toInt := by rw [ex47]
        refine vp_callSi (va_Run.run (va_runV (As := [.int x47]) (rest := []) ⟨hx, hb, hml, hown, hts⟩ (fc_X12_isDigit l D ad C nb M hI x47 (by omega)) (cwV 1 hts gX12_one_X12_isDigit rfl rfl rfl (by decide +kernel) ⟨Nat.le_of_ble_eq_true rfl, Nat.le_of_ble_eq_true rfl⟩) (fm_preV hc hw hS kl_60 sh_60 rfl) rfl rfl hl.1 rfl (lv_room (Nat.le_of_ble_eq_true rfl)) dX12_one_102 ⟨by decide +kernel, by decide +kernel⟩)) (fun r48 hr48 => ?_)
        have bqq49 := hI.bd (k := 0) bd_60_62
        have bqq50 := hI.bd (k := 0) bd_60_63
        rcases hr48 with ⟨rfl, c51⟩ | ⟨rfl, c51⟩
        · have g52 : x47.toInt = (M.1 60 0 64).toInt := by omega
          rw [g52] at c51
          have gd := rt_isd hTK hms c51
          refine fx_if_eq (tgt := 167) hx hb dX12_one_105 (by decide) zk_1 (fun c53 => by exfalso; omega) (fun c53 => ?_)
          refine lv_aload_n hx hb dX12_one_108 rfl (lv_at hl 0 rfl) ?_
          refine fm_getI (a := 60) (j := 65) (T := TX12) (N := 79) hx hb hts hinX12 hown hc hw hI kl_60 sh_60 rfl (by decide) rfl bd_60_65 (hts (.fieldLink RX12 337 "RedTentModel" "to" "I") (List.mem_cons_of_mem _ tw_5_185)) (fun _ h9 => h9) dX12_one_109 (fun x54 ex54 bx54 => ?_)
          have wx54 : x54.toInt = (M.1 60 0 65).toInt := by rw [ex54]
          refine lv_aload_n hx hb dX12_one_112 rfl (lv_at hl 0 rfl) ?_
          refine fm_getI (a := 60) (j := 64) (T := TX12) (N := 79) hx hb hts hinX12 hown hc hw hI kl_60 sh_60 rfl (by decide) rfl bd_60_64 (hts (.fieldLink RX12 340 "RedTentModel" "from" "I") (List.mem_cons_of_mem _ tw_5_184)) (fun _ h9 => h9) dX12_one_113 (fun x55 ex55 bx55 => ?_)
          have wx55 : x55.toInt = (M.1 60 0 64).toInt := by rw [ex55]
          obtain rfl : x47 = x55 := by rw [ex55]; exact ex47
          refine fx_isub hx hb dX12_one_116 rfl rfl (by omega) (fun y56 ey56 ty56 => ?_)
          refine lv_iconst (v := 4) hx hb dX12_one_117 (by decide) ?_
          refine fx_icmp_le (tgt := 126) hx hb dX12_one_118 (by decide) rfl zk_4 (fun c57 => ?_) (fun c57 => ?_)
          · refine lv_iconst (v := 0) hx hb dX12_one_126 (by decide) ?_
            refine lv_istore_n (lv' := [(1, .int 0), (0, .ref (ad 60 0))]) hx hb dX12_one_127 rfl hl (by decide) rfl (fun ls hl => ?_)
            refine lv_aload_n hx hb dX12_one_128 rfl (lv_at hl 1 rfl) ?_
            refine fm_getI (a := 60) (j := 64) (T := TX12) (N := 79) hx hb hts hinX12 hown hc hw hI kl_60 sh_60 rfl (by decide) rfl bd_60_64 (hts (.fieldLink RX12 340 "RedTentModel" "from" "I") (List.mem_cons_of_mem _ tw_5_184)) (fun _ h9 => h9) dX12_one_129 (fun x58 ex58 bx58 => ?_)
            have wx58 : x58.toInt = (M.1 60 0 64).toInt := by rw [ex58]
            obtain rfl : x47 = x58 := by rw [ex58]; exact ex47
            refine lv_istore_n (lv' := [(2, .int x47), (1, .int 0), (0, .ref (ad 60 0))]) hx hb dX12_one_132 rfl hl (by decide) rfl (fun ls hl => ?_)
            have lp : ∀ (n_lp : Nat) (lp_2 : Int32) (lp_1 : Int32), (160 - lp_2.toInt).toNat < n_lp → (0 ≤ lp_2.toInt ∧ lp_2.toInt ≤ 160) → ∀ (ls : Array Slot), lv_has ls 3 [(2, .int lp_2), (1, .int lp_1), (0, .ref (ad 60 0))] → W p l e (headSpec wsX12_one ({ frames := 23, cells := 0, slots := 0, locals := 498 })).room s m ([.ref (ad 60 0)] : List Value).toArray below meth c s.heap [] 0 0 (MQ below (va_Qi (fun (r : Int32) (u : fm_M) => fm_I nb ad u ∧ fm_same [60064, 60065, 60066, 60067] M u ∧ ((M.1 60 0 64).toInt ≤ (u.1 60 0 64).toInt ∧ (M.1 60 0 66).toInt ≤ (u.1 60 0 66).toInt ∧ (u.1 60 0 64).toInt ≤ (u.1 60 0 65).toInt ∧ ∃ s8 : Nat × Int, rt_PS T9 S9 10 2 s9 s8 ∧ rt_ms kc S9 B9 u s8 ∧ (s8.2 < 0 → (u.1 60 0 66).toInt = 2))) (fun u t => fm_at D ad C nb u t.heap) (fm_A nb ad)) ([.ref (ad 60 0)] : List Value).toArray s 0 0 (fm_A nb ad)) (F0 m 133 ls []) := by
              intro n_lp
              induction n_lp with
              | zero => intro lp_2 lp_1 hm_lp b_lp_2 ls hl; exact absurd hm_lp (Nat.not_lt_zero _)
              | succ n_lp ih_lp =>
                intro lp_2 lp_1 hm_lp b_lp_2 ls hl
                refine lv_iload_n hx hb dX12_one_133 rfl (lv_at hl 0 rfl) ?_
                refine lv_aload_n hx hb dX12_one_134 rfl (lv_at hl 2 rfl) ?_
                refine fm_getI (a := 60) (j := 65) (T := TX12) (N := 79) hx hb hts hinX12 hown hc hw hI kl_60 sh_60 rfl (by decide) rfl bd_60_65 (hts (.fieldLink RX12 337 "RedTentModel" "to" "I") (List.mem_cons_of_mem _ tw_5_185)) (fun _ h9 => h9) dX12_one_135 (fun x59 ex59 bx59 => ?_)
                have wx59 : x59.toInt = (M.1 60 0 65).toInt := by rw [ex59]
                obtain rfl : x54 = x59 := by rw [ex59]; exact ex54
                refine fx_icmp_ge (tgt := 161) hx hb dX12_one_138 (by decide) rfl rfl (fun c60 => ?_) (fun c60 => ?_)
                · refine lv_aload_n hx hb dX12_one_161 rfl (lv_at hl 2 rfl) ?_
                  refine fm_cv (va_runV (As := []) (rest := []) ⟨hx, hb, hml, hown, hts⟩ (fc_X12_next l D ad C nb M hI (rt_mto hTK hms)) (cwV 0 hts gX12_one_X12_next rfl rfl rfl (by decide +kernel) ⟨Nat.le_of_ble_eq_true rfl, Nat.le_of_ble_eq_true rfl⟩) (fm_preV hc hw hS kl_60 sh_60 rfl) rfl rfl hl.1 rfl (lv_room (Nat.le_of_ble_eq_true rfl)) dX12_one_162 ⟨by decide +kernel, by decide +kernel⟩) hS hc (fun M62 H locs hr61 hw hS => ?_)
                  obtain ⟨hI, hEM62, hr61⟩ := hr61
                  have hE := hE.tr hEM62 (by decide)
                  have mM62_60_63 : (M62.1 60 0 63).toInt = (M.1 60 0 63).toInt := by rw [(hEM62 60 0 63 (by decide)).1]
                  have mM62_60_66 : (M62.1 60 0 66).toInt = (M.1 60 0 66).toInt := by rw [(hEM62 60 0 66 (by decide)).1]
                  obtain ⟨ahr61, bhr61, nhr61⟩ := hr61
                  have mhr61 := rt_ms_next hTK hms nhr61 (hEM62 60 0 67 (by decide)).1
                  have ooM62 : (rt_adv T9 (s9)).2 < 0 → (M62.1 60 0 66).toInt = 2 := fun z => by have z9 := hoo z; omega
                  refine lv_iload_n hx hb dX12_one_165 rfl (lv_at hl 1 rfl) ?_
                  have qx47 : x47.toInt = (M.1 60 0 64).toInt := by rw [ex47]
                  exact W.iret (v := lp_1) hx hb hr (fun t ht hW => ⟨⟨lp_1, M62, rfl, ⟨hI, hE, ⟨by omega, by omega, by omega, rt_adv T9 (s9), (rt_PS_10v ⟨hs0, Or.inl (gd.1 (by omega))⟩), mhr61, ooM62⟩⟩, by show fm_at D ad C nb _ t.heap; rw [ht]; exact hw⟩, hS.F ht⟩) hS.2.2 dX12_one_166
                · refine lv_bipush (v := 10) hx hb dX12_one_141 (by decide) ?_
                  refine lv_iload_n hx hb dX12_one_143 rfl (lv_at hl 1 rfl) ?_
                  refine fx_imulU hx hb dX12_one_144 (fun y63 ey63 => ?_)
                  refine lv_aload_n hx hb dX12_one_145 rfl (lv_at hl 2 rfl) ?_
                  refine lv_iload_n hx hb dX12_one_146 rfl (lv_at hl 0 rfl) ?_
                  refine vp_callSi (va_Run.run (va_runV (As := [.int lp_2]) (rest := [.int y63]) ⟨hx, hb, hml, hown, hts⟩ (fc_X12_byteAt l D ad C nb M hI lp_2 (by omega)) (cwV 1 hts gX12_one_X12_byteAt rfl rfl rfl (by decide +kernel) ⟨Nat.le_of_ble_eq_true rfl, Nat.le_of_ble_eq_true rfl⟩) (fm_preV hc hw hS kl_60 sh_60 rfl) rfl rfl hl.1 rfl (lv_room (Nat.le_of_ble_eq_true rfl)) dX12_one_147 ⟨by decide +kernel, by decide +kernel⟩)) (fun r64 hr64 => ?_)
                  refine fx_iaddU hx hb dX12_one_150 (fun y65 ey65 => ?_)
                  refine lv_bipush (v := 48) hx hb dX12_one_151 (by decide) ?_
                  refine fx_isubU hx hb dX12_one_153 (fun y66 ey66 => ?_)
                  refine lv_istore_n (lv' := [(1, .int y66), (2, .int lp_2), (0, .ref (ad 60 0))]) hx hb dX12_one_154 rfl hl (by decide) rfl (fun ls hl => ?_)
                  obtain ⟨y67, ey67⟩ : ∃ y : Int32, y = lp_2 + 1 := ⟨_, rfl⟩
                  have ty67 : y67.toInt = lp_2.toInt + 1 := by rw [ey67, zi_add _ _ (by rw [zk_1]; omega) (by rw [zk_1]; omega), zk_1]
                  refine lv_iinc (v := y67) (lv' := [(2, .int y67), (1, .int y66), (0, .ref (ad 60 0))]) hx hb dX12_one_155 hl (k := 1) rfl (by rw [ey67]; rfl) (by decide) rfl (fun ls hl => ?_)
                  refine lv_goto (tgt := 133) hx hb dX12_one_158 (by decide) ?_
                  exact ih_lp y67 y66 (by omega) (by omega) ls (lv_sub hl [0, 1, 2] rfl)
            exact lp _ x47 0 (Nat.lt_succ_self _) (by omega) ls (lv_sub hl [0, 1, 2] rfl)
          · have ge := gd.2 (by omega)
            refine lv_aload_n hx hb dX12_one_121 rfl (lv_at hl 0 rfl) ?_
            have hJ68 := hI
            refine fm_ci (va_runV (As := []) (rest := []) ⟨hx, hb, hml, hown, hts⟩ (fc_X12_wrong l D ad C nb M hI kc S9 B9 (s9) hms) (cwV 0 hts gX12_one_X12_wrong rfl rfl rfl (by decide +kernel) ⟨Nat.le_of_ble_eq_true rfl, Nat.le_of_ble_eq_true rfl⟩) (fm_preV hc hw hS kl_60 sh_60 rfl) rfl rfl hl.1 rfl (lv_room (Nat.le_of_ble_eq_true rfl)) dX12_one_122 ⟨by decide +kernel, by decide +kernel⟩) hS hc (fun r69 M70 H locs hr69 hw hS => ?_)
            obtain ⟨hI, hEM70, hr69⟩ := hr69
            have hE := hE.tr hEM70 (by decide)
            have mM70_60_63 : (M70.1 60 0 63).toInt = (M.1 60 0 63).toInt := by rw [(hEM70 60 0 63 (by decide)).1]
            have mM70_60_64 : (M70.1 60 0 64).toInt = (M.1 60 0 64).toInt := by rw [(hEM70 60 0 64 (by decide)).1]
            have mM70_60_65 : (M70.1 60 0 65).toInt = (M.1 60 0 65).toInt := by rw [(hEM70 60 0 65 (by decide)).1]
            have mM70_60_66 : (M70.1 60 0 66).toInt = (M.1 60 0 66).toInt := by rw [(hEM70 60 0 66 (by decide)).1]
            obtain ⟨bhr69, mhr69⟩ := hr69
            have ooM70 : (rt_fail S9 (s9)).2 < 0 → (M70.1 60 0 66).toInt = 2 := rt_ms_f0 hms (hJ68.bd (k := 0) bd_60_64).1
            have qx47 : x47.toInt = (M.1 60 0 64).toInt := by rw [ex47]
            exact W.iret (v := r69) hx hb hr (fun t ht hW => ⟨⟨r69, M70, rfl, ⟨hI, hE, ⟨by omega, by omega, by omega, rt_fail S9 (s9), (rt_PS_10f (by omega)), mhr69, ooM70⟩⟩, by show fm_at D ad C nb _ t.heap; rw [ht]; exact hw⟩, hS.F ht⟩) hS.2.2 dX12_one_125
        · have g71 : x47.toInt = (M.1 60 0 64).toInt := by omega
          rw [g71] at c51
          have gd := rt_isn hTK hms c51
          refine fx_if_eq (tgt := 167) hx hb dX12_one_105 (by decide) zk_0 (fun c72 => ?_) (fun c72 => by exfalso; omega)
          have jt : ∀ (jt_1 : Int32), ((-1) ≤ jt_1.toInt ∧ jt_1.toInt ≤ 5) → ((jt_1.toInt < 0 ∧ ¬ (0 < T9 s9.1 ∧ T9 s9.1 ≤ 6)) ∨ (0 ≤ jt_1.toInt ∧ 0 < T9 s9.1 ∧ T9 s9.1 ≤ 6)) → ∀ (ls : Array Slot), lv_has ls 3 [(0, .ref (ad 60 0)), (1, .int jt_1)] → W p l e (headSpec wsX12_one ({ frames := 23, cells := 0, slots := 0, locals := 498 })).room s m ([.ref (ad 60 0)] : List Value).toArray below meth c s.heap [] 0 0 (MQ below (va_Qi (fun (r : Int32) (u : fm_M) => fm_I nb ad u ∧ fm_same [60064, 60065, 60066, 60067] M u ∧ ((M.1 60 0 64).toInt ≤ (u.1 60 0 64).toInt ∧ (M.1 60 0 66).toInt ≤ (u.1 60 0 66).toInt ∧ (u.1 60 0 64).toInt ≤ (u.1 60 0 65).toInt ∧ ∃ s8 : Nat × Int, rt_PS T9 S9 10 2 s9 s8 ∧ rt_ms kc S9 B9 u s8 ∧ (s8.2 < 0 → (u.1 60 0 66).toInt = 2))) (fun u t => fm_at D ad C nb u t.heap) (fm_A nb ad)) ([.ref (ad 60 0)] : List Value).toArray s 0 0 (fm_A nb ad)) (F0 m 253 ls []) := by
            intro jt_1 b_jt_1 hj ls hl
            refine lv_iload_n hx hb dX12_one_253 rfl (lv_at hl 1 rfl) ?_
            refine fx_if_ge (tgt := 262) hx hb dX12_one_254 (by decide) rfl (fun c73 => ?_) (fun c73 => ?_)
            · refine lv_aload_n hx hb dX12_one_262 rfl (lv_at hl 0 rfl) ?_
              refine fm_cv (va_runV (As := []) (rest := []) ⟨hx, hb, hml, hown, hts⟩ (fc_X12_next l D ad C nb M hI (rt_mto hTK hms)) (cwV 0 hts gX12_one_X12_next rfl rfl rfl (by decide +kernel) ⟨Nat.le_of_ble_eq_true rfl, Nat.le_of_ble_eq_true rfl⟩) (fm_preV hc hw hS kl_60 sh_60 rfl) rfl rfl hl.1 rfl (lv_room (Nat.le_of_ble_eq_true rfl)) dX12_one_263 ⟨by decide +kernel, by decide +kernel⟩) hS hc (fun M75 H locs hr74 hw hS => ?_)
              obtain ⟨hI, hEM75, hr74⟩ := hr74
              have hE := hE.tr hEM75 (by decide)
              have mM75_60_63 : (M75.1 60 0 63).toInt = (M.1 60 0 63).toInt := by rw [(hEM75 60 0 63 (by decide)).1]
              have mM75_60_66 : (M75.1 60 0 66).toInt = (M.1 60 0 66).toInt := by rw [(hEM75 60 0 66 (by decide)).1]
              obtain ⟨ahr74, bhr74, nhr74⟩ := hr74
              have mhr74 := rt_ms_next hTK hms nhr74 (hEM75 60 0 67 (by decide)).1
              have ooM75 : (rt_adv T9 (s9)).2 < 0 → (M75.1 60 0 66).toInt = 2 := fun z => by have z9 := hoo z; omega
              refine lv_aload_n hx hb dX12_one_266 rfl (lv_at hl 0 rfl) ?_
              refine fm_getG (a := 60) (j := 68) (T := TX12) (N := 79) hx hb hts hinX12 hown hc hw kl_60 sh_60 rfl (by decide) rfl (hI.to kl_60 tg_60_68) (hts (.fieldLink RX12 143 "RedTentModel" "names" "[I") (List.mem_cons_of_mem _ tw_5_188)) (fun _ h9 => h9) dX12_one_267 ?_
              refine lv_iload_n hx hb dX12_one_270 rfl (lv_at hl 1 rfl) ?_
              refine fm_iald (a := 168) hx hb hc hw hI kl_168 sh_168 ty_168 bd_168 (by omega) dX12_one_271 (fun x76 ex76 bx76 => ?_)
              have qx47 : x47.toInt = (M.1 60 0 64).toInt := by rw [ex47]
              exact W.iret (v := x76) hx hb hr (fun t ht hW => ⟨⟨x76, M75, rfl, ⟨hI, hE, ⟨by omega, by omega, by omega, rt_adv T9 (s9), (rt_PS_10v ⟨hs0, Or.inr (by rcases hj with ⟨hj, _⟩ | ⟨_, hj⟩; exfalso; omega; exact hj)⟩), mhr74, ooM75⟩⟩, by show fm_at D ad C nb _ t.heap; rw [ht]; exact hw⟩, hS.F ht⟩) hS.2.2 dX12_one_272
            · refine lv_aload_n hx hb dX12_one_257 rfl (lv_at hl 0 rfl) ?_
              have hJ77 := hI
              refine fm_ci (va_runV (As := []) (rest := []) ⟨hx, hb, hml, hown, hts⟩ (fc_X12_wrong l D ad C nb M hI kc S9 B9 (s9) hms) (cwV 0 hts gX12_one_X12_wrong rfl rfl rfl (by decide +kernel) ⟨Nat.le_of_ble_eq_true rfl, Nat.le_of_ble_eq_true rfl⟩) (fm_preV hc hw hS kl_60 sh_60 rfl) rfl rfl hl.1 rfl (lv_room (Nat.le_of_ble_eq_true rfl)) dX12_one_258 ⟨by decide +kernel, by decide +kernel⟩) hS hc (fun r78 M79 H locs hr78 hw hS => ?_)
              obtain ⟨hI, hEM79, hr78⟩ := hr78
              have hE := hE.tr hEM79 (by decide)
              have mM79_60_63 : (M79.1 60 0 63).toInt = (M.1 60 0 63).toInt := by rw [(hEM79 60 0 63 (by decide)).1]
              have mM79_60_64 : (M79.1 60 0 64).toInt = (M.1 60 0 64).toInt := by rw [(hEM79 60 0 64 (by decide)).1]
              have mM79_60_65 : (M79.1 60 0 65).toInt = (M.1 60 0 65).toInt := by rw [(hEM79 60 0 65 (by decide)).1]
              have mM79_60_66 : (M79.1 60 0 66).toInt = (M.1 60 0 66).toInt := by rw [(hEM79 60 0 66 (by decide)).1]
              obtain ⟨bhr78, mhr78⟩ := hr78
              have ooM79 : (rt_fail S9 (s9)).2 < 0 → (M79.1 60 0 66).toInt = 2 := rt_ms_f0 hms (hJ77.bd (k := 0) bd_60_64).1
              have qx47 : x47.toInt = (M.1 60 0 64).toInt := by rw [ex47]
              exact W.iret (v := r78) hx hb hr (fun t ht hW => ⟨⟨r78, M79, rfl, ⟨hI, hE, ⟨by omega, by omega, by omega, rt_fail S9 (s9), (rt_PS_10f (by rcases hj with ⟨_, hj⟩ | ⟨hj, _⟩ <;> omega)), mhr78, ooM79⟩⟩, by show fm_at D ad C nb _ t.heap; rw [ht]; exact hw⟩, hS.F ht⟩) hS.2.2 dX12_one_261
          refine lv_aload_n hx hb dX12_one_167 rfl (lv_at hl 0 rfl) ?_
          obtain ⟨q80, vq80, hQq80, hRq80⟩ := hc.2.2.2.2.1 (RX12, 410, "strength", [115, 116, 114, 101, 110, 103, 116, 104]) (by decide)
          refine va_ldcwS hx hb hown hRq80 dX12_one_168 ?_
          refine vp_callSi (va_Run.run (va_runV (As := [.ref q80]) (rest := []) ⟨hx, hb, hml, hown, hts⟩ (fc_X12_is l D ad C nb M hI q80 vq80 8 (fun j => ([115, 116, 114, 101, 110, 103, 116, 104] : List Int32).getD j 0) (by decide) (rt_mto hTK hms) rt_cd_1.2.1) (cwV 1 hts gX12_one_X12_is rfl rfl rfl (by decide +kernel) ⟨Nat.le_of_ble_eq_true rfl, Nat.le_of_ble_eq_true rfl⟩) (fm_preVS hc hw hS hQq80 kl_60 sh_60 rfl) rfl rfl hl.1 rfl (lv_room (Nat.le_of_ble_eq_true rfl)) dX12_one_171 ⟨by decide +kernel, by decide +kernel⟩)) (fun r81 hr81 => ?_)
          rcases hr81 with ⟨rfl, chr81⟩ | ⟨rfl, chr81⟩
          · have sv82 := (rt_is hTK hms rt_cd_1).mp chr81
            refine fx_if_eq (tgt := 181) hx hb dX12_one_174 (by decide) zk_1 (fun c83 => by exfalso; omega) (fun c83 => ?_)
            refine lv_iconst (v := 0) hx hb dX12_one_177 (by decide) ?_
            refine lv_goto (tgt := 252) hx hb dX12_one_178 (by decide) ?_
            refine lv_istore_n (lv' := [(1, .int 0), (0, .ref (ad 60 0))]) hx hb dX12_one_252 rfl hl (by decide) rfl (fun ls hl => ?_)
            exact jt 0 (by decide) (Or.inr ⟨by decide, by omega⟩) ls (lv_sub hl [1, 0] rfl)
          · have sv84 : ¬ T9 (s9).1 = 1 := fun z => chr81 ((rt_is hTK hms rt_cd_1).mpr z)
            refine fx_if_eq (tgt := 181) hx hb dX12_one_174 (by decide) zk_0 (fun c85 => ?_) (fun c85 => by exfalso; omega)
            refine lv_aload_n hx hb dX12_one_181 rfl (lv_at hl 0 rfl) ?_
            obtain ⟨q86, vq86, hQq86, hRq86⟩ := hc.2.2.2.2.1 (RX12, 411, "hurt", [104, 117, 114, 116]) (by decide)
            refine va_ldcwS hx hb hown hRq86 dX12_one_182 ?_
            refine vp_callSi (va_Run.run (va_runV (As := [.ref q86]) (rest := []) ⟨hx, hb, hml, hown, hts⟩ (fc_X12_is l D ad C nb M hI q86 vq86 4 (fun j => ([104, 117, 114, 116] : List Int32).getD j 0) (by decide) (rt_mto hTK hms) rt_cd_2.2.1) (cwV 1 hts gX12_one_X12_is rfl rfl rfl (by decide +kernel) ⟨Nat.le_of_ble_eq_true rfl, Nat.le_of_ble_eq_true rfl⟩) (fm_preVS hc hw hS hQq86 kl_60 sh_60 rfl) rfl rfl hl.1 rfl (lv_room (Nat.le_of_ble_eq_true rfl)) dX12_one_185 ⟨by decide +kernel, by decide +kernel⟩)) (fun r87 hr87 => ?_)
            rcases hr87 with ⟨rfl, chr87⟩ | ⟨rfl, chr87⟩
            · have sv88 := (rt_is hTK hms rt_cd_2).mp chr87
              refine fx_if_eq (tgt := 195) hx hb dX12_one_188 (by decide) zk_1 (fun c89 => by exfalso; omega) (fun c89 => ?_)
              refine lv_iconst (v := 1) hx hb dX12_one_191 (by decide) ?_
              refine lv_goto (tgt := 252) hx hb dX12_one_192 (by decide) ?_
              refine lv_istore_n (lv' := [(1, .int 1), (0, .ref (ad 60 0))]) hx hb dX12_one_252 rfl hl (by decide) rfl (fun ls hl => ?_)
              exact jt 1 (by decide) (Or.inr ⟨by decide, by omega⟩) ls (lv_sub hl [1, 0] rfl)
            · have sv90 : ¬ T9 (s9).1 = 2 := fun z => chr87 ((rt_is hTK hms rt_cd_2).mpr z)
              refine fx_if_eq (tgt := 195) hx hb dX12_one_188 (by decide) zk_0 (fun c91 => ?_) (fun c91 => by exfalso; omega)
              refine lv_aload_n hx hb dX12_one_195 rfl (lv_at hl 0 rfl) ?_
              obtain ⟨q92, vq92, hQq92, hRq92⟩ := hc.2.2.2.2.1 (RX12, 412, "skill", [115, 107, 105, 108, 108]) (by decide)
              refine va_ldcwS hx hb hown hRq92 dX12_one_196 ?_
              refine vp_callSi (va_Run.run (va_runV (As := [.ref q92]) (rest := []) ⟨hx, hb, hml, hown, hts⟩ (fc_X12_is l D ad C nb M hI q92 vq92 5 (fun j => ([115, 107, 105, 108, 108] : List Int32).getD j 0) (by decide) (rt_mto hTK hms) rt_cd_3.2.1) (cwV 1 hts gX12_one_X12_is rfl rfl rfl (by decide +kernel) ⟨Nat.le_of_ble_eq_true rfl, Nat.le_of_ble_eq_true rfl⟩) (fm_preVS hc hw hS hQq92 kl_60 sh_60 rfl) rfl rfl hl.1 rfl (lv_room (Nat.le_of_ble_eq_true rfl)) dX12_one_199 ⟨by decide +kernel, by decide +kernel⟩)) (fun r93 hr93 => ?_)
              rcases hr93 with ⟨rfl, chr93⟩ | ⟨rfl, chr93⟩
              · have sv94 := (rt_is hTK hms rt_cd_3).mp chr93
                refine fx_if_eq (tgt := 209) hx hb dX12_one_202 (by decide) zk_1 (fun c95 => by exfalso; omega) (fun c95 => ?_)
                refine lv_iconst (v := 2) hx hb dX12_one_205 (by decide) ?_
                refine lv_goto (tgt := 252) hx hb dX12_one_206 (by decide) ?_
                refine lv_istore_n (lv' := [(1, .int 2), (0, .ref (ad 60 0))]) hx hb dX12_one_252 rfl hl (by decide) rfl (fun ls hl => ?_)
                exact jt 2 (by decide) (Or.inr ⟨by decide, by omega⟩) ls (lv_sub hl [1, 0] rfl)
              · have sv96 : ¬ T9 (s9).1 = 3 := fun z => chr93 ((rt_is hTK hms rt_cd_3).mpr z)
                refine fx_if_eq (tgt := 209) hx hb dX12_one_202 (by decide) zk_0 (fun c97 => ?_) (fun c97 => by exfalso; omega)
                refine lv_aload_n hx hb dX12_one_209 rfl (lv_at hl 0 rfl) ?_
                obtain ⟨q98, vq98, hQq98, hRq98⟩ := hc.2.2.2.2.1 (RX12, 413, "hour", [104, 111, 117, 114]) (by decide)
                refine va_ldcwS hx hb hown hRq98 dX12_one_210 ?_
                refine vp_callSi (va_Run.run (va_runV (As := [.ref q98]) (rest := []) ⟨hx, hb, hml, hown, hts⟩ (fc_X12_is l D ad C nb M hI q98 vq98 4 (fun j => ([104, 111, 117, 114] : List Int32).getD j 0) (by decide) (rt_mto hTK hms) rt_cd_4.2.1) (cwV 1 hts gX12_one_X12_is rfl rfl rfl (by decide +kernel) ⟨Nat.le_of_ble_eq_true rfl, Nat.le_of_ble_eq_true rfl⟩) (fm_preVS hc hw hS hQq98 kl_60 sh_60 rfl) rfl rfl hl.1 rfl (lv_room (Nat.le_of_ble_eq_true rfl)) dX12_one_213 ⟨by decide +kernel, by decide +kernel⟩)) (fun r99 hr99 => ?_)
                rcases hr99 with ⟨rfl, chr99⟩ | ⟨rfl, chr99⟩
                · have sv100 := (rt_is hTK hms rt_cd_4).mp chr99
                  refine fx_if_eq (tgt := 223) hx hb dX12_one_216 (by decide) zk_1 (fun c101 => by exfalso; omega) (fun c101 => ?_)
                  refine lv_iconst (v := 3) hx hb dX12_one_219 (by decide) ?_
                  refine lv_goto (tgt := 252) hx hb dX12_one_220 (by decide) ?_
                  refine lv_istore_n (lv' := [(1, .int 3), (0, .ref (ad 60 0))]) hx hb dX12_one_252 rfl hl (by decide) rfl (fun ls hl => ?_)
                  exact jt 3 (by decide) (Or.inr ⟨by decide, by omega⟩) ls (lv_sub hl [1, 0] rfl)
                · have sv102 : ¬ T9 (s9).1 = 4 := fun z => chr99 ((rt_is hTK hms rt_cd_4).mpr z)
                  refine fx_if_eq (tgt := 223) hx hb dX12_one_216 (by decide) zk_0 (fun c103 => ?_) (fun c103 => by exfalso; omega)
                  refine lv_aload_n hx hb dX12_one_223 rfl (lv_at hl 0 rfl) ?_
                  obtain ⟨q104, vq104, hQq104, hRq104⟩ := hc.2.2.2.2.1 (RX12, 414, "fuel", [102, 117, 101, 108]) (by decide)
                  refine va_ldcwS hx hb hown hRq104 dX12_one_224 ?_
                  refine vp_callSi (va_Run.run (va_runV (As := [.ref q104]) (rest := []) ⟨hx, hb, hml, hown, hts⟩ (fc_X12_is l D ad C nb M hI q104 vq104 4 (fun j => ([102, 117, 101, 108] : List Int32).getD j 0) (by decide) (rt_mto hTK hms) rt_cd_5.2.1) (cwV 1 hts gX12_one_X12_is rfl rfl rfl (by decide +kernel) ⟨Nat.le_of_ble_eq_true rfl, Nat.le_of_ble_eq_true rfl⟩) (fm_preVS hc hw hS hQq104 kl_60 sh_60 rfl) rfl rfl hl.1 rfl (lv_room (Nat.le_of_ble_eq_true rfl)) dX12_one_227 ⟨by decide +kernel, by decide +kernel⟩)) (fun r105 hr105 => ?_)
                  rcases hr105 with ⟨rfl, chr105⟩ | ⟨rfl, chr105⟩
                  · have sv106 := (rt_is hTK hms rt_cd_5).mp chr105
                    refine fx_if_eq (tgt := 237) hx hb dX12_one_230 (by decide) zk_1 (fun c107 => by exfalso; omega) (fun c107 => ?_)
                    refine lv_iconst (v := 4) hx hb dX12_one_233 (by decide) ?_
                    refine lv_goto (tgt := 252) hx hb dX12_one_234 (by decide) ?_
                    refine lv_istore_n (lv' := [(1, .int 4), (0, .ref (ad 60 0))]) hx hb dX12_one_252 rfl hl (by decide) rfl (fun ls hl => ?_)
                    exact jt 4 (by decide) (Or.inr ⟨by decide, by omega⟩) ls (lv_sub hl [1, 0] rfl)
                  · have sv108 : ¬ T9 (s9).1 = 5 := fun z => chr105 ((rt_is hTK hms rt_cd_5).mpr z)
                    refine fx_if_eq (tgt := 237) hx hb dX12_one_230 (by decide) zk_0 (fun c109 => ?_) (fun c109 => by exfalso; omega)
                    refine lv_aload_n hx hb dX12_one_237 rfl (lv_at hl 0 rfl) ?_
                    obtain ⟨q110, vq110, hQq110, hRq110⟩ := hc.2.2.2.2.1 (RX12, 415, "far", [102, 97, 114]) (by decide)
                    refine va_ldcwS hx hb hown hRq110 dX12_one_238 ?_
                    refine vp_callSi (va_Run.run (va_runV (As := [.ref q110]) (rest := []) ⟨hx, hb, hml, hown, hts⟩ (fc_X12_is l D ad C nb M hI q110 vq110 3 (fun j => ([102, 97, 114] : List Int32).getD j 0) (by decide) (rt_mto hTK hms) rt_cd_6.2.1) (cwV 1 hts gX12_one_X12_is rfl rfl rfl (by decide +kernel) ⟨Nat.le_of_ble_eq_true rfl, Nat.le_of_ble_eq_true rfl⟩) (fm_preVS hc hw hS hQq110 kl_60 sh_60 rfl) rfl rfl hl.1 rfl (lv_room (Nat.le_of_ble_eq_true rfl)) dX12_one_241 ⟨by decide +kernel, by decide +kernel⟩)) (fun r111 hr111 => ?_)
                    rcases hr111 with ⟨rfl, chr111⟩ | ⟨rfl, chr111⟩
                    · have sv112 := (rt_is hTK hms rt_cd_6).mp chr111
                      refine fx_if_eq (tgt := 251) hx hb dX12_one_244 (by decide) zk_1 (fun c113 => by exfalso; omega) (fun c113 => ?_)
                      refine lv_iconst (v := 5) hx hb dX12_one_247 (by decide) ?_
                      refine lv_goto (tgt := 252) hx hb dX12_one_248 (by decide) ?_
                      refine lv_istore_n (lv' := [(1, .int 5), (0, .ref (ad 60 0))]) hx hb dX12_one_252 rfl hl (by decide) rfl (fun ls hl => ?_)
                      exact jt 5 (by decide) (Or.inr ⟨by decide, by omega⟩) ls (lv_sub hl [1, 0] rfl)
                    · have sv114 : ¬ T9 (s9).1 = 6 := fun z => chr111 ((rt_is hTK hms rt_cd_6).mpr z)
                      refine fx_if_eq (tgt := 251) hx hb dX12_one_244 (by decide) zk_0 (fun c115 => ?_) (fun c115 => by exfalso; omega)
                      refine lv_iconst (v := (-1)) hx hb dX12_one_251 (by decide) ?_
                      refine lv_istore_n (lv' := [(1, .int (-1)), (0, .ref (ad 60 0))]) hx hb dX12_one_252 rfl hl (by decide) rfl (fun ls hl => ?_)
                      exact jt (-1) (by decide) (Or.inl ⟨by decide, by omega⟩) ls (lv_sub hl [1, 0] rfl)
  · refine lv_iconst (v := 0) hx hb dX12_one_7 (by decide) ?_
    exact W.iret (v := 0) hx hb hr (fun t ht hW => ⟨⟨0, M, rfl, ⟨hI, hE, ⟨by omega, by omega, by omega, s9, (rt_PS_id (by rw [← hms.2.2.2, ← ex1]; omega) (by decide)), hms, hoo⟩⟩, by show fm_at D ad C nb _ t.heap; rw [ht]; exact hw⟩, hS.F ht⟩) hS.2.2 dX12_one_8
set_option maxHeartbeats 400000 in
set_option maxRecDepth 20000 in
theorem fc_X12_product_2 (l : Launch) (D : va_G) (ad : Nat → Nat → Nat) (C : Nat → Nat → ClassId) (nb : Nat) (M : fm_M) (hI : fm_I nb ad M) (kc : Nat) (S9 B9 T9 : Nat → Int) (s9 : Nat × Int) (hft : (M.1 60 0 64).toInt ≤ (M.1 60 0 65).toInt) (hop : 2 ≤ (M.1 60 0 66).toInt) (hTK : rt_TM M kc S9 B9 T9) (hms : rt_ms kc S9 B9 M s9) (hoo : s9.2 < 0 → (M.1 60 0 66).toInt = 2) : Met l yX12_product wsX12_product ({ frames := 24, cells := 0, slots := 0, locals := 520 }) (va_Pc [.ref (ad 60 0)] (fm_P D ad C nb M)) (va_Qi (fun (r : Int32) (u : fm_M) => fm_I nb ad u ∧ fm_same [60064, 60065, 60066, 60067] M u ∧ ((M.1 60 0 64).toInt ≤ (u.1 60 0 64).toInt ∧ (M.1 60 0 66).toInt ≤ (u.1 60 0 66).toInt ∧ (u.1 60 0 64).toInt ≤ (u.1 60 0 65).toInt ∧ ∃ s8 : Nat × Int, rt_PS T9 S9 8 2 s9 s8 ∧ rt_ms kc S9 B9 u s8 ∧ (s8.2 < 0 → (u.1 60 0 66).toInt = 2))) (fun u t => fm_at D ad C nb u t.heap) (fm_A nb ad)) 0 0 (fm_A nb ad) := by
  refine Met.ofW (cc := cX12_product) (maxL := 2) (ret := (some .int)) (by decide) rfl ?_
  intro p e s m args below meth c s₁ B hml hv
  obtain ⟨rfl, hw, hc⟩ := hv
  have hx := B.exec
  have hb := B.bytes
  have hr := B.returns
  have hts := atoms_spec (ws := wsX12_product) B.pre
  have hown : s.vm.findClass RX12 = some m.cls := findClass_of_methodNamed B.named
  have hS : va_S (fm_A nb ad) s.heap s.heap [] := va_S.rf
  have hE : fm_same [60064, 60065, 60066, 60067] M M := fm_same.rf
  have hl := lv_entry ([.ref (ad 60 0)]) (n := 2) (Nat.le_of_ble_eq_true rfl)
  rw [lg_entry_eq]
  generalize (lg_sl ([.ref (ad 60 0)]) ++ List.replicate (2 - (lg_sl ([.ref (ad 60 0)])).length) Slot.unset).toArray = ls at hl ⊢
  have hl : lv_has ls 2 [(0, .ref (ad 60 0))] := hl
  refine lv_aload_n hx hb dX12_product_0 rfl (lv_at hl 0 rfl) ?_
  have d1_63 := hI.bd (k := 0) bd_60_63
  have d1_64 := hI.bd (k := 0) bd_60_64
  have d1_65 := hI.bd (k := 0) bd_60_65
  have d1_66 := hI.bd (k := 0) bd_60_66
  refine fm_ci (va_runV (As := []) (rest := []) ⟨hx, hb, hml, hown, hts⟩ (fc_X12_one_2 l D ad C nb M hI kc S9 B9 T9 (s9) (by omega) (by omega) hTK hms hoo) (cwV 0 hts gX12_product_X12_one rfl rfl rfl (by decide +kernel) ⟨Nat.le_of_ble_eq_true rfl, Nat.le_of_ble_eq_true rfl⟩) (fm_preV hc hw hS kl_60 sh_60 rfl) rfl rfl hl.1 rfl (lv_room (Nat.le_of_ble_eq_true rfl)) dX12_product_1 ⟨by decide +kernel, by decide +kernel⟩) hS hc (fun r2 M3 H locs hr2 hw hS => ?_)
  obtain ⟨hI, hEM3, hr2⟩ := hr2
  have hE := hE.tr hEM3 (by decide)
  have mM3_60_63 : (M3.1 60 0 63).toInt = (M.1 60 0 63).toInt := by rw [(hEM3 60 0 63 (by decide)).1]
  obtain ⟨ahr2, bhr2, dhr2, shr2, phr2, mhr2, ohr2⟩ := hr2
  refine lv_istore_n (lv' := [(1, .int r2), (0, .ref (ad 60 0))]) hx hb dX12_product_4 rfl hl (by decide) rfl (fun ls hl => ?_)
  have lp : ∀ (n_lp : Nat) (lp_1 : Int32) (M_lp : fm_M), (161 - (M_lp.1 60 0 64).toInt).toNat < n_lp → ((M.1 60 0 64).toInt ≤ (M_lp.1 60 0 64).toInt ∧ (M.1 60 0 66).toInt ≤ (M_lp.1 60 0 66).toInt ∧ (M_lp.1 60 0 64).toInt ≤ (M_lp.1 60 0 65).toInt) → (∃ s : Nat × Int, rt_ms kc S9 B9 M_lp s ∧ (s.2 < 0 → (M_lp.1 60 0 66).toInt = 2) ∧ ∀ r : Nat × Int, rt_PS T9 S9 9 2 s r → rt_PS T9 S9 8 2 s9 r) → fm_I nb ad M_lp → fm_same [60064, 60065, 60066, 60067] M M_lp → ∀ (H : Heap) (locs : List Loc), fm_at D ad C nb M_lp H → va_S (fm_A nb ad) s.heap H locs → ∀ (ls : Array Slot), lv_has ls 2 [(1, .int lp_1), (0, .ref (ad 60 0))] → W p l e (headSpec wsX12_product ({ frames := 24, cells := 0, slots := 0, locals := 520 })).room s m ([.ref (ad 60 0)] : List Value).toArray below meth c H locs 0 0 (MQ below (va_Qi (fun (r : Int32) (u : fm_M) => fm_I nb ad u ∧ fm_same [60064, 60065, 60066, 60067] M u ∧ ((M.1 60 0 64).toInt ≤ (u.1 60 0 64).toInt ∧ (M.1 60 0 66).toInt ≤ (u.1 60 0 66).toInt ∧ (u.1 60 0 64).toInt ≤ (u.1 60 0 65).toInt ∧ ∃ s8 : Nat × Int, rt_PS T9 S9 8 2 s9 s8 ∧ rt_ms kc S9 B9 u s8 ∧ (s8.2 < 0 → (u.1 60 0 66).toInt = 2))) (fun u t => fm_at D ad C nb u t.heap) (fm_A nb ad)) ([.ref (ad 60 0)] : List Value).toArray s 0 0 (fm_A nb ad)) (F0 m 5 ls []) := by
    intro n_lp
    induction n_lp with
    | zero => intro lp_1 M_lp hm_lp hv hq hI hE H locs hw hS ls hl; exact absurd hm_lp (Nat.not_lt_zero _)
    | succ n_lp ih_lp =>
      intro lp_1 M_lp hm_lp hv hq hI hE H locs hw hS ls hl
      obtain ⟨s7, ms7, oo7, hq7⟩ := hq
      refine lv_aload_n hx hb dX12_product_5 rfl (lv_at hl 1 rfl) ?_
      obtain ⟨q4, vq4, hQq4, hRq4⟩ := hc.2.2.2.2.1 (RX12, 401, "*", [42]) (by decide)
      refine va_ldcwS hx hb hown hRq4 dX12_product_6 ?_
      have tk5 := rt_TMs hE (by decide) hTK
      refine fm_ci (va_runV (As := [.ref q4]) (rest := []) ⟨hx, hb, hml, hown, hts⟩ (fc_X12_take l D ad C nb M_lp hI q4 vq4 1 (fun j => ([42] : List Int32).getD j 0) (by decide) kc S9 B9 T9 (s7) 42 (by omega) tk5 ms7 rt_cd_42) (cwV 1 hts gX12_product_X12_take rfl rfl rfl (by decide +kernel) ⟨Nat.le_of_ble_eq_true rfl, Nat.le_of_ble_eq_true rfl⟩) (fm_preVS hc hw hS hQq4 kl_60 sh_60 rfl) rfl rfl hl.1 rfl (lv_room (Nat.le_of_ble_eq_true rfl)) dX12_product_9 ⟨by decide +kernel, by decide +kernel⟩) hS hc (fun r6 M7 H locs hr6 hw hS => ?_)
      obtain ⟨hI, hEM7, hr6⟩ := hr6
      have hE := hE.tr hEM7 (by decide)
      have mM7_60_63 : (M7.1 60 0 63).toInt = (M_lp.1 60 0 63).toInt := by rw [(hEM7 60 0 63 (by decide)).1]
      have mM7_60_66 : (M7.1 60 0 66).toInt = (M_lp.1 60 0 66).toInt := by rw [(hEM7 60 0 66 (by decide)).1]
      rcases hr6 with ⟨rfl, ahr6, bhr6, dhr6, ehr6, mhr6⟩ | ⟨rfl, ahr6, bhr6, dhr6, mhr6⟩
      · have ooM7 : (rt_adv T9 (s7)).2 < 0 → (M7.1 60 0 66).toInt = 2 := fun z => by have z9 := oo7 z; omega
        refine fx_if_eq (tgt := 25) hx hb dX12_product_12 (by decide) zk_1 (fun c8 => by exfalso; omega) (fun c8 => ?_)
        refine lv_iload_n hx hb dX12_product_15 rfl (lv_at hl 0 rfl) ?_
        refine lv_aload_n hx hb dX12_product_16 rfl (lv_at hl 1 rfl) ?_
        have tk9 := rt_TMs hE (by decide) hTK
        have d10_63 := hI.bd (k := 0) bd_60_63
        have d10_64 := hI.bd (k := 0) bd_60_64
        have d10_65 := hI.bd (k := 0) bd_60_65
        have d10_66 := hI.bd (k := 0) bd_60_66
        refine fm_ci (va_runV (As := []) (rest := [.int lp_1]) ⟨hx, hb, hml, hown, hts⟩ (fc_X12_one_2 l D ad C nb M7 hI kc S9 B9 T9 (rt_adv T9 (s7)) (by omega) (by omega) tk9 mhr6 ooM7) (cwV 0 hts gX12_product_X12_one rfl rfl rfl (by decide +kernel) ⟨Nat.le_of_ble_eq_true rfl, Nat.le_of_ble_eq_true rfl⟩) (fm_preV hc hw hS kl_60 sh_60 rfl) rfl rfl hl.1 rfl (lv_room (Nat.le_of_ble_eq_true rfl)) dX12_product_17 ⟨by decide +kernel, by decide +kernel⟩) hS hc (fun r11 M12 H locs hr11 hw hS => ?_)
        obtain ⟨hI, hEM12, hr11⟩ := hr11
        have hE := hE.tr hEM12 (by decide)
        have mM12_60_63 : (M12.1 60 0 63).toInt = (M7.1 60 0 63).toInt := by rw [(hEM12 60 0 63 (by decide)).1]
        obtain ⟨ahr11, bhr11, dhr11, shr11, phr11, mhr11, ohr11⟩ := hr11
        refine fx_imulU hx hb dX12_product_20 (fun y13 ey13 => ?_)
        refine lv_istore_n (lv' := [(1, .int y13), (0, .ref (ad 60 0))]) hx hb dX12_product_21 rfl hl (by decide) rfl (fun ls hl => ?_)
        refine lv_goto (tgt := 5) hx hb dX12_product_22 (by decide) ?_
        exact ih_lp y13 M12 (by omega) (by omega) ⟨shr11, mhr11, ohr11, fun r h => hq7 r (rt_PS_9y ⟨dhr6, ehr6⟩ phr11 h)⟩ hI hE _ _ hw hS ls (lv_sub hl [0, 1] rfl)
      · have ooM7 : (s7).2 < 0 → (M7.1 60 0 66).toInt = 2 := fun z => by have z9 := oo7 z; omega
        refine fx_if_eq (tgt := 25) hx hb dX12_product_12 (by decide) zk_0 (fun c14 => ?_) (fun c14 => by exfalso; omega)
        refine lv_iload_n hx hb dX12_product_25 rfl (lv_at hl 0 rfl) ?_
        exact W.iret (v := lp_1) hx hb hr (fun t ht hW => ⟨⟨lp_1, M7, rfl, ⟨hI, hE, ⟨by omega, by omega, by omega, s7, (hq7 _ (rt_PS_9n dhr6)), mhr6, ooM7⟩⟩, by show fm_at D ad C nb _ t.heap; rw [ht]; exact hw⟩, hS.F ht⟩) hS.2.2 dX12_product_26
  exact lp _ r2 M3 (Nat.lt_succ_self _) (by omega) ⟨shr2, mhr2, ohr2, fun r h => rt_PS_8 phr2 h⟩ hI hE _ _ hw hS ls (lv_sub hl [0, 1] rfl)
set_option maxHeartbeats 400000 in
set_option maxRecDepth 20000 in
theorem fc_X12_sum_2 (l : Launch) (D : va_G) (ad : Nat → Nat → Nat) (C : Nat → Nat → ClassId) (nb : Nat) (M : fm_M) (hI : fm_I nb ad M) (kc : Nat) (S9 B9 T9 : Nat → Int) (s9 : Nat × Int) (hft : (M.1 60 0 64).toInt ≤ (M.1 60 0 65).toInt) (hop : 2 ≤ (M.1 60 0 66).toInt) (hTK : rt_TM M kc S9 B9 T9) (hms : rt_ms kc S9 B9 M s9) (hoo : s9.2 < 0 → (M.1 60 0 66).toInt = 2) : Met l yX12_sum wsX12_sum ({ frames := 25, cells := 0, slots := 0, locals := 541 }) (va_Pc [.ref (ad 60 0)] (fm_P D ad C nb M)) (va_Qi (fun (r : Int32) (u : fm_M) => fm_I nb ad u ∧ fm_same [60064, 60065, 60066, 60067] M u ∧ ((M.1 60 0 64).toInt ≤ (u.1 60 0 64).toInt ∧ (M.1 60 0 66).toInt ≤ (u.1 60 0 66).toInt ∧ (u.1 60 0 64).toInt ≤ (u.1 60 0 65).toInt ∧ ∃ s8 : Nat × Int, rt_PS T9 S9 6 2 s9 s8 ∧ rt_ms kc S9 B9 u s8 ∧ (s8.2 < 0 → (u.1 60 0 66).toInt = 2))) (fun u t => fm_at D ad C nb u t.heap) (fm_A nb ad)) 0 0 (fm_A nb ad) := by
  refine Met.ofW (cc := cX12_sum) (maxL := 3) (ret := (some .int)) (by decide) rfl ?_
  intro p e s m args below meth c s₁ B hml hv
  obtain ⟨rfl, hw, hc⟩ := hv
  have hx := B.exec
  have hb := B.bytes
  have hr := B.returns
  have hts := atoms_spec (ws := wsX12_sum) B.pre
  have hown : s.vm.findClass RX12 = some m.cls := findClass_of_methodNamed B.named
  have hS : va_S (fm_A nb ad) s.heap s.heap [] := va_S.rf
  have hE : fm_same [60064, 60065, 60066, 60067] M M := fm_same.rf
  have hl := lv_entry ([.ref (ad 60 0)]) (n := 3) (Nat.le_of_ble_eq_true rfl)
  rw [lg_entry_eq]
  generalize (lg_sl ([.ref (ad 60 0)]) ++ List.replicate (3 - (lg_sl ([.ref (ad 60 0)])).length) Slot.unset).toArray = ls at hl ⊢
  have hl : lv_has ls 3 [(0, .ref (ad 60 0))] := hl
  refine lv_aload_n hx hb dX12_sum_0 rfl (lv_at hl 0 rfl) ?_
  have d1_63 := hI.bd (k := 0) bd_60_63
  have d1_64 := hI.bd (k := 0) bd_60_64
  have d1_65 := hI.bd (k := 0) bd_60_65
  have d1_66 := hI.bd (k := 0) bd_60_66
  refine fm_ci (va_runV (As := []) (rest := []) ⟨hx, hb, hml, hown, hts⟩ (fc_X12_product_2 l D ad C nb M hI kc S9 B9 T9 (s9) (by omega) (by omega) hTK hms hoo) (cwV 0 hts gX12_sum_X12_product rfl rfl rfl (by decide +kernel) ⟨Nat.le_of_ble_eq_true rfl, Nat.le_of_ble_eq_true rfl⟩) (fm_preV hc hw hS kl_60 sh_60 rfl) rfl rfl hl.1 rfl (lv_room (Nat.le_of_ble_eq_true rfl)) dX12_sum_1 ⟨by decide +kernel, by decide +kernel⟩) hS hc (fun r2 M3 H locs hr2 hw hS => ?_)
  obtain ⟨hI, hEM3, hr2⟩ := hr2
  have hE := hE.tr hEM3 (by decide)
  have mM3_60_63 : (M3.1 60 0 63).toInt = (M.1 60 0 63).toInt := by rw [(hEM3 60 0 63 (by decide)).1]
  obtain ⟨ahr2, bhr2, dhr2, shr2, phr2, mhr2, ohr2⟩ := hr2
  refine lv_istore_n (lv' := [(1, .int r2), (0, .ref (ad 60 0))]) hx hb dX12_sum_4 rfl hl (by decide) rfl (fun ls hl => ?_)
  refine lv_iconst (v := 1) hx hb dX12_sum_5 (by decide) ?_
  refine lv_istore_n (lv' := [(2, .int 1), (1, .int r2), (0, .ref (ad 60 0))]) hx hb dX12_sum_6 rfl hl (by decide) rfl (fun ls hl => ?_)
  have lp : ∀ (n_lp : Nat) (lp_2 : Int32) (lp_1 : Int32) (M_lp : fm_M), 2 * (161 - (M_lp.1 60 0 64).toInt).toNat + lp_2.toInt.toNat < n_lp → (0 ≤ lp_2.toInt ∧ lp_2.toInt ≤ 1) → ((M.1 60 0 64).toInt ≤ (M_lp.1 60 0 64).toInt ∧ (M.1 60 0 66).toInt ≤ (M_lp.1 60 0 66).toInt ∧ (M_lp.1 60 0 64).toInt ≤ (M_lp.1 60 0 65).toInt) → (∃ s : Nat × Int, rt_ms kc S9 B9 M_lp s ∧ (s.2 < 0 → (M_lp.1 60 0 66).toInt = 2) ∧ (lp_2.toInt = 1 → ∀ r : Nat × Int, rt_PS T9 S9 7 2 s r → rt_PS T9 S9 6 2 s9 r) ∧ (lp_2.toInt = 0 → rt_PS T9 S9 6 2 s9 s)) → fm_I nb ad M_lp → fm_same [60064, 60065, 60066, 60067] M M_lp → ∀ (H : Heap) (locs : List Loc), fm_at D ad C nb M_lp H → va_S (fm_A nb ad) s.heap H locs → ∀ (ls : Array Slot), lv_has ls 3 [(2, .int lp_2), (1, .int lp_1), (0, .ref (ad 60 0))] → W p l e (headSpec wsX12_sum ({ frames := 25, cells := 0, slots := 0, locals := 541 })).room s m ([.ref (ad 60 0)] : List Value).toArray below meth c H locs 0 0 (MQ below (va_Qi (fun (r : Int32) (u : fm_M) => fm_I nb ad u ∧ fm_same [60064, 60065, 60066, 60067] M u ∧ ((M.1 60 0 64).toInt ≤ (u.1 60 0 64).toInt ∧ (M.1 60 0 66).toInt ≤ (u.1 60 0 66).toInt ∧ (u.1 60 0 64).toInt ≤ (u.1 60 0 65).toInt ∧ ∃ s8 : Nat × Int, rt_PS T9 S9 6 2 s9 s8 ∧ rt_ms kc S9 B9 u s8 ∧ (s8.2 < 0 → (u.1 60 0 66).toInt = 2))) (fun u t => fm_at D ad C nb u t.heap) (fm_A nb ad)) ([.ref (ad 60 0)] : List Value).toArray s 0 0 (fm_A nb ad)) (F0 m 7 ls []) := by
    intro n_lp
    induction n_lp with
    | zero => intro lp_2 lp_1 M_lp hm_lp b_lp_2 hv hq hI hE H locs hw hS ls hl; exact absurd hm_lp (Nat.not_lt_zero _)
    | succ n_lp ih_lp =>
      intro lp_2 lp_1 M_lp hm_lp b_lp_2 hv hq hI hE H locs hw hS ls hl
      obtain ⟨s7, ms7, oo7, hq7, hq0⟩ := hq
      refine lv_iload_n hx hb dX12_sum_7 rfl (lv_at hl 0 rfl) ?_
      refine fx_if_eq (tgt := 56) hx hb dX12_sum_8 (by decide) rfl (fun c4 => ?_) (fun c4 => ?_)
      · refine lv_iload_n hx hb dX12_sum_56 rfl (lv_at hl 1 rfl) ?_
        exact W.iret (v := lp_1) hx hb hr (fun t ht hW => ⟨⟨lp_1, M_lp, rfl, ⟨hI, hE, ⟨by omega, by omega, by omega, s7, (hq0 (by omega)), ms7, oo7⟩⟩, by show fm_at D ad C nb _ t.heap; rw [ht]; exact hw⟩, hS.F ht⟩) hS.2.2 dX12_sum_57
      · refine lv_aload_n hx hb dX12_sum_11 rfl (lv_at hl 2 rfl) ?_
        obtain ⟨q5, vq5, hQq5, hRq5⟩ := hc.2.2.2.2.1 (RX12, 394, "+", [43]) (by decide)
        refine va_ldcwS hx hb hown hRq5 dX12_sum_12 ?_
        have tk6 := rt_TMs hE (by decide) hTK
        refine fm_ci (va_runV (As := [.ref q5]) (rest := []) ⟨hx, hb, hml, hown, hts⟩ (fc_X12_take l D ad C nb M_lp hI q5 vq5 1 (fun j => ([43] : List Int32).getD j 0) (by decide) kc S9 B9 T9 (s7) 43 (by omega) tk6 ms7 rt_cd_43) (cwV 1 hts gX12_sum_X12_take rfl rfl rfl (by decide +kernel) ⟨Nat.le_of_ble_eq_true rfl, Nat.le_of_ble_eq_true rfl⟩) (fm_preVS hc hw hS hQq5 kl_60 sh_60 rfl) rfl rfl hl.1 rfl (lv_room (Nat.le_of_ble_eq_true rfl)) dX12_sum_15 ⟨by decide +kernel, by decide +kernel⟩) hS hc (fun r7 M8 H locs hr7 hw hS => ?_)
        obtain ⟨hI, hEM8, hr7⟩ := hr7
        have hE := hE.tr hEM8 (by decide)
        have mM8_60_63 : (M8.1 60 0 63).toInt = (M_lp.1 60 0 63).toInt := by rw [(hEM8 60 0 63 (by decide)).1]
        have mM8_60_66 : (M8.1 60 0 66).toInt = (M_lp.1 60 0 66).toInt := by rw [(hEM8 60 0 66 (by decide)).1]
        rcases hr7 with ⟨rfl, ahr7, bhr7, dhr7, ehr7, mhr7⟩ | ⟨rfl, ahr7, bhr7, dhr7, mhr7⟩
        · have ooM8 : (rt_adv T9 (s7)).2 < 0 → (M8.1 60 0 66).toInt = 2 := fun z => by have z9 := oo7 z; omega
          refine fx_if_eq (tgt := 31) hx hb dX12_sum_18 (by decide) zk_1 (fun c9 => by exfalso; omega) (fun c9 => ?_)
          refine lv_iload_n hx hb dX12_sum_21 rfl (lv_at hl 1 rfl) ?_
          refine lv_aload_n hx hb dX12_sum_22 rfl (lv_at hl 2 rfl) ?_
          have tk10 := rt_TMs hE (by decide) hTK
          have d11_63 := hI.bd (k := 0) bd_60_63
          have d11_64 := hI.bd (k := 0) bd_60_64
          have d11_65 := hI.bd (k := 0) bd_60_65
          have d11_66 := hI.bd (k := 0) bd_60_66
          refine fm_ci (va_runV (As := []) (rest := [.int lp_1]) ⟨hx, hb, hml, hown, hts⟩ (fc_X12_product_2 l D ad C nb M8 hI kc S9 B9 T9 (rt_adv T9 (s7)) (by omega) (by omega) tk10 mhr7 ooM8) (cwV 0 hts gX12_sum_X12_product rfl rfl rfl (by decide +kernel) ⟨Nat.le_of_ble_eq_true rfl, Nat.le_of_ble_eq_true rfl⟩) (fm_preV hc hw hS kl_60 sh_60 rfl) rfl rfl hl.1 rfl (lv_room (Nat.le_of_ble_eq_true rfl)) dX12_sum_23 ⟨by decide +kernel, by decide +kernel⟩) hS hc (fun r12 M13 H locs hr12 hw hS => ?_)
          obtain ⟨hI, hEM13, hr12⟩ := hr12
          have hE := hE.tr hEM13 (by decide)
          have mM13_60_63 : (M13.1 60 0 63).toInt = (M8.1 60 0 63).toInt := by rw [(hEM13 60 0 63 (by decide)).1]
          obtain ⟨ahr12, bhr12, dhr12, shr12, phr12, mhr12, ohr12⟩ := hr12
          refine fx_iaddU hx hb dX12_sum_26 (fun y14 ey14 => ?_)
          refine lv_istore_n (lv' := [(1, .int y14), (2, .int lp_2), (0, .ref (ad 60 0))]) hx hb dX12_sum_27 rfl hl (by decide) rfl (fun ls hl => ?_)
          refine lv_goto (tgt := 7) hx hb dX12_sum_28 (by decide) ?_
          exact ih_lp lp_2 y14 M13 (by omega) (by omega) (by omega) ⟨shr12, mhr12, ohr12, fun _ r h => hq7 (by omega) r (rt_PS_7y ⟨dhr7, Or.inl ehr7⟩ phr12 h), fun z => absurd z (by omega)⟩ hI hE _ _ hw hS ls (lv_sub hl [1, 0, 2] rfl)
        · have ooM8 : (s7).2 < 0 → (M8.1 60 0 66).toInt = 2 := fun z => by have z9 := oo7 z; omega
          refine fx_if_eq (tgt := 31) hx hb dX12_sum_18 (by decide) zk_0 (fun c15 => ?_) (fun c15 => by exfalso; omega)
          refine lv_aload_n hx hb dX12_sum_31 rfl (lv_at hl 2 rfl) ?_
          obtain ⟨q16, vq16, hQq16, hRq16⟩ := hc.2.2.2.2.1 (RX12, 396, "-", [45]) (by decide)
          refine va_ldcwS hx hb hown hRq16 dX12_sum_32 ?_
          have tk17 := rt_TMs hE (by decide) hTK
          refine fm_ci (va_runV (As := [.ref q16]) (rest := []) ⟨hx, hb, hml, hown, hts⟩ (fc_X12_take l D ad C nb M8 hI q16 vq16 1 (fun j => ([45] : List Int32).getD j 0) (by decide) kc S9 B9 T9 (s7) 45 (by omega) tk17 mhr7 rt_cd_45) (cwV 1 hts gX12_sum_X12_take rfl rfl rfl (by decide +kernel) ⟨Nat.le_of_ble_eq_true rfl, Nat.le_of_ble_eq_true rfl⟩) (fm_preVS hc hw hS hQq16 kl_60 sh_60 rfl) rfl rfl hl.1 rfl (lv_room (Nat.le_of_ble_eq_true rfl)) dX12_sum_35 ⟨by decide +kernel, by decide +kernel⟩) hS hc (fun r18 M19 H locs hr18 hw hS => ?_)
          obtain ⟨hI, hEM19, hr18⟩ := hr18
          have hE := hE.tr hEM19 (by decide)
          have mM19_60_63 : (M19.1 60 0 63).toInt = (M8.1 60 0 63).toInt := by rw [(hEM19 60 0 63 (by decide)).1]
          have mM19_60_66 : (M19.1 60 0 66).toInt = (M8.1 60 0 66).toInt := by rw [(hEM19 60 0 66 (by decide)).1]
          rcases hr18 with ⟨rfl, ahr18, bhr18, dhr18, ehr18, mhr18⟩ | ⟨rfl, ahr18, bhr18, dhr18, mhr18⟩
          · have ooM19 : (rt_adv T9 (s7)).2 < 0 → (M19.1 60 0 66).toInt = 2 := fun z => by have z9 := ooM8 z; omega
            refine fx_if_eq (tgt := 51) hx hb dX12_sum_38 (by decide) zk_1 (fun c20 => by exfalso; omega) (fun c20 => ?_)
            refine lv_iload_n hx hb dX12_sum_41 rfl (lv_at hl 1 rfl) ?_
            refine lv_aload_n hx hb dX12_sum_42 rfl (lv_at hl 2 rfl) ?_
            have tk21 := rt_TMs hE (by decide) hTK
            have d22_63 := hI.bd (k := 0) bd_60_63
            have d22_64 := hI.bd (k := 0) bd_60_64
            have d22_65 := hI.bd (k := 0) bd_60_65
            have d22_66 := hI.bd (k := 0) bd_60_66
            refine fm_ci (va_runV (As := []) (rest := [.int lp_1]) ⟨hx, hb, hml, hown, hts⟩ (fc_X12_product_2 l D ad C nb M19 hI kc S9 B9 T9 (rt_adv T9 (s7)) (by omega) (by omega) tk21 mhr18 ooM19) (cwV 0 hts gX12_sum_X12_product rfl rfl rfl (by decide +kernel) ⟨Nat.le_of_ble_eq_true rfl, Nat.le_of_ble_eq_true rfl⟩) (fm_preV hc hw hS kl_60 sh_60 rfl) rfl rfl hl.1 rfl (lv_room (Nat.le_of_ble_eq_true rfl)) dX12_sum_43 ⟨by decide +kernel, by decide +kernel⟩) hS hc (fun r23 M24 H locs hr23 hw hS => ?_)
            obtain ⟨hI, hEM24, hr23⟩ := hr23
            have hE := hE.tr hEM24 (by decide)
            have mM24_60_63 : (M24.1 60 0 63).toInt = (M19.1 60 0 63).toInt := by rw [(hEM24 60 0 63 (by decide)).1]
            obtain ⟨ahr23, bhr23, dhr23, shr23, phr23, mhr23, ohr23⟩ := hr23
            refine fx_isubU hx hb dX12_sum_46 (fun y25 ey25 => ?_)
            refine lv_istore_n (lv' := [(1, .int y25), (2, .int lp_2), (0, .ref (ad 60 0))]) hx hb dX12_sum_47 rfl hl (by decide) rfl (fun ls hl => ?_)
            refine lv_goto (tgt := 7) hx hb dX12_sum_48 (by decide) ?_
            exact ih_lp lp_2 y25 M24 (by omega) (by omega) (by omega) ⟨shr23, mhr23, ohr23, fun _ r h => hq7 (by omega) r (rt_PS_7y ⟨dhr18, Or.inr ehr18⟩ phr23 h), fun z => absurd z (by omega)⟩ hI hE _ _ hw hS ls (lv_sub hl [1, 0, 2] rfl)
          · have ooM19 : (s7).2 < 0 → (M19.1 60 0 66).toInt = 2 := fun z => by have z9 := ooM8 z; omega
            refine fx_if_eq (tgt := 51) hx hb dX12_sum_38 (by decide) zk_0 (fun c26 => ?_) (fun c26 => by exfalso; omega)
            refine lv_iconst (v := 0) hx hb dX12_sum_51 (by decide) ?_
            refine lv_istore_n (lv' := [(2, .int 0), (1, .int lp_1), (0, .ref (ad 60 0))]) hx hb dX12_sum_52 rfl hl (by decide) rfl (fun ls hl => ?_)
            refine lv_goto (tgt := 7) hx hb dX12_sum_53 (by decide) ?_
            exact ih_lp 0 lp_1 M19 (by have zlp_2 := zk_0; omega) (by decide) (by omega) ⟨s7, mhr18, ooM19, fun z => absurd z (by decide), fun _ => hq7 (by omega) _ (rt_PS_7n (by have za := dhr7; have zb := dhr18; omega))⟩ hI hE _ _ hw hS ls (lv_sub hl [0, 1, 2] rfl)
  exact lp _ 1 r2 M3 (Nat.lt_succ_self _) (by decide) (by omega) ⟨shr2, mhr2, ohr2, fun _ r h => rt_PS_6 phr2 h, fun z => absurd z (by decide)⟩ hI hE _ _ hw hS ls (lv_sub hl [0, 1, 2] rfl)
set_option maxHeartbeats 400000 in
set_option maxRecDepth 20000 in
theorem fc_X12_turned_2 (l : Launch) (D : va_G) (ad : Nat → Nat → Nat) (C : Nat → Nat → ClassId) (nb : Nat) (M : fm_M) (hI : fm_I nb ad M) (kc : Nat) (S9 B9 T9 : Nat → Int) (s9 : Nat × Int) (hft : (M.1 60 0 64).toInt ≤ (M.1 60 0 65).toInt) (hop : 2 ≤ (M.1 60 0 66).toInt) (hTK : rt_TM M kc S9 B9 T9) (hms : rt_ms kc S9 B9 M s9) (hoo : s9.2 < 0 → (M.1 60 0 66).toInt = 2) : Met l yX12_turned wsX12_turned ({ frames := 26, cells := 0, slots := 0, locals := 563 }) (va_Pc [.ref (ad 60 0)] (fm_P D ad C nb M)) (va_Qi (fun (r : Int32) (u : fm_M) => fm_I nb ad u ∧ fm_same [60064, 60065, 60066, 60067] M u ∧ ((M.1 60 0 64).toInt ≤ (u.1 60 0 64).toInt ∧ (M.1 60 0 66).toInt ≤ (u.1 60 0 66).toInt ∧ (u.1 60 0 64).toInt ≤ (u.1 60 0 65).toInt ∧ ∃ s8 : Nat × Int, rt_PS T9 S9 4 2 s9 s8 ∧ rt_ms kc S9 B9 u s8 ∧ (s8.2 < 0 → (u.1 60 0 66).toInt = 2))) (fun u t => fm_at D ad C nb u t.heap) (fm_A nb ad)) 0 0 (fm_A nb ad) := by
  refine Met.ofW (cc := cX12_turned) (maxL := 2) (ret := (some .int)) (by decide) rfl ?_
  intro p e s m args below meth c s₁ B hml hv
  obtain ⟨rfl, hw, hc⟩ := hv
  have hx := B.exec
  have hb := B.bytes
  have hr := B.returns
  have hts := atoms_spec (ws := wsX12_turned) B.pre
  have hown : s.vm.findClass RX12 = some m.cls := findClass_of_methodNamed B.named
  have hinX12 : ∀ w ∈ u_ws RX12 TX12 79, w ∈ wsX12_turned := fun w h => List.mem_cons_of_mem _ (iT_X12 w h)
  have hS : va_S (fm_A nb ad) s.heap s.heap [] := va_S.rf
  have hE : fm_same [60064, 60065, 60066, 60067] M M := fm_same.rf
  have hl := lv_entry ([.ref (ad 60 0)]) (n := 2) (Nat.le_of_ble_eq_true rfl)
  rw [lg_entry_eq]
  generalize (lg_sl ([.ref (ad 60 0)]) ++ List.replicate (2 - (lg_sl ([.ref (ad 60 0)])).length) Slot.unset).toArray = ls at hl ⊢
  have hl : lv_has ls 2 [(0, .ref (ad 60 0))] := hl
  refine lv_aload_n hx hb dX12_turned_0 rfl (lv_at hl 0 rfl) ?_
  refine fm_getI (a := 60) (j := 67) (T := TX12) (N := 79) hx hb hts hinX12 hown hc hw hI kl_60 sh_60 rfl (by decide) rfl bd_60_67 (hts (.fieldLink RX12 349 "RedTentModel" "fault" "I") (List.mem_cons_of_mem _ tw_5_187)) (fun _ h9 => h9) dX12_turned_1 (fun x1 ex1 bx1 => ?_)
  refine fx_if_lt (tgt := 9) hx hb dX12_turned_4 (by decide) rfl (fun c2 => ?_) (fun c2 => ?_)
  · have gh : s9.2 = x1.toInt := by rw [ex1]; exact hms.2.2.2.symm
    have hs0 : s9.2 < 0 := by omega
    have ho0 := hoo hs0
    refine lv_aload_n hx hb dX12_turned_9 rfl (lv_at hl 0 rfl) ?_
    obtain ⟨q3, vq3, hQq3, hRq3⟩ := hc.2.2.2.2.1 (RX12, 378, "not", [110, 111, 116]) (by decide)
    refine va_ldcwS hx hb hown hRq3 dX12_turned_10 ?_
    refine vp_callSi (va_Run.run (va_runV (As := [.ref q3]) (rest := []) ⟨hx, hb, hml, hown, hts⟩ (fc_X12_is l D ad C nb M hI q3 vq3 3 (fun j => ([110, 111, 116] : List Int32).getD j 0) (by decide) (rt_mto hTK hms) rt_cd_11.2.1) (cwV 1 hts gX12_turned_X12_is rfl rfl rfl (by decide +kernel) ⟨Nat.le_of_ble_eq_true rfl, Nat.le_of_ble_eq_true rfl⟩) (fm_preVS hc hw hS hQq3 kl_60 sh_60 rfl) rfl rfl hl.1 rfl (lv_room (Nat.le_of_ble_eq_true rfl)) dX12_turned_13 ⟨by decide +kernel, by decide +kernel⟩)) (fun r4 hr4 => ?_)
    rcases hr4 with ⟨rfl, chr4⟩ | ⟨rfl, chr4⟩
    · have sv5 := (rt_is hTK hms rt_cd_11).mp chr4
      refine fx_if_eq (tgt := 53) hx hb dX12_turned_16 (by decide) zk_1 (fun c6 => by exfalso; omega) (fun c6 => ?_)
      refine lv_aload_n hx hb dX12_turned_19 rfl (lv_at hl 0 rfl) ?_
      have hJ7 := hI
      refine fm_ci (va_runV (As := []) (rest := []) ⟨hx, hb, hml, hown, hts⟩ (fc_X12_opens l D ad C nb M hI kc S9 B9 T9 (s9) hTK hms) (cwV 0 hts gX12_turned_X12_opens rfl rfl rfl (by decide +kernel) ⟨Nat.le_of_ble_eq_true rfl, Nat.le_of_ble_eq_true rfl⟩) (fm_preV hc hw hS kl_60 sh_60 rfl) rfl rfl hl.1 rfl (lv_room (Nat.le_of_ble_eq_true rfl)) dX12_turned_20 ⟨by decide +kernel, by decide +kernel⟩) hS hc (fun r8 M9 H locs hr8 hw hS => ?_)
      obtain ⟨hI, hEM9, hr8⟩ := hr8
      have hE := hE.tr hEM9 (by decide)
      have mM9_60_63 : (M9.1 60 0 63).toInt = (M.1 60 0 63).toInt := by rw [(hEM9 60 0 63 (by decide)).1]
      rcases hr8 with ⟨rfl, ahr8, bhr8, dhr8, mhr8⟩ | ⟨rfl, zhr8, ahr8, bhr8, dhr8, mhr8⟩
      · have ooM9 : (rt_adv T9 (s9)).2 < 0 → (M9.1 60 0 66).toInt = 3 := fun z => by have z9 := hoo z; omega
        refine fx_if_ne (tgt := 28) hx hb dX12_turned_23 (by decide) zk_1 (fun c10 => ?_) (fun c10 => by exfalso; omega)
        refine lv_aload_n hx hb dX12_turned_28 rfl (lv_at hl 0 rfl) ?_
        have tk11 := rt_TMs hE (by decide) hTK
        have d12_63 := hI.bd (k := 0) bd_60_63
        have d12_64 := hI.bd (k := 0) bd_60_64
        have d12_65 := hI.bd (k := 0) bd_60_65
        have d12_66 := hI.bd (k := 0) bd_60_66
        refine fm_ci (va_runV (As := []) (rest := []) ⟨hx, hb, hml, hown, hts⟩ (fc_X12_turned_3 l D ad C nb M9 hI kc S9 B9 T9 (rt_adv T9 (s9)) (by omega) (by omega) tk11 mhr8 ooM9) (cwV 0 hts gX12_turned_X12_turned rfl rfl rfl (by decide +kernel) ⟨Nat.le_of_ble_eq_true rfl, Nat.le_of_ble_eq_true rfl⟩) (fm_preV hc hw hS kl_60 sh_60 rfl) rfl rfl hl.1 rfl (lv_room (Nat.le_of_ble_eq_true rfl)) dX12_turned_29 ⟨by decide +kernel, by decide +kernel⟩) hS hc (fun r13 M14 H locs hr13 hw hS => ?_)
        obtain ⟨hI, hEM14, hr13⟩ := hr13
        have hE := hE.tr hEM14 (by decide)
        have mM14_60_63 : (M14.1 60 0 63).toInt = (M9.1 60 0 63).toInt := by rw [(hEM14 60 0 63 (by decide)).1]
        obtain ⟨ahr13, bhr13, dhr13, shr13, phr13, mhr13, ohr13⟩ := hr13
        refine lv_istore_n (lv' := [(1, .int r13), (0, .ref (ad 60 0))]) hx hb dX12_turned_32 rfl hl (by decide) rfl (fun ls hl => ?_)
        refine lv_aload_n hx hb dX12_turned_33 rfl (lv_at hl 1 rfl) ?_
        refine lv_dup hx hb dX12_turned_34 rfl ?_
        refine fm_getI (a := 60) (j := 66) (T := TX12) (N := 79) hx hb hts hinX12 hown hc hw hI kl_60 sh_60 rfl (by decide) rfl bd_60_66 (hts (.fieldLink RX12 372 "RedTentModel" "open" "I") (List.mem_cons_of_mem _ tw_5_186)) (fun _ h9 => h9) dX12_turned_35 (fun x15 ex15 bx15 => ?_)
        have wx15 : x15.toInt = (M14.1 60 0 66).toInt := by rw [ex15]
        refine lv_iconst (v := 1) hx hb dX12_turned_38 (by decide) ?_
        refine fx_isub hx hb dX12_turned_39 rfl zk_1 (by omega) (fun y16 ey16 ty16 => ?_)
        refine fm_putI (a := 60) (j := 66) (T := TX12) (N := 79) hx hb hts hinX12 tyX12 tyX12_ok nmX12 hown hc hw hI hE hS kl_60 sh_60 od_60 rfl (by decide) rfl bd_60_66 (hts (.fieldLink RX12 372 "RedTentModel" "open" "I") (List.mem_cons_of_mem _ tw_5_186)) (fun _ h9 => h9) rfl (by decide +kernel) (by omega) (by decide) (by decide) dX12_turned_40 (fun M17 H locs eM17 hw hI hE hS => ?_)
        have mM17_60_63 : (M17.1 60 0 63).toInt = (M14.1 60 0 63).toInt := by rw [eM17, fm_wI_nj (fun z => absurd z.2.2 (by decide))]
        have mM17_60_64 : (M17.1 60 0 64).toInt = (M14.1 60 0 64).toInt := by rw [eM17, fm_wI_nj (fun z => absurd z.2.2 (by decide))]
        have mM17_60_65 : (M17.1 60 0 65).toInt = (M14.1 60 0 65).toInt := by rw [eM17, fm_wI_nj (fun z => absurd z.2.2 (by decide))]
        have mM17_60_66 : (M17.1 60 0 66).toInt = y16.toInt := by rw [eM17, fm_wI_at]
        have hEM17 : fm_same [60066] M14 M17 := by rw [eM17]; exact fm_same.rf.wI (by decide)
        have mwM17 := rt_ms_same hEM17 (by decide) mhr13
        have ooM17 : (shr13).2 < 0 → (M17.1 60 0 66).toInt = 2 := fun z => by have z9 := ohr13 z; omega
        refine lv_iload_n hx hb dX12_turned_43 rfl (lv_at hl 0 rfl) ?_
        refine fx_if_ne (tgt := 51) hx hb dX12_turned_44 (by decide) rfl (fun c18 => ?_) (fun c18 => ?_)
        · refine lv_iconst (v := 0) hx hb dX12_turned_51 (by decide) ?_
          exact W.iret (v := 0) hx hb hr (fun t ht hW => ⟨⟨0, M17, rfl, ⟨hI, hE, ⟨by omega, by omega, by omega, shr13, (rt_PS_4y ⟨hs0, sv5⟩ (by decide) phr13), mwM17, ooM17⟩⟩, by show fm_at D ad C nb _ t.heap; rw [ht]; exact hw⟩, hS.F ht⟩) hS.2.2 dX12_turned_52
        · refine lv_iconst (v := 1) hx hb dX12_turned_47 (by decide) ?_
          refine lv_goto (tgt := 52) hx hb dX12_turned_48 (by decide) ?_
          exact W.iret (v := 1) hx hb hr (fun t ht hW => ⟨⟨1, M17, rfl, ⟨hI, hE, ⟨by omega, by omega, by omega, shr13, (rt_PS_4y ⟨hs0, sv5⟩ (by decide) phr13), mwM17, ooM17⟩⟩, by show fm_at D ad C nb _ t.heap; rw [ht]; exact hw⟩, hS.F ht⟩) hS.2.2 dX12_turned_52
      · exfalso; omega
    · have sv19 : ¬ T9 (s9).1 = 11 := fun z => chr4 ((rt_is hTK hms rt_cd_11).mpr z)
      refine fx_if_eq (tgt := 53) hx hb dX12_turned_16 (by decide) zk_0 (fun c20 => ?_) (fun c20 => by exfalso; omega)
      refine lv_aload_n hx hb dX12_turned_53 rfl (lv_at hl 0 rfl) ?_
      have d21_63 := hI.bd (k := 0) bd_60_63
      have d21_64 := hI.bd (k := 0) bd_60_64
      have d21_65 := hI.bd (k := 0) bd_60_65
      have d21_66 := hI.bd (k := 0) bd_60_66
      refine fm_ci (va_runV (As := []) (rest := []) ⟨hx, hb, hml, hown, hts⟩ (fc_X12_sum_2 l D ad C nb M hI kc S9 B9 T9 (s9) (by omega) (by omega) hTK hms hoo) (cwV 0 hts gX12_turned_X12_sum rfl rfl rfl (by decide +kernel) ⟨Nat.le_of_ble_eq_true rfl, Nat.le_of_ble_eq_true rfl⟩) (fm_preV hc hw hS kl_60 sh_60 rfl) rfl rfl hl.1 rfl (lv_room (Nat.le_of_ble_eq_true rfl)) dX12_turned_54 ⟨by decide +kernel, by decide +kernel⟩) hS hc (fun r22 M23 H locs hr22 hw hS => ?_)
      obtain ⟨hI, hEM23, hr22⟩ := hr22
      have hE := hE.tr hEM23 (by decide)
      have mM23_60_63 : (M23.1 60 0 63).toInt = (M.1 60 0 63).toInt := by rw [(hEM23 60 0 63 (by decide)).1]
      obtain ⟨ahr22, bhr22, dhr22, shr22, phr22, mhr22, ohr22⟩ := hr22
      refine lv_istore_n (lv' := [(1, .int r22), (0, .ref (ad 60 0))]) hx hb dX12_turned_57 rfl hl (by decide) rfl (fun ls hl => ?_)
      refine lv_aload_n hx hb dX12_turned_58 rfl (lv_at hl 1 rfl) ?_
      obtain ⟨q24, vq24, hQq24, hRq24⟩ := hc.2.2.2.2.1 (RX12, 387, "<", [60]) (by decide)
      refine va_ldcwS hx hb hown hRq24 dX12_turned_59 ?_
      have tk25 := rt_TMs hE (by decide) hTK
      refine fm_ci (va_runV (As := [.ref q24]) (rest := []) ⟨hx, hb, hml, hown, hts⟩ (fc_X12_take l D ad C nb M23 hI q24 vq24 1 (fun j => ([60] : List Int32).getD j 0) (by decide) kc S9 B9 T9 (shr22) 60 (by omega) tk25 mhr22 rt_cd_60) (cwV 1 hts gX12_turned_X12_take rfl rfl rfl (by decide +kernel) ⟨Nat.le_of_ble_eq_true rfl, Nat.le_of_ble_eq_true rfl⟩) (fm_preVS hc hw hS hQq24 kl_60 sh_60 rfl) rfl rfl hl.1 rfl (lv_room (Nat.le_of_ble_eq_true rfl)) dX12_turned_62 ⟨by decide +kernel, by decide +kernel⟩) hS hc (fun r26 M27 H locs hr26 hw hS => ?_)
      obtain ⟨hI, hEM27, hr26⟩ := hr26
      have hE := hE.tr hEM27 (by decide)
      have mM27_60_63 : (M27.1 60 0 63).toInt = (M23.1 60 0 63).toInt := by rw [(hEM27 60 0 63 (by decide)).1]
      have mM27_60_66 : (M27.1 60 0 66).toInt = (M23.1 60 0 66).toInt := by rw [(hEM27 60 0 66 (by decide)).1]
      rcases hr26 with ⟨rfl, ahr26, bhr26, dhr26, ehr26, mhr26⟩ | ⟨rfl, ahr26, bhr26, dhr26, mhr26⟩
      · have ooM27 : (rt_adv T9 (shr22)).2 < 0 → (M27.1 60 0 66).toInt = 2 := fun z => by have z9 := ohr22 z; omega
        refine fx_if_eq (tgt := 82) hx hb dX12_turned_65 (by decide) zk_1 (fun c28 => by exfalso; omega) (fun c28 => ?_)
        refine lv_iload_n hx hb dX12_turned_68 rfl (lv_at hl 0 rfl) ?_
        refine lv_aload_n hx hb dX12_turned_69 rfl (lv_at hl 1 rfl) ?_
        have tk29 := rt_TMs hE (by decide) hTK
        have d30_63 := hI.bd (k := 0) bd_60_63
        have d30_64 := hI.bd (k := 0) bd_60_64
        have d30_65 := hI.bd (k := 0) bd_60_65
        have d30_66 := hI.bd (k := 0) bd_60_66
        refine fm_ci (va_runV (As := []) (rest := [.int r22]) ⟨hx, hb, hml, hown, hts⟩ (fc_X12_sum_2 l D ad C nb M27 hI kc S9 B9 T9 (rt_adv T9 (shr22)) (by omega) (by omega) tk29 mhr26 ooM27) (cwV 0 hts gX12_turned_X12_sum rfl rfl rfl (by decide +kernel) ⟨Nat.le_of_ble_eq_true rfl, Nat.le_of_ble_eq_true rfl⟩) (fm_preV hc hw hS kl_60 sh_60 rfl) rfl rfl hl.1 rfl (lv_room (Nat.le_of_ble_eq_true rfl)) dX12_turned_70 ⟨by decide +kernel, by decide +kernel⟩) hS hc (fun r31 M32 H locs hr31 hw hS => ?_)
        obtain ⟨hI, hEM32, hr31⟩ := hr31
        have hE := hE.tr hEM32 (by decide)
        have mM32_60_63 : (M32.1 60 0 63).toInt = (M27.1 60 0 63).toInt := by rw [(hEM32 60 0 63 (by decide)).1]
        obtain ⟨ahr31, bhr31, dhr31, shr31, phr31, mhr31, ohr31⟩ := hr31
        refine fx_icmp_ge (tgt := 80) hx hb dX12_turned_73 (by decide) rfl rfl (fun c33 => ?_) (fun c33 => ?_)
        · refine lv_iconst (v := 0) hx hb dX12_turned_80 (by decide) ?_
          exact W.iret (v := 0) hx hb hr (fun t ht hW => ⟨⟨0, M32, rfl, ⟨hI, hE, ⟨by omega, by omega, by omega, shr31, (rt_PS_4n (fun z => sv19 z.2) (rt_PS_5 phr22 (rt_PS_11y ⟨dhr26, Or.inl ehr26⟩ phr31))), mhr31, ohr31⟩⟩, by show fm_at D ad C nb _ t.heap; rw [ht]; exact hw⟩, hS.F ht⟩) hS.2.2 dX12_turned_81
        · refine lv_iconst (v := 1) hx hb dX12_turned_76 (by decide) ?_
          refine lv_goto (tgt := 81) hx hb dX12_turned_77 (by decide) ?_
          exact W.iret (v := 1) hx hb hr (fun t ht hW => ⟨⟨1, M32, rfl, ⟨hI, hE, ⟨by omega, by omega, by omega, shr31, (rt_PS_4n (fun z => sv19 z.2) (rt_PS_5 phr22 (rt_PS_11y ⟨dhr26, Or.inl ehr26⟩ phr31))), mhr31, ohr31⟩⟩, by show fm_at D ad C nb _ t.heap; rw [ht]; exact hw⟩, hS.F ht⟩) hS.2.2 dX12_turned_81
      · have ooM27 : (shr22).2 < 0 → (M27.1 60 0 66).toInt = 2 := fun z => by have z9 := ohr22 z; omega
        refine fx_if_eq (tgt := 82) hx hb dX12_turned_65 (by decide) zk_0 (fun c34 => ?_) (fun c34 => by exfalso; omega)
        refine lv_aload_n hx hb dX12_turned_82 rfl (lv_at hl 1 rfl) ?_
        obtain ⟨q35, vq35, hQq35, hRq35⟩ := hc.2.2.2.2.1 (RX12, 389, "=", [61]) (by decide)
        refine va_ldcwS hx hb hown hRq35 dX12_turned_83 ?_
        have tk36 := rt_TMs hE (by decide) hTK
        refine fm_ci (va_runV (As := [.ref q35]) (rest := []) ⟨hx, hb, hml, hown, hts⟩ (fc_X12_take l D ad C nb M27 hI q35 vq35 1 (fun j => ([61] : List Int32).getD j 0) (by decide) kc S9 B9 T9 (shr22) 61 (by omega) tk36 mhr26 rt_cd_61) (cwV 1 hts gX12_turned_X12_take rfl rfl rfl (by decide +kernel) ⟨Nat.le_of_ble_eq_true rfl, Nat.le_of_ble_eq_true rfl⟩) (fm_preVS hc hw hS hQq35 kl_60 sh_60 rfl) rfl rfl hl.1 rfl (lv_room (Nat.le_of_ble_eq_true rfl)) dX12_turned_86 ⟨by decide +kernel, by decide +kernel⟩) hS hc (fun r37 M38 H locs hr37 hw hS => ?_)
        obtain ⟨hI, hEM38, hr37⟩ := hr37
        have hE := hE.tr hEM38 (by decide)
        have mM38_60_63 : (M38.1 60 0 63).toInt = (M27.1 60 0 63).toInt := by rw [(hEM38 60 0 63 (by decide)).1]
        have mM38_60_66 : (M38.1 60 0 66).toInt = (M27.1 60 0 66).toInt := by rw [(hEM38 60 0 66 (by decide)).1]
        rcases hr37 with ⟨rfl, ahr37, bhr37, dhr37, ehr37, mhr37⟩ | ⟨rfl, ahr37, bhr37, dhr37, mhr37⟩
        · have ooM38 : (rt_adv T9 (shr22)).2 < 0 → (M38.1 60 0 66).toInt = 2 := fun z => by have z9 := ooM27 z; omega
          refine fx_if_eq (tgt := 106) hx hb dX12_turned_89 (by decide) zk_1 (fun c39 => by exfalso; omega) (fun c39 => ?_)
          refine lv_iload_n hx hb dX12_turned_92 rfl (lv_at hl 0 rfl) ?_
          refine lv_aload_n hx hb dX12_turned_93 rfl (lv_at hl 1 rfl) ?_
          have tk40 := rt_TMs hE (by decide) hTK
          have d41_63 := hI.bd (k := 0) bd_60_63
          have d41_64 := hI.bd (k := 0) bd_60_64
          have d41_65 := hI.bd (k := 0) bd_60_65
          have d41_66 := hI.bd (k := 0) bd_60_66
          refine fm_ci (va_runV (As := []) (rest := [.int r22]) ⟨hx, hb, hml, hown, hts⟩ (fc_X12_sum_2 l D ad C nb M38 hI kc S9 B9 T9 (rt_adv T9 (shr22)) (by omega) (by omega) tk40 mhr37 ooM38) (cwV 0 hts gX12_turned_X12_sum rfl rfl rfl (by decide +kernel) ⟨Nat.le_of_ble_eq_true rfl, Nat.le_of_ble_eq_true rfl⟩) (fm_preV hc hw hS kl_60 sh_60 rfl) rfl rfl hl.1 rfl (lv_room (Nat.le_of_ble_eq_true rfl)) dX12_turned_94 ⟨by decide +kernel, by decide +kernel⟩) hS hc (fun r42 M43 H locs hr42 hw hS => ?_)
          obtain ⟨hI, hEM43, hr42⟩ := hr42
          have hE := hE.tr hEM43 (by decide)
          have mM43_60_63 : (M43.1 60 0 63).toInt = (M38.1 60 0 63).toInt := by rw [(hEM43 60 0 63 (by decide)).1]
          obtain ⟨ahr42, bhr42, dhr42, shr42, phr42, mhr42, ohr42⟩ := hr42
          refine fx_icmp_ne (tgt := 104) hx hb dX12_turned_97 (by decide) rfl rfl (fun c44 => ?_) (fun c44 => ?_)
          · refine lv_iconst (v := 0) hx hb dX12_turned_104 (by decide) ?_
            exact W.iret (v := 0) hx hb hr (fun t ht hW => ⟨⟨0, M43, rfl, ⟨hI, hE, ⟨by omega, by omega, by omega, shr42, (rt_PS_4n (fun z => sv19 z.2) (rt_PS_5 phr22 (rt_PS_11y ⟨dhr37, Or.inr ehr37⟩ phr42))), mhr42, ohr42⟩⟩, by show fm_at D ad C nb _ t.heap; rw [ht]; exact hw⟩, hS.F ht⟩) hS.2.2 dX12_turned_105
          · refine lv_iconst (v := 1) hx hb dX12_turned_100 (by decide) ?_
            refine lv_goto (tgt := 105) hx hb dX12_turned_101 (by decide) ?_
            exact W.iret (v := 1) hx hb hr (fun t ht hW => ⟨⟨1, M43, rfl, ⟨hI, hE, ⟨by omega, by omega, by omega, shr42, (rt_PS_4n (fun z => sv19 z.2) (rt_PS_5 phr22 (rt_PS_11y ⟨dhr37, Or.inr ehr37⟩ phr42))), mhr42, ohr42⟩⟩, by show fm_at D ad C nb _ t.heap; rw [ht]; exact hw⟩, hS.F ht⟩) hS.2.2 dX12_turned_105
        · have ooM38 : (shr22).2 < 0 → (M38.1 60 0 66).toInt = 2 := fun z => by have z9 := ooM27 z; omega
          refine fx_if_eq (tgt := 106) hx hb dX12_turned_89 (by decide) zk_0 (fun c45 => ?_) (fun c45 => by exfalso; omega)
          refine lv_iload_n hx hb dX12_turned_106 rfl (lv_at hl 0 rfl) ?_
          exact W.iret (v := r22) hx hb hr (fun t ht hW => ⟨⟨r22, M38, rfl, ⟨hI, hE, ⟨by omega, by omega, by omega, shr22, (rt_PS_4n (fun z => sv19 z.2) (rt_PS_5 phr22 (rt_PS_11n (by have za := dhr26; have zb := dhr37; omega)))), mhr37, ooM38⟩⟩, by show fm_at D ad C nb _ t.heap; rw [ht]; exact hw⟩, hS.F ht⟩) hS.2.2 dX12_turned_107
  · refine lv_iconst (v := 0) hx hb dX12_turned_7 (by decide) ?_
    exact W.iret (v := 0) hx hb hr (fun t ht hW => ⟨⟨0, M, rfl, ⟨hI, hE, ⟨by omega, by omega, by omega, s9, (rt_PS_id (by rw [← hms.2.2.2, ← ex1]; omega) (by decide)), hms, hoo⟩⟩, by show fm_at D ad C nb _ t.heap; rw [ht]; exact hw⟩, hS.F ht⟩) hS.2.2 dX12_turned_8
set_option maxHeartbeats 400000 in
set_option maxRecDepth 20000 in
theorem fc_X12_both_2 (l : Launch) (D : va_G) (ad : Nat → Nat → Nat) (C : Nat → Nat → ClassId) (nb : Nat) (M : fm_M) (hI : fm_I nb ad M) (kc : Nat) (S9 B9 T9 : Nat → Int) (s9 : Nat × Int) (hft : (M.1 60 0 64).toInt ≤ (M.1 60 0 65).toInt) (hop : 2 ≤ (M.1 60 0 66).toInt) (hTK : rt_TM M kc S9 B9 T9) (hms : rt_ms kc S9 B9 M s9) (hoo : s9.2 < 0 → (M.1 60 0 66).toInt = 2) : Met l yX12_both wsX12_both ({ frames := 27, cells := 0, slots := 0, locals := 584 }) (va_Pc [.ref (ad 60 0)] (fm_P D ad C nb M)) (va_Qi (fun (r : Int32) (u : fm_M) => fm_I nb ad u ∧ fm_same [60064, 60065, 60066, 60067] M u ∧ ((M.1 60 0 64).toInt ≤ (u.1 60 0 64).toInt ∧ (M.1 60 0 66).toInt ≤ (u.1 60 0 66).toInt ∧ (u.1 60 0 64).toInt ≤ (u.1 60 0 65).toInt ∧ ∃ s8 : Nat × Int, rt_PS T9 S9 2 2 s9 s8 ∧ rt_ms kc S9 B9 u s8 ∧ (s8.2 < 0 → (u.1 60 0 66).toInt = 2))) (fun u t => fm_at D ad C nb u t.heap) (fm_A nb ad)) 0 0 (fm_A nb ad) := by
  refine Met.ofW (cc := cX12_both) (maxL := 3) (ret := (some .int)) (by decide) rfl ?_
  intro p e s m args below meth c s₁ B hml hv
  obtain ⟨rfl, hw, hc⟩ := hv
  have hx := B.exec
  have hb := B.bytes
  have hr := B.returns
  have hts := atoms_spec (ws := wsX12_both) B.pre
  have hown : s.vm.findClass RX12 = some m.cls := findClass_of_methodNamed B.named
  have hS : va_S (fm_A nb ad) s.heap s.heap [] := va_S.rf
  have hE : fm_same [60064, 60065, 60066, 60067] M M := fm_same.rf
  have hl := lv_entry ([.ref (ad 60 0)]) (n := 3) (Nat.le_of_ble_eq_true rfl)
  rw [lg_entry_eq]
  generalize (lg_sl ([.ref (ad 60 0)]) ++ List.replicate (3 - (lg_sl ([.ref (ad 60 0)])).length) Slot.unset).toArray = ls at hl ⊢
  have hl : lv_has ls 3 [(0, .ref (ad 60 0))] := hl
  refine lv_aload_n hx hb dX12_both_0 rfl (lv_at hl 0 rfl) ?_
  have d1_63 := hI.bd (k := 0) bd_60_63
  have d1_64 := hI.bd (k := 0) bd_60_64
  have d1_65 := hI.bd (k := 0) bd_60_65
  have d1_66 := hI.bd (k := 0) bd_60_66
  refine fm_ci (va_runV (As := []) (rest := []) ⟨hx, hb, hml, hown, hts⟩ (fc_X12_turned_2 l D ad C nb M hI kc S9 B9 T9 (s9) (by omega) (by omega) hTK hms hoo) (cwV 0 hts gX12_both_X12_turned rfl rfl rfl (by decide +kernel) ⟨Nat.le_of_ble_eq_true rfl, Nat.le_of_ble_eq_true rfl⟩) (fm_preV hc hw hS kl_60 sh_60 rfl) rfl rfl hl.1 rfl (lv_room (Nat.le_of_ble_eq_true rfl)) dX12_both_1 ⟨by decide +kernel, by decide +kernel⟩) hS hc (fun r2 M3 H locs hr2 hw hS => ?_)
  obtain ⟨hI, hEM3, hr2⟩ := hr2
  have hE := hE.tr hEM3 (by decide)
  have mM3_60_63 : (M3.1 60 0 63).toInt = (M.1 60 0 63).toInt := by rw [(hEM3 60 0 63 (by decide)).1]
  obtain ⟨ahr2, bhr2, dhr2, shr2, phr2, mhr2, ohr2⟩ := hr2
  refine lv_istore_n (lv' := [(1, .int r2), (0, .ref (ad 60 0))]) hx hb dX12_both_4 rfl hl (by decide) rfl (fun ls hl => ?_)
  have lp : ∀ (n_lp : Nat) (lp_1 : Int32) (M_lp : fm_M), (161 - (M_lp.1 60 0 64).toInt).toNat < n_lp → ((M.1 60 0 64).toInt ≤ (M_lp.1 60 0 64).toInt ∧ (M.1 60 0 66).toInt ≤ (M_lp.1 60 0 66).toInt ∧ (M_lp.1 60 0 64).toInt ≤ (M_lp.1 60 0 65).toInt) → (∃ s : Nat × Int, rt_ms kc S9 B9 M_lp s ∧ (s.2 < 0 → (M_lp.1 60 0 66).toInt = 2) ∧ ∀ r : Nat × Int, rt_PS T9 S9 3 2 s r → rt_PS T9 S9 2 2 s9 r) → fm_I nb ad M_lp → fm_same [60064, 60065, 60066, 60067] M M_lp → ∀ (H : Heap) (locs : List Loc), fm_at D ad C nb M_lp H → va_S (fm_A nb ad) s.heap H locs → ∀ (ls : Array Slot), lv_has ls 3 [(1, .int lp_1), (0, .ref (ad 60 0))] → W p l e (headSpec wsX12_both ({ frames := 27, cells := 0, slots := 0, locals := 584 })).room s m ([.ref (ad 60 0)] : List Value).toArray below meth c H locs 0 0 (MQ below (va_Qi (fun (r : Int32) (u : fm_M) => fm_I nb ad u ∧ fm_same [60064, 60065, 60066, 60067] M u ∧ ((M.1 60 0 64).toInt ≤ (u.1 60 0 64).toInt ∧ (M.1 60 0 66).toInt ≤ (u.1 60 0 66).toInt ∧ (u.1 60 0 64).toInt ≤ (u.1 60 0 65).toInt ∧ ∃ s8 : Nat × Int, rt_PS T9 S9 2 2 s9 s8 ∧ rt_ms kc S9 B9 u s8 ∧ (s8.2 < 0 → (u.1 60 0 66).toInt = 2))) (fun u t => fm_at D ad C nb u t.heap) (fm_A nb ad)) ([.ref (ad 60 0)] : List Value).toArray s 0 0 (fm_A nb ad)) (F0 m 5 ls []) := by
    intro n_lp
    induction n_lp with
    | zero => intro lp_1 M_lp hm_lp hv hq hI hE H locs hw hS ls hl; exact absurd hm_lp (Nat.not_lt_zero _)
    | succ n_lp ih_lp =>
      intro lp_1 M_lp hm_lp hv hq hI hE H locs hw hS ls hl
      obtain ⟨s7, ms7, oo7, hq7⟩ := hq
      refine lv_aload_n hx hb dX12_both_5 rfl (lv_at hl 1 rfl) ?_
      obtain ⟨q4, vq4, hQq4, hRq4⟩ := hc.2.2.2.2.1 (RX12, 370, "and", [97, 110, 100]) (by decide)
      refine va_ldcwS hx hb hown hRq4 dX12_both_6 ?_
      have tk5 := rt_TMs hE (by decide) hTK
      refine fm_ci (va_runV (As := [.ref q4]) (rest := []) ⟨hx, hb, hml, hown, hts⟩ (fc_X12_take l D ad C nb M_lp hI q4 vq4 3 (fun j => ([97, 110, 100] : List Int32).getD j 0) (by decide) kc S9 B9 T9 (s7) 10 (by omega) tk5 ms7 rt_cd_10) (cwV 1 hts gX12_both_X12_take rfl rfl rfl (by decide +kernel) ⟨Nat.le_of_ble_eq_true rfl, Nat.le_of_ble_eq_true rfl⟩) (fm_preVS hc hw hS hQq4 kl_60 sh_60 rfl) rfl rfl hl.1 rfl (lv_room (Nat.le_of_ble_eq_true rfl)) dX12_both_9 ⟨by decide +kernel, by decide +kernel⟩) hS hc (fun r6 M7 H locs hr6 hw hS => ?_)
      obtain ⟨hI, hEM7, hr6⟩ := hr6
      have hE := hE.tr hEM7 (by decide)
      have mM7_60_63 : (M7.1 60 0 63).toInt = (M_lp.1 60 0 63).toInt := by rw [(hEM7 60 0 63 (by decide)).1]
      have mM7_60_66 : (M7.1 60 0 66).toInt = (M_lp.1 60 0 66).toInt := by rw [(hEM7 60 0 66 (by decide)).1]
      rcases hr6 with ⟨rfl, ahr6, bhr6, dhr6, ehr6, mhr6⟩ | ⟨rfl, ahr6, bhr6, dhr6, mhr6⟩
      · have ooM7 : (rt_adv T9 (s7)).2 < 0 → (M7.1 60 0 66).toInt = 2 := fun z => by have z9 := oo7 z; omega
        refine fx_if_eq (tgt := 37) hx hb dX12_both_12 (by decide) zk_1 (fun c8 => by exfalso; omega) (fun c8 => ?_)
        refine lv_aload_n hx hb dX12_both_15 rfl (lv_at hl 1 rfl) ?_
        have tk9 := rt_TMs hE (by decide) hTK
        have d10_63 := hI.bd (k := 0) bd_60_63
        have d10_64 := hI.bd (k := 0) bd_60_64
        have d10_65 := hI.bd (k := 0) bd_60_65
        have d10_66 := hI.bd (k := 0) bd_60_66
        refine fm_ci (va_runV (As := []) (rest := []) ⟨hx, hb, hml, hown, hts⟩ (fc_X12_turned_2 l D ad C nb M7 hI kc S9 B9 T9 (rt_adv T9 (s7)) (by omega) (by omega) tk9 mhr6 ooM7) (cwV 0 hts gX12_both_X12_turned rfl rfl rfl (by decide +kernel) ⟨Nat.le_of_ble_eq_true rfl, Nat.le_of_ble_eq_true rfl⟩) (fm_preV hc hw hS kl_60 sh_60 rfl) rfl rfl hl.1 rfl (lv_room (Nat.le_of_ble_eq_true rfl)) dX12_both_16 ⟨by decide +kernel, by decide +kernel⟩) hS hc (fun r11 M12 H locs hr11 hw hS => ?_)
        obtain ⟨hI, hEM12, hr11⟩ := hr11
        have hE := hE.tr hEM12 (by decide)
        have mM12_60_63 : (M12.1 60 0 63).toInt = (M7.1 60 0 63).toInt := by rw [(hEM12 60 0 63 (by decide)).1]
        obtain ⟨ahr11, bhr11, dhr11, shr11, phr11, mhr11, ohr11⟩ := hr11
        refine lv_istore_n (lv' := [(2, .int r11), (1, .int lp_1), (0, .ref (ad 60 0))]) hx hb dX12_both_19 rfl hl (by decide) rfl (fun ls hl => ?_)
        refine lv_iload_n hx hb dX12_both_20 rfl (lv_at hl 1 rfl) ?_
        refine fx_if_eq (tgt := 32) hx hb dX12_both_21 (by decide) rfl (fun c13 => ?_) (fun c13 => ?_)
        · refine lv_iconst (v := 0) hx hb dX12_both_32 (by decide) ?_
          refine lv_istore_n (lv' := [(1, .int 0), (2, .int r11), (0, .ref (ad 60 0))]) hx hb dX12_both_33 rfl hl (by decide) rfl (fun ls hl => ?_)
          refine lv_goto (tgt := 5) hx hb dX12_both_34 (by decide) ?_
          exact ih_lp 0 M12 (by omega) (by omega) ⟨shr11, mhr11, ohr11, fun r h => hq7 r (rt_PS_3y ⟨dhr6, ehr6⟩ phr11 h)⟩ hI hE _ _ hw hS ls (lv_sub hl [0, 2] rfl)
        · refine lv_iload_n hx hb dX12_both_24 rfl (lv_at hl 0 rfl) ?_
          refine fx_if_eq (tgt := 32) hx hb dX12_both_25 (by decide) rfl (fun c14 => ?_) (fun c14 => ?_)
          · refine lv_iconst (v := 0) hx hb dX12_both_32 (by decide) ?_
            refine lv_istore_n (lv' := [(1, .int 0), (2, .int r11), (0, .ref (ad 60 0))]) hx hb dX12_both_33 rfl hl (by decide) rfl (fun ls hl => ?_)
            refine lv_goto (tgt := 5) hx hb dX12_both_34 (by decide) ?_
            exact ih_lp 0 M12 (by omega) (by omega) ⟨shr11, mhr11, ohr11, fun r h => hq7 r (rt_PS_3y ⟨dhr6, ehr6⟩ phr11 h)⟩ hI hE _ _ hw hS ls (lv_sub hl [0, 2] rfl)
          · refine lv_iconst (v := 1) hx hb dX12_both_28 (by decide) ?_
            refine lv_goto (tgt := 33) hx hb dX12_both_29 (by decide) ?_
            refine lv_istore_n (lv' := [(1, .int 1), (2, .int r11), (0, .ref (ad 60 0))]) hx hb dX12_both_33 rfl hl (by decide) rfl (fun ls hl => ?_)
            refine lv_goto (tgt := 5) hx hb dX12_both_34 (by decide) ?_
            exact ih_lp 1 M12 (by omega) (by omega) ⟨shr11, mhr11, ohr11, fun r h => hq7 r (rt_PS_3y ⟨dhr6, ehr6⟩ phr11 h)⟩ hI hE _ _ hw hS ls (lv_sub hl [0, 2] rfl)
      · have ooM7 : (s7).2 < 0 → (M7.1 60 0 66).toInt = 2 := fun z => by have z9 := oo7 z; omega
        refine fx_if_eq (tgt := 37) hx hb dX12_both_12 (by decide) zk_0 (fun c15 => ?_) (fun c15 => by exfalso; omega)
        refine lv_iload_n hx hb dX12_both_37 rfl (lv_at hl 0 rfl) ?_
        exact W.iret (v := lp_1) hx hb hr (fun t ht hW => ⟨⟨lp_1, M7, rfl, ⟨hI, hE, ⟨by omega, by omega, by omega, s7, (hq7 _ (rt_PS_3n dhr6)), mhr6, ooM7⟩⟩, by show fm_at D ad C nb _ t.heap; rw [ht]; exact hw⟩, hS.F ht⟩) hS.2.2 dX12_both_38
  exact lp _ r2 M3 (Nat.lt_succ_self _) (by omega) ⟨shr2, mhr2, ohr2, fun r h => rt_PS_2 phr2 h⟩ hI hE _ _ hw hS ls (lv_sub hl [0, 1] rfl)
set_option maxHeartbeats 400000 in
set_option maxRecDepth 20000 in
theorem fc_X12_either_2 (l : Launch) (D : va_G) (ad : Nat → Nat → Nat) (C : Nat → Nat → ClassId) (nb : Nat) (M : fm_M) (hI : fm_I nb ad M) (kc : Nat) (S9 B9 T9 : Nat → Int) (s9 : Nat × Int) (hft : (M.1 60 0 64).toInt ≤ (M.1 60 0 65).toInt) (hop : 2 ≤ (M.1 60 0 66).toInt) (hTK : rt_TM M kc S9 B9 T9) (hms : rt_ms kc S9 B9 M s9) (hoo : s9.2 < 0 → (M.1 60 0 66).toInt = 2) : Met l yX12_either wsX12_either ({ frames := 28, cells := 0, slots := 0, locals := 606 }) (va_Pc [.ref (ad 60 0)] (fm_P D ad C nb M)) (va_Qi (fun (r : Int32) (u : fm_M) => fm_I nb ad u ∧ fm_same [60064, 60065, 60066, 60067] M u ∧ ((M.1 60 0 64).toInt ≤ (u.1 60 0 64).toInt ∧ (M.1 60 0 66).toInt ≤ (u.1 60 0 66).toInt ∧ (u.1 60 0 64).toInt ≤ (u.1 60 0 65).toInt ∧ ∃ s8 : Nat × Int, rt_PS T9 S9 0 2 s9 s8 ∧ rt_ms kc S9 B9 u s8 ∧ (s8.2 < 0 → (u.1 60 0 66).toInt = 2))) (fun u t => fm_at D ad C nb u t.heap) (fm_A nb ad)) 0 0 (fm_A nb ad) := by
  refine Met.ofW (cc := cX12_either) (maxL := 3) (ret := (some .int)) (by decide) rfl ?_
  intro p e s m args below meth c s₁ B hml hv
  obtain ⟨rfl, hw, hc⟩ := hv
  have hx := B.exec
  have hb := B.bytes
  have hr := B.returns
  have hts := atoms_spec (ws := wsX12_either) B.pre
  have hown : s.vm.findClass RX12 = some m.cls := findClass_of_methodNamed B.named
  have hS : va_S (fm_A nb ad) s.heap s.heap [] := va_S.rf
  have hE : fm_same [60064, 60065, 60066, 60067] M M := fm_same.rf
  have hl := lv_entry ([.ref (ad 60 0)]) (n := 3) (Nat.le_of_ble_eq_true rfl)
  rw [lg_entry_eq]
  generalize (lg_sl ([.ref (ad 60 0)]) ++ List.replicate (3 - (lg_sl ([.ref (ad 60 0)])).length) Slot.unset).toArray = ls at hl ⊢
  have hl : lv_has ls 3 [(0, .ref (ad 60 0))] := hl
  refine lv_aload_n hx hb dX12_either_0 rfl (lv_at hl 0 rfl) ?_
  have d1_63 := hI.bd (k := 0) bd_60_63
  have d1_64 := hI.bd (k := 0) bd_60_64
  have d1_65 := hI.bd (k := 0) bd_60_65
  have d1_66 := hI.bd (k := 0) bd_60_66
  refine fm_ci (va_runV (As := []) (rest := []) ⟨hx, hb, hml, hown, hts⟩ (fc_X12_both_2 l D ad C nb M hI kc S9 B9 T9 (s9) (by omega) (by omega) hTK hms hoo) (cwV 0 hts gX12_either_X12_both rfl rfl rfl (by decide +kernel) ⟨Nat.le_of_ble_eq_true rfl, Nat.le_of_ble_eq_true rfl⟩) (fm_preV hc hw hS kl_60 sh_60 rfl) rfl rfl hl.1 rfl (lv_room (Nat.le_of_ble_eq_true rfl)) dX12_either_1 ⟨by decide +kernel, by decide +kernel⟩) hS hc (fun r2 M3 H locs hr2 hw hS => ?_)
  obtain ⟨hI, hEM3, hr2⟩ := hr2
  have hE := hE.tr hEM3 (by decide)
  have mM3_60_63 : (M3.1 60 0 63).toInt = (M.1 60 0 63).toInt := by rw [(hEM3 60 0 63 (by decide)).1]
  obtain ⟨ahr2, bhr2, dhr2, shr2, phr2, mhr2, ohr2⟩ := hr2
  refine lv_istore_n (lv' := [(1, .int r2), (0, .ref (ad 60 0))]) hx hb dX12_either_4 rfl hl (by decide) rfl (fun ls hl => ?_)
  have lp : ∀ (n_lp : Nat) (lp_1 : Int32) (M_lp : fm_M), (161 - (M_lp.1 60 0 64).toInt).toNat < n_lp → ((M.1 60 0 64).toInt ≤ (M_lp.1 60 0 64).toInt ∧ (M.1 60 0 66).toInt ≤ (M_lp.1 60 0 66).toInt ∧ (M_lp.1 60 0 64).toInt ≤ (M_lp.1 60 0 65).toInt) → (∃ s : Nat × Int, rt_ms kc S9 B9 M_lp s ∧ (s.2 < 0 → (M_lp.1 60 0 66).toInt = 2) ∧ ∀ r : Nat × Int, rt_PS T9 S9 1 2 s r → rt_PS T9 S9 0 2 s9 r) → fm_I nb ad M_lp → fm_same [60064, 60065, 60066, 60067] M M_lp → ∀ (H : Heap) (locs : List Loc), fm_at D ad C nb M_lp H → va_S (fm_A nb ad) s.heap H locs → ∀ (ls : Array Slot), lv_has ls 3 [(1, .int lp_1), (0, .ref (ad 60 0))] → W p l e (headSpec wsX12_either ({ frames := 28, cells := 0, slots := 0, locals := 606 })).room s m ([.ref (ad 60 0)] : List Value).toArray below meth c H locs 0 0 (MQ below (va_Qi (fun (r : Int32) (u : fm_M) => fm_I nb ad u ∧ fm_same [60064, 60065, 60066, 60067] M u ∧ ((M.1 60 0 64).toInt ≤ (u.1 60 0 64).toInt ∧ (M.1 60 0 66).toInt ≤ (u.1 60 0 66).toInt ∧ (u.1 60 0 64).toInt ≤ (u.1 60 0 65).toInt ∧ ∃ s8 : Nat × Int, rt_PS T9 S9 0 2 s9 s8 ∧ rt_ms kc S9 B9 u s8 ∧ (s8.2 < 0 → (u.1 60 0 66).toInt = 2))) (fun u t => fm_at D ad C nb u t.heap) (fm_A nb ad)) ([.ref (ad 60 0)] : List Value).toArray s 0 0 (fm_A nb ad)) (F0 m 5 ls []) := by
    intro n_lp
    induction n_lp with
    | zero => intro lp_1 M_lp hm_lp hv hq hI hE H locs hw hS ls hl; exact absurd hm_lp (Nat.not_lt_zero _)
    | succ n_lp ih_lp =>
      intro lp_1 M_lp hm_lp hv hq hI hE H locs hw hS ls hl
      obtain ⟨s7, ms7, oo7, hq7⟩ := hq
      refine lv_aload_n hx hb dX12_either_5 rfl (lv_at hl 1 rfl) ?_
      obtain ⟨q4, vq4, hQq4, hRq4⟩ := hc.2.2.2.2.1 (RX12, 362, "or", [111, 114]) (by decide)
      refine va_ldcwS hx hb hown hRq4 dX12_either_6 ?_
      have tk5 := rt_TMs hE (by decide) hTK
      refine fm_ci (va_runV (As := [.ref q4]) (rest := []) ⟨hx, hb, hml, hown, hts⟩ (fc_X12_take l D ad C nb M_lp hI q4 vq4 2 (fun j => ([111, 114] : List Int32).getD j 0) (by decide) kc S9 B9 T9 (s7) 9 (by omega) tk5 ms7 rt_cd_9) (cwV 1 hts gX12_either_X12_take rfl rfl rfl (by decide +kernel) ⟨Nat.le_of_ble_eq_true rfl, Nat.le_of_ble_eq_true rfl⟩) (fm_preVS hc hw hS hQq4 kl_60 sh_60 rfl) rfl rfl hl.1 rfl (lv_room (Nat.le_of_ble_eq_true rfl)) dX12_either_9 ⟨by decide +kernel, by decide +kernel⟩) hS hc (fun r6 M7 H locs hr6 hw hS => ?_)
      obtain ⟨hI, hEM7, hr6⟩ := hr6
      have hE := hE.tr hEM7 (by decide)
      have mM7_60_63 : (M7.1 60 0 63).toInt = (M_lp.1 60 0 63).toInt := by rw [(hEM7 60 0 63 (by decide)).1]
      have mM7_60_66 : (M7.1 60 0 66).toInt = (M_lp.1 60 0 66).toInt := by rw [(hEM7 60 0 66 (by decide)).1]
      rcases hr6 with ⟨rfl, ahr6, bhr6, dhr6, ehr6, mhr6⟩ | ⟨rfl, ahr6, bhr6, dhr6, mhr6⟩
      · have ooM7 : (rt_adv T9 (s7)).2 < 0 → (M7.1 60 0 66).toInt = 2 := fun z => by have z9 := oo7 z; omega
        refine fx_if_eq (tgt := 37) hx hb dX12_either_12 (by decide) zk_1 (fun c8 => by exfalso; omega) (fun c8 => ?_)
        refine lv_aload_n hx hb dX12_either_15 rfl (lv_at hl 1 rfl) ?_
        have tk9 := rt_TMs hE (by decide) hTK
        have d10_63 := hI.bd (k := 0) bd_60_63
        have d10_64 := hI.bd (k := 0) bd_60_64
        have d10_65 := hI.bd (k := 0) bd_60_65
        have d10_66 := hI.bd (k := 0) bd_60_66
        refine fm_ci (va_runV (As := []) (rest := []) ⟨hx, hb, hml, hown, hts⟩ (fc_X12_both_2 l D ad C nb M7 hI kc S9 B9 T9 (rt_adv T9 (s7)) (by omega) (by omega) tk9 mhr6 ooM7) (cwV 0 hts gX12_either_X12_both rfl rfl rfl (by decide +kernel) ⟨Nat.le_of_ble_eq_true rfl, Nat.le_of_ble_eq_true rfl⟩) (fm_preV hc hw hS kl_60 sh_60 rfl) rfl rfl hl.1 rfl (lv_room (Nat.le_of_ble_eq_true rfl)) dX12_either_16 ⟨by decide +kernel, by decide +kernel⟩) hS hc (fun r11 M12 H locs hr11 hw hS => ?_)
        obtain ⟨hI, hEM12, hr11⟩ := hr11
        have hE := hE.tr hEM12 (by decide)
        have mM12_60_63 : (M12.1 60 0 63).toInt = (M7.1 60 0 63).toInt := by rw [(hEM12 60 0 63 (by decide)).1]
        obtain ⟨ahr11, bhr11, dhr11, shr11, phr11, mhr11, ohr11⟩ := hr11
        refine lv_istore_n (lv' := [(2, .int r11), (1, .int lp_1), (0, .ref (ad 60 0))]) hx hb dX12_either_19 rfl hl (by decide) rfl (fun ls hl => ?_)
        refine lv_iload_n hx hb dX12_either_20 rfl (lv_at hl 1 rfl) ?_
        refine fx_if_ne (tgt := 28) hx hb dX12_either_21 (by decide) rfl (fun c13 => ?_) (fun c13 => ?_)
        · refine lv_iconst (v := 1) hx hb dX12_either_28 (by decide) ?_
          refine lv_goto (tgt := 33) hx hb dX12_either_29 (by decide) ?_
          refine lv_istore_n (lv' := [(1, .int 1), (2, .int r11), (0, .ref (ad 60 0))]) hx hb dX12_either_33 rfl hl (by decide) rfl (fun ls hl => ?_)
          refine lv_goto (tgt := 5) hx hb dX12_either_34 (by decide) ?_
          exact ih_lp 1 M12 (by omega) (by omega) ⟨shr11, mhr11, ohr11, fun r h => hq7 r (rt_PS_1y ⟨dhr6, ehr6⟩ phr11 h)⟩ hI hE _ _ hw hS ls (lv_sub hl [0, 2] rfl)
        · refine lv_iload_n hx hb dX12_either_24 rfl (lv_at hl 0 rfl) ?_
          refine fx_if_eq (tgt := 32) hx hb dX12_either_25 (by decide) rfl (fun c14 => ?_) (fun c14 => ?_)
          · refine lv_iconst (v := 0) hx hb dX12_either_32 (by decide) ?_
            refine lv_istore_n (lv' := [(1, .int 0), (2, .int r11), (0, .ref (ad 60 0))]) hx hb dX12_either_33 rfl hl (by decide) rfl (fun ls hl => ?_)
            refine lv_goto (tgt := 5) hx hb dX12_either_34 (by decide) ?_
            exact ih_lp 0 M12 (by omega) (by omega) ⟨shr11, mhr11, ohr11, fun r h => hq7 r (rt_PS_1y ⟨dhr6, ehr6⟩ phr11 h)⟩ hI hE _ _ hw hS ls (lv_sub hl [0, 2] rfl)
          · refine lv_iconst (v := 1) hx hb dX12_either_28 (by decide) ?_
            refine lv_goto (tgt := 33) hx hb dX12_either_29 (by decide) ?_
            refine lv_istore_n (lv' := [(1, .int 1), (2, .int r11), (0, .ref (ad 60 0))]) hx hb dX12_either_33 rfl hl (by decide) rfl (fun ls hl => ?_)
            refine lv_goto (tgt := 5) hx hb dX12_either_34 (by decide) ?_
            exact ih_lp 1 M12 (by omega) (by omega) ⟨shr11, mhr11, ohr11, fun r h => hq7 r (rt_PS_1y ⟨dhr6, ehr6⟩ phr11 h)⟩ hI hE _ _ hw hS ls (lv_sub hl [0, 2] rfl)
      · have ooM7 : (s7).2 < 0 → (M7.1 60 0 66).toInt = 2 := fun z => by have z9 := oo7 z; omega
        refine fx_if_eq (tgt := 37) hx hb dX12_either_12 (by decide) zk_0 (fun c15 => ?_) (fun c15 => by exfalso; omega)
        refine lv_iload_n hx hb dX12_either_37 rfl (lv_at hl 0 rfl) ?_
        exact W.iret (v := lp_1) hx hb hr (fun t ht hW => ⟨⟨lp_1, M7, rfl, ⟨hI, hE, ⟨by omega, by omega, by omega, s7, (hq7 _ (rt_PS_1n dhr6)), mhr6, ooM7⟩⟩, by show fm_at D ad C nb _ t.heap; rw [ht]; exact hw⟩, hS.F ht⟩) hS.2.2 dX12_either_38
  exact lp _ r2 M3 (Nat.lt_succ_self _) (by omega) ⟨shr2, mhr2, ohr2, fun r h => rt_PS_0 phr2 h⟩ hI hE _ _ hw hS ls (lv_sub hl [0, 1] rfl)
set_option maxHeartbeats 400000 in
set_option maxRecDepth 20000 in
theorem fc_X12_one_1 (l : Launch) (D : va_G) (ad : Nat → Nat → Nat) (C : Nat → Nat → ClassId) (nb : Nat) (M : fm_M) (hI : fm_I nb ad M) (kc : Nat) (S9 B9 T9 : Nat → Int) (s9 : Nat × Int) (hft : (M.1 60 0 64).toInt ≤ (M.1 60 0 65).toInt) (hop : 1 ≤ (M.1 60 0 66).toInt) (hTK : rt_TM M kc S9 B9 T9) (hms : rt_ms kc S9 B9 M s9) (hoo : s9.2 < 0 → (M.1 60 0 66).toInt = 1) : Met l yX12_one wsX12_one ({ frames := 29, cells := 0, slots := 0, locals := 628 }) (va_Pc [.ref (ad 60 0)] (fm_P D ad C nb M)) (va_Qi (fun (r : Int32) (u : fm_M) => fm_I nb ad u ∧ fm_same [60064, 60065, 60066, 60067] M u ∧ ((M.1 60 0 64).toInt ≤ (u.1 60 0 64).toInt ∧ (M.1 60 0 66).toInt ≤ (u.1 60 0 66).toInt ∧ (u.1 60 0 64).toInt ≤ (u.1 60 0 65).toInt ∧ ∃ s8 : Nat × Int, rt_PS T9 S9 10 1 s9 s8 ∧ rt_ms kc S9 B9 u s8 ∧ (s8.2 < 0 → (u.1 60 0 66).toInt = 1))) (fun u t => fm_at D ad C nb u t.heap) (fm_A nb ad)) 0 0 (fm_A nb ad) := by
  refine Met.ofW (cc := cX12_one) (maxL := 3) (ret := (some .int)) (by decide) rfl ?_
  intro p e s m args below meth c s₁ B hml hv
  obtain ⟨rfl, hw, hc⟩ := hv
  have hx := B.exec
  have hb := B.bytes
  have hr := B.returns
  have hts := atoms_spec (ws := wsX12_one) B.pre
  have hown : s.vm.findClass RX12 = some m.cls := findClass_of_methodNamed B.named
  have hinX12 : ∀ w ∈ u_ws RX12 TX12 79, w ∈ wsX12_one := fun w h => List.mem_cons_of_mem _ (iT_X12 w h)
  have hS : va_S (fm_A nb ad) s.heap s.heap [] := va_S.rf
  have hE : fm_same [60064, 60065, 60066, 60067] M M := fm_same.rf
  have hl := lv_entry ([.ref (ad 60 0)]) (n := 3) (Nat.le_of_ble_eq_true rfl)
  rw [lg_entry_eq]
  generalize (lg_sl ([.ref (ad 60 0)]) ++ List.replicate (3 - (lg_sl ([.ref (ad 60 0)])).length) Slot.unset).toArray = ls at hl ⊢
  have hl : lv_has ls 3 [(0, .ref (ad 60 0))] := hl
  refine lv_aload_n hx hb dX12_one_0 rfl (lv_at hl 0 rfl) ?_
  refine fm_getI (a := 60) (j := 67) (T := TX12) (N := 79) hx hb hts hinX12 hown hc hw hI kl_60 sh_60 rfl (by decide) rfl bd_60_67 (hts (.fieldLink RX12 349 "RedTentModel" "fault" "I") (List.mem_cons_of_mem _ tw_5_187)) (fun _ h9 => h9) dX12_one_1 (fun x1 ex1 bx1 => ?_)
  refine fx_if_lt (tgt := 9) hx hb dX12_one_4 (by decide) rfl (fun c2 => ?_) (fun c2 => ?_)
  · have gh : s9.2 = x1.toInt := by rw [ex1]; exact hms.2.2.2.symm
    have hs0 : s9.2 < 0 := by omega
    have ho0 := hoo hs0
    refine lv_aload_n hx hb dX12_one_9 rfl (lv_at hl 0 rfl) ?_
    obtain ⟨q3, vq3, hQq3, hRq3⟩ := hc.2.2.2.2.1 (RX12, 396, "-", [45]) (by decide)
    refine va_ldcwS hx hb hown hRq3 dX12_one_10 ?_
    refine vp_callSi (va_Run.run (va_runV (As := [.ref q3]) (rest := []) ⟨hx, hb, hml, hown, hts⟩ (fc_X12_is l D ad C nb M hI q3 vq3 1 (fun j => ([45] : List Int32).getD j 0) (by decide) (rt_mto hTK hms) rt_cd_45.2.1) (cwV 1 hts gX12_one_X12_is rfl rfl rfl (by decide +kernel) ⟨Nat.le_of_ble_eq_true rfl, Nat.le_of_ble_eq_true rfl⟩) (fm_preVS hc hw hS hQq3 kl_60 sh_60 rfl) rfl rfl hl.1 rfl (lv_room (Nat.le_of_ble_eq_true rfl)) dX12_one_13 ⟨by decide +kernel, by decide +kernel⟩)) (fun r4 hr4 => ?_)
    rcases hr4 with ⟨rfl, chr4⟩ | ⟨rfl, chr4⟩
    · have sv5 := (rt_is hTK hms rt_cd_45).mp chr4
      refine fx_if_eq (tgt := 46) hx hb dX12_one_16 (by decide) zk_1 (fun c6 => by exfalso; omega) (fun c6 => ?_)
      refine lv_aload_n hx hb dX12_one_19 rfl (lv_at hl 0 rfl) ?_
      have hJ7 := hI
      refine fm_ci (va_runV (As := []) (rest := []) ⟨hx, hb, hml, hown, hts⟩ (fc_X12_opens l D ad C nb M hI kc S9 B9 T9 (s9) hTK hms) (cwV 0 hts gX12_one_X12_opens rfl rfl rfl (by decide +kernel) ⟨Nat.le_of_ble_eq_true rfl, Nat.le_of_ble_eq_true rfl⟩) (fm_preV hc hw hS kl_60 sh_60 rfl) rfl rfl hl.1 rfl (lv_room (Nat.le_of_ble_eq_true rfl)) dX12_one_20 ⟨by decide +kernel, by decide +kernel⟩) hS hc (fun r8 M9 H locs hr8 hw hS => ?_)
      obtain ⟨hI, hEM9, hr8⟩ := hr8
      have hE := hE.tr hEM9 (by decide)
      have mM9_60_63 : (M9.1 60 0 63).toInt = (M.1 60 0 63).toInt := by rw [(hEM9 60 0 63 (by decide)).1]
      rcases hr8 with ⟨rfl, ahr8, bhr8, dhr8, mhr8⟩ | ⟨rfl, zhr8, ahr8, bhr8, dhr8, mhr8⟩
      · have ooM9 : (rt_adv T9 (s9)).2 < 0 → (M9.1 60 0 66).toInt = 2 := fun z => by have z9 := hoo z; omega
        refine fx_if_ne (tgt := 28) hx hb dX12_one_23 (by decide) zk_1 (fun c10 => ?_) (fun c10 => by exfalso; omega)
        refine lv_aload_n hx hb dX12_one_28 rfl (lv_at hl 0 rfl) ?_
        have tk11 := rt_TMs hE (by decide) hTK
        have d12_63 := hI.bd (k := 0) bd_60_63
        have d12_64 := hI.bd (k := 0) bd_60_64
        have d12_65 := hI.bd (k := 0) bd_60_65
        have d12_66 := hI.bd (k := 0) bd_60_66
        refine fm_ci (va_runV (As := []) (rest := []) ⟨hx, hb, hml, hown, hts⟩ (fc_X12_one_2 l D ad C nb M9 hI kc S9 B9 T9 (rt_adv T9 (s9)) (by omega) (by omega) tk11 mhr8 ooM9) (cwV 0 hts gX12_one_X12_one rfl rfl rfl (by decide +kernel) ⟨Nat.le_of_ble_eq_true rfl, Nat.le_of_ble_eq_true rfl⟩) (fm_preV hc hw hS kl_60 sh_60 rfl) rfl rfl hl.1 rfl (lv_room (Nat.le_of_ble_eq_true rfl)) dX12_one_29 ⟨by decide +kernel, by decide +kernel⟩) hS hc (fun r13 M14 H locs hr13 hw hS => ?_)
        obtain ⟨hI, hEM14, hr13⟩ := hr13
        have hE := hE.tr hEM14 (by decide)
        have mM14_60_63 : (M14.1 60 0 63).toInt = (M9.1 60 0 63).toInt := by rw [(hEM14 60 0 63 (by decide)).1]
        obtain ⟨ahr13, bhr13, dhr13, shr13, phr13, mhr13, ohr13⟩ := hr13
        refine lv_istore_n (lv' := [(1, .int r13), (0, .ref (ad 60 0))]) hx hb dX12_one_32 rfl hl (by decide) rfl (fun ls hl => ?_)
        refine lv_aload_n hx hb dX12_one_33 rfl (lv_at hl 1 rfl) ?_
        refine lv_dup hx hb dX12_one_34 rfl ?_
        refine fm_getI (a := 60) (j := 66) (T := TX12) (N := 79) hx hb hts hinX12 hown hc hw hI kl_60 sh_60 rfl (by decide) rfl bd_60_66 (hts (.fieldLink RX12 372 "RedTentModel" "open" "I") (List.mem_cons_of_mem _ tw_5_186)) (fun _ h9 => h9) dX12_one_35 (fun x15 ex15 bx15 => ?_)
        have wx15 : x15.toInt = (M14.1 60 0 66).toInt := by rw [ex15]
        refine lv_iconst (v := 1) hx hb dX12_one_38 (by decide) ?_
        refine fx_isub hx hb dX12_one_39 rfl zk_1 (by omega) (fun y16 ey16 ty16 => ?_)
        refine fm_putI (a := 60) (j := 66) (T := TX12) (N := 79) hx hb hts hinX12 tyX12 tyX12_ok nmX12 hown hc hw hI hE hS kl_60 sh_60 od_60 rfl (by decide) rfl bd_60_66 (hts (.fieldLink RX12 372 "RedTentModel" "open" "I") (List.mem_cons_of_mem _ tw_5_186)) (fun _ h9 => h9) rfl (by decide +kernel) (by omega) (by decide) (by decide) dX12_one_40 (fun M17 H locs eM17 hw hI hE hS => ?_)
        have mM17_60_63 : (M17.1 60 0 63).toInt = (M14.1 60 0 63).toInt := by rw [eM17, fm_wI_nj (fun z => absurd z.2.2 (by decide))]
        have mM17_60_64 : (M17.1 60 0 64).toInt = (M14.1 60 0 64).toInt := by rw [eM17, fm_wI_nj (fun z => absurd z.2.2 (by decide))]
        have mM17_60_65 : (M17.1 60 0 65).toInt = (M14.1 60 0 65).toInt := by rw [eM17, fm_wI_nj (fun z => absurd z.2.2 (by decide))]
        have mM17_60_66 : (M17.1 60 0 66).toInt = y16.toInt := by rw [eM17, fm_wI_at]
        have hEM17 : fm_same [60066] M14 M17 := by rw [eM17]; exact fm_same.rf.wI (by decide)
        have mwM17 := rt_ms_same hEM17 (by decide) mhr13
        have ooM17 : (shr13).2 < 0 → (M17.1 60 0 66).toInt = 1 := fun z => by have z9 := ohr13 z; omega
        refine lv_iload_n hx hb dX12_one_43 rfl (lv_at hl 0 rfl) ?_
        refine lv_ineg hx hb dX12_one_44 ?_
        refine lv_topi (fun y18 ey18 => ?_)
        exact W.iret (v := y18) hx hb hr (fun t ht hW => ⟨⟨y18, M17, rfl, ⟨hI, hE, ⟨by omega, by omega, by omega, shr13, (rt_PS_10m ⟨⟨hs0, sv5⟩, by decide⟩ phr13), mwM17, ooM17⟩⟩, by show fm_at D ad C nb _ t.heap; rw [ht]; exact hw⟩, hS.F ht⟩) hS.2.2 dX12_one_45
      · exfalso; omega
    · have sv19 : ¬ T9 (s9).1 = 45 := fun z => chr4 ((rt_is hTK hms rt_cd_45).mpr z)
      refine fx_if_eq (tgt := 46) hx hb dX12_one_16 (by decide) zk_0 (fun c20 => ?_) (fun c20 => by exfalso; omega)
      refine lv_aload_n hx hb dX12_one_46 rfl (lv_at hl 0 rfl) ?_
      obtain ⟨q21, vq21, hQq21, hRq21⟩ := hc.2.2.2.2.1 (RX12, 403, "(", [40]) (by decide)
      refine va_ldcwS hx hb hown hRq21 dX12_one_47 ?_
      refine vp_callSi (va_Run.run (va_runV (As := [.ref q21]) (rest := []) ⟨hx, hb, hml, hown, hts⟩ (fc_X12_is l D ad C nb M hI q21 vq21 1 (fun j => ([40] : List Int32).getD j 0) (by decide) (rt_mto hTK hms) rt_cd_40.2.1) (cwV 1 hts gX12_one_X12_is rfl rfl rfl (by decide +kernel) ⟨Nat.le_of_ble_eq_true rfl, Nat.le_of_ble_eq_true rfl⟩) (fm_preVS hc hw hS hQq21 kl_60 sh_60 rfl) rfl rfl hl.1 rfl (lv_room (Nat.le_of_ble_eq_true rfl)) dX12_one_50 ⟨by decide +kernel, by decide +kernel⟩)) (fun r22 hr22 => ?_)
      rcases hr22 with ⟨rfl, chr22⟩ | ⟨rfl, chr22⟩
      · have sv23 := (rt_is hTK hms rt_cd_40).mp chr22
        refine fx_if_eq (tgt := 97) hx hb dX12_one_53 (by decide) zk_1 (fun c24 => by exfalso; omega) (fun c24 => ?_)
        refine lv_aload_n hx hb dX12_one_56 rfl (lv_at hl 0 rfl) ?_
        have hJ25 := hI
        refine fm_ci (va_runV (As := []) (rest := []) ⟨hx, hb, hml, hown, hts⟩ (fc_X12_opens l D ad C nb M hI kc S9 B9 T9 (s9) hTK hms) (cwV 0 hts gX12_one_X12_opens rfl rfl rfl (by decide +kernel) ⟨Nat.le_of_ble_eq_true rfl, Nat.le_of_ble_eq_true rfl⟩) (fm_preV hc hw hS kl_60 sh_60 rfl) rfl rfl hl.1 rfl (lv_room (Nat.le_of_ble_eq_true rfl)) dX12_one_57 ⟨by decide +kernel, by decide +kernel⟩) hS hc (fun r26 M27 H locs hr26 hw hS => ?_)
        obtain ⟨hI, hEM27, hr26⟩ := hr26
        have hE := hE.tr hEM27 (by decide)
        have mM27_60_63 : (M27.1 60 0 63).toInt = (M.1 60 0 63).toInt := by rw [(hEM27 60 0 63 (by decide)).1]
        rcases hr26 with ⟨rfl, ahr26, bhr26, dhr26, mhr26⟩ | ⟨rfl, zhr26, ahr26, bhr26, dhr26, mhr26⟩
        · have ooM27 : (rt_adv T9 (s9)).2 < 0 → (M27.1 60 0 66).toInt = 2 := fun z => by have z9 := hoo z; omega
          refine fx_if_ne (tgt := 65) hx hb dX12_one_60 (by decide) zk_1 (fun c28 => ?_) (fun c28 => by exfalso; omega)
          refine lv_aload_n hx hb dX12_one_65 rfl (lv_at hl 0 rfl) ?_
          have tk29 := rt_TMs hE (by decide) hTK
          have d30_63 := hI.bd (k := 0) bd_60_63
          have d30_64 := hI.bd (k := 0) bd_60_64
          have d30_65 := hI.bd (k := 0) bd_60_65
          have d30_66 := hI.bd (k := 0) bd_60_66
          refine fm_ci (va_runV (As := []) (rest := []) ⟨hx, hb, hml, hown, hts⟩ (fc_X12_either_2 l D ad C nb M27 hI kc S9 B9 T9 (rt_adv T9 (s9)) (by omega) (by omega) tk29 mhr26 ooM27) (cwV 0 hts gX12_one_X12_either rfl rfl rfl (by decide +kernel) ⟨Nat.le_of_ble_eq_true rfl, Nat.le_of_ble_eq_true rfl⟩) (fm_preV hc hw hS kl_60 sh_60 rfl) rfl rfl hl.1 rfl (lv_room (Nat.le_of_ble_eq_true rfl)) dX12_one_66 ⟨by decide +kernel, by decide +kernel⟩) hS hc (fun r31 M32 H locs hr31 hw hS => ?_)
          obtain ⟨hI, hEM32, hr31⟩ := hr31
          have hE := hE.tr hEM32 (by decide)
          have mM32_60_63 : (M32.1 60 0 63).toInt = (M27.1 60 0 63).toInt := by rw [(hEM32 60 0 63 (by decide)).1]
          obtain ⟨ahr31, bhr31, dhr31, shr31, phr31, mhr31, ohr31⟩ := hr31
          refine lv_istore_n (lv' := [(1, .int r31), (0, .ref (ad 60 0))]) hx hb dX12_one_69 rfl hl (by decide) rfl (fun ls hl => ?_)
          refine lv_aload_n hx hb dX12_one_70 rfl (lv_at hl 1 rfl) ?_
          obtain ⟨q33, vq33, hQq33, hRq33⟩ := hc.2.2.2.2.1 (RX12, 408, ")", [41]) (by decide)
          refine va_ldcwS hx hb hown hRq33 dX12_one_71 ?_
          have tk34 := rt_TMs hE (by decide) hTK
          refine fm_ci (va_runV (As := [.ref q33]) (rest := []) ⟨hx, hb, hml, hown, hts⟩ (fc_X12_take l D ad C nb M32 hI q33 vq33 1 (fun j => ([41] : List Int32).getD j 0) (by decide) kc S9 B9 T9 (shr31) 41 (by omega) tk34 mhr31 rt_cd_41) (cwV 1 hts gX12_one_X12_take rfl rfl rfl (by decide +kernel) ⟨Nat.le_of_ble_eq_true rfl, Nat.le_of_ble_eq_true rfl⟩) (fm_preVS hc hw hS hQq33 kl_60 sh_60 rfl) rfl rfl hl.1 rfl (lv_room (Nat.le_of_ble_eq_true rfl)) dX12_one_74 ⟨by decide +kernel, by decide +kernel⟩) hS hc (fun r35 M36 H locs hr35 hw hS => ?_)
          obtain ⟨hI, hEM36, hr35⟩ := hr35
          have hE := hE.tr hEM36 (by decide)
          have mM36_60_63 : (M36.1 60 0 63).toInt = (M32.1 60 0 63).toInt := by rw [(hEM36 60 0 63 (by decide)).1]
          have mM36_60_66 : (M36.1 60 0 66).toInt = (M32.1 60 0 66).toInt := by rw [(hEM36 60 0 66 (by decide)).1]
          rcases hr35 with ⟨rfl, ahr35, bhr35, dhr35, ehr35, mhr35⟩ | ⟨rfl, ahr35, bhr35, dhr35, mhr35⟩
          · have ooM36 : (rt_adv T9 (shr31)).2 < 0 → (M36.1 60 0 66).toInt = 2 := fun z => by have z9 := ohr31 z; omega
            refine fx_if_ne (tgt := 85) hx hb dX12_one_77 (by decide) zk_1 (fun c37 => ?_) (fun c37 => by exfalso; omega)
            refine lv_aload_n hx hb dX12_one_85 rfl (lv_at hl 1 rfl) ?_
            refine lv_dup hx hb dX12_one_86 rfl ?_
            refine fm_getI (a := 60) (j := 66) (T := TX12) (N := 79) hx hb hts hinX12 hown hc hw hI kl_60 sh_60 rfl (by decide) rfl bd_60_66 (hts (.fieldLink RX12 372 "RedTentModel" "open" "I") (List.mem_cons_of_mem _ tw_5_186)) (fun _ h9 => h9) dX12_one_87 (fun x38 ex38 bx38 => ?_)
            have wx38 : x38.toInt = (M36.1 60 0 66).toInt := by rw [ex38]
            refine lv_iconst (v := 1) hx hb dX12_one_90 (by decide) ?_
            refine fx_isub hx hb dX12_one_91 rfl zk_1 (by omega) (fun y39 ey39 ty39 => ?_)
            refine fm_putI (a := 60) (j := 66) (T := TX12) (N := 79) hx hb hts hinX12 tyX12 tyX12_ok nmX12 hown hc hw hI hE hS kl_60 sh_60 od_60 rfl (by decide) rfl bd_60_66 (hts (.fieldLink RX12 372 "RedTentModel" "open" "I") (List.mem_cons_of_mem _ tw_5_186)) (fun _ h9 => h9) rfl (by decide +kernel) (by omega) (by decide) (by decide) dX12_one_92 (fun M40 H locs eM40 hw hI hE hS => ?_)
            have mM40_60_63 : (M40.1 60 0 63).toInt = (M36.1 60 0 63).toInt := by rw [eM40, fm_wI_nj (fun z => absurd z.2.2 (by decide))]
            have mM40_60_64 : (M40.1 60 0 64).toInt = (M36.1 60 0 64).toInt := by rw [eM40, fm_wI_nj (fun z => absurd z.2.2 (by decide))]
            have mM40_60_65 : (M40.1 60 0 65).toInt = (M36.1 60 0 65).toInt := by rw [eM40, fm_wI_nj (fun z => absurd z.2.2 (by decide))]
            have mM40_60_66 : (M40.1 60 0 66).toInt = y39.toInt := by rw [eM40, fm_wI_at]
            have hEM40 : fm_same [60066] M36 M40 := by rw [eM40]; exact fm_same.rf.wI (by decide)
            have mwM40 := rt_ms_same hEM40 (by decide) mhr35
            have ooM40 : (rt_adv T9 (shr31)).2 < 0 → (M40.1 60 0 66).toInt = 1 := fun z => by have z9 := ooM36 z; omega
            refine lv_iload_n hx hb dX12_one_95 rfl (lv_at hl 0 rfl) ?_
            exact W.iret (v := r31) hx hb hr (fun t ht hW => ⟨⟨r31, M40, rfl, ⟨hI, hE, ⟨by omega, by omega, by omega, rt_adv T9 (shr31), (by rw [← rt_need_y (S := S9) ⟨dhr35, ehr35⟩]; exact rt_PS_10b ⟨⟨hs0, sv23⟩, by decide⟩ phr31), mwM40, ooM40⟩⟩, by show fm_at D ad C nb _ t.heap; rw [ht]; exact hw⟩, hS.F ht⟩) hS.2.2 dX12_one_96
          · have ooM36 : (shr31).2 < 0 → (M36.1 60 0 66).toInt = 2 := fun z => by have z9 := ohr31 z; omega
            refine fx_if_ne (tgt := 85) hx hb dX12_one_77 (by decide) zk_0 (fun c41 => by exfalso; omega) (fun c41 => ?_)
            refine lv_aload_n hx hb dX12_one_80 rfl (lv_at hl 1 rfl) ?_
            have hJ42 := hI
            refine fm_ci (va_runV (As := []) (rest := []) ⟨hx, hb, hml, hown, hts⟩ (fc_X12_wrong l D ad C nb M36 hI kc S9 B9 (shr31) mhr35) (cwV 0 hts gX12_one_X12_wrong rfl rfl rfl (by decide +kernel) ⟨Nat.le_of_ble_eq_true rfl, Nat.le_of_ble_eq_true rfl⟩) (fm_preV hc hw hS kl_60 sh_60 rfl) rfl rfl hl.1 rfl (lv_room (Nat.le_of_ble_eq_true rfl)) dX12_one_81 ⟨by decide +kernel, by decide +kernel⟩) hS hc (fun r43 M44 H locs hr43 hw hS => ?_)
            obtain ⟨hI, hEM44, hr43⟩ := hr43
            have hE := hE.tr hEM44 (by decide)
            have mM44_60_63 : (M44.1 60 0 63).toInt = (M36.1 60 0 63).toInt := by rw [(hEM44 60 0 63 (by decide)).1]
            have mM44_60_64 : (M44.1 60 0 64).toInt = (M36.1 60 0 64).toInt := by rw [(hEM44 60 0 64 (by decide)).1]
            have mM44_60_65 : (M44.1 60 0 65).toInt = (M36.1 60 0 65).toInt := by rw [(hEM44 60 0 65 (by decide)).1]
            have mM44_60_66 : (M44.1 60 0 66).toInt = (M36.1 60 0 66).toInt := by rw [(hEM44 60 0 66 (by decide)).1]
            obtain ⟨bhr43, mhr43⟩ := hr43
            have ooM44 : (rt_fail S9 (shr31)).2 < 0 → (M44.1 60 0 66).toInt = 1 := rt_ms_f0 mhr35 (hJ42.bd (k := 0) bd_60_64).1
            exact W.iret (v := r43) hx hb hr (fun t ht hW => ⟨⟨r43, M44, rfl, ⟨hI, hE, ⟨by omega, by omega, by omega, rt_fail S9 (shr31), (by rw [← rt_need_n (S := S9) dhr35]; exact rt_PS_10b ⟨⟨hs0, sv23⟩, by decide⟩ phr31), mhr43, ooM44⟩⟩, by show fm_at D ad C nb _ t.heap; rw [ht]; exact hw⟩, hS.F ht⟩) hS.2.2 dX12_one_84
        · exfalso; omega
      · have sv45 : ¬ T9 (s9).1 = 40 := fun z => chr22 ((rt_is hTK hms rt_cd_40).mpr z)
        refine fx_if_eq (tgt := 97) hx hb dX12_one_53 (by decide) zk_0 (fun c46 => ?_) (fun c46 => by exfalso; omega)
        refine lv_aload_n hx hb dX12_one_97 rfl (lv_at hl 0 rfl) ?_
        refine lv_aload_n hx hb dX12_one_98 rfl (lv_at hl 0 rfl) ?_
        refine fm_getI (a := 60) (j := 64) (T := TX12) (N := 79) hx hb hts hinX12 hown hc hw hI kl_60 sh_60 rfl (by decide) rfl bd_60_64 (hts (.fieldLink RX12 340 "RedTentModel" "from" "I") (List.mem_cons_of_mem _ tw_5_184)) (fun _ h9 => h9) dX12_one_99 (fun x47 ex47 bx47 => ?_)
        have wx47 : x47.toInt = (M.1 60 0 64).toInt := by rw [ex47]
        refine vp_callSi (va_Run.run (va_runV (As := [.int x47]) (rest := []) ⟨hx, hb, hml, hown, hts⟩ (fc_X12_isDigit l D ad C nb M hI x47 (by omega)) (cwV 1 hts gX12_one_X12_isDigit rfl rfl rfl (by decide +kernel) ⟨Nat.le_of_ble_eq_true rfl, Nat.le_of_ble_eq_true rfl⟩) (fm_preV hc hw hS kl_60 sh_60 rfl) rfl rfl hl.1 rfl (lv_room (Nat.le_of_ble_eq_true rfl)) dX12_one_102 ⟨by decide +kernel, by decide +kernel⟩)) (fun r48 hr48 => ?_)
        have bqq49 := hI.bd (k := 0) bd_60_62
        have bqq50 := hI.bd (k := 0) bd_60_63
        rcases hr48 with ⟨rfl, c51⟩ | ⟨rfl, c51⟩
        · have g52 : x47.toInt = (M.1 60 0 64).toInt := by omega
          rw [g52] at c51
          have gd := rt_isd hTK hms c51
          refine fx_if_eq (tgt := 167) hx hb dX12_one_105 (by decide) zk_1 (fun c53 => by exfalso; omega) (fun c53 => ?_)
          refine lv_aload_n hx hb dX12_one_108 rfl (lv_at hl 0 rfl) ?_
          refine fm_getI (a := 60) (j := 65) (T := TX12) (N := 79) hx hb hts hinX12 hown hc hw hI kl_60 sh_60 rfl (by decide) rfl bd_60_65 (hts (.fieldLink RX12 337 "RedTentModel" "to" "I") (List.mem_cons_of_mem _ tw_5_185)) (fun _ h9 => h9) dX12_one_109 (fun x54 ex54 bx54 => ?_)
          have wx54 : x54.toInt = (M.1 60 0 65).toInt := by rw [ex54]
          refine lv_aload_n hx hb dX12_one_112 rfl (lv_at hl 0 rfl) ?_
          refine fm_getI (a := 60) (j := 64) (T := TX12) (N := 79) hx hb hts hinX12 hown hc hw hI kl_60 sh_60 rfl (by decide) rfl bd_60_64 (hts (.fieldLink RX12 340 "RedTentModel" "from" "I") (List.mem_cons_of_mem _ tw_5_184)) (fun _ h9 => h9) dX12_one_113 (fun x55 ex55 bx55 => ?_)
          have wx55 : x55.toInt = (M.1 60 0 64).toInt := by rw [ex55]
          obtain rfl : x47 = x55 := by rw [ex55]; exact ex47
          refine fx_isub hx hb dX12_one_116 rfl rfl (by omega) (fun y56 ey56 ty56 => ?_)
          refine lv_iconst (v := 4) hx hb dX12_one_117 (by decide) ?_
          refine fx_icmp_le (tgt := 126) hx hb dX12_one_118 (by decide) rfl zk_4 (fun c57 => ?_) (fun c57 => ?_)
          · refine lv_iconst (v := 0) hx hb dX12_one_126 (by decide) ?_
            refine lv_istore_n (lv' := [(1, .int 0), (0, .ref (ad 60 0))]) hx hb dX12_one_127 rfl hl (by decide) rfl (fun ls hl => ?_)
            refine lv_aload_n hx hb dX12_one_128 rfl (lv_at hl 1 rfl) ?_
            refine fm_getI (a := 60) (j := 64) (T := TX12) (N := 79) hx hb hts hinX12 hown hc hw hI kl_60 sh_60 rfl (by decide) rfl bd_60_64 (hts (.fieldLink RX12 340 "RedTentModel" "from" "I") (List.mem_cons_of_mem _ tw_5_184)) (fun _ h9 => h9) dX12_one_129 (fun x58 ex58 bx58 => ?_)
            have wx58 : x58.toInt = (M.1 60 0 64).toInt := by rw [ex58]
            obtain rfl : x47 = x58 := by rw [ex58]; exact ex47
            refine lv_istore_n (lv' := [(2, .int x47), (1, .int 0), (0, .ref (ad 60 0))]) hx hb dX12_one_132 rfl hl (by decide) rfl (fun ls hl => ?_)
            have lp : ∀ (n_lp : Nat) (lp_2 : Int32) (lp_1 : Int32), (160 - lp_2.toInt).toNat < n_lp → (0 ≤ lp_2.toInt ∧ lp_2.toInt ≤ 160) → ∀ (ls : Array Slot), lv_has ls 3 [(2, .int lp_2), (1, .int lp_1), (0, .ref (ad 60 0))] → W p l e (headSpec wsX12_one ({ frames := 29, cells := 0, slots := 0, locals := 628 })).room s m ([.ref (ad 60 0)] : List Value).toArray below meth c s.heap [] 0 0 (MQ below (va_Qi (fun (r : Int32) (u : fm_M) => fm_I nb ad u ∧ fm_same [60064, 60065, 60066, 60067] M u ∧ ((M.1 60 0 64).toInt ≤ (u.1 60 0 64).toInt ∧ (M.1 60 0 66).toInt ≤ (u.1 60 0 66).toInt ∧ (u.1 60 0 64).toInt ≤ (u.1 60 0 65).toInt ∧ ∃ s8 : Nat × Int, rt_PS T9 S9 10 1 s9 s8 ∧ rt_ms kc S9 B9 u s8 ∧ (s8.2 < 0 → (u.1 60 0 66).toInt = 1))) (fun u t => fm_at D ad C nb u t.heap) (fm_A nb ad)) ([.ref (ad 60 0)] : List Value).toArray s 0 0 (fm_A nb ad)) (F0 m 133 ls []) := by
              intro n_lp
              induction n_lp with
              | zero => intro lp_2 lp_1 hm_lp b_lp_2 ls hl; exact absurd hm_lp (Nat.not_lt_zero _)
              | succ n_lp ih_lp =>
                intro lp_2 lp_1 hm_lp b_lp_2 ls hl
                refine lv_iload_n hx hb dX12_one_133 rfl (lv_at hl 0 rfl) ?_
                refine lv_aload_n hx hb dX12_one_134 rfl (lv_at hl 2 rfl) ?_
                refine fm_getI (a := 60) (j := 65) (T := TX12) (N := 79) hx hb hts hinX12 hown hc hw hI kl_60 sh_60 rfl (by decide) rfl bd_60_65 (hts (.fieldLink RX12 337 "RedTentModel" "to" "I") (List.mem_cons_of_mem _ tw_5_185)) (fun _ h9 => h9) dX12_one_135 (fun x59 ex59 bx59 => ?_)
                have wx59 : x59.toInt = (M.1 60 0 65).toInt := by rw [ex59]
                obtain rfl : x54 = x59 := by rw [ex59]; exact ex54
                refine fx_icmp_ge (tgt := 161) hx hb dX12_one_138 (by decide) rfl rfl (fun c60 => ?_) (fun c60 => ?_)
                · refine lv_aload_n hx hb dX12_one_161 rfl (lv_at hl 2 rfl) ?_
                  refine fm_cv (va_runV (As := []) (rest := []) ⟨hx, hb, hml, hown, hts⟩ (fc_X12_next l D ad C nb M hI (rt_mto hTK hms)) (cwV 0 hts gX12_one_X12_next rfl rfl rfl (by decide +kernel) ⟨Nat.le_of_ble_eq_true rfl, Nat.le_of_ble_eq_true rfl⟩) (fm_preV hc hw hS kl_60 sh_60 rfl) rfl rfl hl.1 rfl (lv_room (Nat.le_of_ble_eq_true rfl)) dX12_one_162 ⟨by decide +kernel, by decide +kernel⟩) hS hc (fun M62 H locs hr61 hw hS => ?_)
                  obtain ⟨hI, hEM62, hr61⟩ := hr61
                  have hE := hE.tr hEM62 (by decide)
                  have mM62_60_63 : (M62.1 60 0 63).toInt = (M.1 60 0 63).toInt := by rw [(hEM62 60 0 63 (by decide)).1]
                  have mM62_60_66 : (M62.1 60 0 66).toInt = (M.1 60 0 66).toInt := by rw [(hEM62 60 0 66 (by decide)).1]
                  obtain ⟨ahr61, bhr61, nhr61⟩ := hr61
                  have mhr61 := rt_ms_next hTK hms nhr61 (hEM62 60 0 67 (by decide)).1
                  have ooM62 : (rt_adv T9 (s9)).2 < 0 → (M62.1 60 0 66).toInt = 1 := fun z => by have z9 := hoo z; omega
                  refine lv_iload_n hx hb dX12_one_165 rfl (lv_at hl 1 rfl) ?_
                  have qx47 : x47.toInt = (M.1 60 0 64).toInt := by rw [ex47]
                  exact W.iret (v := lp_1) hx hb hr (fun t ht hW => ⟨⟨lp_1, M62, rfl, ⟨hI, hE, ⟨by omega, by omega, by omega, rt_adv T9 (s9), (rt_PS_10v ⟨hs0, Or.inl (gd.1 (by omega))⟩), mhr61, ooM62⟩⟩, by show fm_at D ad C nb _ t.heap; rw [ht]; exact hw⟩, hS.F ht⟩) hS.2.2 dX12_one_166
                · refine lv_bipush (v := 10) hx hb dX12_one_141 (by decide) ?_
                  refine lv_iload_n hx hb dX12_one_143 rfl (lv_at hl 1 rfl) ?_
                  refine fx_imulU hx hb dX12_one_144 (fun y63 ey63 => ?_)
                  refine lv_aload_n hx hb dX12_one_145 rfl (lv_at hl 2 rfl) ?_
                  refine lv_iload_n hx hb dX12_one_146 rfl (lv_at hl 0 rfl) ?_
                  refine vp_callSi (va_Run.run (va_runV (As := [.int lp_2]) (rest := [.int y63]) ⟨hx, hb, hml, hown, hts⟩ (fc_X12_byteAt l D ad C nb M hI lp_2 (by omega)) (cwV 1 hts gX12_one_X12_byteAt rfl rfl rfl (by decide +kernel) ⟨Nat.le_of_ble_eq_true rfl, Nat.le_of_ble_eq_true rfl⟩) (fm_preV hc hw hS kl_60 sh_60 rfl) rfl rfl hl.1 rfl (lv_room (Nat.le_of_ble_eq_true rfl)) dX12_one_147 ⟨by decide +kernel, by decide +kernel⟩)) (fun r64 hr64 => ?_)
                  refine fx_iaddU hx hb dX12_one_150 (fun y65 ey65 => ?_)
                  refine lv_bipush (v := 48) hx hb dX12_one_151 (by decide) ?_
                  refine fx_isubU hx hb dX12_one_153 (fun y66 ey66 => ?_)
                  refine lv_istore_n (lv' := [(1, .int y66), (2, .int lp_2), (0, .ref (ad 60 0))]) hx hb dX12_one_154 rfl hl (by decide) rfl (fun ls hl => ?_)
                  obtain ⟨y67, ey67⟩ : ∃ y : Int32, y = lp_2 + 1 := ⟨_, rfl⟩
                  have ty67 : y67.toInt = lp_2.toInt + 1 := by rw [ey67, zi_add _ _ (by rw [zk_1]; omega) (by rw [zk_1]; omega), zk_1]
                  refine lv_iinc (v := y67) (lv' := [(2, .int y67), (1, .int y66), (0, .ref (ad 60 0))]) hx hb dX12_one_155 hl (k := 1) rfl (by rw [ey67]; rfl) (by decide) rfl (fun ls hl => ?_)
                  refine lv_goto (tgt := 133) hx hb dX12_one_158 (by decide) ?_
                  exact ih_lp y67 y66 (by omega) (by omega) ls (lv_sub hl [0, 1, 2] rfl)
            exact lp _ x47 0 (Nat.lt_succ_self _) (by omega) ls (lv_sub hl [0, 1, 2] rfl)
          · have ge := gd.2 (by omega)
            refine lv_aload_n hx hb dX12_one_121 rfl (lv_at hl 0 rfl) ?_
            have hJ68 := hI
            refine fm_ci (va_runV (As := []) (rest := []) ⟨hx, hb, hml, hown, hts⟩ (fc_X12_wrong l D ad C nb M hI kc S9 B9 (s9) hms) (cwV 0 hts gX12_one_X12_wrong rfl rfl rfl (by decide +kernel) ⟨Nat.le_of_ble_eq_true rfl, Nat.le_of_ble_eq_true rfl⟩) (fm_preV hc hw hS kl_60 sh_60 rfl) rfl rfl hl.1 rfl (lv_room (Nat.le_of_ble_eq_true rfl)) dX12_one_122 ⟨by decide +kernel, by decide +kernel⟩) hS hc (fun r69 M70 H locs hr69 hw hS => ?_)
            obtain ⟨hI, hEM70, hr69⟩ := hr69
            have hE := hE.tr hEM70 (by decide)
            have mM70_60_63 : (M70.1 60 0 63).toInt = (M.1 60 0 63).toInt := by rw [(hEM70 60 0 63 (by decide)).1]
            have mM70_60_64 : (M70.1 60 0 64).toInt = (M.1 60 0 64).toInt := by rw [(hEM70 60 0 64 (by decide)).1]
            have mM70_60_65 : (M70.1 60 0 65).toInt = (M.1 60 0 65).toInt := by rw [(hEM70 60 0 65 (by decide)).1]
            have mM70_60_66 : (M70.1 60 0 66).toInt = (M.1 60 0 66).toInt := by rw [(hEM70 60 0 66 (by decide)).1]
            obtain ⟨bhr69, mhr69⟩ := hr69
            have ooM70 : (rt_fail S9 (s9)).2 < 0 → (M70.1 60 0 66).toInt = 1 := rt_ms_f0 hms (hJ68.bd (k := 0) bd_60_64).1
            have qx47 : x47.toInt = (M.1 60 0 64).toInt := by rw [ex47]
            exact W.iret (v := r69) hx hb hr (fun t ht hW => ⟨⟨r69, M70, rfl, ⟨hI, hE, ⟨by omega, by omega, by omega, rt_fail S9 (s9), (rt_PS_10f (by omega)), mhr69, ooM70⟩⟩, by show fm_at D ad C nb _ t.heap; rw [ht]; exact hw⟩, hS.F ht⟩) hS.2.2 dX12_one_125
        · have g71 : x47.toInt = (M.1 60 0 64).toInt := by omega
          rw [g71] at c51
          have gd := rt_isn hTK hms c51
          refine fx_if_eq (tgt := 167) hx hb dX12_one_105 (by decide) zk_0 (fun c72 => ?_) (fun c72 => by exfalso; omega)
          have jt : ∀ (jt_1 : Int32), ((-1) ≤ jt_1.toInt ∧ jt_1.toInt ≤ 5) → ((jt_1.toInt < 0 ∧ ¬ (0 < T9 s9.1 ∧ T9 s9.1 ≤ 6)) ∨ (0 ≤ jt_1.toInt ∧ 0 < T9 s9.1 ∧ T9 s9.1 ≤ 6)) → ∀ (ls : Array Slot), lv_has ls 3 [(0, .ref (ad 60 0)), (1, .int jt_1)] → W p l e (headSpec wsX12_one ({ frames := 29, cells := 0, slots := 0, locals := 628 })).room s m ([.ref (ad 60 0)] : List Value).toArray below meth c s.heap [] 0 0 (MQ below (va_Qi (fun (r : Int32) (u : fm_M) => fm_I nb ad u ∧ fm_same [60064, 60065, 60066, 60067] M u ∧ ((M.1 60 0 64).toInt ≤ (u.1 60 0 64).toInt ∧ (M.1 60 0 66).toInt ≤ (u.1 60 0 66).toInt ∧ (u.1 60 0 64).toInt ≤ (u.1 60 0 65).toInt ∧ ∃ s8 : Nat × Int, rt_PS T9 S9 10 1 s9 s8 ∧ rt_ms kc S9 B9 u s8 ∧ (s8.2 < 0 → (u.1 60 0 66).toInt = 1))) (fun u t => fm_at D ad C nb u t.heap) (fm_A nb ad)) ([.ref (ad 60 0)] : List Value).toArray s 0 0 (fm_A nb ad)) (F0 m 253 ls []) := by
            intro jt_1 b_jt_1 hj ls hl
            refine lv_iload_n hx hb dX12_one_253 rfl (lv_at hl 1 rfl) ?_
            refine fx_if_ge (tgt := 262) hx hb dX12_one_254 (by decide) rfl (fun c73 => ?_) (fun c73 => ?_)
            · refine lv_aload_n hx hb dX12_one_262 rfl (lv_at hl 0 rfl) ?_
              refine fm_cv (va_runV (As := []) (rest := []) ⟨hx, hb, hml, hown, hts⟩ (fc_X12_next l D ad C nb M hI (rt_mto hTK hms)) (cwV 0 hts gX12_one_X12_next rfl rfl rfl (by decide +kernel) ⟨Nat.le_of_ble_eq_true rfl, Nat.le_of_ble_eq_true rfl⟩) (fm_preV hc hw hS kl_60 sh_60 rfl) rfl rfl hl.1 rfl (lv_room (Nat.le_of_ble_eq_true rfl)) dX12_one_263 ⟨by decide +kernel, by decide +kernel⟩) hS hc (fun M75 H locs hr74 hw hS => ?_)
              obtain ⟨hI, hEM75, hr74⟩ := hr74
              have hE := hE.tr hEM75 (by decide)
              have mM75_60_63 : (M75.1 60 0 63).toInt = (M.1 60 0 63).toInt := by rw [(hEM75 60 0 63 (by decide)).1]
              have mM75_60_66 : (M75.1 60 0 66).toInt = (M.1 60 0 66).toInt := by rw [(hEM75 60 0 66 (by decide)).1]
              obtain ⟨ahr74, bhr74, nhr74⟩ := hr74
              have mhr74 := rt_ms_next hTK hms nhr74 (hEM75 60 0 67 (by decide)).1
              have ooM75 : (rt_adv T9 (s9)).2 < 0 → (M75.1 60 0 66).toInt = 1 := fun z => by have z9 := hoo z; omega
              refine lv_aload_n hx hb dX12_one_266 rfl (lv_at hl 0 rfl) ?_
              refine fm_getG (a := 60) (j := 68) (T := TX12) (N := 79) hx hb hts hinX12 hown hc hw kl_60 sh_60 rfl (by decide) rfl (hI.to kl_60 tg_60_68) (hts (.fieldLink RX12 143 "RedTentModel" "names" "[I") (List.mem_cons_of_mem _ tw_5_188)) (fun _ h9 => h9) dX12_one_267 ?_
              refine lv_iload_n hx hb dX12_one_270 rfl (lv_at hl 1 rfl) ?_
              refine fm_iald (a := 168) hx hb hc hw hI kl_168 sh_168 ty_168 bd_168 (by omega) dX12_one_271 (fun x76 ex76 bx76 => ?_)
              have qx47 : x47.toInt = (M.1 60 0 64).toInt := by rw [ex47]
              exact W.iret (v := x76) hx hb hr (fun t ht hW => ⟨⟨x76, M75, rfl, ⟨hI, hE, ⟨by omega, by omega, by omega, rt_adv T9 (s9), (rt_PS_10v ⟨hs0, Or.inr (by rcases hj with ⟨hj, _⟩ | ⟨_, hj⟩; exfalso; omega; exact hj)⟩), mhr74, ooM75⟩⟩, by show fm_at D ad C nb _ t.heap; rw [ht]; exact hw⟩, hS.F ht⟩) hS.2.2 dX12_one_272
            · refine lv_aload_n hx hb dX12_one_257 rfl (lv_at hl 0 rfl) ?_
              have hJ77 := hI
              refine fm_ci (va_runV (As := []) (rest := []) ⟨hx, hb, hml, hown, hts⟩ (fc_X12_wrong l D ad C nb M hI kc S9 B9 (s9) hms) (cwV 0 hts gX12_one_X12_wrong rfl rfl rfl (by decide +kernel) ⟨Nat.le_of_ble_eq_true rfl, Nat.le_of_ble_eq_true rfl⟩) (fm_preV hc hw hS kl_60 sh_60 rfl) rfl rfl hl.1 rfl (lv_room (Nat.le_of_ble_eq_true rfl)) dX12_one_258 ⟨by decide +kernel, by decide +kernel⟩) hS hc (fun r78 M79 H locs hr78 hw hS => ?_)
              obtain ⟨hI, hEM79, hr78⟩ := hr78
              have hE := hE.tr hEM79 (by decide)
              have mM79_60_63 : (M79.1 60 0 63).toInt = (M.1 60 0 63).toInt := by rw [(hEM79 60 0 63 (by decide)).1]
              have mM79_60_64 : (M79.1 60 0 64).toInt = (M.1 60 0 64).toInt := by rw [(hEM79 60 0 64 (by decide)).1]
              have mM79_60_65 : (M79.1 60 0 65).toInt = (M.1 60 0 65).toInt := by rw [(hEM79 60 0 65 (by decide)).1]
              have mM79_60_66 : (M79.1 60 0 66).toInt = (M.1 60 0 66).toInt := by rw [(hEM79 60 0 66 (by decide)).1]
              obtain ⟨bhr78, mhr78⟩ := hr78
              have ooM79 : (rt_fail S9 (s9)).2 < 0 → (M79.1 60 0 66).toInt = 1 := rt_ms_f0 hms (hJ77.bd (k := 0) bd_60_64).1
              have qx47 : x47.toInt = (M.1 60 0 64).toInt := by rw [ex47]
              exact W.iret (v := r78) hx hb hr (fun t ht hW => ⟨⟨r78, M79, rfl, ⟨hI, hE, ⟨by omega, by omega, by omega, rt_fail S9 (s9), (rt_PS_10f (by rcases hj with ⟨_, hj⟩ | ⟨hj, _⟩ <;> omega)), mhr78, ooM79⟩⟩, by show fm_at D ad C nb _ t.heap; rw [ht]; exact hw⟩, hS.F ht⟩) hS.2.2 dX12_one_261
          refine lv_aload_n hx hb dX12_one_167 rfl (lv_at hl 0 rfl) ?_
          obtain ⟨q80, vq80, hQq80, hRq80⟩ := hc.2.2.2.2.1 (RX12, 410, "strength", [115, 116, 114, 101, 110, 103, 116, 104]) (by decide)
          refine va_ldcwS hx hb hown hRq80 dX12_one_168 ?_
          refine vp_callSi (va_Run.run (va_runV (As := [.ref q80]) (rest := []) ⟨hx, hb, hml, hown, hts⟩ (fc_X12_is l D ad C nb M hI q80 vq80 8 (fun j => ([115, 116, 114, 101, 110, 103, 116, 104] : List Int32).getD j 0) (by decide) (rt_mto hTK hms) rt_cd_1.2.1) (cwV 1 hts gX12_one_X12_is rfl rfl rfl (by decide +kernel) ⟨Nat.le_of_ble_eq_true rfl, Nat.le_of_ble_eq_true rfl⟩) (fm_preVS hc hw hS hQq80 kl_60 sh_60 rfl) rfl rfl hl.1 rfl (lv_room (Nat.le_of_ble_eq_true rfl)) dX12_one_171 ⟨by decide +kernel, by decide +kernel⟩)) (fun r81 hr81 => ?_)
          rcases hr81 with ⟨rfl, chr81⟩ | ⟨rfl, chr81⟩
          · have sv82 := (rt_is hTK hms rt_cd_1).mp chr81
            refine fx_if_eq (tgt := 181) hx hb dX12_one_174 (by decide) zk_1 (fun c83 => by exfalso; omega) (fun c83 => ?_)
            refine lv_iconst (v := 0) hx hb dX12_one_177 (by decide) ?_
            refine lv_goto (tgt := 252) hx hb dX12_one_178 (by decide) ?_
            refine lv_istore_n (lv' := [(1, .int 0), (0, .ref (ad 60 0))]) hx hb dX12_one_252 rfl hl (by decide) rfl (fun ls hl => ?_)
            exact jt 0 (by decide) (Or.inr ⟨by decide, by omega⟩) ls (lv_sub hl [1, 0] rfl)
          · have sv84 : ¬ T9 (s9).1 = 1 := fun z => chr81 ((rt_is hTK hms rt_cd_1).mpr z)
            refine fx_if_eq (tgt := 181) hx hb dX12_one_174 (by decide) zk_0 (fun c85 => ?_) (fun c85 => by exfalso; omega)
            refine lv_aload_n hx hb dX12_one_181 rfl (lv_at hl 0 rfl) ?_
            obtain ⟨q86, vq86, hQq86, hRq86⟩ := hc.2.2.2.2.1 (RX12, 411, "hurt", [104, 117, 114, 116]) (by decide)
            refine va_ldcwS hx hb hown hRq86 dX12_one_182 ?_
            refine vp_callSi (va_Run.run (va_runV (As := [.ref q86]) (rest := []) ⟨hx, hb, hml, hown, hts⟩ (fc_X12_is l D ad C nb M hI q86 vq86 4 (fun j => ([104, 117, 114, 116] : List Int32).getD j 0) (by decide) (rt_mto hTK hms) rt_cd_2.2.1) (cwV 1 hts gX12_one_X12_is rfl rfl rfl (by decide +kernel) ⟨Nat.le_of_ble_eq_true rfl, Nat.le_of_ble_eq_true rfl⟩) (fm_preVS hc hw hS hQq86 kl_60 sh_60 rfl) rfl rfl hl.1 rfl (lv_room (Nat.le_of_ble_eq_true rfl)) dX12_one_185 ⟨by decide +kernel, by decide +kernel⟩)) (fun r87 hr87 => ?_)
            rcases hr87 with ⟨rfl, chr87⟩ | ⟨rfl, chr87⟩
            · have sv88 := (rt_is hTK hms rt_cd_2).mp chr87
              refine fx_if_eq (tgt := 195) hx hb dX12_one_188 (by decide) zk_1 (fun c89 => by exfalso; omega) (fun c89 => ?_)
              refine lv_iconst (v := 1) hx hb dX12_one_191 (by decide) ?_
              refine lv_goto (tgt := 252) hx hb dX12_one_192 (by decide) ?_
              refine lv_istore_n (lv' := [(1, .int 1), (0, .ref (ad 60 0))]) hx hb dX12_one_252 rfl hl (by decide) rfl (fun ls hl => ?_)
              exact jt 1 (by decide) (Or.inr ⟨by decide, by omega⟩) ls (lv_sub hl [1, 0] rfl)
            · have sv90 : ¬ T9 (s9).1 = 2 := fun z => chr87 ((rt_is hTK hms rt_cd_2).mpr z)
              refine fx_if_eq (tgt := 195) hx hb dX12_one_188 (by decide) zk_0 (fun c91 => ?_) (fun c91 => by exfalso; omega)
              refine lv_aload_n hx hb dX12_one_195 rfl (lv_at hl 0 rfl) ?_
              obtain ⟨q92, vq92, hQq92, hRq92⟩ := hc.2.2.2.2.1 (RX12, 412, "skill", [115, 107, 105, 108, 108]) (by decide)
              refine va_ldcwS hx hb hown hRq92 dX12_one_196 ?_
              refine vp_callSi (va_Run.run (va_runV (As := [.ref q92]) (rest := []) ⟨hx, hb, hml, hown, hts⟩ (fc_X12_is l D ad C nb M hI q92 vq92 5 (fun j => ([115, 107, 105, 108, 108] : List Int32).getD j 0) (by decide) (rt_mto hTK hms) rt_cd_3.2.1) (cwV 1 hts gX12_one_X12_is rfl rfl rfl (by decide +kernel) ⟨Nat.le_of_ble_eq_true rfl, Nat.le_of_ble_eq_true rfl⟩) (fm_preVS hc hw hS hQq92 kl_60 sh_60 rfl) rfl rfl hl.1 rfl (lv_room (Nat.le_of_ble_eq_true rfl)) dX12_one_199 ⟨by decide +kernel, by decide +kernel⟩)) (fun r93 hr93 => ?_)
              rcases hr93 with ⟨rfl, chr93⟩ | ⟨rfl, chr93⟩
              · have sv94 := (rt_is hTK hms rt_cd_3).mp chr93
                refine fx_if_eq (tgt := 209) hx hb dX12_one_202 (by decide) zk_1 (fun c95 => by exfalso; omega) (fun c95 => ?_)
                refine lv_iconst (v := 2) hx hb dX12_one_205 (by decide) ?_
                refine lv_goto (tgt := 252) hx hb dX12_one_206 (by decide) ?_
                refine lv_istore_n (lv' := [(1, .int 2), (0, .ref (ad 60 0))]) hx hb dX12_one_252 rfl hl (by decide) rfl (fun ls hl => ?_)
                exact jt 2 (by decide) (Or.inr ⟨by decide, by omega⟩) ls (lv_sub hl [1, 0] rfl)
              · have sv96 : ¬ T9 (s9).1 = 3 := fun z => chr93 ((rt_is hTK hms rt_cd_3).mpr z)
                refine fx_if_eq (tgt := 209) hx hb dX12_one_202 (by decide) zk_0 (fun c97 => ?_) (fun c97 => by exfalso; omega)
                refine lv_aload_n hx hb dX12_one_209 rfl (lv_at hl 0 rfl) ?_
                obtain ⟨q98, vq98, hQq98, hRq98⟩ := hc.2.2.2.2.1 (RX12, 413, "hour", [104, 111, 117, 114]) (by decide)
                refine va_ldcwS hx hb hown hRq98 dX12_one_210 ?_
                refine vp_callSi (va_Run.run (va_runV (As := [.ref q98]) (rest := []) ⟨hx, hb, hml, hown, hts⟩ (fc_X12_is l D ad C nb M hI q98 vq98 4 (fun j => ([104, 111, 117, 114] : List Int32).getD j 0) (by decide) (rt_mto hTK hms) rt_cd_4.2.1) (cwV 1 hts gX12_one_X12_is rfl rfl rfl (by decide +kernel) ⟨Nat.le_of_ble_eq_true rfl, Nat.le_of_ble_eq_true rfl⟩) (fm_preVS hc hw hS hQq98 kl_60 sh_60 rfl) rfl rfl hl.1 rfl (lv_room (Nat.le_of_ble_eq_true rfl)) dX12_one_213 ⟨by decide +kernel, by decide +kernel⟩)) (fun r99 hr99 => ?_)
                rcases hr99 with ⟨rfl, chr99⟩ | ⟨rfl, chr99⟩
                · have sv100 := (rt_is hTK hms rt_cd_4).mp chr99
                  refine fx_if_eq (tgt := 223) hx hb dX12_one_216 (by decide) zk_1 (fun c101 => by exfalso; omega) (fun c101 => ?_)
                  refine lv_iconst (v := 3) hx hb dX12_one_219 (by decide) ?_
                  refine lv_goto (tgt := 252) hx hb dX12_one_220 (by decide) ?_
                  refine lv_istore_n (lv' := [(1, .int 3), (0, .ref (ad 60 0))]) hx hb dX12_one_252 rfl hl (by decide) rfl (fun ls hl => ?_)
                  exact jt 3 (by decide) (Or.inr ⟨by decide, by omega⟩) ls (lv_sub hl [1, 0] rfl)
                · have sv102 : ¬ T9 (s9).1 = 4 := fun z => chr99 ((rt_is hTK hms rt_cd_4).mpr z)
                  refine fx_if_eq (tgt := 223) hx hb dX12_one_216 (by decide) zk_0 (fun c103 => ?_) (fun c103 => by exfalso; omega)
                  refine lv_aload_n hx hb dX12_one_223 rfl (lv_at hl 0 rfl) ?_
                  obtain ⟨q104, vq104, hQq104, hRq104⟩ := hc.2.2.2.2.1 (RX12, 414, "fuel", [102, 117, 101, 108]) (by decide)
                  refine va_ldcwS hx hb hown hRq104 dX12_one_224 ?_
                  refine vp_callSi (va_Run.run (va_runV (As := [.ref q104]) (rest := []) ⟨hx, hb, hml, hown, hts⟩ (fc_X12_is l D ad C nb M hI q104 vq104 4 (fun j => ([102, 117, 101, 108] : List Int32).getD j 0) (by decide) (rt_mto hTK hms) rt_cd_5.2.1) (cwV 1 hts gX12_one_X12_is rfl rfl rfl (by decide +kernel) ⟨Nat.le_of_ble_eq_true rfl, Nat.le_of_ble_eq_true rfl⟩) (fm_preVS hc hw hS hQq104 kl_60 sh_60 rfl) rfl rfl hl.1 rfl (lv_room (Nat.le_of_ble_eq_true rfl)) dX12_one_227 ⟨by decide +kernel, by decide +kernel⟩)) (fun r105 hr105 => ?_)
                  rcases hr105 with ⟨rfl, chr105⟩ | ⟨rfl, chr105⟩
                  · have sv106 := (rt_is hTK hms rt_cd_5).mp chr105
                    refine fx_if_eq (tgt := 237) hx hb dX12_one_230 (by decide) zk_1 (fun c107 => by exfalso; omega) (fun c107 => ?_)
                    refine lv_iconst (v := 4) hx hb dX12_one_233 (by decide) ?_
                    refine lv_goto (tgt := 252) hx hb dX12_one_234 (by decide) ?_
                    refine lv_istore_n (lv' := [(1, .int 4), (0, .ref (ad 60 0))]) hx hb dX12_one_252 rfl hl (by decide) rfl (fun ls hl => ?_)
                    exact jt 4 (by decide) (Or.inr ⟨by decide, by omega⟩) ls (lv_sub hl [1, 0] rfl)
                  · have sv108 : ¬ T9 (s9).1 = 5 := fun z => chr105 ((rt_is hTK hms rt_cd_5).mpr z)
                    refine fx_if_eq (tgt := 237) hx hb dX12_one_230 (by decide) zk_0 (fun c109 => ?_) (fun c109 => by exfalso; omega)
                    refine lv_aload_n hx hb dX12_one_237 rfl (lv_at hl 0 rfl) ?_
                    obtain ⟨q110, vq110, hQq110, hRq110⟩ := hc.2.2.2.2.1 (RX12, 415, "far", [102, 97, 114]) (by decide)
                    refine va_ldcwS hx hb hown hRq110 dX12_one_238 ?_
                    refine vp_callSi (va_Run.run (va_runV (As := [.ref q110]) (rest := []) ⟨hx, hb, hml, hown, hts⟩ (fc_X12_is l D ad C nb M hI q110 vq110 3 (fun j => ([102, 97, 114] : List Int32).getD j 0) (by decide) (rt_mto hTK hms) rt_cd_6.2.1) (cwV 1 hts gX12_one_X12_is rfl rfl rfl (by decide +kernel) ⟨Nat.le_of_ble_eq_true rfl, Nat.le_of_ble_eq_true rfl⟩) (fm_preVS hc hw hS hQq110 kl_60 sh_60 rfl) rfl rfl hl.1 rfl (lv_room (Nat.le_of_ble_eq_true rfl)) dX12_one_241 ⟨by decide +kernel, by decide +kernel⟩)) (fun r111 hr111 => ?_)
                    rcases hr111 with ⟨rfl, chr111⟩ | ⟨rfl, chr111⟩
                    · have sv112 := (rt_is hTK hms rt_cd_6).mp chr111
                      refine fx_if_eq (tgt := 251) hx hb dX12_one_244 (by decide) zk_1 (fun c113 => by exfalso; omega) (fun c113 => ?_)
                      refine lv_iconst (v := 5) hx hb dX12_one_247 (by decide) ?_
                      refine lv_goto (tgt := 252) hx hb dX12_one_248 (by decide) ?_
                      refine lv_istore_n (lv' := [(1, .int 5), (0, .ref (ad 60 0))]) hx hb dX12_one_252 rfl hl (by decide) rfl (fun ls hl => ?_)
                      exact jt 5 (by decide) (Or.inr ⟨by decide, by omega⟩) ls (lv_sub hl [1, 0] rfl)
                    · have sv114 : ¬ T9 (s9).1 = 6 := fun z => chr111 ((rt_is hTK hms rt_cd_6).mpr z)
                      refine fx_if_eq (tgt := 251) hx hb dX12_one_244 (by decide) zk_0 (fun c115 => ?_) (fun c115 => by exfalso; omega)
                      refine lv_iconst (v := (-1)) hx hb dX12_one_251 (by decide) ?_
                      refine lv_istore_n (lv' := [(1, .int (-1)), (0, .ref (ad 60 0))]) hx hb dX12_one_252 rfl hl (by decide) rfl (fun ls hl => ?_)
                      exact jt (-1) (by decide) (Or.inl ⟨by decide, by omega⟩) ls (lv_sub hl [1, 0] rfl)
  · refine lv_iconst (v := 0) hx hb dX12_one_7 (by decide) ?_
    exact W.iret (v := 0) hx hb hr (fun t ht hW => ⟨⟨0, M, rfl, ⟨hI, hE, ⟨by omega, by omega, by omega, s9, (rt_PS_id (by rw [← hms.2.2.2, ← ex1]; omega) (by decide)), hms, hoo⟩⟩, by show fm_at D ad C nb _ t.heap; rw [ht]; exact hw⟩, hS.F ht⟩) hS.2.2 dX12_one_8
set_option maxHeartbeats 400000 in
set_option maxRecDepth 20000 in
theorem fc_X12_product_1 (l : Launch) (D : va_G) (ad : Nat → Nat → Nat) (C : Nat → Nat → ClassId) (nb : Nat) (M : fm_M) (hI : fm_I nb ad M) (kc : Nat) (S9 B9 T9 : Nat → Int) (s9 : Nat × Int) (hft : (M.1 60 0 64).toInt ≤ (M.1 60 0 65).toInt) (hop : 1 ≤ (M.1 60 0 66).toInt) (hTK : rt_TM M kc S9 B9 T9) (hms : rt_ms kc S9 B9 M s9) (hoo : s9.2 < 0 → (M.1 60 0 66).toInt = 1) : Met l yX12_product wsX12_product ({ frames := 30, cells := 0, slots := 0, locals := 650 }) (va_Pc [.ref (ad 60 0)] (fm_P D ad C nb M)) (va_Qi (fun (r : Int32) (u : fm_M) => fm_I nb ad u ∧ fm_same [60064, 60065, 60066, 60067] M u ∧ ((M.1 60 0 64).toInt ≤ (u.1 60 0 64).toInt ∧ (M.1 60 0 66).toInt ≤ (u.1 60 0 66).toInt ∧ (u.1 60 0 64).toInt ≤ (u.1 60 0 65).toInt ∧ ∃ s8 : Nat × Int, rt_PS T9 S9 8 1 s9 s8 ∧ rt_ms kc S9 B9 u s8 ∧ (s8.2 < 0 → (u.1 60 0 66).toInt = 1))) (fun u t => fm_at D ad C nb u t.heap) (fm_A nb ad)) 0 0 (fm_A nb ad) := by
  refine Met.ofW (cc := cX12_product) (maxL := 2) (ret := (some .int)) (by decide) rfl ?_
  intro p e s m args below meth c s₁ B hml hv
  obtain ⟨rfl, hw, hc⟩ := hv
  have hx := B.exec
  have hb := B.bytes
  have hr := B.returns
  have hts := atoms_spec (ws := wsX12_product) B.pre
  have hown : s.vm.findClass RX12 = some m.cls := findClass_of_methodNamed B.named
  have hS : va_S (fm_A nb ad) s.heap s.heap [] := va_S.rf
  have hE : fm_same [60064, 60065, 60066, 60067] M M := fm_same.rf
  have hl := lv_entry ([.ref (ad 60 0)]) (n := 2) (Nat.le_of_ble_eq_true rfl)
  rw [lg_entry_eq]
  generalize (lg_sl ([.ref (ad 60 0)]) ++ List.replicate (2 - (lg_sl ([.ref (ad 60 0)])).length) Slot.unset).toArray = ls at hl ⊢
  have hl : lv_has ls 2 [(0, .ref (ad 60 0))] := hl
  refine lv_aload_n hx hb dX12_product_0 rfl (lv_at hl 0 rfl) ?_
  have d1_63 := hI.bd (k := 0) bd_60_63
  have d1_64 := hI.bd (k := 0) bd_60_64
  have d1_65 := hI.bd (k := 0) bd_60_65
  have d1_66 := hI.bd (k := 0) bd_60_66
  refine fm_ci (va_runV (As := []) (rest := []) ⟨hx, hb, hml, hown, hts⟩ (fc_X12_one_1 l D ad C nb M hI kc S9 B9 T9 (s9) (by omega) (by omega) hTK hms hoo) (cwV 0 hts gX12_product_X12_one rfl rfl rfl (by decide +kernel) ⟨Nat.le_of_ble_eq_true rfl, Nat.le_of_ble_eq_true rfl⟩) (fm_preV hc hw hS kl_60 sh_60 rfl) rfl rfl hl.1 rfl (lv_room (Nat.le_of_ble_eq_true rfl)) dX12_product_1 ⟨by decide +kernel, by decide +kernel⟩) hS hc (fun r2 M3 H locs hr2 hw hS => ?_)
  obtain ⟨hI, hEM3, hr2⟩ := hr2
  have hE := hE.tr hEM3 (by decide)
  have mM3_60_63 : (M3.1 60 0 63).toInt = (M.1 60 0 63).toInt := by rw [(hEM3 60 0 63 (by decide)).1]
  obtain ⟨ahr2, bhr2, dhr2, shr2, phr2, mhr2, ohr2⟩ := hr2
  refine lv_istore_n (lv' := [(1, .int r2), (0, .ref (ad 60 0))]) hx hb dX12_product_4 rfl hl (by decide) rfl (fun ls hl => ?_)
  have lp : ∀ (n_lp : Nat) (lp_1 : Int32) (M_lp : fm_M), (161 - (M_lp.1 60 0 64).toInt).toNat < n_lp → ((M.1 60 0 64).toInt ≤ (M_lp.1 60 0 64).toInt ∧ (M.1 60 0 66).toInt ≤ (M_lp.1 60 0 66).toInt ∧ (M_lp.1 60 0 64).toInt ≤ (M_lp.1 60 0 65).toInt) → (∃ s : Nat × Int, rt_ms kc S9 B9 M_lp s ∧ (s.2 < 0 → (M_lp.1 60 0 66).toInt = 1) ∧ ∀ r : Nat × Int, rt_PS T9 S9 9 1 s r → rt_PS T9 S9 8 1 s9 r) → fm_I nb ad M_lp → fm_same [60064, 60065, 60066, 60067] M M_lp → ∀ (H : Heap) (locs : List Loc), fm_at D ad C nb M_lp H → va_S (fm_A nb ad) s.heap H locs → ∀ (ls : Array Slot), lv_has ls 2 [(1, .int lp_1), (0, .ref (ad 60 0))] → W p l e (headSpec wsX12_product ({ frames := 30, cells := 0, slots := 0, locals := 650 })).room s m ([.ref (ad 60 0)] : List Value).toArray below meth c H locs 0 0 (MQ below (va_Qi (fun (r : Int32) (u : fm_M) => fm_I nb ad u ∧ fm_same [60064, 60065, 60066, 60067] M u ∧ ((M.1 60 0 64).toInt ≤ (u.1 60 0 64).toInt ∧ (M.1 60 0 66).toInt ≤ (u.1 60 0 66).toInt ∧ (u.1 60 0 64).toInt ≤ (u.1 60 0 65).toInt ∧ ∃ s8 : Nat × Int, rt_PS T9 S9 8 1 s9 s8 ∧ rt_ms kc S9 B9 u s8 ∧ (s8.2 < 0 → (u.1 60 0 66).toInt = 1))) (fun u t => fm_at D ad C nb u t.heap) (fm_A nb ad)) ([.ref (ad 60 0)] : List Value).toArray s 0 0 (fm_A nb ad)) (F0 m 5 ls []) := by
    intro n_lp
    induction n_lp with
    | zero => intro lp_1 M_lp hm_lp hv hq hI hE H locs hw hS ls hl; exact absurd hm_lp (Nat.not_lt_zero _)
    | succ n_lp ih_lp =>
      intro lp_1 M_lp hm_lp hv hq hI hE H locs hw hS ls hl
      obtain ⟨s7, ms7, oo7, hq7⟩ := hq
      refine lv_aload_n hx hb dX12_product_5 rfl (lv_at hl 1 rfl) ?_
      obtain ⟨q4, vq4, hQq4, hRq4⟩ := hc.2.2.2.2.1 (RX12, 401, "*", [42]) (by decide)
      refine va_ldcwS hx hb hown hRq4 dX12_product_6 ?_
      have tk5 := rt_TMs hE (by decide) hTK
      refine fm_ci (va_runV (As := [.ref q4]) (rest := []) ⟨hx, hb, hml, hown, hts⟩ (fc_X12_take l D ad C nb M_lp hI q4 vq4 1 (fun j => ([42] : List Int32).getD j 0) (by decide) kc S9 B9 T9 (s7) 42 (by omega) tk5 ms7 rt_cd_42) (cwV 1 hts gX12_product_X12_take rfl rfl rfl (by decide +kernel) ⟨Nat.le_of_ble_eq_true rfl, Nat.le_of_ble_eq_true rfl⟩) (fm_preVS hc hw hS hQq4 kl_60 sh_60 rfl) rfl rfl hl.1 rfl (lv_room (Nat.le_of_ble_eq_true rfl)) dX12_product_9 ⟨by decide +kernel, by decide +kernel⟩) hS hc (fun r6 M7 H locs hr6 hw hS => ?_)
      obtain ⟨hI, hEM7, hr6⟩ := hr6
      have hE := hE.tr hEM7 (by decide)
      have mM7_60_63 : (M7.1 60 0 63).toInt = (M_lp.1 60 0 63).toInt := by rw [(hEM7 60 0 63 (by decide)).1]
      have mM7_60_66 : (M7.1 60 0 66).toInt = (M_lp.1 60 0 66).toInt := by rw [(hEM7 60 0 66 (by decide)).1]
      rcases hr6 with ⟨rfl, ahr6, bhr6, dhr6, ehr6, mhr6⟩ | ⟨rfl, ahr6, bhr6, dhr6, mhr6⟩
      · have ooM7 : (rt_adv T9 (s7)).2 < 0 → (M7.1 60 0 66).toInt = 1 := fun z => by have z9 := oo7 z; omega
        refine fx_if_eq (tgt := 25) hx hb dX12_product_12 (by decide) zk_1 (fun c8 => by exfalso; omega) (fun c8 => ?_)
        refine lv_iload_n hx hb dX12_product_15 rfl (lv_at hl 0 rfl) ?_
        refine lv_aload_n hx hb dX12_product_16 rfl (lv_at hl 1 rfl) ?_
        have tk9 := rt_TMs hE (by decide) hTK
        have d10_63 := hI.bd (k := 0) bd_60_63
        have d10_64 := hI.bd (k := 0) bd_60_64
        have d10_65 := hI.bd (k := 0) bd_60_65
        have d10_66 := hI.bd (k := 0) bd_60_66
        refine fm_ci (va_runV (As := []) (rest := [.int lp_1]) ⟨hx, hb, hml, hown, hts⟩ (fc_X12_one_1 l D ad C nb M7 hI kc S9 B9 T9 (rt_adv T9 (s7)) (by omega) (by omega) tk9 mhr6 ooM7) (cwV 0 hts gX12_product_X12_one rfl rfl rfl (by decide +kernel) ⟨Nat.le_of_ble_eq_true rfl, Nat.le_of_ble_eq_true rfl⟩) (fm_preV hc hw hS kl_60 sh_60 rfl) rfl rfl hl.1 rfl (lv_room (Nat.le_of_ble_eq_true rfl)) dX12_product_17 ⟨by decide +kernel, by decide +kernel⟩) hS hc (fun r11 M12 H locs hr11 hw hS => ?_)
        obtain ⟨hI, hEM12, hr11⟩ := hr11
        have hE := hE.tr hEM12 (by decide)
        have mM12_60_63 : (M12.1 60 0 63).toInt = (M7.1 60 0 63).toInt := by rw [(hEM12 60 0 63 (by decide)).1]
        obtain ⟨ahr11, bhr11, dhr11, shr11, phr11, mhr11, ohr11⟩ := hr11
        refine fx_imulU hx hb dX12_product_20 (fun y13 ey13 => ?_)
        refine lv_istore_n (lv' := [(1, .int y13), (0, .ref (ad 60 0))]) hx hb dX12_product_21 rfl hl (by decide) rfl (fun ls hl => ?_)
        refine lv_goto (tgt := 5) hx hb dX12_product_22 (by decide) ?_
        exact ih_lp y13 M12 (by omega) (by omega) ⟨shr11, mhr11, ohr11, fun r h => hq7 r (rt_PS_9y ⟨dhr6, ehr6⟩ phr11 h)⟩ hI hE _ _ hw hS ls (lv_sub hl [0, 1] rfl)
      · have ooM7 : (s7).2 < 0 → (M7.1 60 0 66).toInt = 1 := fun z => by have z9 := oo7 z; omega
        refine fx_if_eq (tgt := 25) hx hb dX12_product_12 (by decide) zk_0 (fun c14 => ?_) (fun c14 => by exfalso; omega)
        refine lv_iload_n hx hb dX12_product_25 rfl (lv_at hl 0 rfl) ?_
        exact W.iret (v := lp_1) hx hb hr (fun t ht hW => ⟨⟨lp_1, M7, rfl, ⟨hI, hE, ⟨by omega, by omega, by omega, s7, (hq7 _ (rt_PS_9n dhr6)), mhr6, ooM7⟩⟩, by show fm_at D ad C nb _ t.heap; rw [ht]; exact hw⟩, hS.F ht⟩) hS.2.2 dX12_product_26
  exact lp _ r2 M3 (Nat.lt_succ_self _) (by omega) ⟨shr2, mhr2, ohr2, fun r h => rt_PS_8 phr2 h⟩ hI hE _ _ hw hS ls (lv_sub hl [0, 1] rfl)
set_option maxHeartbeats 400000 in
set_option maxRecDepth 20000 in
theorem fc_X12_sum_1 (l : Launch) (D : va_G) (ad : Nat → Nat → Nat) (C : Nat → Nat → ClassId) (nb : Nat) (M : fm_M) (hI : fm_I nb ad M) (kc : Nat) (S9 B9 T9 : Nat → Int) (s9 : Nat × Int) (hft : (M.1 60 0 64).toInt ≤ (M.1 60 0 65).toInt) (hop : 1 ≤ (M.1 60 0 66).toInt) (hTK : rt_TM M kc S9 B9 T9) (hms : rt_ms kc S9 B9 M s9) (hoo : s9.2 < 0 → (M.1 60 0 66).toInt = 1) : Met l yX12_sum wsX12_sum ({ frames := 31, cells := 0, slots := 0, locals := 671 }) (va_Pc [.ref (ad 60 0)] (fm_P D ad C nb M)) (va_Qi (fun (r : Int32) (u : fm_M) => fm_I nb ad u ∧ fm_same [60064, 60065, 60066, 60067] M u ∧ ((M.1 60 0 64).toInt ≤ (u.1 60 0 64).toInt ∧ (M.1 60 0 66).toInt ≤ (u.1 60 0 66).toInt ∧ (u.1 60 0 64).toInt ≤ (u.1 60 0 65).toInt ∧ ∃ s8 : Nat × Int, rt_PS T9 S9 6 1 s9 s8 ∧ rt_ms kc S9 B9 u s8 ∧ (s8.2 < 0 → (u.1 60 0 66).toInt = 1))) (fun u t => fm_at D ad C nb u t.heap) (fm_A nb ad)) 0 0 (fm_A nb ad) := by
  refine Met.ofW (cc := cX12_sum) (maxL := 3) (ret := (some .int)) (by decide) rfl ?_
  intro p e s m args below meth c s₁ B hml hv
  obtain ⟨rfl, hw, hc⟩ := hv
  have hx := B.exec
  have hb := B.bytes
  have hr := B.returns
  have hts := atoms_spec (ws := wsX12_sum) B.pre
  have hown : s.vm.findClass RX12 = some m.cls := findClass_of_methodNamed B.named
  have hS : va_S (fm_A nb ad) s.heap s.heap [] := va_S.rf
  have hE : fm_same [60064, 60065, 60066, 60067] M M := fm_same.rf
  have hl := lv_entry ([.ref (ad 60 0)]) (n := 3) (Nat.le_of_ble_eq_true rfl)
  rw [lg_entry_eq]
  generalize (lg_sl ([.ref (ad 60 0)]) ++ List.replicate (3 - (lg_sl ([.ref (ad 60 0)])).length) Slot.unset).toArray = ls at hl ⊢
  have hl : lv_has ls 3 [(0, .ref (ad 60 0))] := hl
  refine lv_aload_n hx hb dX12_sum_0 rfl (lv_at hl 0 rfl) ?_
  have d1_63 := hI.bd (k := 0) bd_60_63
  have d1_64 := hI.bd (k := 0) bd_60_64
  have d1_65 := hI.bd (k := 0) bd_60_65
  have d1_66 := hI.bd (k := 0) bd_60_66
  refine fm_ci (va_runV (As := []) (rest := []) ⟨hx, hb, hml, hown, hts⟩ (fc_X12_product_1 l D ad C nb M hI kc S9 B9 T9 (s9) (by omega) (by omega) hTK hms hoo) (cwV 0 hts gX12_sum_X12_product rfl rfl rfl (by decide +kernel) ⟨Nat.le_of_ble_eq_true rfl, Nat.le_of_ble_eq_true rfl⟩) (fm_preV hc hw hS kl_60 sh_60 rfl) rfl rfl hl.1 rfl (lv_room (Nat.le_of_ble_eq_true rfl)) dX12_sum_1 ⟨by decide +kernel, by decide +kernel⟩) hS hc (fun r2 M3 H locs hr2 hw hS => ?_)
  obtain ⟨hI, hEM3, hr2⟩ := hr2
  have hE := hE.tr hEM3 (by decide)
  have mM3_60_63 : (M3.1 60 0 63).toInt = (M.1 60 0 63).toInt := by rw [(hEM3 60 0 63 (by decide)).1]
  obtain ⟨ahr2, bhr2, dhr2, shr2, phr2, mhr2, ohr2⟩ := hr2
  refine lv_istore_n (lv' := [(1, .int r2), (0, .ref (ad 60 0))]) hx hb dX12_sum_4 rfl hl (by decide) rfl (fun ls hl => ?_)
  refine lv_iconst (v := 1) hx hb dX12_sum_5 (by decide) ?_
  refine lv_istore_n (lv' := [(2, .int 1), (1, .int r2), (0, .ref (ad 60 0))]) hx hb dX12_sum_6 rfl hl (by decide) rfl (fun ls hl => ?_)
  have lp : ∀ (n_lp : Nat) (lp_2 : Int32) (lp_1 : Int32) (M_lp : fm_M), 2 * (161 - (M_lp.1 60 0 64).toInt).toNat + lp_2.toInt.toNat < n_lp → (0 ≤ lp_2.toInt ∧ lp_2.toInt ≤ 1) → ((M.1 60 0 64).toInt ≤ (M_lp.1 60 0 64).toInt ∧ (M.1 60 0 66).toInt ≤ (M_lp.1 60 0 66).toInt ∧ (M_lp.1 60 0 64).toInt ≤ (M_lp.1 60 0 65).toInt) → (∃ s : Nat × Int, rt_ms kc S9 B9 M_lp s ∧ (s.2 < 0 → (M_lp.1 60 0 66).toInt = 1) ∧ (lp_2.toInt = 1 → ∀ r : Nat × Int, rt_PS T9 S9 7 1 s r → rt_PS T9 S9 6 1 s9 r) ∧ (lp_2.toInt = 0 → rt_PS T9 S9 6 1 s9 s)) → fm_I nb ad M_lp → fm_same [60064, 60065, 60066, 60067] M M_lp → ∀ (H : Heap) (locs : List Loc), fm_at D ad C nb M_lp H → va_S (fm_A nb ad) s.heap H locs → ∀ (ls : Array Slot), lv_has ls 3 [(2, .int lp_2), (1, .int lp_1), (0, .ref (ad 60 0))] → W p l e (headSpec wsX12_sum ({ frames := 31, cells := 0, slots := 0, locals := 671 })).room s m ([.ref (ad 60 0)] : List Value).toArray below meth c H locs 0 0 (MQ below (va_Qi (fun (r : Int32) (u : fm_M) => fm_I nb ad u ∧ fm_same [60064, 60065, 60066, 60067] M u ∧ ((M.1 60 0 64).toInt ≤ (u.1 60 0 64).toInt ∧ (M.1 60 0 66).toInt ≤ (u.1 60 0 66).toInt ∧ (u.1 60 0 64).toInt ≤ (u.1 60 0 65).toInt ∧ ∃ s8 : Nat × Int, rt_PS T9 S9 6 1 s9 s8 ∧ rt_ms kc S9 B9 u s8 ∧ (s8.2 < 0 → (u.1 60 0 66).toInt = 1))) (fun u t => fm_at D ad C nb u t.heap) (fm_A nb ad)) ([.ref (ad 60 0)] : List Value).toArray s 0 0 (fm_A nb ad)) (F0 m 7 ls []) := by
    intro n_lp
    induction n_lp with
    | zero => intro lp_2 lp_1 M_lp hm_lp b_lp_2 hv hq hI hE H locs hw hS ls hl; exact absurd hm_lp (Nat.not_lt_zero _)
    | succ n_lp ih_lp =>
      intro lp_2 lp_1 M_lp hm_lp b_lp_2 hv hq hI hE H locs hw hS ls hl
      obtain ⟨s7, ms7, oo7, hq7, hq0⟩ := hq
      refine lv_iload_n hx hb dX12_sum_7 rfl (lv_at hl 0 rfl) ?_
      refine fx_if_eq (tgt := 56) hx hb dX12_sum_8 (by decide) rfl (fun c4 => ?_) (fun c4 => ?_)
      · refine lv_iload_n hx hb dX12_sum_56 rfl (lv_at hl 1 rfl) ?_
        exact W.iret (v := lp_1) hx hb hr (fun t ht hW => ⟨⟨lp_1, M_lp, rfl, ⟨hI, hE, ⟨by omega, by omega, by omega, s7, (hq0 (by omega)), ms7, oo7⟩⟩, by show fm_at D ad C nb _ t.heap; rw [ht]; exact hw⟩, hS.F ht⟩) hS.2.2 dX12_sum_57
      · refine lv_aload_n hx hb dX12_sum_11 rfl (lv_at hl 2 rfl) ?_
        obtain ⟨q5, vq5, hQq5, hRq5⟩ := hc.2.2.2.2.1 (RX12, 394, "+", [43]) (by decide)
        refine va_ldcwS hx hb hown hRq5 dX12_sum_12 ?_
        have tk6 := rt_TMs hE (by decide) hTK
        refine fm_ci (va_runV (As := [.ref q5]) (rest := []) ⟨hx, hb, hml, hown, hts⟩ (fc_X12_take l D ad C nb M_lp hI q5 vq5 1 (fun j => ([43] : List Int32).getD j 0) (by decide) kc S9 B9 T9 (s7) 43 (by omega) tk6 ms7 rt_cd_43) (cwV 1 hts gX12_sum_X12_take rfl rfl rfl (by decide +kernel) ⟨Nat.le_of_ble_eq_true rfl, Nat.le_of_ble_eq_true rfl⟩) (fm_preVS hc hw hS hQq5 kl_60 sh_60 rfl) rfl rfl hl.1 rfl (lv_room (Nat.le_of_ble_eq_true rfl)) dX12_sum_15 ⟨by decide +kernel, by decide +kernel⟩) hS hc (fun r7 M8 H locs hr7 hw hS => ?_)
        obtain ⟨hI, hEM8, hr7⟩ := hr7
        have hE := hE.tr hEM8 (by decide)
        have mM8_60_63 : (M8.1 60 0 63).toInt = (M_lp.1 60 0 63).toInt := by rw [(hEM8 60 0 63 (by decide)).1]
        have mM8_60_66 : (M8.1 60 0 66).toInt = (M_lp.1 60 0 66).toInt := by rw [(hEM8 60 0 66 (by decide)).1]
        rcases hr7 with ⟨rfl, ahr7, bhr7, dhr7, ehr7, mhr7⟩ | ⟨rfl, ahr7, bhr7, dhr7, mhr7⟩
        · have ooM8 : (rt_adv T9 (s7)).2 < 0 → (M8.1 60 0 66).toInt = 1 := fun z => by have z9 := oo7 z; omega
          refine fx_if_eq (tgt := 31) hx hb dX12_sum_18 (by decide) zk_1 (fun c9 => by exfalso; omega) (fun c9 => ?_)
          refine lv_iload_n hx hb dX12_sum_21 rfl (lv_at hl 1 rfl) ?_
          refine lv_aload_n hx hb dX12_sum_22 rfl (lv_at hl 2 rfl) ?_
          have tk10 := rt_TMs hE (by decide) hTK
          have d11_63 := hI.bd (k := 0) bd_60_63
          have d11_64 := hI.bd (k := 0) bd_60_64
          have d11_65 := hI.bd (k := 0) bd_60_65
          have d11_66 := hI.bd (k := 0) bd_60_66
          refine fm_ci (va_runV (As := []) (rest := [.int lp_1]) ⟨hx, hb, hml, hown, hts⟩ (fc_X12_product_1 l D ad C nb M8 hI kc S9 B9 T9 (rt_adv T9 (s7)) (by omega) (by omega) tk10 mhr7 ooM8) (cwV 0 hts gX12_sum_X12_product rfl rfl rfl (by decide +kernel) ⟨Nat.le_of_ble_eq_true rfl, Nat.le_of_ble_eq_true rfl⟩) (fm_preV hc hw hS kl_60 sh_60 rfl) rfl rfl hl.1 rfl (lv_room (Nat.le_of_ble_eq_true rfl)) dX12_sum_23 ⟨by decide +kernel, by decide +kernel⟩) hS hc (fun r12 M13 H locs hr12 hw hS => ?_)
          obtain ⟨hI, hEM13, hr12⟩ := hr12
          have hE := hE.tr hEM13 (by decide)
          have mM13_60_63 : (M13.1 60 0 63).toInt = (M8.1 60 0 63).toInt := by rw [(hEM13 60 0 63 (by decide)).1]
          obtain ⟨ahr12, bhr12, dhr12, shr12, phr12, mhr12, ohr12⟩ := hr12
          refine fx_iaddU hx hb dX12_sum_26 (fun y14 ey14 => ?_)
          refine lv_istore_n (lv' := [(1, .int y14), (2, .int lp_2), (0, .ref (ad 60 0))]) hx hb dX12_sum_27 rfl hl (by decide) rfl (fun ls hl => ?_)
          refine lv_goto (tgt := 7) hx hb dX12_sum_28 (by decide) ?_
          exact ih_lp lp_2 y14 M13 (by omega) (by omega) (by omega) ⟨shr12, mhr12, ohr12, fun _ r h => hq7 (by omega) r (rt_PS_7y ⟨dhr7, Or.inl ehr7⟩ phr12 h), fun z => absurd z (by omega)⟩ hI hE _ _ hw hS ls (lv_sub hl [1, 0, 2] rfl)
        · have ooM8 : (s7).2 < 0 → (M8.1 60 0 66).toInt = 1 := fun z => by have z9 := oo7 z; omega
          refine fx_if_eq (tgt := 31) hx hb dX12_sum_18 (by decide) zk_0 (fun c15 => ?_) (fun c15 => by exfalso; omega)
          refine lv_aload_n hx hb dX12_sum_31 rfl (lv_at hl 2 rfl) ?_
          obtain ⟨q16, vq16, hQq16, hRq16⟩ := hc.2.2.2.2.1 (RX12, 396, "-", [45]) (by decide)
          refine va_ldcwS hx hb hown hRq16 dX12_sum_32 ?_
          have tk17 := rt_TMs hE (by decide) hTK
          refine fm_ci (va_runV (As := [.ref q16]) (rest := []) ⟨hx, hb, hml, hown, hts⟩ (fc_X12_take l D ad C nb M8 hI q16 vq16 1 (fun j => ([45] : List Int32).getD j 0) (by decide) kc S9 B9 T9 (s7) 45 (by omega) tk17 mhr7 rt_cd_45) (cwV 1 hts gX12_sum_X12_take rfl rfl rfl (by decide +kernel) ⟨Nat.le_of_ble_eq_true rfl, Nat.le_of_ble_eq_true rfl⟩) (fm_preVS hc hw hS hQq16 kl_60 sh_60 rfl) rfl rfl hl.1 rfl (lv_room (Nat.le_of_ble_eq_true rfl)) dX12_sum_35 ⟨by decide +kernel, by decide +kernel⟩) hS hc (fun r18 M19 H locs hr18 hw hS => ?_)
          obtain ⟨hI, hEM19, hr18⟩ := hr18
          have hE := hE.tr hEM19 (by decide)
          have mM19_60_63 : (M19.1 60 0 63).toInt = (M8.1 60 0 63).toInt := by rw [(hEM19 60 0 63 (by decide)).1]
          have mM19_60_66 : (M19.1 60 0 66).toInt = (M8.1 60 0 66).toInt := by rw [(hEM19 60 0 66 (by decide)).1]
          rcases hr18 with ⟨rfl, ahr18, bhr18, dhr18, ehr18, mhr18⟩ | ⟨rfl, ahr18, bhr18, dhr18, mhr18⟩
          · have ooM19 : (rt_adv T9 (s7)).2 < 0 → (M19.1 60 0 66).toInt = 1 := fun z => by have z9 := ooM8 z; omega
            refine fx_if_eq (tgt := 51) hx hb dX12_sum_38 (by decide) zk_1 (fun c20 => by exfalso; omega) (fun c20 => ?_)
            refine lv_iload_n hx hb dX12_sum_41 rfl (lv_at hl 1 rfl) ?_
            refine lv_aload_n hx hb dX12_sum_42 rfl (lv_at hl 2 rfl) ?_
            have tk21 := rt_TMs hE (by decide) hTK
            have d22_63 := hI.bd (k := 0) bd_60_63
            have d22_64 := hI.bd (k := 0) bd_60_64
            have d22_65 := hI.bd (k := 0) bd_60_65
            have d22_66 := hI.bd (k := 0) bd_60_66
            refine fm_ci (va_runV (As := []) (rest := [.int lp_1]) ⟨hx, hb, hml, hown, hts⟩ (fc_X12_product_1 l D ad C nb M19 hI kc S9 B9 T9 (rt_adv T9 (s7)) (by omega) (by omega) tk21 mhr18 ooM19) (cwV 0 hts gX12_sum_X12_product rfl rfl rfl (by decide +kernel) ⟨Nat.le_of_ble_eq_true rfl, Nat.le_of_ble_eq_true rfl⟩) (fm_preV hc hw hS kl_60 sh_60 rfl) rfl rfl hl.1 rfl (lv_room (Nat.le_of_ble_eq_true rfl)) dX12_sum_43 ⟨by decide +kernel, by decide +kernel⟩) hS hc (fun r23 M24 H locs hr23 hw hS => ?_)
            obtain ⟨hI, hEM24, hr23⟩ := hr23
            have hE := hE.tr hEM24 (by decide)
            have mM24_60_63 : (M24.1 60 0 63).toInt = (M19.1 60 0 63).toInt := by rw [(hEM24 60 0 63 (by decide)).1]
            obtain ⟨ahr23, bhr23, dhr23, shr23, phr23, mhr23, ohr23⟩ := hr23
            refine fx_isubU hx hb dX12_sum_46 (fun y25 ey25 => ?_)
            refine lv_istore_n (lv' := [(1, .int y25), (2, .int lp_2), (0, .ref (ad 60 0))]) hx hb dX12_sum_47 rfl hl (by decide) rfl (fun ls hl => ?_)
            refine lv_goto (tgt := 7) hx hb dX12_sum_48 (by decide) ?_
            exact ih_lp lp_2 y25 M24 (by omega) (by omega) (by omega) ⟨shr23, mhr23, ohr23, fun _ r h => hq7 (by omega) r (rt_PS_7y ⟨dhr18, Or.inr ehr18⟩ phr23 h), fun z => absurd z (by omega)⟩ hI hE _ _ hw hS ls (lv_sub hl [1, 0, 2] rfl)
          · have ooM19 : (s7).2 < 0 → (M19.1 60 0 66).toInt = 1 := fun z => by have z9 := ooM8 z; omega
            refine fx_if_eq (tgt := 51) hx hb dX12_sum_38 (by decide) zk_0 (fun c26 => ?_) (fun c26 => by exfalso; omega)
            refine lv_iconst (v := 0) hx hb dX12_sum_51 (by decide) ?_
            refine lv_istore_n (lv' := [(2, .int 0), (1, .int lp_1), (0, .ref (ad 60 0))]) hx hb dX12_sum_52 rfl hl (by decide) rfl (fun ls hl => ?_)
            refine lv_goto (tgt := 7) hx hb dX12_sum_53 (by decide) ?_
            exact ih_lp 0 lp_1 M19 (by have zlp_2 := zk_0; omega) (by decide) (by omega) ⟨s7, mhr18, ooM19, fun z => absurd z (by decide), fun _ => hq7 (by omega) _ (rt_PS_7n (by have za := dhr7; have zb := dhr18; omega))⟩ hI hE _ _ hw hS ls (lv_sub hl [0, 1, 2] rfl)
  exact lp _ 1 r2 M3 (Nat.lt_succ_self _) (by decide) (by omega) ⟨shr2, mhr2, ohr2, fun _ r h => rt_PS_6 phr2 h, fun z => absurd z (by decide)⟩ hI hE _ _ hw hS ls (lv_sub hl [0, 1, 2] rfl)
set_option maxHeartbeats 400000 in
set_option maxRecDepth 20000 in
theorem fc_X12_turned_1 (l : Launch) (D : va_G) (ad : Nat → Nat → Nat) (C : Nat → Nat → ClassId) (nb : Nat) (M : fm_M) (hI : fm_I nb ad M) (kc : Nat) (S9 B9 T9 : Nat → Int) (s9 : Nat × Int) (hft : (M.1 60 0 64).toInt ≤ (M.1 60 0 65).toInt) (hop : 1 ≤ (M.1 60 0 66).toInt) (hTK : rt_TM M kc S9 B9 T9) (hms : rt_ms kc S9 B9 M s9) (hoo : s9.2 < 0 → (M.1 60 0 66).toInt = 1) : Met l yX12_turned wsX12_turned ({ frames := 32, cells := 0, slots := 0, locals := 693 }) (va_Pc [.ref (ad 60 0)] (fm_P D ad C nb M)) (va_Qi (fun (r : Int32) (u : fm_M) => fm_I nb ad u ∧ fm_same [60064, 60065, 60066, 60067] M u ∧ ((M.1 60 0 64).toInt ≤ (u.1 60 0 64).toInt ∧ (M.1 60 0 66).toInt ≤ (u.1 60 0 66).toInt ∧ (u.1 60 0 64).toInt ≤ (u.1 60 0 65).toInt ∧ ∃ s8 : Nat × Int, rt_PS T9 S9 4 1 s9 s8 ∧ rt_ms kc S9 B9 u s8 ∧ (s8.2 < 0 → (u.1 60 0 66).toInt = 1))) (fun u t => fm_at D ad C nb u t.heap) (fm_A nb ad)) 0 0 (fm_A nb ad) := by
  refine Met.ofW (cc := cX12_turned) (maxL := 2) (ret := (some .int)) (by decide) rfl ?_
  intro p e s m args below meth c s₁ B hml hv
  obtain ⟨rfl, hw, hc⟩ := hv
  have hx := B.exec
  have hb := B.bytes
  have hr := B.returns
  have hts := atoms_spec (ws := wsX12_turned) B.pre
  have hown : s.vm.findClass RX12 = some m.cls := findClass_of_methodNamed B.named
  have hinX12 : ∀ w ∈ u_ws RX12 TX12 79, w ∈ wsX12_turned := fun w h => List.mem_cons_of_mem _ (iT_X12 w h)
  have hS : va_S (fm_A nb ad) s.heap s.heap [] := va_S.rf
  have hE : fm_same [60064, 60065, 60066, 60067] M M := fm_same.rf
  have hl := lv_entry ([.ref (ad 60 0)]) (n := 2) (Nat.le_of_ble_eq_true rfl)
  rw [lg_entry_eq]
  generalize (lg_sl ([.ref (ad 60 0)]) ++ List.replicate (2 - (lg_sl ([.ref (ad 60 0)])).length) Slot.unset).toArray = ls at hl ⊢
  have hl : lv_has ls 2 [(0, .ref (ad 60 0))] := hl
  refine lv_aload_n hx hb dX12_turned_0 rfl (lv_at hl 0 rfl) ?_
  refine fm_getI (a := 60) (j := 67) (T := TX12) (N := 79) hx hb hts hinX12 hown hc hw hI kl_60 sh_60 rfl (by decide) rfl bd_60_67 (hts (.fieldLink RX12 349 "RedTentModel" "fault" "I") (List.mem_cons_of_mem _ tw_5_187)) (fun _ h9 => h9) dX12_turned_1 (fun x1 ex1 bx1 => ?_)
  refine fx_if_lt (tgt := 9) hx hb dX12_turned_4 (by decide) rfl (fun c2 => ?_) (fun c2 => ?_)
  · have gh : s9.2 = x1.toInt := by rw [ex1]; exact hms.2.2.2.symm
    have hs0 : s9.2 < 0 := by omega
    have ho0 := hoo hs0
    refine lv_aload_n hx hb dX12_turned_9 rfl (lv_at hl 0 rfl) ?_
    obtain ⟨q3, vq3, hQq3, hRq3⟩ := hc.2.2.2.2.1 (RX12, 378, "not", [110, 111, 116]) (by decide)
    refine va_ldcwS hx hb hown hRq3 dX12_turned_10 ?_
    refine vp_callSi (va_Run.run (va_runV (As := [.ref q3]) (rest := []) ⟨hx, hb, hml, hown, hts⟩ (fc_X12_is l D ad C nb M hI q3 vq3 3 (fun j => ([110, 111, 116] : List Int32).getD j 0) (by decide) (rt_mto hTK hms) rt_cd_11.2.1) (cwV 1 hts gX12_turned_X12_is rfl rfl rfl (by decide +kernel) ⟨Nat.le_of_ble_eq_true rfl, Nat.le_of_ble_eq_true rfl⟩) (fm_preVS hc hw hS hQq3 kl_60 sh_60 rfl) rfl rfl hl.1 rfl (lv_room (Nat.le_of_ble_eq_true rfl)) dX12_turned_13 ⟨by decide +kernel, by decide +kernel⟩)) (fun r4 hr4 => ?_)
    rcases hr4 with ⟨rfl, chr4⟩ | ⟨rfl, chr4⟩
    · have sv5 := (rt_is hTK hms rt_cd_11).mp chr4
      refine fx_if_eq (tgt := 53) hx hb dX12_turned_16 (by decide) zk_1 (fun c6 => by exfalso; omega) (fun c6 => ?_)
      refine lv_aload_n hx hb dX12_turned_19 rfl (lv_at hl 0 rfl) ?_
      have hJ7 := hI
      refine fm_ci (va_runV (As := []) (rest := []) ⟨hx, hb, hml, hown, hts⟩ (fc_X12_opens l D ad C nb M hI kc S9 B9 T9 (s9) hTK hms) (cwV 0 hts gX12_turned_X12_opens rfl rfl rfl (by decide +kernel) ⟨Nat.le_of_ble_eq_true rfl, Nat.le_of_ble_eq_true rfl⟩) (fm_preV hc hw hS kl_60 sh_60 rfl) rfl rfl hl.1 rfl (lv_room (Nat.le_of_ble_eq_true rfl)) dX12_turned_20 ⟨by decide +kernel, by decide +kernel⟩) hS hc (fun r8 M9 H locs hr8 hw hS => ?_)
      obtain ⟨hI, hEM9, hr8⟩ := hr8
      have hE := hE.tr hEM9 (by decide)
      have mM9_60_63 : (M9.1 60 0 63).toInt = (M.1 60 0 63).toInt := by rw [(hEM9 60 0 63 (by decide)).1]
      rcases hr8 with ⟨rfl, ahr8, bhr8, dhr8, mhr8⟩ | ⟨rfl, zhr8, ahr8, bhr8, dhr8, mhr8⟩
      · have ooM9 : (rt_adv T9 (s9)).2 < 0 → (M9.1 60 0 66).toInt = 2 := fun z => by have z9 := hoo z; omega
        refine fx_if_ne (tgt := 28) hx hb dX12_turned_23 (by decide) zk_1 (fun c10 => ?_) (fun c10 => by exfalso; omega)
        refine lv_aload_n hx hb dX12_turned_28 rfl (lv_at hl 0 rfl) ?_
        have tk11 := rt_TMs hE (by decide) hTK
        have d12_63 := hI.bd (k := 0) bd_60_63
        have d12_64 := hI.bd (k := 0) bd_60_64
        have d12_65 := hI.bd (k := 0) bd_60_65
        have d12_66 := hI.bd (k := 0) bd_60_66
        refine fm_ci (va_runV (As := []) (rest := []) ⟨hx, hb, hml, hown, hts⟩ (fc_X12_turned_2 l D ad C nb M9 hI kc S9 B9 T9 (rt_adv T9 (s9)) (by omega) (by omega) tk11 mhr8 ooM9) (cwV 0 hts gX12_turned_X12_turned rfl rfl rfl (by decide +kernel) ⟨Nat.le_of_ble_eq_true rfl, Nat.le_of_ble_eq_true rfl⟩) (fm_preV hc hw hS kl_60 sh_60 rfl) rfl rfl hl.1 rfl (lv_room (Nat.le_of_ble_eq_true rfl)) dX12_turned_29 ⟨by decide +kernel, by decide +kernel⟩) hS hc (fun r13 M14 H locs hr13 hw hS => ?_)
        obtain ⟨hI, hEM14, hr13⟩ := hr13
        have hE := hE.tr hEM14 (by decide)
        have mM14_60_63 : (M14.1 60 0 63).toInt = (M9.1 60 0 63).toInt := by rw [(hEM14 60 0 63 (by decide)).1]
        obtain ⟨ahr13, bhr13, dhr13, shr13, phr13, mhr13, ohr13⟩ := hr13
        refine lv_istore_n (lv' := [(1, .int r13), (0, .ref (ad 60 0))]) hx hb dX12_turned_32 rfl hl (by decide) rfl (fun ls hl => ?_)
        refine lv_aload_n hx hb dX12_turned_33 rfl (lv_at hl 1 rfl) ?_
        refine lv_dup hx hb dX12_turned_34 rfl ?_
        refine fm_getI (a := 60) (j := 66) (T := TX12) (N := 79) hx hb hts hinX12 hown hc hw hI kl_60 sh_60 rfl (by decide) rfl bd_60_66 (hts (.fieldLink RX12 372 "RedTentModel" "open" "I") (List.mem_cons_of_mem _ tw_5_186)) (fun _ h9 => h9) dX12_turned_35 (fun x15 ex15 bx15 => ?_)
        have wx15 : x15.toInt = (M14.1 60 0 66).toInt := by rw [ex15]
        refine lv_iconst (v := 1) hx hb dX12_turned_38 (by decide) ?_
        refine fx_isub hx hb dX12_turned_39 rfl zk_1 (by omega) (fun y16 ey16 ty16 => ?_)
        refine fm_putI (a := 60) (j := 66) (T := TX12) (N := 79) hx hb hts hinX12 tyX12 tyX12_ok nmX12 hown hc hw hI hE hS kl_60 sh_60 od_60 rfl (by decide) rfl bd_60_66 (hts (.fieldLink RX12 372 "RedTentModel" "open" "I") (List.mem_cons_of_mem _ tw_5_186)) (fun _ h9 => h9) rfl (by decide +kernel) (by omega) (by decide) (by decide) dX12_turned_40 (fun M17 H locs eM17 hw hI hE hS => ?_)
        have mM17_60_63 : (M17.1 60 0 63).toInt = (M14.1 60 0 63).toInt := by rw [eM17, fm_wI_nj (fun z => absurd z.2.2 (by decide))]
        have mM17_60_64 : (M17.1 60 0 64).toInt = (M14.1 60 0 64).toInt := by rw [eM17, fm_wI_nj (fun z => absurd z.2.2 (by decide))]
        have mM17_60_65 : (M17.1 60 0 65).toInt = (M14.1 60 0 65).toInt := by rw [eM17, fm_wI_nj (fun z => absurd z.2.2 (by decide))]
        have mM17_60_66 : (M17.1 60 0 66).toInt = y16.toInt := by rw [eM17, fm_wI_at]
        have hEM17 : fm_same [60066] M14 M17 := by rw [eM17]; exact fm_same.rf.wI (by decide)
        have mwM17 := rt_ms_same hEM17 (by decide) mhr13
        have ooM17 : (shr13).2 < 0 → (M17.1 60 0 66).toInt = 1 := fun z => by have z9 := ohr13 z; omega
        refine lv_iload_n hx hb dX12_turned_43 rfl (lv_at hl 0 rfl) ?_
        refine fx_if_ne (tgt := 51) hx hb dX12_turned_44 (by decide) rfl (fun c18 => ?_) (fun c18 => ?_)
        · refine lv_iconst (v := 0) hx hb dX12_turned_51 (by decide) ?_
          exact W.iret (v := 0) hx hb hr (fun t ht hW => ⟨⟨0, M17, rfl, ⟨hI, hE, ⟨by omega, by omega, by omega, shr13, (rt_PS_4y ⟨hs0, sv5⟩ (by decide) phr13), mwM17, ooM17⟩⟩, by show fm_at D ad C nb _ t.heap; rw [ht]; exact hw⟩, hS.F ht⟩) hS.2.2 dX12_turned_52
        · refine lv_iconst (v := 1) hx hb dX12_turned_47 (by decide) ?_
          refine lv_goto (tgt := 52) hx hb dX12_turned_48 (by decide) ?_
          exact W.iret (v := 1) hx hb hr (fun t ht hW => ⟨⟨1, M17, rfl, ⟨hI, hE, ⟨by omega, by omega, by omega, shr13, (rt_PS_4y ⟨hs0, sv5⟩ (by decide) phr13), mwM17, ooM17⟩⟩, by show fm_at D ad C nb _ t.heap; rw [ht]; exact hw⟩, hS.F ht⟩) hS.2.2 dX12_turned_52
      · exfalso; omega
    · have sv19 : ¬ T9 (s9).1 = 11 := fun z => chr4 ((rt_is hTK hms rt_cd_11).mpr z)
      refine fx_if_eq (tgt := 53) hx hb dX12_turned_16 (by decide) zk_0 (fun c20 => ?_) (fun c20 => by exfalso; omega)
      refine lv_aload_n hx hb dX12_turned_53 rfl (lv_at hl 0 rfl) ?_
      have d21_63 := hI.bd (k := 0) bd_60_63
      have d21_64 := hI.bd (k := 0) bd_60_64
      have d21_65 := hI.bd (k := 0) bd_60_65
      have d21_66 := hI.bd (k := 0) bd_60_66
      refine fm_ci (va_runV (As := []) (rest := []) ⟨hx, hb, hml, hown, hts⟩ (fc_X12_sum_1 l D ad C nb M hI kc S9 B9 T9 (s9) (by omega) (by omega) hTK hms hoo) (cwV 0 hts gX12_turned_X12_sum rfl rfl rfl (by decide +kernel) ⟨Nat.le_of_ble_eq_true rfl, Nat.le_of_ble_eq_true rfl⟩) (fm_preV hc hw hS kl_60 sh_60 rfl) rfl rfl hl.1 rfl (lv_room (Nat.le_of_ble_eq_true rfl)) dX12_turned_54 ⟨by decide +kernel, by decide +kernel⟩) hS hc (fun r22 M23 H locs hr22 hw hS => ?_)
      obtain ⟨hI, hEM23, hr22⟩ := hr22
      have hE := hE.tr hEM23 (by decide)
      have mM23_60_63 : (M23.1 60 0 63).toInt = (M.1 60 0 63).toInt := by rw [(hEM23 60 0 63 (by decide)).1]
      obtain ⟨ahr22, bhr22, dhr22, shr22, phr22, mhr22, ohr22⟩ := hr22
      refine lv_istore_n (lv' := [(1, .int r22), (0, .ref (ad 60 0))]) hx hb dX12_turned_57 rfl hl (by decide) rfl (fun ls hl => ?_)
      refine lv_aload_n hx hb dX12_turned_58 rfl (lv_at hl 1 rfl) ?_
      obtain ⟨q24, vq24, hQq24, hRq24⟩ := hc.2.2.2.2.1 (RX12, 387, "<", [60]) (by decide)
      refine va_ldcwS hx hb hown hRq24 dX12_turned_59 ?_
      have tk25 := rt_TMs hE (by decide) hTK
      refine fm_ci (va_runV (As := [.ref q24]) (rest := []) ⟨hx, hb, hml, hown, hts⟩ (fc_X12_take l D ad C nb M23 hI q24 vq24 1 (fun j => ([60] : List Int32).getD j 0) (by decide) kc S9 B9 T9 (shr22) 60 (by omega) tk25 mhr22 rt_cd_60) (cwV 1 hts gX12_turned_X12_take rfl rfl rfl (by decide +kernel) ⟨Nat.le_of_ble_eq_true rfl, Nat.le_of_ble_eq_true rfl⟩) (fm_preVS hc hw hS hQq24 kl_60 sh_60 rfl) rfl rfl hl.1 rfl (lv_room (Nat.le_of_ble_eq_true rfl)) dX12_turned_62 ⟨by decide +kernel, by decide +kernel⟩) hS hc (fun r26 M27 H locs hr26 hw hS => ?_)
      obtain ⟨hI, hEM27, hr26⟩ := hr26
      have hE := hE.tr hEM27 (by decide)
      have mM27_60_63 : (M27.1 60 0 63).toInt = (M23.1 60 0 63).toInt := by rw [(hEM27 60 0 63 (by decide)).1]
      have mM27_60_66 : (M27.1 60 0 66).toInt = (M23.1 60 0 66).toInt := by rw [(hEM27 60 0 66 (by decide)).1]
      rcases hr26 with ⟨rfl, ahr26, bhr26, dhr26, ehr26, mhr26⟩ | ⟨rfl, ahr26, bhr26, dhr26, mhr26⟩
      · have ooM27 : (rt_adv T9 (shr22)).2 < 0 → (M27.1 60 0 66).toInt = 1 := fun z => by have z9 := ohr22 z; omega
        refine fx_if_eq (tgt := 82) hx hb dX12_turned_65 (by decide) zk_1 (fun c28 => by exfalso; omega) (fun c28 => ?_)
        refine lv_iload_n hx hb dX12_turned_68 rfl (lv_at hl 0 rfl) ?_
        refine lv_aload_n hx hb dX12_turned_69 rfl (lv_at hl 1 rfl) ?_
        have tk29 := rt_TMs hE (by decide) hTK
        have d30_63 := hI.bd (k := 0) bd_60_63
        have d30_64 := hI.bd (k := 0) bd_60_64
        have d30_65 := hI.bd (k := 0) bd_60_65
        have d30_66 := hI.bd (k := 0) bd_60_66
        refine fm_ci (va_runV (As := []) (rest := [.int r22]) ⟨hx, hb, hml, hown, hts⟩ (fc_X12_sum_1 l D ad C nb M27 hI kc S9 B9 T9 (rt_adv T9 (shr22)) (by omega) (by omega) tk29 mhr26 ooM27) (cwV 0 hts gX12_turned_X12_sum rfl rfl rfl (by decide +kernel) ⟨Nat.le_of_ble_eq_true rfl, Nat.le_of_ble_eq_true rfl⟩) (fm_preV hc hw hS kl_60 sh_60 rfl) rfl rfl hl.1 rfl (lv_room (Nat.le_of_ble_eq_true rfl)) dX12_turned_70 ⟨by decide +kernel, by decide +kernel⟩) hS hc (fun r31 M32 H locs hr31 hw hS => ?_)
        obtain ⟨hI, hEM32, hr31⟩ := hr31
        have hE := hE.tr hEM32 (by decide)
        have mM32_60_63 : (M32.1 60 0 63).toInt = (M27.1 60 0 63).toInt := by rw [(hEM32 60 0 63 (by decide)).1]
        obtain ⟨ahr31, bhr31, dhr31, shr31, phr31, mhr31, ohr31⟩ := hr31
        refine fx_icmp_ge (tgt := 80) hx hb dX12_turned_73 (by decide) rfl rfl (fun c33 => ?_) (fun c33 => ?_)
        · refine lv_iconst (v := 0) hx hb dX12_turned_80 (by decide) ?_
          exact W.iret (v := 0) hx hb hr (fun t ht hW => ⟨⟨0, M32, rfl, ⟨hI, hE, ⟨by omega, by omega, by omega, shr31, (rt_PS_4n (fun z => sv19 z.2) (rt_PS_5 phr22 (rt_PS_11y ⟨dhr26, Or.inl ehr26⟩ phr31))), mhr31, ohr31⟩⟩, by show fm_at D ad C nb _ t.heap; rw [ht]; exact hw⟩, hS.F ht⟩) hS.2.2 dX12_turned_81
        · refine lv_iconst (v := 1) hx hb dX12_turned_76 (by decide) ?_
          refine lv_goto (tgt := 81) hx hb dX12_turned_77 (by decide) ?_
          exact W.iret (v := 1) hx hb hr (fun t ht hW => ⟨⟨1, M32, rfl, ⟨hI, hE, ⟨by omega, by omega, by omega, shr31, (rt_PS_4n (fun z => sv19 z.2) (rt_PS_5 phr22 (rt_PS_11y ⟨dhr26, Or.inl ehr26⟩ phr31))), mhr31, ohr31⟩⟩, by show fm_at D ad C nb _ t.heap; rw [ht]; exact hw⟩, hS.F ht⟩) hS.2.2 dX12_turned_81
      · have ooM27 : (shr22).2 < 0 → (M27.1 60 0 66).toInt = 1 := fun z => by have z9 := ohr22 z; omega
        refine fx_if_eq (tgt := 82) hx hb dX12_turned_65 (by decide) zk_0 (fun c34 => ?_) (fun c34 => by exfalso; omega)
        refine lv_aload_n hx hb dX12_turned_82 rfl (lv_at hl 1 rfl) ?_
        obtain ⟨q35, vq35, hQq35, hRq35⟩ := hc.2.2.2.2.1 (RX12, 389, "=", [61]) (by decide)
        refine va_ldcwS hx hb hown hRq35 dX12_turned_83 ?_
        have tk36 := rt_TMs hE (by decide) hTK
        refine fm_ci (va_runV (As := [.ref q35]) (rest := []) ⟨hx, hb, hml, hown, hts⟩ (fc_X12_take l D ad C nb M27 hI q35 vq35 1 (fun j => ([61] : List Int32).getD j 0) (by decide) kc S9 B9 T9 (shr22) 61 (by omega) tk36 mhr26 rt_cd_61) (cwV 1 hts gX12_turned_X12_take rfl rfl rfl (by decide +kernel) ⟨Nat.le_of_ble_eq_true rfl, Nat.le_of_ble_eq_true rfl⟩) (fm_preVS hc hw hS hQq35 kl_60 sh_60 rfl) rfl rfl hl.1 rfl (lv_room (Nat.le_of_ble_eq_true rfl)) dX12_turned_86 ⟨by decide +kernel, by decide +kernel⟩) hS hc (fun r37 M38 H locs hr37 hw hS => ?_)
        obtain ⟨hI, hEM38, hr37⟩ := hr37
        have hE := hE.tr hEM38 (by decide)
        have mM38_60_63 : (M38.1 60 0 63).toInt = (M27.1 60 0 63).toInt := by rw [(hEM38 60 0 63 (by decide)).1]
        have mM38_60_66 : (M38.1 60 0 66).toInt = (M27.1 60 0 66).toInt := by rw [(hEM38 60 0 66 (by decide)).1]
        rcases hr37 with ⟨rfl, ahr37, bhr37, dhr37, ehr37, mhr37⟩ | ⟨rfl, ahr37, bhr37, dhr37, mhr37⟩
        · have ooM38 : (rt_adv T9 (shr22)).2 < 0 → (M38.1 60 0 66).toInt = 1 := fun z => by have z9 := ooM27 z; omega
          refine fx_if_eq (tgt := 106) hx hb dX12_turned_89 (by decide) zk_1 (fun c39 => by exfalso; omega) (fun c39 => ?_)
          refine lv_iload_n hx hb dX12_turned_92 rfl (lv_at hl 0 rfl) ?_
          refine lv_aload_n hx hb dX12_turned_93 rfl (lv_at hl 1 rfl) ?_
          have tk40 := rt_TMs hE (by decide) hTK
          have d41_63 := hI.bd (k := 0) bd_60_63
          have d41_64 := hI.bd (k := 0) bd_60_64
          have d41_65 := hI.bd (k := 0) bd_60_65
          have d41_66 := hI.bd (k := 0) bd_60_66
          refine fm_ci (va_runV (As := []) (rest := [.int r22]) ⟨hx, hb, hml, hown, hts⟩ (fc_X12_sum_1 l D ad C nb M38 hI kc S9 B9 T9 (rt_adv T9 (shr22)) (by omega) (by omega) tk40 mhr37 ooM38) (cwV 0 hts gX12_turned_X12_sum rfl rfl rfl (by decide +kernel) ⟨Nat.le_of_ble_eq_true rfl, Nat.le_of_ble_eq_true rfl⟩) (fm_preV hc hw hS kl_60 sh_60 rfl) rfl rfl hl.1 rfl (lv_room (Nat.le_of_ble_eq_true rfl)) dX12_turned_94 ⟨by decide +kernel, by decide +kernel⟩) hS hc (fun r42 M43 H locs hr42 hw hS => ?_)
          obtain ⟨hI, hEM43, hr42⟩ := hr42
          have hE := hE.tr hEM43 (by decide)
          have mM43_60_63 : (M43.1 60 0 63).toInt = (M38.1 60 0 63).toInt := by rw [(hEM43 60 0 63 (by decide)).1]
          obtain ⟨ahr42, bhr42, dhr42, shr42, phr42, mhr42, ohr42⟩ := hr42
          refine fx_icmp_ne (tgt := 104) hx hb dX12_turned_97 (by decide) rfl rfl (fun c44 => ?_) (fun c44 => ?_)
          · refine lv_iconst (v := 0) hx hb dX12_turned_104 (by decide) ?_
            exact W.iret (v := 0) hx hb hr (fun t ht hW => ⟨⟨0, M43, rfl, ⟨hI, hE, ⟨by omega, by omega, by omega, shr42, (rt_PS_4n (fun z => sv19 z.2) (rt_PS_5 phr22 (rt_PS_11y ⟨dhr37, Or.inr ehr37⟩ phr42))), mhr42, ohr42⟩⟩, by show fm_at D ad C nb _ t.heap; rw [ht]; exact hw⟩, hS.F ht⟩) hS.2.2 dX12_turned_105
          · refine lv_iconst (v := 1) hx hb dX12_turned_100 (by decide) ?_
            refine lv_goto (tgt := 105) hx hb dX12_turned_101 (by decide) ?_
            exact W.iret (v := 1) hx hb hr (fun t ht hW => ⟨⟨1, M43, rfl, ⟨hI, hE, ⟨by omega, by omega, by omega, shr42, (rt_PS_4n (fun z => sv19 z.2) (rt_PS_5 phr22 (rt_PS_11y ⟨dhr37, Or.inr ehr37⟩ phr42))), mhr42, ohr42⟩⟩, by show fm_at D ad C nb _ t.heap; rw [ht]; exact hw⟩, hS.F ht⟩) hS.2.2 dX12_turned_105
        · have ooM38 : (shr22).2 < 0 → (M38.1 60 0 66).toInt = 1 := fun z => by have z9 := ooM27 z; omega
          refine fx_if_eq (tgt := 106) hx hb dX12_turned_89 (by decide) zk_0 (fun c45 => ?_) (fun c45 => by exfalso; omega)
          refine lv_iload_n hx hb dX12_turned_106 rfl (lv_at hl 0 rfl) ?_
          exact W.iret (v := r22) hx hb hr (fun t ht hW => ⟨⟨r22, M38, rfl, ⟨hI, hE, ⟨by omega, by omega, by omega, shr22, (rt_PS_4n (fun z => sv19 z.2) (rt_PS_5 phr22 (rt_PS_11n (by have za := dhr26; have zb := dhr37; omega)))), mhr37, ooM38⟩⟩, by show fm_at D ad C nb _ t.heap; rw [ht]; exact hw⟩, hS.F ht⟩) hS.2.2 dX12_turned_107
  · refine lv_iconst (v := 0) hx hb dX12_turned_7 (by decide) ?_
    exact W.iret (v := 0) hx hb hr (fun t ht hW => ⟨⟨0, M, rfl, ⟨hI, hE, ⟨by omega, by omega, by omega, s9, (rt_PS_id (by rw [← hms.2.2.2, ← ex1]; omega) (by decide)), hms, hoo⟩⟩, by show fm_at D ad C nb _ t.heap; rw [ht]; exact hw⟩, hS.F ht⟩) hS.2.2 dX12_turned_8
set_option maxHeartbeats 400000 in
set_option maxRecDepth 20000 in
theorem fc_X12_both_1 (l : Launch) (D : va_G) (ad : Nat → Nat → Nat) (C : Nat → Nat → ClassId) (nb : Nat) (M : fm_M) (hI : fm_I nb ad M) (kc : Nat) (S9 B9 T9 : Nat → Int) (s9 : Nat × Int) (hft : (M.1 60 0 64).toInt ≤ (M.1 60 0 65).toInt) (hop : 1 ≤ (M.1 60 0 66).toInt) (hTK : rt_TM M kc S9 B9 T9) (hms : rt_ms kc S9 B9 M s9) (hoo : s9.2 < 0 → (M.1 60 0 66).toInt = 1) : Met l yX12_both wsX12_both ({ frames := 33, cells := 0, slots := 0, locals := 714 }) (va_Pc [.ref (ad 60 0)] (fm_P D ad C nb M)) (va_Qi (fun (r : Int32) (u : fm_M) => fm_I nb ad u ∧ fm_same [60064, 60065, 60066, 60067] M u ∧ ((M.1 60 0 64).toInt ≤ (u.1 60 0 64).toInt ∧ (M.1 60 0 66).toInt ≤ (u.1 60 0 66).toInt ∧ (u.1 60 0 64).toInt ≤ (u.1 60 0 65).toInt ∧ ∃ s8 : Nat × Int, rt_PS T9 S9 2 1 s9 s8 ∧ rt_ms kc S9 B9 u s8 ∧ (s8.2 < 0 → (u.1 60 0 66).toInt = 1))) (fun u t => fm_at D ad C nb u t.heap) (fm_A nb ad)) 0 0 (fm_A nb ad) := by
  refine Met.ofW (cc := cX12_both) (maxL := 3) (ret := (some .int)) (by decide) rfl ?_
  intro p e s m args below meth c s₁ B hml hv
  obtain ⟨rfl, hw, hc⟩ := hv
  have hx := B.exec
  have hb := B.bytes
  have hr := B.returns
  have hts := atoms_spec (ws := wsX12_both) B.pre
  have hown : s.vm.findClass RX12 = some m.cls := findClass_of_methodNamed B.named
  have hS : va_S (fm_A nb ad) s.heap s.heap [] := va_S.rf
  have hE : fm_same [60064, 60065, 60066, 60067] M M := fm_same.rf
  have hl := lv_entry ([.ref (ad 60 0)]) (n := 3) (Nat.le_of_ble_eq_true rfl)
  rw [lg_entry_eq]
  generalize (lg_sl ([.ref (ad 60 0)]) ++ List.replicate (3 - (lg_sl ([.ref (ad 60 0)])).length) Slot.unset).toArray = ls at hl ⊢
  have hl : lv_has ls 3 [(0, .ref (ad 60 0))] := hl
  refine lv_aload_n hx hb dX12_both_0 rfl (lv_at hl 0 rfl) ?_
  have d1_63 := hI.bd (k := 0) bd_60_63
  have d1_64 := hI.bd (k := 0) bd_60_64
  have d1_65 := hI.bd (k := 0) bd_60_65
  have d1_66 := hI.bd (k := 0) bd_60_66
  refine fm_ci (va_runV (As := []) (rest := []) ⟨hx, hb, hml, hown, hts⟩ (fc_X12_turned_1 l D ad C nb M hI kc S9 B9 T9 (s9) (by omega) (by omega) hTK hms hoo) (cwV 0 hts gX12_both_X12_turned rfl rfl rfl (by decide +kernel) ⟨Nat.le_of_ble_eq_true rfl, Nat.le_of_ble_eq_true rfl⟩) (fm_preV hc hw hS kl_60 sh_60 rfl) rfl rfl hl.1 rfl (lv_room (Nat.le_of_ble_eq_true rfl)) dX12_both_1 ⟨by decide +kernel, by decide +kernel⟩) hS hc (fun r2 M3 H locs hr2 hw hS => ?_)
  obtain ⟨hI, hEM3, hr2⟩ := hr2
  have hE := hE.tr hEM3 (by decide)
  have mM3_60_63 : (M3.1 60 0 63).toInt = (M.1 60 0 63).toInt := by rw [(hEM3 60 0 63 (by decide)).1]
  obtain ⟨ahr2, bhr2, dhr2, shr2, phr2, mhr2, ohr2⟩ := hr2
  refine lv_istore_n (lv' := [(1, .int r2), (0, .ref (ad 60 0))]) hx hb dX12_both_4 rfl hl (by decide) rfl (fun ls hl => ?_)
  have lp : ∀ (n_lp : Nat) (lp_1 : Int32) (M_lp : fm_M), (161 - (M_lp.1 60 0 64).toInt).toNat < n_lp → ((M.1 60 0 64).toInt ≤ (M_lp.1 60 0 64).toInt ∧ (M.1 60 0 66).toInt ≤ (M_lp.1 60 0 66).toInt ∧ (M_lp.1 60 0 64).toInt ≤ (M_lp.1 60 0 65).toInt) → (∃ s : Nat × Int, rt_ms kc S9 B9 M_lp s ∧ (s.2 < 0 → (M_lp.1 60 0 66).toInt = 1) ∧ ∀ r : Nat × Int, rt_PS T9 S9 3 1 s r → rt_PS T9 S9 2 1 s9 r) → fm_I nb ad M_lp → fm_same [60064, 60065, 60066, 60067] M M_lp → ∀ (H : Heap) (locs : List Loc), fm_at D ad C nb M_lp H → va_S (fm_A nb ad) s.heap H locs → ∀ (ls : Array Slot), lv_has ls 3 [(1, .int lp_1), (0, .ref (ad 60 0))] → W p l e (headSpec wsX12_both ({ frames := 33, cells := 0, slots := 0, locals := 714 })).room s m ([.ref (ad 60 0)] : List Value).toArray below meth c H locs 0 0 (MQ below (va_Qi (fun (r : Int32) (u : fm_M) => fm_I nb ad u ∧ fm_same [60064, 60065, 60066, 60067] M u ∧ ((M.1 60 0 64).toInt ≤ (u.1 60 0 64).toInt ∧ (M.1 60 0 66).toInt ≤ (u.1 60 0 66).toInt ∧ (u.1 60 0 64).toInt ≤ (u.1 60 0 65).toInt ∧ ∃ s8 : Nat × Int, rt_PS T9 S9 2 1 s9 s8 ∧ rt_ms kc S9 B9 u s8 ∧ (s8.2 < 0 → (u.1 60 0 66).toInt = 1))) (fun u t => fm_at D ad C nb u t.heap) (fm_A nb ad)) ([.ref (ad 60 0)] : List Value).toArray s 0 0 (fm_A nb ad)) (F0 m 5 ls []) := by
    intro n_lp
    induction n_lp with
    | zero => intro lp_1 M_lp hm_lp hv hq hI hE H locs hw hS ls hl; exact absurd hm_lp (Nat.not_lt_zero _)
    | succ n_lp ih_lp =>
      intro lp_1 M_lp hm_lp hv hq hI hE H locs hw hS ls hl
      obtain ⟨s7, ms7, oo7, hq7⟩ := hq
      refine lv_aload_n hx hb dX12_both_5 rfl (lv_at hl 1 rfl) ?_
      obtain ⟨q4, vq4, hQq4, hRq4⟩ := hc.2.2.2.2.1 (RX12, 370, "and", [97, 110, 100]) (by decide)
      refine va_ldcwS hx hb hown hRq4 dX12_both_6 ?_
      have tk5 := rt_TMs hE (by decide) hTK
      refine fm_ci (va_runV (As := [.ref q4]) (rest := []) ⟨hx, hb, hml, hown, hts⟩ (fc_X12_take l D ad C nb M_lp hI q4 vq4 3 (fun j => ([97, 110, 100] : List Int32).getD j 0) (by decide) kc S9 B9 T9 (s7) 10 (by omega) tk5 ms7 rt_cd_10) (cwV 1 hts gX12_both_X12_take rfl rfl rfl (by decide +kernel) ⟨Nat.le_of_ble_eq_true rfl, Nat.le_of_ble_eq_true rfl⟩) (fm_preVS hc hw hS hQq4 kl_60 sh_60 rfl) rfl rfl hl.1 rfl (lv_room (Nat.le_of_ble_eq_true rfl)) dX12_both_9 ⟨by decide +kernel, by decide +kernel⟩) hS hc (fun r6 M7 H locs hr6 hw hS => ?_)
      obtain ⟨hI, hEM7, hr6⟩ := hr6
      have hE := hE.tr hEM7 (by decide)
      have mM7_60_63 : (M7.1 60 0 63).toInt = (M_lp.1 60 0 63).toInt := by rw [(hEM7 60 0 63 (by decide)).1]
      have mM7_60_66 : (M7.1 60 0 66).toInt = (M_lp.1 60 0 66).toInt := by rw [(hEM7 60 0 66 (by decide)).1]
      rcases hr6 with ⟨rfl, ahr6, bhr6, dhr6, ehr6, mhr6⟩ | ⟨rfl, ahr6, bhr6, dhr6, mhr6⟩
      · have ooM7 : (rt_adv T9 (s7)).2 < 0 → (M7.1 60 0 66).toInt = 1 := fun z => by have z9 := oo7 z; omega
        refine fx_if_eq (tgt := 37) hx hb dX12_both_12 (by decide) zk_1 (fun c8 => by exfalso; omega) (fun c8 => ?_)
        refine lv_aload_n hx hb dX12_both_15 rfl (lv_at hl 1 rfl) ?_
        have tk9 := rt_TMs hE (by decide) hTK
        have d10_63 := hI.bd (k := 0) bd_60_63
        have d10_64 := hI.bd (k := 0) bd_60_64
        have d10_65 := hI.bd (k := 0) bd_60_65
        have d10_66 := hI.bd (k := 0) bd_60_66
        refine fm_ci (va_runV (As := []) (rest := []) ⟨hx, hb, hml, hown, hts⟩ (fc_X12_turned_1 l D ad C nb M7 hI kc S9 B9 T9 (rt_adv T9 (s7)) (by omega) (by omega) tk9 mhr6 ooM7) (cwV 0 hts gX12_both_X12_turned rfl rfl rfl (by decide +kernel) ⟨Nat.le_of_ble_eq_true rfl, Nat.le_of_ble_eq_true rfl⟩) (fm_preV hc hw hS kl_60 sh_60 rfl) rfl rfl hl.1 rfl (lv_room (Nat.le_of_ble_eq_true rfl)) dX12_both_16 ⟨by decide +kernel, by decide +kernel⟩) hS hc (fun r11 M12 H locs hr11 hw hS => ?_)
        obtain ⟨hI, hEM12, hr11⟩ := hr11
        have hE := hE.tr hEM12 (by decide)
        have mM12_60_63 : (M12.1 60 0 63).toInt = (M7.1 60 0 63).toInt := by rw [(hEM12 60 0 63 (by decide)).1]
        obtain ⟨ahr11, bhr11, dhr11, shr11, phr11, mhr11, ohr11⟩ := hr11
        refine lv_istore_n (lv' := [(2, .int r11), (1, .int lp_1), (0, .ref (ad 60 0))]) hx hb dX12_both_19 rfl hl (by decide) rfl (fun ls hl => ?_)
        refine lv_iload_n hx hb dX12_both_20 rfl (lv_at hl 1 rfl) ?_
        refine fx_if_eq (tgt := 32) hx hb dX12_both_21 (by decide) rfl (fun c13 => ?_) (fun c13 => ?_)
        · refine lv_iconst (v := 0) hx hb dX12_both_32 (by decide) ?_
          refine lv_istore_n (lv' := [(1, .int 0), (2, .int r11), (0, .ref (ad 60 0))]) hx hb dX12_both_33 rfl hl (by decide) rfl (fun ls hl => ?_)
          refine lv_goto (tgt := 5) hx hb dX12_both_34 (by decide) ?_
          exact ih_lp 0 M12 (by omega) (by omega) ⟨shr11, mhr11, ohr11, fun r h => hq7 r (rt_PS_3y ⟨dhr6, ehr6⟩ phr11 h)⟩ hI hE _ _ hw hS ls (lv_sub hl [0, 2] rfl)
        · refine lv_iload_n hx hb dX12_both_24 rfl (lv_at hl 0 rfl) ?_
          refine fx_if_eq (tgt := 32) hx hb dX12_both_25 (by decide) rfl (fun c14 => ?_) (fun c14 => ?_)
          · refine lv_iconst (v := 0) hx hb dX12_both_32 (by decide) ?_
            refine lv_istore_n (lv' := [(1, .int 0), (2, .int r11), (0, .ref (ad 60 0))]) hx hb dX12_both_33 rfl hl (by decide) rfl (fun ls hl => ?_)
            refine lv_goto (tgt := 5) hx hb dX12_both_34 (by decide) ?_
            exact ih_lp 0 M12 (by omega) (by omega) ⟨shr11, mhr11, ohr11, fun r h => hq7 r (rt_PS_3y ⟨dhr6, ehr6⟩ phr11 h)⟩ hI hE _ _ hw hS ls (lv_sub hl [0, 2] rfl)
          · refine lv_iconst (v := 1) hx hb dX12_both_28 (by decide) ?_
            refine lv_goto (tgt := 33) hx hb dX12_both_29 (by decide) ?_
            refine lv_istore_n (lv' := [(1, .int 1), (2, .int r11), (0, .ref (ad 60 0))]) hx hb dX12_both_33 rfl hl (by decide) rfl (fun ls hl => ?_)
            refine lv_goto (tgt := 5) hx hb dX12_both_34 (by decide) ?_
            exact ih_lp 1 M12 (by omega) (by omega) ⟨shr11, mhr11, ohr11, fun r h => hq7 r (rt_PS_3y ⟨dhr6, ehr6⟩ phr11 h)⟩ hI hE _ _ hw hS ls (lv_sub hl [0, 2] rfl)
      · have ooM7 : (s7).2 < 0 → (M7.1 60 0 66).toInt = 1 := fun z => by have z9 := oo7 z; omega
        refine fx_if_eq (tgt := 37) hx hb dX12_both_12 (by decide) zk_0 (fun c15 => ?_) (fun c15 => by exfalso; omega)
        refine lv_iload_n hx hb dX12_both_37 rfl (lv_at hl 0 rfl) ?_
        exact W.iret (v := lp_1) hx hb hr (fun t ht hW => ⟨⟨lp_1, M7, rfl, ⟨hI, hE, ⟨by omega, by omega, by omega, s7, (hq7 _ (rt_PS_3n dhr6)), mhr6, ooM7⟩⟩, by show fm_at D ad C nb _ t.heap; rw [ht]; exact hw⟩, hS.F ht⟩) hS.2.2 dX12_both_38
  exact lp _ r2 M3 (Nat.lt_succ_self _) (by omega) ⟨shr2, mhr2, ohr2, fun r h => rt_PS_2 phr2 h⟩ hI hE _ _ hw hS ls (lv_sub hl [0, 1] rfl)
set_option maxHeartbeats 400000 in
set_option maxRecDepth 20000 in
theorem fc_X12_either_1 (l : Launch) (D : va_G) (ad : Nat → Nat → Nat) (C : Nat → Nat → ClassId) (nb : Nat) (M : fm_M) (hI : fm_I nb ad M) (kc : Nat) (S9 B9 T9 : Nat → Int) (s9 : Nat × Int) (hft : (M.1 60 0 64).toInt ≤ (M.1 60 0 65).toInt) (hop : 1 ≤ (M.1 60 0 66).toInt) (hTK : rt_TM M kc S9 B9 T9) (hms : rt_ms kc S9 B9 M s9) (hoo : s9.2 < 0 → (M.1 60 0 66).toInt = 1) : Met l yX12_either wsX12_either ({ frames := 34, cells := 0, slots := 0, locals := 736 }) (va_Pc [.ref (ad 60 0)] (fm_P D ad C nb M)) (va_Qi (fun (r : Int32) (u : fm_M) => fm_I nb ad u ∧ fm_same [60064, 60065, 60066, 60067] M u ∧ ((M.1 60 0 64).toInt ≤ (u.1 60 0 64).toInt ∧ (M.1 60 0 66).toInt ≤ (u.1 60 0 66).toInt ∧ (u.1 60 0 64).toInt ≤ (u.1 60 0 65).toInt ∧ ∃ s8 : Nat × Int, rt_PS T9 S9 0 1 s9 s8 ∧ rt_ms kc S9 B9 u s8 ∧ (s8.2 < 0 → (u.1 60 0 66).toInt = 1))) (fun u t => fm_at D ad C nb u t.heap) (fm_A nb ad)) 0 0 (fm_A nb ad) := by
  refine Met.ofW (cc := cX12_either) (maxL := 3) (ret := (some .int)) (by decide) rfl ?_
  intro p e s m args below meth c s₁ B hml hv
  obtain ⟨rfl, hw, hc⟩ := hv
  have hx := B.exec
  have hb := B.bytes
  have hr := B.returns
  have hts := atoms_spec (ws := wsX12_either) B.pre
  have hown : s.vm.findClass RX12 = some m.cls := findClass_of_methodNamed B.named
  have hS : va_S (fm_A nb ad) s.heap s.heap [] := va_S.rf
  have hE : fm_same [60064, 60065, 60066, 60067] M M := fm_same.rf
  have hl := lv_entry ([.ref (ad 60 0)]) (n := 3) (Nat.le_of_ble_eq_true rfl)
  rw [lg_entry_eq]
  generalize (lg_sl ([.ref (ad 60 0)]) ++ List.replicate (3 - (lg_sl ([.ref (ad 60 0)])).length) Slot.unset).toArray = ls at hl ⊢
  have hl : lv_has ls 3 [(0, .ref (ad 60 0))] := hl
  refine lv_aload_n hx hb dX12_either_0 rfl (lv_at hl 0 rfl) ?_
  have d1_63 := hI.bd (k := 0) bd_60_63
  have d1_64 := hI.bd (k := 0) bd_60_64
  have d1_65 := hI.bd (k := 0) bd_60_65
  have d1_66 := hI.bd (k := 0) bd_60_66
  refine fm_ci (va_runV (As := []) (rest := []) ⟨hx, hb, hml, hown, hts⟩ (fc_X12_both_1 l D ad C nb M hI kc S9 B9 T9 (s9) (by omega) (by omega) hTK hms hoo) (cwV 0 hts gX12_either_X12_both rfl rfl rfl (by decide +kernel) ⟨Nat.le_of_ble_eq_true rfl, Nat.le_of_ble_eq_true rfl⟩) (fm_preV hc hw hS kl_60 sh_60 rfl) rfl rfl hl.1 rfl (lv_room (Nat.le_of_ble_eq_true rfl)) dX12_either_1 ⟨by decide +kernel, by decide +kernel⟩) hS hc (fun r2 M3 H locs hr2 hw hS => ?_)
  obtain ⟨hI, hEM3, hr2⟩ := hr2
  have hE := hE.tr hEM3 (by decide)
  have mM3_60_63 : (M3.1 60 0 63).toInt = (M.1 60 0 63).toInt := by rw [(hEM3 60 0 63 (by decide)).1]
  obtain ⟨ahr2, bhr2, dhr2, shr2, phr2, mhr2, ohr2⟩ := hr2
  refine lv_istore_n (lv' := [(1, .int r2), (0, .ref (ad 60 0))]) hx hb dX12_either_4 rfl hl (by decide) rfl (fun ls hl => ?_)
  have lp : ∀ (n_lp : Nat) (lp_1 : Int32) (M_lp : fm_M), (161 - (M_lp.1 60 0 64).toInt).toNat < n_lp → ((M.1 60 0 64).toInt ≤ (M_lp.1 60 0 64).toInt ∧ (M.1 60 0 66).toInt ≤ (M_lp.1 60 0 66).toInt ∧ (M_lp.1 60 0 64).toInt ≤ (M_lp.1 60 0 65).toInt) → (∃ s : Nat × Int, rt_ms kc S9 B9 M_lp s ∧ (s.2 < 0 → (M_lp.1 60 0 66).toInt = 1) ∧ ∀ r : Nat × Int, rt_PS T9 S9 1 1 s r → rt_PS T9 S9 0 1 s9 r) → fm_I nb ad M_lp → fm_same [60064, 60065, 60066, 60067] M M_lp → ∀ (H : Heap) (locs : List Loc), fm_at D ad C nb M_lp H → va_S (fm_A nb ad) s.heap H locs → ∀ (ls : Array Slot), lv_has ls 3 [(1, .int lp_1), (0, .ref (ad 60 0))] → W p l e (headSpec wsX12_either ({ frames := 34, cells := 0, slots := 0, locals := 736 })).room s m ([.ref (ad 60 0)] : List Value).toArray below meth c H locs 0 0 (MQ below (va_Qi (fun (r : Int32) (u : fm_M) => fm_I nb ad u ∧ fm_same [60064, 60065, 60066, 60067] M u ∧ ((M.1 60 0 64).toInt ≤ (u.1 60 0 64).toInt ∧ (M.1 60 0 66).toInt ≤ (u.1 60 0 66).toInt ∧ (u.1 60 0 64).toInt ≤ (u.1 60 0 65).toInt ∧ ∃ s8 : Nat × Int, rt_PS T9 S9 0 1 s9 s8 ∧ rt_ms kc S9 B9 u s8 ∧ (s8.2 < 0 → (u.1 60 0 66).toInt = 1))) (fun u t => fm_at D ad C nb u t.heap) (fm_A nb ad)) ([.ref (ad 60 0)] : List Value).toArray s 0 0 (fm_A nb ad)) (F0 m 5 ls []) := by
    intro n_lp
    induction n_lp with
    | zero => intro lp_1 M_lp hm_lp hv hq hI hE H locs hw hS ls hl; exact absurd hm_lp (Nat.not_lt_zero _)
    | succ n_lp ih_lp =>
      intro lp_1 M_lp hm_lp hv hq hI hE H locs hw hS ls hl
      obtain ⟨s7, ms7, oo7, hq7⟩ := hq
      refine lv_aload_n hx hb dX12_either_5 rfl (lv_at hl 1 rfl) ?_
      obtain ⟨q4, vq4, hQq4, hRq4⟩ := hc.2.2.2.2.1 (RX12, 362, "or", [111, 114]) (by decide)
      refine va_ldcwS hx hb hown hRq4 dX12_either_6 ?_
      have tk5 := rt_TMs hE (by decide) hTK
      refine fm_ci (va_runV (As := [.ref q4]) (rest := []) ⟨hx, hb, hml, hown, hts⟩ (fc_X12_take l D ad C nb M_lp hI q4 vq4 2 (fun j => ([111, 114] : List Int32).getD j 0) (by decide) kc S9 B9 T9 (s7) 9 (by omega) tk5 ms7 rt_cd_9) (cwV 1 hts gX12_either_X12_take rfl rfl rfl (by decide +kernel) ⟨Nat.le_of_ble_eq_true rfl, Nat.le_of_ble_eq_true rfl⟩) (fm_preVS hc hw hS hQq4 kl_60 sh_60 rfl) rfl rfl hl.1 rfl (lv_room (Nat.le_of_ble_eq_true rfl)) dX12_either_9 ⟨by decide +kernel, by decide +kernel⟩) hS hc (fun r6 M7 H locs hr6 hw hS => ?_)
      obtain ⟨hI, hEM7, hr6⟩ := hr6
      have hE := hE.tr hEM7 (by decide)
      have mM7_60_63 : (M7.1 60 0 63).toInt = (M_lp.1 60 0 63).toInt := by rw [(hEM7 60 0 63 (by decide)).1]
      have mM7_60_66 : (M7.1 60 0 66).toInt = (M_lp.1 60 0 66).toInt := by rw [(hEM7 60 0 66 (by decide)).1]
      rcases hr6 with ⟨rfl, ahr6, bhr6, dhr6, ehr6, mhr6⟩ | ⟨rfl, ahr6, bhr6, dhr6, mhr6⟩
      · have ooM7 : (rt_adv T9 (s7)).2 < 0 → (M7.1 60 0 66).toInt = 1 := fun z => by have z9 := oo7 z; omega
        refine fx_if_eq (tgt := 37) hx hb dX12_either_12 (by decide) zk_1 (fun c8 => by exfalso; omega) (fun c8 => ?_)
        refine lv_aload_n hx hb dX12_either_15 rfl (lv_at hl 1 rfl) ?_
        have tk9 := rt_TMs hE (by decide) hTK
        have d10_63 := hI.bd (k := 0) bd_60_63
        have d10_64 := hI.bd (k := 0) bd_60_64
        have d10_65 := hI.bd (k := 0) bd_60_65
        have d10_66 := hI.bd (k := 0) bd_60_66
        refine fm_ci (va_runV (As := []) (rest := []) ⟨hx, hb, hml, hown, hts⟩ (fc_X12_both_1 l D ad C nb M7 hI kc S9 B9 T9 (rt_adv T9 (s7)) (by omega) (by omega) tk9 mhr6 ooM7) (cwV 0 hts gX12_either_X12_both rfl rfl rfl (by decide +kernel) ⟨Nat.le_of_ble_eq_true rfl, Nat.le_of_ble_eq_true rfl⟩) (fm_preV hc hw hS kl_60 sh_60 rfl) rfl rfl hl.1 rfl (lv_room (Nat.le_of_ble_eq_true rfl)) dX12_either_16 ⟨by decide +kernel, by decide +kernel⟩) hS hc (fun r11 M12 H locs hr11 hw hS => ?_)
        obtain ⟨hI, hEM12, hr11⟩ := hr11
        have hE := hE.tr hEM12 (by decide)
        have mM12_60_63 : (M12.1 60 0 63).toInt = (M7.1 60 0 63).toInt := by rw [(hEM12 60 0 63 (by decide)).1]
        obtain ⟨ahr11, bhr11, dhr11, shr11, phr11, mhr11, ohr11⟩ := hr11
        refine lv_istore_n (lv' := [(2, .int r11), (1, .int lp_1), (0, .ref (ad 60 0))]) hx hb dX12_either_19 rfl hl (by decide) rfl (fun ls hl => ?_)
        refine lv_iload_n hx hb dX12_either_20 rfl (lv_at hl 1 rfl) ?_
        refine fx_if_ne (tgt := 28) hx hb dX12_either_21 (by decide) rfl (fun c13 => ?_) (fun c13 => ?_)
        · refine lv_iconst (v := 1) hx hb dX12_either_28 (by decide) ?_
          refine lv_goto (tgt := 33) hx hb dX12_either_29 (by decide) ?_
          refine lv_istore_n (lv' := [(1, .int 1), (2, .int r11), (0, .ref (ad 60 0))]) hx hb dX12_either_33 rfl hl (by decide) rfl (fun ls hl => ?_)
          refine lv_goto (tgt := 5) hx hb dX12_either_34 (by decide) ?_
          exact ih_lp 1 M12 (by omega) (by omega) ⟨shr11, mhr11, ohr11, fun r h => hq7 r (rt_PS_1y ⟨dhr6, ehr6⟩ phr11 h)⟩ hI hE _ _ hw hS ls (lv_sub hl [0, 2] rfl)
        · refine lv_iload_n hx hb dX12_either_24 rfl (lv_at hl 0 rfl) ?_
          refine fx_if_eq (tgt := 32) hx hb dX12_either_25 (by decide) rfl (fun c14 => ?_) (fun c14 => ?_)
          · refine lv_iconst (v := 0) hx hb dX12_either_32 (by decide) ?_
            refine lv_istore_n (lv' := [(1, .int 0), (2, .int r11), (0, .ref (ad 60 0))]) hx hb dX12_either_33 rfl hl (by decide) rfl (fun ls hl => ?_)
            refine lv_goto (tgt := 5) hx hb dX12_either_34 (by decide) ?_
            exact ih_lp 0 M12 (by omega) (by omega) ⟨shr11, mhr11, ohr11, fun r h => hq7 r (rt_PS_1y ⟨dhr6, ehr6⟩ phr11 h)⟩ hI hE _ _ hw hS ls (lv_sub hl [0, 2] rfl)
          · refine lv_iconst (v := 1) hx hb dX12_either_28 (by decide) ?_
            refine lv_goto (tgt := 33) hx hb dX12_either_29 (by decide) ?_
            refine lv_istore_n (lv' := [(1, .int 1), (2, .int r11), (0, .ref (ad 60 0))]) hx hb dX12_either_33 rfl hl (by decide) rfl (fun ls hl => ?_)
            refine lv_goto (tgt := 5) hx hb dX12_either_34 (by decide) ?_
            exact ih_lp 1 M12 (by omega) (by omega) ⟨shr11, mhr11, ohr11, fun r h => hq7 r (rt_PS_1y ⟨dhr6, ehr6⟩ phr11 h)⟩ hI hE _ _ hw hS ls (lv_sub hl [0, 2] rfl)
      · have ooM7 : (s7).2 < 0 → (M7.1 60 0 66).toInt = 1 := fun z => by have z9 := oo7 z; omega
        refine fx_if_eq (tgt := 37) hx hb dX12_either_12 (by decide) zk_0 (fun c15 => ?_) (fun c15 => by exfalso; omega)
        refine lv_iload_n hx hb dX12_either_37 rfl (lv_at hl 0 rfl) ?_
        exact W.iret (v := lp_1) hx hb hr (fun t ht hW => ⟨⟨lp_1, M7, rfl, ⟨hI, hE, ⟨by omega, by omega, by omega, s7, (hq7 _ (rt_PS_1n dhr6)), mhr6, ooM7⟩⟩, by show fm_at D ad C nb _ t.heap; rw [ht]; exact hw⟩, hS.F ht⟩) hS.2.2 dX12_either_38
  exact lp _ r2 M3 (Nat.lt_succ_self _) (by omega) ⟨shr2, mhr2, ohr2, fun r h => rt_PS_0 phr2 h⟩ hI hE _ _ hw hS ls (lv_sub hl [0, 1] rfl)
set_option maxHeartbeats 400000 in
set_option maxRecDepth 20000 in
theorem fc_X12_one_0 (l : Launch) (D : va_G) (ad : Nat → Nat → Nat) (C : Nat → Nat → ClassId) (nb : Nat) (M : fm_M) (hI : fm_I nb ad M) (kc : Nat) (S9 B9 T9 : Nat → Int) (s9 : Nat × Int) (hft : (M.1 60 0 64).toInt ≤ (M.1 60 0 65).toInt) (hop : 0 ≤ (M.1 60 0 66).toInt) (hTK : rt_TM M kc S9 B9 T9) (hms : rt_ms kc S9 B9 M s9) (hoo : s9.2 < 0 → (M.1 60 0 66).toInt = 0) : Met l yX12_one wsX12_one ({ frames := 35, cells := 0, slots := 0, locals := 758 }) (va_Pc [.ref (ad 60 0)] (fm_P D ad C nb M)) (va_Qi (fun (r : Int32) (u : fm_M) => fm_I nb ad u ∧ fm_same [60064, 60065, 60066, 60067] M u ∧ ((M.1 60 0 64).toInt ≤ (u.1 60 0 64).toInt ∧ (M.1 60 0 66).toInt ≤ (u.1 60 0 66).toInt ∧ (u.1 60 0 64).toInt ≤ (u.1 60 0 65).toInt ∧ ∃ s8 : Nat × Int, rt_PS T9 S9 10 0 s9 s8 ∧ rt_ms kc S9 B9 u s8 ∧ (s8.2 < 0 → (u.1 60 0 66).toInt = 0))) (fun u t => fm_at D ad C nb u t.heap) (fm_A nb ad)) 0 0 (fm_A nb ad) := by
  refine Met.ofW (cc := cX12_one) (maxL := 3) (ret := (some .int)) (by decide) rfl ?_
  intro p e s m args below meth c s₁ B hml hv
  obtain ⟨rfl, hw, hc⟩ := hv
  have hx := B.exec
  have hb := B.bytes
  have hr := B.returns
  have hts := atoms_spec (ws := wsX12_one) B.pre
  have hown : s.vm.findClass RX12 = some m.cls := findClass_of_methodNamed B.named
  have hinX12 : ∀ w ∈ u_ws RX12 TX12 79, w ∈ wsX12_one := fun w h => List.mem_cons_of_mem _ (iT_X12 w h)
  have hS : va_S (fm_A nb ad) s.heap s.heap [] := va_S.rf
  have hE : fm_same [60064, 60065, 60066, 60067] M M := fm_same.rf
  have hl := lv_entry ([.ref (ad 60 0)]) (n := 3) (Nat.le_of_ble_eq_true rfl)
  rw [lg_entry_eq]
  generalize (lg_sl ([.ref (ad 60 0)]) ++ List.replicate (3 - (lg_sl ([.ref (ad 60 0)])).length) Slot.unset).toArray = ls at hl ⊢
  have hl : lv_has ls 3 [(0, .ref (ad 60 0))] := hl
  refine lv_aload_n hx hb dX12_one_0 rfl (lv_at hl 0 rfl) ?_
  refine fm_getI (a := 60) (j := 67) (T := TX12) (N := 79) hx hb hts hinX12 hown hc hw hI kl_60 sh_60 rfl (by decide) rfl bd_60_67 (hts (.fieldLink RX12 349 "RedTentModel" "fault" "I") (List.mem_cons_of_mem _ tw_5_187)) (fun _ h9 => h9) dX12_one_1 (fun x1 ex1 bx1 => ?_)
  refine fx_if_lt (tgt := 9) hx hb dX12_one_4 (by decide) rfl (fun c2 => ?_) (fun c2 => ?_)
  · have gh : s9.2 = x1.toInt := by rw [ex1]; exact hms.2.2.2.symm
    have hs0 : s9.2 < 0 := by omega
    have ho0 := hoo hs0
    refine lv_aload_n hx hb dX12_one_9 rfl (lv_at hl 0 rfl) ?_
    obtain ⟨q3, vq3, hQq3, hRq3⟩ := hc.2.2.2.2.1 (RX12, 396, "-", [45]) (by decide)
    refine va_ldcwS hx hb hown hRq3 dX12_one_10 ?_
    refine vp_callSi (va_Run.run (va_runV (As := [.ref q3]) (rest := []) ⟨hx, hb, hml, hown, hts⟩ (fc_X12_is l D ad C nb M hI q3 vq3 1 (fun j => ([45] : List Int32).getD j 0) (by decide) (rt_mto hTK hms) rt_cd_45.2.1) (cwV 1 hts gX12_one_X12_is rfl rfl rfl (by decide +kernel) ⟨Nat.le_of_ble_eq_true rfl, Nat.le_of_ble_eq_true rfl⟩) (fm_preVS hc hw hS hQq3 kl_60 sh_60 rfl) rfl rfl hl.1 rfl (lv_room (Nat.le_of_ble_eq_true rfl)) dX12_one_13 ⟨by decide +kernel, by decide +kernel⟩)) (fun r4 hr4 => ?_)
    rcases hr4 with ⟨rfl, chr4⟩ | ⟨rfl, chr4⟩
    · have sv5 := (rt_is hTK hms rt_cd_45).mp chr4
      refine fx_if_eq (tgt := 46) hx hb dX12_one_16 (by decide) zk_1 (fun c6 => by exfalso; omega) (fun c6 => ?_)
      refine lv_aload_n hx hb dX12_one_19 rfl (lv_at hl 0 rfl) ?_
      have hJ7 := hI
      refine fm_ci (va_runV (As := []) (rest := []) ⟨hx, hb, hml, hown, hts⟩ (fc_X12_opens l D ad C nb M hI kc S9 B9 T9 (s9) hTK hms) (cwV 0 hts gX12_one_X12_opens rfl rfl rfl (by decide +kernel) ⟨Nat.le_of_ble_eq_true rfl, Nat.le_of_ble_eq_true rfl⟩) (fm_preV hc hw hS kl_60 sh_60 rfl) rfl rfl hl.1 rfl (lv_room (Nat.le_of_ble_eq_true rfl)) dX12_one_20 ⟨by decide +kernel, by decide +kernel⟩) hS hc (fun r8 M9 H locs hr8 hw hS => ?_)
      obtain ⟨hI, hEM9, hr8⟩ := hr8
      have hE := hE.tr hEM9 (by decide)
      have mM9_60_63 : (M9.1 60 0 63).toInt = (M.1 60 0 63).toInt := by rw [(hEM9 60 0 63 (by decide)).1]
      rcases hr8 with ⟨rfl, ahr8, bhr8, dhr8, mhr8⟩ | ⟨rfl, zhr8, ahr8, bhr8, dhr8, mhr8⟩
      · have ooM9 : (rt_adv T9 (s9)).2 < 0 → (M9.1 60 0 66).toInt = 1 := fun z => by have z9 := hoo z; omega
        refine fx_if_ne (tgt := 28) hx hb dX12_one_23 (by decide) zk_1 (fun c10 => ?_) (fun c10 => by exfalso; omega)
        refine lv_aload_n hx hb dX12_one_28 rfl (lv_at hl 0 rfl) ?_
        have tk11 := rt_TMs hE (by decide) hTK
        have d12_63 := hI.bd (k := 0) bd_60_63
        have d12_64 := hI.bd (k := 0) bd_60_64
        have d12_65 := hI.bd (k := 0) bd_60_65
        have d12_66 := hI.bd (k := 0) bd_60_66
        refine fm_ci (va_runV (As := []) (rest := []) ⟨hx, hb, hml, hown, hts⟩ (fc_X12_one_1 l D ad C nb M9 hI kc S9 B9 T9 (rt_adv T9 (s9)) (by omega) (by omega) tk11 mhr8 ooM9) (cwV 0 hts gX12_one_X12_one rfl rfl rfl (by decide +kernel) ⟨Nat.le_of_ble_eq_true rfl, Nat.le_of_ble_eq_true rfl⟩) (fm_preV hc hw hS kl_60 sh_60 rfl) rfl rfl hl.1 rfl (lv_room (Nat.le_of_ble_eq_true rfl)) dX12_one_29 ⟨by decide +kernel, by decide +kernel⟩) hS hc (fun r13 M14 H locs hr13 hw hS => ?_)
        obtain ⟨hI, hEM14, hr13⟩ := hr13
        have hE := hE.tr hEM14 (by decide)
        have mM14_60_63 : (M14.1 60 0 63).toInt = (M9.1 60 0 63).toInt := by rw [(hEM14 60 0 63 (by decide)).1]
        obtain ⟨ahr13, bhr13, dhr13, shr13, phr13, mhr13, ohr13⟩ := hr13
        refine lv_istore_n (lv' := [(1, .int r13), (0, .ref (ad 60 0))]) hx hb dX12_one_32 rfl hl (by decide) rfl (fun ls hl => ?_)
        refine lv_aload_n hx hb dX12_one_33 rfl (lv_at hl 1 rfl) ?_
        refine lv_dup hx hb dX12_one_34 rfl ?_
        refine fm_getI (a := 60) (j := 66) (T := TX12) (N := 79) hx hb hts hinX12 hown hc hw hI kl_60 sh_60 rfl (by decide) rfl bd_60_66 (hts (.fieldLink RX12 372 "RedTentModel" "open" "I") (List.mem_cons_of_mem _ tw_5_186)) (fun _ h9 => h9) dX12_one_35 (fun x15 ex15 bx15 => ?_)
        have wx15 : x15.toInt = (M14.1 60 0 66).toInt := by rw [ex15]
        refine lv_iconst (v := 1) hx hb dX12_one_38 (by decide) ?_
        refine fx_isub hx hb dX12_one_39 rfl zk_1 (by omega) (fun y16 ey16 ty16 => ?_)
        refine fm_putI (a := 60) (j := 66) (T := TX12) (N := 79) hx hb hts hinX12 tyX12 tyX12_ok nmX12 hown hc hw hI hE hS kl_60 sh_60 od_60 rfl (by decide) rfl bd_60_66 (hts (.fieldLink RX12 372 "RedTentModel" "open" "I") (List.mem_cons_of_mem _ tw_5_186)) (fun _ h9 => h9) rfl (by decide +kernel) (by omega) (by decide) (by decide) dX12_one_40 (fun M17 H locs eM17 hw hI hE hS => ?_)
        have mM17_60_63 : (M17.1 60 0 63).toInt = (M14.1 60 0 63).toInt := by rw [eM17, fm_wI_nj (fun z => absurd z.2.2 (by decide))]
        have mM17_60_64 : (M17.1 60 0 64).toInt = (M14.1 60 0 64).toInt := by rw [eM17, fm_wI_nj (fun z => absurd z.2.2 (by decide))]
        have mM17_60_65 : (M17.1 60 0 65).toInt = (M14.1 60 0 65).toInt := by rw [eM17, fm_wI_nj (fun z => absurd z.2.2 (by decide))]
        have mM17_60_66 : (M17.1 60 0 66).toInt = y16.toInt := by rw [eM17, fm_wI_at]
        have hEM17 : fm_same [60066] M14 M17 := by rw [eM17]; exact fm_same.rf.wI (by decide)
        have mwM17 := rt_ms_same hEM17 (by decide) mhr13
        have ooM17 : (shr13).2 < 0 → (M17.1 60 0 66).toInt = 0 := fun z => by have z9 := ohr13 z; omega
        refine lv_iload_n hx hb dX12_one_43 rfl (lv_at hl 0 rfl) ?_
        refine lv_ineg hx hb dX12_one_44 ?_
        refine lv_topi (fun y18 ey18 => ?_)
        exact W.iret (v := y18) hx hb hr (fun t ht hW => ⟨⟨y18, M17, rfl, ⟨hI, hE, ⟨by omega, by omega, by omega, shr13, (rt_PS_10m ⟨⟨hs0, sv5⟩, by decide⟩ phr13), mwM17, ooM17⟩⟩, by show fm_at D ad C nb _ t.heap; rw [ht]; exact hw⟩, hS.F ht⟩) hS.2.2 dX12_one_45
      · exfalso; omega
    · have sv19 : ¬ T9 (s9).1 = 45 := fun z => chr4 ((rt_is hTK hms rt_cd_45).mpr z)
      refine fx_if_eq (tgt := 46) hx hb dX12_one_16 (by decide) zk_0 (fun c20 => ?_) (fun c20 => by exfalso; omega)
      refine lv_aload_n hx hb dX12_one_46 rfl (lv_at hl 0 rfl) ?_
      obtain ⟨q21, vq21, hQq21, hRq21⟩ := hc.2.2.2.2.1 (RX12, 403, "(", [40]) (by decide)
      refine va_ldcwS hx hb hown hRq21 dX12_one_47 ?_
      refine vp_callSi (va_Run.run (va_runV (As := [.ref q21]) (rest := []) ⟨hx, hb, hml, hown, hts⟩ (fc_X12_is l D ad C nb M hI q21 vq21 1 (fun j => ([40] : List Int32).getD j 0) (by decide) (rt_mto hTK hms) rt_cd_40.2.1) (cwV 1 hts gX12_one_X12_is rfl rfl rfl (by decide +kernel) ⟨Nat.le_of_ble_eq_true rfl, Nat.le_of_ble_eq_true rfl⟩) (fm_preVS hc hw hS hQq21 kl_60 sh_60 rfl) rfl rfl hl.1 rfl (lv_room (Nat.le_of_ble_eq_true rfl)) dX12_one_50 ⟨by decide +kernel, by decide +kernel⟩)) (fun r22 hr22 => ?_)
      rcases hr22 with ⟨rfl, chr22⟩ | ⟨rfl, chr22⟩
      · have sv23 := (rt_is hTK hms rt_cd_40).mp chr22
        refine fx_if_eq (tgt := 97) hx hb dX12_one_53 (by decide) zk_1 (fun c24 => by exfalso; omega) (fun c24 => ?_)
        refine lv_aload_n hx hb dX12_one_56 rfl (lv_at hl 0 rfl) ?_
        have hJ25 := hI
        refine fm_ci (va_runV (As := []) (rest := []) ⟨hx, hb, hml, hown, hts⟩ (fc_X12_opens l D ad C nb M hI kc S9 B9 T9 (s9) hTK hms) (cwV 0 hts gX12_one_X12_opens rfl rfl rfl (by decide +kernel) ⟨Nat.le_of_ble_eq_true rfl, Nat.le_of_ble_eq_true rfl⟩) (fm_preV hc hw hS kl_60 sh_60 rfl) rfl rfl hl.1 rfl (lv_room (Nat.le_of_ble_eq_true rfl)) dX12_one_57 ⟨by decide +kernel, by decide +kernel⟩) hS hc (fun r26 M27 H locs hr26 hw hS => ?_)
        obtain ⟨hI, hEM27, hr26⟩ := hr26
        have hE := hE.tr hEM27 (by decide)
        have mM27_60_63 : (M27.1 60 0 63).toInt = (M.1 60 0 63).toInt := by rw [(hEM27 60 0 63 (by decide)).1]
        rcases hr26 with ⟨rfl, ahr26, bhr26, dhr26, mhr26⟩ | ⟨rfl, zhr26, ahr26, bhr26, dhr26, mhr26⟩
        · have ooM27 : (rt_adv T9 (s9)).2 < 0 → (M27.1 60 0 66).toInt = 1 := fun z => by have z9 := hoo z; omega
          refine fx_if_ne (tgt := 65) hx hb dX12_one_60 (by decide) zk_1 (fun c28 => ?_) (fun c28 => by exfalso; omega)
          refine lv_aload_n hx hb dX12_one_65 rfl (lv_at hl 0 rfl) ?_
          have tk29 := rt_TMs hE (by decide) hTK
          have d30_63 := hI.bd (k := 0) bd_60_63
          have d30_64 := hI.bd (k := 0) bd_60_64
          have d30_65 := hI.bd (k := 0) bd_60_65
          have d30_66 := hI.bd (k := 0) bd_60_66
          refine fm_ci (va_runV (As := []) (rest := []) ⟨hx, hb, hml, hown, hts⟩ (fc_X12_either_1 l D ad C nb M27 hI kc S9 B9 T9 (rt_adv T9 (s9)) (by omega) (by omega) tk29 mhr26 ooM27) (cwV 0 hts gX12_one_X12_either rfl rfl rfl (by decide +kernel) ⟨Nat.le_of_ble_eq_true rfl, Nat.le_of_ble_eq_true rfl⟩) (fm_preV hc hw hS kl_60 sh_60 rfl) rfl rfl hl.1 rfl (lv_room (Nat.le_of_ble_eq_true rfl)) dX12_one_66 ⟨by decide +kernel, by decide +kernel⟩) hS hc (fun r31 M32 H locs hr31 hw hS => ?_)
          obtain ⟨hI, hEM32, hr31⟩ := hr31
          have hE := hE.tr hEM32 (by decide)
          have mM32_60_63 : (M32.1 60 0 63).toInt = (M27.1 60 0 63).toInt := by rw [(hEM32 60 0 63 (by decide)).1]
          obtain ⟨ahr31, bhr31, dhr31, shr31, phr31, mhr31, ohr31⟩ := hr31
          refine lv_istore_n (lv' := [(1, .int r31), (0, .ref (ad 60 0))]) hx hb dX12_one_69 rfl hl (by decide) rfl (fun ls hl => ?_)
          refine lv_aload_n hx hb dX12_one_70 rfl (lv_at hl 1 rfl) ?_
          obtain ⟨q33, vq33, hQq33, hRq33⟩ := hc.2.2.2.2.1 (RX12, 408, ")", [41]) (by decide)
          refine va_ldcwS hx hb hown hRq33 dX12_one_71 ?_
          have tk34 := rt_TMs hE (by decide) hTK
          refine fm_ci (va_runV (As := [.ref q33]) (rest := []) ⟨hx, hb, hml, hown, hts⟩ (fc_X12_take l D ad C nb M32 hI q33 vq33 1 (fun j => ([41] : List Int32).getD j 0) (by decide) kc S9 B9 T9 (shr31) 41 (by omega) tk34 mhr31 rt_cd_41) (cwV 1 hts gX12_one_X12_take rfl rfl rfl (by decide +kernel) ⟨Nat.le_of_ble_eq_true rfl, Nat.le_of_ble_eq_true rfl⟩) (fm_preVS hc hw hS hQq33 kl_60 sh_60 rfl) rfl rfl hl.1 rfl (lv_room (Nat.le_of_ble_eq_true rfl)) dX12_one_74 ⟨by decide +kernel, by decide +kernel⟩) hS hc (fun r35 M36 H locs hr35 hw hS => ?_)
          obtain ⟨hI, hEM36, hr35⟩ := hr35
          have hE := hE.tr hEM36 (by decide)
          have mM36_60_63 : (M36.1 60 0 63).toInt = (M32.1 60 0 63).toInt := by rw [(hEM36 60 0 63 (by decide)).1]
          have mM36_60_66 : (M36.1 60 0 66).toInt = (M32.1 60 0 66).toInt := by rw [(hEM36 60 0 66 (by decide)).1]
          rcases hr35 with ⟨rfl, ahr35, bhr35, dhr35, ehr35, mhr35⟩ | ⟨rfl, ahr35, bhr35, dhr35, mhr35⟩
          · have ooM36 : (rt_adv T9 (shr31)).2 < 0 → (M36.1 60 0 66).toInt = 1 := fun z => by have z9 := ohr31 z; omega
            refine fx_if_ne (tgt := 85) hx hb dX12_one_77 (by decide) zk_1 (fun c37 => ?_) (fun c37 => by exfalso; omega)
            refine lv_aload_n hx hb dX12_one_85 rfl (lv_at hl 1 rfl) ?_
            refine lv_dup hx hb dX12_one_86 rfl ?_
            refine fm_getI (a := 60) (j := 66) (T := TX12) (N := 79) hx hb hts hinX12 hown hc hw hI kl_60 sh_60 rfl (by decide) rfl bd_60_66 (hts (.fieldLink RX12 372 "RedTentModel" "open" "I") (List.mem_cons_of_mem _ tw_5_186)) (fun _ h9 => h9) dX12_one_87 (fun x38 ex38 bx38 => ?_)
            have wx38 : x38.toInt = (M36.1 60 0 66).toInt := by rw [ex38]
            refine lv_iconst (v := 1) hx hb dX12_one_90 (by decide) ?_
            refine fx_isub hx hb dX12_one_91 rfl zk_1 (by omega) (fun y39 ey39 ty39 => ?_)
            refine fm_putI (a := 60) (j := 66) (T := TX12) (N := 79) hx hb hts hinX12 tyX12 tyX12_ok nmX12 hown hc hw hI hE hS kl_60 sh_60 od_60 rfl (by decide) rfl bd_60_66 (hts (.fieldLink RX12 372 "RedTentModel" "open" "I") (List.mem_cons_of_mem _ tw_5_186)) (fun _ h9 => h9) rfl (by decide +kernel) (by omega) (by decide) (by decide) dX12_one_92 (fun M40 H locs eM40 hw hI hE hS => ?_)
            have mM40_60_63 : (M40.1 60 0 63).toInt = (M36.1 60 0 63).toInt := by rw [eM40, fm_wI_nj (fun z => absurd z.2.2 (by decide))]
            have mM40_60_64 : (M40.1 60 0 64).toInt = (M36.1 60 0 64).toInt := by rw [eM40, fm_wI_nj (fun z => absurd z.2.2 (by decide))]
            have mM40_60_65 : (M40.1 60 0 65).toInt = (M36.1 60 0 65).toInt := by rw [eM40, fm_wI_nj (fun z => absurd z.2.2 (by decide))]
            have mM40_60_66 : (M40.1 60 0 66).toInt = y39.toInt := by rw [eM40, fm_wI_at]
            have hEM40 : fm_same [60066] M36 M40 := by rw [eM40]; exact fm_same.rf.wI (by decide)
            have mwM40 := rt_ms_same hEM40 (by decide) mhr35
            have ooM40 : (rt_adv T9 (shr31)).2 < 0 → (M40.1 60 0 66).toInt = 0 := fun z => by have z9 := ooM36 z; omega
            refine lv_iload_n hx hb dX12_one_95 rfl (lv_at hl 0 rfl) ?_
            exact W.iret (v := r31) hx hb hr (fun t ht hW => ⟨⟨r31, M40, rfl, ⟨hI, hE, ⟨by omega, by omega, by omega, rt_adv T9 (shr31), (by rw [← rt_need_y (S := S9) ⟨dhr35, ehr35⟩]; exact rt_PS_10b ⟨⟨hs0, sv23⟩, by decide⟩ phr31), mwM40, ooM40⟩⟩, by show fm_at D ad C nb _ t.heap; rw [ht]; exact hw⟩, hS.F ht⟩) hS.2.2 dX12_one_96
          · have ooM36 : (shr31).2 < 0 → (M36.1 60 0 66).toInt = 1 := fun z => by have z9 := ohr31 z; omega
            refine fx_if_ne (tgt := 85) hx hb dX12_one_77 (by decide) zk_0 (fun c41 => by exfalso; omega) (fun c41 => ?_)
            refine lv_aload_n hx hb dX12_one_80 rfl (lv_at hl 1 rfl) ?_
            have hJ42 := hI
            refine fm_ci (va_runV (As := []) (rest := []) ⟨hx, hb, hml, hown, hts⟩ (fc_X12_wrong l D ad C nb M36 hI kc S9 B9 (shr31) mhr35) (cwV 0 hts gX12_one_X12_wrong rfl rfl rfl (by decide +kernel) ⟨Nat.le_of_ble_eq_true rfl, Nat.le_of_ble_eq_true rfl⟩) (fm_preV hc hw hS kl_60 sh_60 rfl) rfl rfl hl.1 rfl (lv_room (Nat.le_of_ble_eq_true rfl)) dX12_one_81 ⟨by decide +kernel, by decide +kernel⟩) hS hc (fun r43 M44 H locs hr43 hw hS => ?_)
            obtain ⟨hI, hEM44, hr43⟩ := hr43
            have hE := hE.tr hEM44 (by decide)
            have mM44_60_63 : (M44.1 60 0 63).toInt = (M36.1 60 0 63).toInt := by rw [(hEM44 60 0 63 (by decide)).1]
            have mM44_60_64 : (M44.1 60 0 64).toInt = (M36.1 60 0 64).toInt := by rw [(hEM44 60 0 64 (by decide)).1]
            have mM44_60_65 : (M44.1 60 0 65).toInt = (M36.1 60 0 65).toInt := by rw [(hEM44 60 0 65 (by decide)).1]
            have mM44_60_66 : (M44.1 60 0 66).toInt = (M36.1 60 0 66).toInt := by rw [(hEM44 60 0 66 (by decide)).1]
            obtain ⟨bhr43, mhr43⟩ := hr43
            have ooM44 : (rt_fail S9 (shr31)).2 < 0 → (M44.1 60 0 66).toInt = 0 := rt_ms_f0 mhr35 (hJ42.bd (k := 0) bd_60_64).1
            exact W.iret (v := r43) hx hb hr (fun t ht hW => ⟨⟨r43, M44, rfl, ⟨hI, hE, ⟨by omega, by omega, by omega, rt_fail S9 (shr31), (by rw [← rt_need_n (S := S9) dhr35]; exact rt_PS_10b ⟨⟨hs0, sv23⟩, by decide⟩ phr31), mhr43, ooM44⟩⟩, by show fm_at D ad C nb _ t.heap; rw [ht]; exact hw⟩, hS.F ht⟩) hS.2.2 dX12_one_84
        · exfalso; omega
      · have sv45 : ¬ T9 (s9).1 = 40 := fun z => chr22 ((rt_is hTK hms rt_cd_40).mpr z)
        refine fx_if_eq (tgt := 97) hx hb dX12_one_53 (by decide) zk_0 (fun c46 => ?_) (fun c46 => by exfalso; omega)
        refine lv_aload_n hx hb dX12_one_97 rfl (lv_at hl 0 rfl) ?_
        refine lv_aload_n hx hb dX12_one_98 rfl (lv_at hl 0 rfl) ?_
        refine fm_getI (a := 60) (j := 64) (T := TX12) (N := 79) hx hb hts hinX12 hown hc hw hI kl_60 sh_60 rfl (by decide) rfl bd_60_64 (hts (.fieldLink RX12 340 "RedTentModel" "from" "I") (List.mem_cons_of_mem _ tw_5_184)) (fun _ h9 => h9) dX12_one_99 (fun x47 ex47 bx47 => ?_)
        have wx47 : x47.toInt = (M.1 60 0 64).toInt := by rw [ex47]
        refine vp_callSi (va_Run.run (va_runV (As := [.int x47]) (rest := []) ⟨hx, hb, hml, hown, hts⟩ (fc_X12_isDigit l D ad C nb M hI x47 (by omega)) (cwV 1 hts gX12_one_X12_isDigit rfl rfl rfl (by decide +kernel) ⟨Nat.le_of_ble_eq_true rfl, Nat.le_of_ble_eq_true rfl⟩) (fm_preV hc hw hS kl_60 sh_60 rfl) rfl rfl hl.1 rfl (lv_room (Nat.le_of_ble_eq_true rfl)) dX12_one_102 ⟨by decide +kernel, by decide +kernel⟩)) (fun r48 hr48 => ?_)
        have bqq49 := hI.bd (k := 0) bd_60_62
        have bqq50 := hI.bd (k := 0) bd_60_63
        rcases hr48 with ⟨rfl, c51⟩ | ⟨rfl, c51⟩
        · have g52 : x47.toInt = (M.1 60 0 64).toInt := by omega
          rw [g52] at c51
          have gd := rt_isd hTK hms c51
          refine fx_if_eq (tgt := 167) hx hb dX12_one_105 (by decide) zk_1 (fun c53 => by exfalso; omega) (fun c53 => ?_)
          refine lv_aload_n hx hb dX12_one_108 rfl (lv_at hl 0 rfl) ?_
          refine fm_getI (a := 60) (j := 65) (T := TX12) (N := 79) hx hb hts hinX12 hown hc hw hI kl_60 sh_60 rfl (by decide) rfl bd_60_65 (hts (.fieldLink RX12 337 "RedTentModel" "to" "I") (List.mem_cons_of_mem _ tw_5_185)) (fun _ h9 => h9) dX12_one_109 (fun x54 ex54 bx54 => ?_)
          have wx54 : x54.toInt = (M.1 60 0 65).toInt := by rw [ex54]
          refine lv_aload_n hx hb dX12_one_112 rfl (lv_at hl 0 rfl) ?_
          refine fm_getI (a := 60) (j := 64) (T := TX12) (N := 79) hx hb hts hinX12 hown hc hw hI kl_60 sh_60 rfl (by decide) rfl bd_60_64 (hts (.fieldLink RX12 340 "RedTentModel" "from" "I") (List.mem_cons_of_mem _ tw_5_184)) (fun _ h9 => h9) dX12_one_113 (fun x55 ex55 bx55 => ?_)
          have wx55 : x55.toInt = (M.1 60 0 64).toInt := by rw [ex55]
          obtain rfl : x47 = x55 := by rw [ex55]; exact ex47
          refine fx_isub hx hb dX12_one_116 rfl rfl (by omega) (fun y56 ey56 ty56 => ?_)
          refine lv_iconst (v := 4) hx hb dX12_one_117 (by decide) ?_
          refine fx_icmp_le (tgt := 126) hx hb dX12_one_118 (by decide) rfl zk_4 (fun c57 => ?_) (fun c57 => ?_)
          · refine lv_iconst (v := 0) hx hb dX12_one_126 (by decide) ?_
            refine lv_istore_n (lv' := [(1, .int 0), (0, .ref (ad 60 0))]) hx hb dX12_one_127 rfl hl (by decide) rfl (fun ls hl => ?_)
            refine lv_aload_n hx hb dX12_one_128 rfl (lv_at hl 1 rfl) ?_
            refine fm_getI (a := 60) (j := 64) (T := TX12) (N := 79) hx hb hts hinX12 hown hc hw hI kl_60 sh_60 rfl (by decide) rfl bd_60_64 (hts (.fieldLink RX12 340 "RedTentModel" "from" "I") (List.mem_cons_of_mem _ tw_5_184)) (fun _ h9 => h9) dX12_one_129 (fun x58 ex58 bx58 => ?_)
            have wx58 : x58.toInt = (M.1 60 0 64).toInt := by rw [ex58]
            obtain rfl : x47 = x58 := by rw [ex58]; exact ex47
            refine lv_istore_n (lv' := [(2, .int x47), (1, .int 0), (0, .ref (ad 60 0))]) hx hb dX12_one_132 rfl hl (by decide) rfl (fun ls hl => ?_)
            have lp : ∀ (n_lp : Nat) (lp_2 : Int32) (lp_1 : Int32), (160 - lp_2.toInt).toNat < n_lp → (0 ≤ lp_2.toInt ∧ lp_2.toInt ≤ 160) → ∀ (ls : Array Slot), lv_has ls 3 [(2, .int lp_2), (1, .int lp_1), (0, .ref (ad 60 0))] → W p l e (headSpec wsX12_one ({ frames := 35, cells := 0, slots := 0, locals := 758 })).room s m ([.ref (ad 60 0)] : List Value).toArray below meth c s.heap [] 0 0 (MQ below (va_Qi (fun (r : Int32) (u : fm_M) => fm_I nb ad u ∧ fm_same [60064, 60065, 60066, 60067] M u ∧ ((M.1 60 0 64).toInt ≤ (u.1 60 0 64).toInt ∧ (M.1 60 0 66).toInt ≤ (u.1 60 0 66).toInt ∧ (u.1 60 0 64).toInt ≤ (u.1 60 0 65).toInt ∧ ∃ s8 : Nat × Int, rt_PS T9 S9 10 0 s9 s8 ∧ rt_ms kc S9 B9 u s8 ∧ (s8.2 < 0 → (u.1 60 0 66).toInt = 0))) (fun u t => fm_at D ad C nb u t.heap) (fm_A nb ad)) ([.ref (ad 60 0)] : List Value).toArray s 0 0 (fm_A nb ad)) (F0 m 133 ls []) := by
              intro n_lp
              induction n_lp with
              | zero => intro lp_2 lp_1 hm_lp b_lp_2 ls hl; exact absurd hm_lp (Nat.not_lt_zero _)
              | succ n_lp ih_lp =>
                intro lp_2 lp_1 hm_lp b_lp_2 ls hl
                refine lv_iload_n hx hb dX12_one_133 rfl (lv_at hl 0 rfl) ?_
                refine lv_aload_n hx hb dX12_one_134 rfl (lv_at hl 2 rfl) ?_
                refine fm_getI (a := 60) (j := 65) (T := TX12) (N := 79) hx hb hts hinX12 hown hc hw hI kl_60 sh_60 rfl (by decide) rfl bd_60_65 (hts (.fieldLink RX12 337 "RedTentModel" "to" "I") (List.mem_cons_of_mem _ tw_5_185)) (fun _ h9 => h9) dX12_one_135 (fun x59 ex59 bx59 => ?_)
                have wx59 : x59.toInt = (M.1 60 0 65).toInt := by rw [ex59]
                obtain rfl : x54 = x59 := by rw [ex59]; exact ex54
                refine fx_icmp_ge (tgt := 161) hx hb dX12_one_138 (by decide) rfl rfl (fun c60 => ?_) (fun c60 => ?_)
                · refine lv_aload_n hx hb dX12_one_161 rfl (lv_at hl 2 rfl) ?_
                  refine fm_cv (va_runV (As := []) (rest := []) ⟨hx, hb, hml, hown, hts⟩ (fc_X12_next l D ad C nb M hI (rt_mto hTK hms)) (cwV 0 hts gX12_one_X12_next rfl rfl rfl (by decide +kernel) ⟨Nat.le_of_ble_eq_true rfl, Nat.le_of_ble_eq_true rfl⟩) (fm_preV hc hw hS kl_60 sh_60 rfl) rfl rfl hl.1 rfl (lv_room (Nat.le_of_ble_eq_true rfl)) dX12_one_162 ⟨by decide +kernel, by decide +kernel⟩) hS hc (fun M62 H locs hr61 hw hS => ?_)
                  obtain ⟨hI, hEM62, hr61⟩ := hr61
                  have hE := hE.tr hEM62 (by decide)
                  have mM62_60_63 : (M62.1 60 0 63).toInt = (M.1 60 0 63).toInt := by rw [(hEM62 60 0 63 (by decide)).1]
                  have mM62_60_66 : (M62.1 60 0 66).toInt = (M.1 60 0 66).toInt := by rw [(hEM62 60 0 66 (by decide)).1]
                  obtain ⟨ahr61, bhr61, nhr61⟩ := hr61
                  have mhr61 := rt_ms_next hTK hms nhr61 (hEM62 60 0 67 (by decide)).1
                  have ooM62 : (rt_adv T9 (s9)).2 < 0 → (M62.1 60 0 66).toInt = 0 := fun z => by have z9 := hoo z; omega
                  refine lv_iload_n hx hb dX12_one_165 rfl (lv_at hl 1 rfl) ?_
                  have qx47 : x47.toInt = (M.1 60 0 64).toInt := by rw [ex47]
                  exact W.iret (v := lp_1) hx hb hr (fun t ht hW => ⟨⟨lp_1, M62, rfl, ⟨hI, hE, ⟨by omega, by omega, by omega, rt_adv T9 (s9), (rt_PS_10v ⟨hs0, Or.inl (gd.1 (by omega))⟩), mhr61, ooM62⟩⟩, by show fm_at D ad C nb _ t.heap; rw [ht]; exact hw⟩, hS.F ht⟩) hS.2.2 dX12_one_166
                · refine lv_bipush (v := 10) hx hb dX12_one_141 (by decide) ?_
                  refine lv_iload_n hx hb dX12_one_143 rfl (lv_at hl 1 rfl) ?_
                  refine fx_imulU hx hb dX12_one_144 (fun y63 ey63 => ?_)
                  refine lv_aload_n hx hb dX12_one_145 rfl (lv_at hl 2 rfl) ?_
                  refine lv_iload_n hx hb dX12_one_146 rfl (lv_at hl 0 rfl) ?_
                  refine vp_callSi (va_Run.run (va_runV (As := [.int lp_2]) (rest := [.int y63]) ⟨hx, hb, hml, hown, hts⟩ (fc_X12_byteAt l D ad C nb M hI lp_2 (by omega)) (cwV 1 hts gX12_one_X12_byteAt rfl rfl rfl (by decide +kernel) ⟨Nat.le_of_ble_eq_true rfl, Nat.le_of_ble_eq_true rfl⟩) (fm_preV hc hw hS kl_60 sh_60 rfl) rfl rfl hl.1 rfl (lv_room (Nat.le_of_ble_eq_true rfl)) dX12_one_147 ⟨by decide +kernel, by decide +kernel⟩)) (fun r64 hr64 => ?_)
                  refine fx_iaddU hx hb dX12_one_150 (fun y65 ey65 => ?_)
                  refine lv_bipush (v := 48) hx hb dX12_one_151 (by decide) ?_
                  refine fx_isubU hx hb dX12_one_153 (fun y66 ey66 => ?_)
                  refine lv_istore_n (lv' := [(1, .int y66), (2, .int lp_2), (0, .ref (ad 60 0))]) hx hb dX12_one_154 rfl hl (by decide) rfl (fun ls hl => ?_)
                  obtain ⟨y67, ey67⟩ : ∃ y : Int32, y = lp_2 + 1 := ⟨_, rfl⟩
                  have ty67 : y67.toInt = lp_2.toInt + 1 := by rw [ey67, zi_add _ _ (by rw [zk_1]; omega) (by rw [zk_1]; omega), zk_1]
                  refine lv_iinc (v := y67) (lv' := [(2, .int y67), (1, .int y66), (0, .ref (ad 60 0))]) hx hb dX12_one_155 hl (k := 1) rfl (by rw [ey67]; rfl) (by decide) rfl (fun ls hl => ?_)
                  refine lv_goto (tgt := 133) hx hb dX12_one_158 (by decide) ?_
                  exact ih_lp y67 y66 (by omega) (by omega) ls (lv_sub hl [0, 1, 2] rfl)
            exact lp _ x47 0 (Nat.lt_succ_self _) (by omega) ls (lv_sub hl [0, 1, 2] rfl)
          · have ge := gd.2 (by omega)
            refine lv_aload_n hx hb dX12_one_121 rfl (lv_at hl 0 rfl) ?_
            have hJ68 := hI
            refine fm_ci (va_runV (As := []) (rest := []) ⟨hx, hb, hml, hown, hts⟩ (fc_X12_wrong l D ad C nb M hI kc S9 B9 (s9) hms) (cwV 0 hts gX12_one_X12_wrong rfl rfl rfl (by decide +kernel) ⟨Nat.le_of_ble_eq_true rfl, Nat.le_of_ble_eq_true rfl⟩) (fm_preV hc hw hS kl_60 sh_60 rfl) rfl rfl hl.1 rfl (lv_room (Nat.le_of_ble_eq_true rfl)) dX12_one_122 ⟨by decide +kernel, by decide +kernel⟩) hS hc (fun r69 M70 H locs hr69 hw hS => ?_)
            obtain ⟨hI, hEM70, hr69⟩ := hr69
            have hE := hE.tr hEM70 (by decide)
            have mM70_60_63 : (M70.1 60 0 63).toInt = (M.1 60 0 63).toInt := by rw [(hEM70 60 0 63 (by decide)).1]
            have mM70_60_64 : (M70.1 60 0 64).toInt = (M.1 60 0 64).toInt := by rw [(hEM70 60 0 64 (by decide)).1]
            have mM70_60_65 : (M70.1 60 0 65).toInt = (M.1 60 0 65).toInt := by rw [(hEM70 60 0 65 (by decide)).1]
            have mM70_60_66 : (M70.1 60 0 66).toInt = (M.1 60 0 66).toInt := by rw [(hEM70 60 0 66 (by decide)).1]
            obtain ⟨bhr69, mhr69⟩ := hr69
            have ooM70 : (rt_fail S9 (s9)).2 < 0 → (M70.1 60 0 66).toInt = 0 := rt_ms_f0 hms (hJ68.bd (k := 0) bd_60_64).1
            have qx47 : x47.toInt = (M.1 60 0 64).toInt := by rw [ex47]
            exact W.iret (v := r69) hx hb hr (fun t ht hW => ⟨⟨r69, M70, rfl, ⟨hI, hE, ⟨by omega, by omega, by omega, rt_fail S9 (s9), (rt_PS_10f (by omega)), mhr69, ooM70⟩⟩, by show fm_at D ad C nb _ t.heap; rw [ht]; exact hw⟩, hS.F ht⟩) hS.2.2 dX12_one_125
        · have g71 : x47.toInt = (M.1 60 0 64).toInt := by omega
          rw [g71] at c51
          have gd := rt_isn hTK hms c51
          refine fx_if_eq (tgt := 167) hx hb dX12_one_105 (by decide) zk_0 (fun c72 => ?_) (fun c72 => by exfalso; omega)
          have jt : ∀ (jt_1 : Int32), ((-1) ≤ jt_1.toInt ∧ jt_1.toInt ≤ 5) → ((jt_1.toInt < 0 ∧ ¬ (0 < T9 s9.1 ∧ T9 s9.1 ≤ 6)) ∨ (0 ≤ jt_1.toInt ∧ 0 < T9 s9.1 ∧ T9 s9.1 ≤ 6)) → ∀ (ls : Array Slot), lv_has ls 3 [(0, .ref (ad 60 0)), (1, .int jt_1)] → W p l e (headSpec wsX12_one ({ frames := 35, cells := 0, slots := 0, locals := 758 })).room s m ([.ref (ad 60 0)] : List Value).toArray below meth c s.heap [] 0 0 (MQ below (va_Qi (fun (r : Int32) (u : fm_M) => fm_I nb ad u ∧ fm_same [60064, 60065, 60066, 60067] M u ∧ ((M.1 60 0 64).toInt ≤ (u.1 60 0 64).toInt ∧ (M.1 60 0 66).toInt ≤ (u.1 60 0 66).toInt ∧ (u.1 60 0 64).toInt ≤ (u.1 60 0 65).toInt ∧ ∃ s8 : Nat × Int, rt_PS T9 S9 10 0 s9 s8 ∧ rt_ms kc S9 B9 u s8 ∧ (s8.2 < 0 → (u.1 60 0 66).toInt = 0))) (fun u t => fm_at D ad C nb u t.heap) (fm_A nb ad)) ([.ref (ad 60 0)] : List Value).toArray s 0 0 (fm_A nb ad)) (F0 m 253 ls []) := by
            intro jt_1 b_jt_1 hj ls hl
            refine lv_iload_n hx hb dX12_one_253 rfl (lv_at hl 1 rfl) ?_
            refine fx_if_ge (tgt := 262) hx hb dX12_one_254 (by decide) rfl (fun c73 => ?_) (fun c73 => ?_)
            · refine lv_aload_n hx hb dX12_one_262 rfl (lv_at hl 0 rfl) ?_
              refine fm_cv (va_runV (As := []) (rest := []) ⟨hx, hb, hml, hown, hts⟩ (fc_X12_next l D ad C nb M hI (rt_mto hTK hms)) (cwV 0 hts gX12_one_X12_next rfl rfl rfl (by decide +kernel) ⟨Nat.le_of_ble_eq_true rfl, Nat.le_of_ble_eq_true rfl⟩) (fm_preV hc hw hS kl_60 sh_60 rfl) rfl rfl hl.1 rfl (lv_room (Nat.le_of_ble_eq_true rfl)) dX12_one_263 ⟨by decide +kernel, by decide +kernel⟩) hS hc (fun M75 H locs hr74 hw hS => ?_)
              obtain ⟨hI, hEM75, hr74⟩ := hr74
              have hE := hE.tr hEM75 (by decide)
              have mM75_60_63 : (M75.1 60 0 63).toInt = (M.1 60 0 63).toInt := by rw [(hEM75 60 0 63 (by decide)).1]
              have mM75_60_66 : (M75.1 60 0 66).toInt = (M.1 60 0 66).toInt := by rw [(hEM75 60 0 66 (by decide)).1]
              obtain ⟨ahr74, bhr74, nhr74⟩ := hr74
              have mhr74 := rt_ms_next hTK hms nhr74 (hEM75 60 0 67 (by decide)).1
              have ooM75 : (rt_adv T9 (s9)).2 < 0 → (M75.1 60 0 66).toInt = 0 := fun z => by have z9 := hoo z; omega
              refine lv_aload_n hx hb dX12_one_266 rfl (lv_at hl 0 rfl) ?_
              refine fm_getG (a := 60) (j := 68) (T := TX12) (N := 79) hx hb hts hinX12 hown hc hw kl_60 sh_60 rfl (by decide) rfl (hI.to kl_60 tg_60_68) (hts (.fieldLink RX12 143 "RedTentModel" "names" "[I") (List.mem_cons_of_mem _ tw_5_188)) (fun _ h9 => h9) dX12_one_267 ?_
              refine lv_iload_n hx hb dX12_one_270 rfl (lv_at hl 1 rfl) ?_
              refine fm_iald (a := 168) hx hb hc hw hI kl_168 sh_168 ty_168 bd_168 (by omega) dX12_one_271 (fun x76 ex76 bx76 => ?_)
              have qx47 : x47.toInt = (M.1 60 0 64).toInt := by rw [ex47]
              exact W.iret (v := x76) hx hb hr (fun t ht hW => ⟨⟨x76, M75, rfl, ⟨hI, hE, ⟨by omega, by omega, by omega, rt_adv T9 (s9), (rt_PS_10v ⟨hs0, Or.inr (by rcases hj with ⟨hj, _⟩ | ⟨_, hj⟩; exfalso; omega; exact hj)⟩), mhr74, ooM75⟩⟩, by show fm_at D ad C nb _ t.heap; rw [ht]; exact hw⟩, hS.F ht⟩) hS.2.2 dX12_one_272
            · refine lv_aload_n hx hb dX12_one_257 rfl (lv_at hl 0 rfl) ?_
              have hJ77 := hI
              refine fm_ci (va_runV (As := []) (rest := []) ⟨hx, hb, hml, hown, hts⟩ (fc_X12_wrong l D ad C nb M hI kc S9 B9 (s9) hms) (cwV 0 hts gX12_one_X12_wrong rfl rfl rfl (by decide +kernel) ⟨Nat.le_of_ble_eq_true rfl, Nat.le_of_ble_eq_true rfl⟩) (fm_preV hc hw hS kl_60 sh_60 rfl) rfl rfl hl.1 rfl (lv_room (Nat.le_of_ble_eq_true rfl)) dX12_one_258 ⟨by decide +kernel, by decide +kernel⟩) hS hc (fun r78 M79 H locs hr78 hw hS => ?_)
              obtain ⟨hI, hEM79, hr78⟩ := hr78
              have hE := hE.tr hEM79 (by decide)
              have mM79_60_63 : (M79.1 60 0 63).toInt = (M.1 60 0 63).toInt := by rw [(hEM79 60 0 63 (by decide)).1]
              have mM79_60_64 : (M79.1 60 0 64).toInt = (M.1 60 0 64).toInt := by rw [(hEM79 60 0 64 (by decide)).1]
              have mM79_60_65 : (M79.1 60 0 65).toInt = (M.1 60 0 65).toInt := by rw [(hEM79 60 0 65 (by decide)).1]
              have mM79_60_66 : (M79.1 60 0 66).toInt = (M.1 60 0 66).toInt := by rw [(hEM79 60 0 66 (by decide)).1]
              obtain ⟨bhr78, mhr78⟩ := hr78
              have ooM79 : (rt_fail S9 (s9)).2 < 0 → (M79.1 60 0 66).toInt = 0 := rt_ms_f0 hms (hJ77.bd (k := 0) bd_60_64).1
              have qx47 : x47.toInt = (M.1 60 0 64).toInt := by rw [ex47]
              exact W.iret (v := r78) hx hb hr (fun t ht hW => ⟨⟨r78, M79, rfl, ⟨hI, hE, ⟨by omega, by omega, by omega, rt_fail S9 (s9), (rt_PS_10f (by rcases hj with ⟨_, hj⟩ | ⟨hj, _⟩ <;> omega)), mhr78, ooM79⟩⟩, by show fm_at D ad C nb _ t.heap; rw [ht]; exact hw⟩, hS.F ht⟩) hS.2.2 dX12_one_261
          refine lv_aload_n hx hb dX12_one_167 rfl (lv_at hl 0 rfl) ?_
          obtain ⟨q80, vq80, hQq80, hRq80⟩ := hc.2.2.2.2.1 (RX12, 410, "strength", [115, 116, 114, 101, 110, 103, 116, 104]) (by decide)
          refine va_ldcwS hx hb hown hRq80 dX12_one_168 ?_
          refine vp_callSi (va_Run.run (va_runV (As := [.ref q80]) (rest := []) ⟨hx, hb, hml, hown, hts⟩ (fc_X12_is l D ad C nb M hI q80 vq80 8 (fun j => ([115, 116, 114, 101, 110, 103, 116, 104] : List Int32).getD j 0) (by decide) (rt_mto hTK hms) rt_cd_1.2.1) (cwV 1 hts gX12_one_X12_is rfl rfl rfl (by decide +kernel) ⟨Nat.le_of_ble_eq_true rfl, Nat.le_of_ble_eq_true rfl⟩) (fm_preVS hc hw hS hQq80 kl_60 sh_60 rfl) rfl rfl hl.1 rfl (lv_room (Nat.le_of_ble_eq_true rfl)) dX12_one_171 ⟨by decide +kernel, by decide +kernel⟩)) (fun r81 hr81 => ?_)
          rcases hr81 with ⟨rfl, chr81⟩ | ⟨rfl, chr81⟩
          · have sv82 := (rt_is hTK hms rt_cd_1).mp chr81
            refine fx_if_eq (tgt := 181) hx hb dX12_one_174 (by decide) zk_1 (fun c83 => by exfalso; omega) (fun c83 => ?_)
            refine lv_iconst (v := 0) hx hb dX12_one_177 (by decide) ?_
            refine lv_goto (tgt := 252) hx hb dX12_one_178 (by decide) ?_
            refine lv_istore_n (lv' := [(1, .int 0), (0, .ref (ad 60 0))]) hx hb dX12_one_252 rfl hl (by decide) rfl (fun ls hl => ?_)
            exact jt 0 (by decide) (Or.inr ⟨by decide, by omega⟩) ls (lv_sub hl [1, 0] rfl)
          · have sv84 : ¬ T9 (s9).1 = 1 := fun z => chr81 ((rt_is hTK hms rt_cd_1).mpr z)
            refine fx_if_eq (tgt := 181) hx hb dX12_one_174 (by decide) zk_0 (fun c85 => ?_) (fun c85 => by exfalso; omega)
            refine lv_aload_n hx hb dX12_one_181 rfl (lv_at hl 0 rfl) ?_
            obtain ⟨q86, vq86, hQq86, hRq86⟩ := hc.2.2.2.2.1 (RX12, 411, "hurt", [104, 117, 114, 116]) (by decide)
            refine va_ldcwS hx hb hown hRq86 dX12_one_182 ?_
            refine vp_callSi (va_Run.run (va_runV (As := [.ref q86]) (rest := []) ⟨hx, hb, hml, hown, hts⟩ (fc_X12_is l D ad C nb M hI q86 vq86 4 (fun j => ([104, 117, 114, 116] : List Int32).getD j 0) (by decide) (rt_mto hTK hms) rt_cd_2.2.1) (cwV 1 hts gX12_one_X12_is rfl rfl rfl (by decide +kernel) ⟨Nat.le_of_ble_eq_true rfl, Nat.le_of_ble_eq_true rfl⟩) (fm_preVS hc hw hS hQq86 kl_60 sh_60 rfl) rfl rfl hl.1 rfl (lv_room (Nat.le_of_ble_eq_true rfl)) dX12_one_185 ⟨by decide +kernel, by decide +kernel⟩)) (fun r87 hr87 => ?_)
            rcases hr87 with ⟨rfl, chr87⟩ | ⟨rfl, chr87⟩
            · have sv88 := (rt_is hTK hms rt_cd_2).mp chr87
              refine fx_if_eq (tgt := 195) hx hb dX12_one_188 (by decide) zk_1 (fun c89 => by exfalso; omega) (fun c89 => ?_)
              refine lv_iconst (v := 1) hx hb dX12_one_191 (by decide) ?_
              refine lv_goto (tgt := 252) hx hb dX12_one_192 (by decide) ?_
              refine lv_istore_n (lv' := [(1, .int 1), (0, .ref (ad 60 0))]) hx hb dX12_one_252 rfl hl (by decide) rfl (fun ls hl => ?_)
              exact jt 1 (by decide) (Or.inr ⟨by decide, by omega⟩) ls (lv_sub hl [1, 0] rfl)
            · have sv90 : ¬ T9 (s9).1 = 2 := fun z => chr87 ((rt_is hTK hms rt_cd_2).mpr z)
              refine fx_if_eq (tgt := 195) hx hb dX12_one_188 (by decide) zk_0 (fun c91 => ?_) (fun c91 => by exfalso; omega)
              refine lv_aload_n hx hb dX12_one_195 rfl (lv_at hl 0 rfl) ?_
              obtain ⟨q92, vq92, hQq92, hRq92⟩ := hc.2.2.2.2.1 (RX12, 412, "skill", [115, 107, 105, 108, 108]) (by decide)
              refine va_ldcwS hx hb hown hRq92 dX12_one_196 ?_
              refine vp_callSi (va_Run.run (va_runV (As := [.ref q92]) (rest := []) ⟨hx, hb, hml, hown, hts⟩ (fc_X12_is l D ad C nb M hI q92 vq92 5 (fun j => ([115, 107, 105, 108, 108] : List Int32).getD j 0) (by decide) (rt_mto hTK hms) rt_cd_3.2.1) (cwV 1 hts gX12_one_X12_is rfl rfl rfl (by decide +kernel) ⟨Nat.le_of_ble_eq_true rfl, Nat.le_of_ble_eq_true rfl⟩) (fm_preVS hc hw hS hQq92 kl_60 sh_60 rfl) rfl rfl hl.1 rfl (lv_room (Nat.le_of_ble_eq_true rfl)) dX12_one_199 ⟨by decide +kernel, by decide +kernel⟩)) (fun r93 hr93 => ?_)
              rcases hr93 with ⟨rfl, chr93⟩ | ⟨rfl, chr93⟩
              · have sv94 := (rt_is hTK hms rt_cd_3).mp chr93
                refine fx_if_eq (tgt := 209) hx hb dX12_one_202 (by decide) zk_1 (fun c95 => by exfalso; omega) (fun c95 => ?_)
                refine lv_iconst (v := 2) hx hb dX12_one_205 (by decide) ?_
                refine lv_goto (tgt := 252) hx hb dX12_one_206 (by decide) ?_
                refine lv_istore_n (lv' := [(1, .int 2), (0, .ref (ad 60 0))]) hx hb dX12_one_252 rfl hl (by decide) rfl (fun ls hl => ?_)
                exact jt 2 (by decide) (Or.inr ⟨by decide, by omega⟩) ls (lv_sub hl [1, 0] rfl)
              · have sv96 : ¬ T9 (s9).1 = 3 := fun z => chr93 ((rt_is hTK hms rt_cd_3).mpr z)
                refine fx_if_eq (tgt := 209) hx hb dX12_one_202 (by decide) zk_0 (fun c97 => ?_) (fun c97 => by exfalso; omega)
                refine lv_aload_n hx hb dX12_one_209 rfl (lv_at hl 0 rfl) ?_
                obtain ⟨q98, vq98, hQq98, hRq98⟩ := hc.2.2.2.2.1 (RX12, 413, "hour", [104, 111, 117, 114]) (by decide)
                refine va_ldcwS hx hb hown hRq98 dX12_one_210 ?_
                refine vp_callSi (va_Run.run (va_runV (As := [.ref q98]) (rest := []) ⟨hx, hb, hml, hown, hts⟩ (fc_X12_is l D ad C nb M hI q98 vq98 4 (fun j => ([104, 111, 117, 114] : List Int32).getD j 0) (by decide) (rt_mto hTK hms) rt_cd_4.2.1) (cwV 1 hts gX12_one_X12_is rfl rfl rfl (by decide +kernel) ⟨Nat.le_of_ble_eq_true rfl, Nat.le_of_ble_eq_true rfl⟩) (fm_preVS hc hw hS hQq98 kl_60 sh_60 rfl) rfl rfl hl.1 rfl (lv_room (Nat.le_of_ble_eq_true rfl)) dX12_one_213 ⟨by decide +kernel, by decide +kernel⟩)) (fun r99 hr99 => ?_)
                rcases hr99 with ⟨rfl, chr99⟩ | ⟨rfl, chr99⟩
                · have sv100 := (rt_is hTK hms rt_cd_4).mp chr99
                  refine fx_if_eq (tgt := 223) hx hb dX12_one_216 (by decide) zk_1 (fun c101 => by exfalso; omega) (fun c101 => ?_)
                  refine lv_iconst (v := 3) hx hb dX12_one_219 (by decide) ?_
                  refine lv_goto (tgt := 252) hx hb dX12_one_220 (by decide) ?_
                  refine lv_istore_n (lv' := [(1, .int 3), (0, .ref (ad 60 0))]) hx hb dX12_one_252 rfl hl (by decide) rfl (fun ls hl => ?_)
                  exact jt 3 (by decide) (Or.inr ⟨by decide, by omega⟩) ls (lv_sub hl [1, 0] rfl)
                · have sv102 : ¬ T9 (s9).1 = 4 := fun z => chr99 ((rt_is hTK hms rt_cd_4).mpr z)
                  refine fx_if_eq (tgt := 223) hx hb dX12_one_216 (by decide) zk_0 (fun c103 => ?_) (fun c103 => by exfalso; omega)
                  refine lv_aload_n hx hb dX12_one_223 rfl (lv_at hl 0 rfl) ?_
                  obtain ⟨q104, vq104, hQq104, hRq104⟩ := hc.2.2.2.2.1 (RX12, 414, "fuel", [102, 117, 101, 108]) (by decide)
                  refine va_ldcwS hx hb hown hRq104 dX12_one_224 ?_
                  refine vp_callSi (va_Run.run (va_runV (As := [.ref q104]) (rest := []) ⟨hx, hb, hml, hown, hts⟩ (fc_X12_is l D ad C nb M hI q104 vq104 4 (fun j => ([102, 117, 101, 108] : List Int32).getD j 0) (by decide) (rt_mto hTK hms) rt_cd_5.2.1) (cwV 1 hts gX12_one_X12_is rfl rfl rfl (by decide +kernel) ⟨Nat.le_of_ble_eq_true rfl, Nat.le_of_ble_eq_true rfl⟩) (fm_preVS hc hw hS hQq104 kl_60 sh_60 rfl) rfl rfl hl.1 rfl (lv_room (Nat.le_of_ble_eq_true rfl)) dX12_one_227 ⟨by decide +kernel, by decide +kernel⟩)) (fun r105 hr105 => ?_)
                  rcases hr105 with ⟨rfl, chr105⟩ | ⟨rfl, chr105⟩
                  · have sv106 := (rt_is hTK hms rt_cd_5).mp chr105
                    refine fx_if_eq (tgt := 237) hx hb dX12_one_230 (by decide) zk_1 (fun c107 => by exfalso; omega) (fun c107 => ?_)
                    refine lv_iconst (v := 4) hx hb dX12_one_233 (by decide) ?_
                    refine lv_goto (tgt := 252) hx hb dX12_one_234 (by decide) ?_
                    refine lv_istore_n (lv' := [(1, .int 4), (0, .ref (ad 60 0))]) hx hb dX12_one_252 rfl hl (by decide) rfl (fun ls hl => ?_)
                    exact jt 4 (by decide) (Or.inr ⟨by decide, by omega⟩) ls (lv_sub hl [1, 0] rfl)
                  · have sv108 : ¬ T9 (s9).1 = 5 := fun z => chr105 ((rt_is hTK hms rt_cd_5).mpr z)
                    refine fx_if_eq (tgt := 237) hx hb dX12_one_230 (by decide) zk_0 (fun c109 => ?_) (fun c109 => by exfalso; omega)
                    refine lv_aload_n hx hb dX12_one_237 rfl (lv_at hl 0 rfl) ?_
                    obtain ⟨q110, vq110, hQq110, hRq110⟩ := hc.2.2.2.2.1 (RX12, 415, "far", [102, 97, 114]) (by decide)
                    refine va_ldcwS hx hb hown hRq110 dX12_one_238 ?_
                    refine vp_callSi (va_Run.run (va_runV (As := [.ref q110]) (rest := []) ⟨hx, hb, hml, hown, hts⟩ (fc_X12_is l D ad C nb M hI q110 vq110 3 (fun j => ([102, 97, 114] : List Int32).getD j 0) (by decide) (rt_mto hTK hms) rt_cd_6.2.1) (cwV 1 hts gX12_one_X12_is rfl rfl rfl (by decide +kernel) ⟨Nat.le_of_ble_eq_true rfl, Nat.le_of_ble_eq_true rfl⟩) (fm_preVS hc hw hS hQq110 kl_60 sh_60 rfl) rfl rfl hl.1 rfl (lv_room (Nat.le_of_ble_eq_true rfl)) dX12_one_241 ⟨by decide +kernel, by decide +kernel⟩)) (fun r111 hr111 => ?_)
                    rcases hr111 with ⟨rfl, chr111⟩ | ⟨rfl, chr111⟩
                    · have sv112 := (rt_is hTK hms rt_cd_6).mp chr111
                      refine fx_if_eq (tgt := 251) hx hb dX12_one_244 (by decide) zk_1 (fun c113 => by exfalso; omega) (fun c113 => ?_)
                      refine lv_iconst (v := 5) hx hb dX12_one_247 (by decide) ?_
                      refine lv_goto (tgt := 252) hx hb dX12_one_248 (by decide) ?_
                      refine lv_istore_n (lv' := [(1, .int 5), (0, .ref (ad 60 0))]) hx hb dX12_one_252 rfl hl (by decide) rfl (fun ls hl => ?_)
                      exact jt 5 (by decide) (Or.inr ⟨by decide, by omega⟩) ls (lv_sub hl [1, 0] rfl)
                    · have sv114 : ¬ T9 (s9).1 = 6 := fun z => chr111 ((rt_is hTK hms rt_cd_6).mpr z)
                      refine fx_if_eq (tgt := 251) hx hb dX12_one_244 (by decide) zk_0 (fun c115 => ?_) (fun c115 => by exfalso; omega)
                      refine lv_iconst (v := (-1)) hx hb dX12_one_251 (by decide) ?_
                      refine lv_istore_n (lv' := [(1, .int (-1)), (0, .ref (ad 60 0))]) hx hb dX12_one_252 rfl hl (by decide) rfl (fun ls hl => ?_)
                      exact jt (-1) (by decide) (Or.inl ⟨by decide, by omega⟩) ls (lv_sub hl [1, 0] rfl)
  · refine lv_iconst (v := 0) hx hb dX12_one_7 (by decide) ?_
    exact W.iret (v := 0) hx hb hr (fun t ht hW => ⟨⟨0, M, rfl, ⟨hI, hE, ⟨by omega, by omega, by omega, s9, (rt_PS_id (by rw [← hms.2.2.2, ← ex1]; omega) (by decide)), hms, hoo⟩⟩, by show fm_at D ad C nb _ t.heap; rw [ht]; exact hw⟩, hS.F ht⟩) hS.2.2 dX12_one_8
set_option maxHeartbeats 400000 in
set_option maxRecDepth 20000 in
theorem fc_X12_product_0 (l : Launch) (D : va_G) (ad : Nat → Nat → Nat) (C : Nat → Nat → ClassId) (nb : Nat) (M : fm_M) (hI : fm_I nb ad M) (kc : Nat) (S9 B9 T9 : Nat → Int) (s9 : Nat × Int) (hft : (M.1 60 0 64).toInt ≤ (M.1 60 0 65).toInt) (hop : 0 ≤ (M.1 60 0 66).toInt) (hTK : rt_TM M kc S9 B9 T9) (hms : rt_ms kc S9 B9 M s9) (hoo : s9.2 < 0 → (M.1 60 0 66).toInt = 0) : Met l yX12_product wsX12_product ({ frames := 36, cells := 0, slots := 0, locals := 780 }) (va_Pc [.ref (ad 60 0)] (fm_P D ad C nb M)) (va_Qi (fun (r : Int32) (u : fm_M) => fm_I nb ad u ∧ fm_same [60064, 60065, 60066, 60067] M u ∧ ((M.1 60 0 64).toInt ≤ (u.1 60 0 64).toInt ∧ (M.1 60 0 66).toInt ≤ (u.1 60 0 66).toInt ∧ (u.1 60 0 64).toInt ≤ (u.1 60 0 65).toInt ∧ ∃ s8 : Nat × Int, rt_PS T9 S9 8 0 s9 s8 ∧ rt_ms kc S9 B9 u s8 ∧ (s8.2 < 0 → (u.1 60 0 66).toInt = 0))) (fun u t => fm_at D ad C nb u t.heap) (fm_A nb ad)) 0 0 (fm_A nb ad) := by
  refine Met.ofW (cc := cX12_product) (maxL := 2) (ret := (some .int)) (by decide) rfl ?_
  intro p e s m args below meth c s₁ B hml hv
  obtain ⟨rfl, hw, hc⟩ := hv
  have hx := B.exec
  have hb := B.bytes
  have hr := B.returns
  have hts := atoms_spec (ws := wsX12_product) B.pre
  have hown : s.vm.findClass RX12 = some m.cls := findClass_of_methodNamed B.named
  have hS : va_S (fm_A nb ad) s.heap s.heap [] := va_S.rf
  have hE : fm_same [60064, 60065, 60066, 60067] M M := fm_same.rf
  have hl := lv_entry ([.ref (ad 60 0)]) (n := 2) (Nat.le_of_ble_eq_true rfl)
  rw [lg_entry_eq]
  generalize (lg_sl ([.ref (ad 60 0)]) ++ List.replicate (2 - (lg_sl ([.ref (ad 60 0)])).length) Slot.unset).toArray = ls at hl ⊢
  have hl : lv_has ls 2 [(0, .ref (ad 60 0))] := hl
  refine lv_aload_n hx hb dX12_product_0 rfl (lv_at hl 0 rfl) ?_
  have d1_63 := hI.bd (k := 0) bd_60_63
  have d1_64 := hI.bd (k := 0) bd_60_64
  have d1_65 := hI.bd (k := 0) bd_60_65
  have d1_66 := hI.bd (k := 0) bd_60_66
  refine fm_ci (va_runV (As := []) (rest := []) ⟨hx, hb, hml, hown, hts⟩ (fc_X12_one_0 l D ad C nb M hI kc S9 B9 T9 (s9) (by omega) (by omega) hTK hms hoo) (cwV 0 hts gX12_product_X12_one rfl rfl rfl (by decide +kernel) ⟨Nat.le_of_ble_eq_true rfl, Nat.le_of_ble_eq_true rfl⟩) (fm_preV hc hw hS kl_60 sh_60 rfl) rfl rfl hl.1 rfl (lv_room (Nat.le_of_ble_eq_true rfl)) dX12_product_1 ⟨by decide +kernel, by decide +kernel⟩) hS hc (fun r2 M3 H locs hr2 hw hS => ?_)
  obtain ⟨hI, hEM3, hr2⟩ := hr2
  have hE := hE.tr hEM3 (by decide)
  have mM3_60_63 : (M3.1 60 0 63).toInt = (M.1 60 0 63).toInt := by rw [(hEM3 60 0 63 (by decide)).1]
  obtain ⟨ahr2, bhr2, dhr2, shr2, phr2, mhr2, ohr2⟩ := hr2
  refine lv_istore_n (lv' := [(1, .int r2), (0, .ref (ad 60 0))]) hx hb dX12_product_4 rfl hl (by decide) rfl (fun ls hl => ?_)
  have lp : ∀ (n_lp : Nat) (lp_1 : Int32) (M_lp : fm_M), (161 - (M_lp.1 60 0 64).toInt).toNat < n_lp → ((M.1 60 0 64).toInt ≤ (M_lp.1 60 0 64).toInt ∧ (M.1 60 0 66).toInt ≤ (M_lp.1 60 0 66).toInt ∧ (M_lp.1 60 0 64).toInt ≤ (M_lp.1 60 0 65).toInt) → (∃ s : Nat × Int, rt_ms kc S9 B9 M_lp s ∧ (s.2 < 0 → (M_lp.1 60 0 66).toInt = 0) ∧ ∀ r : Nat × Int, rt_PS T9 S9 9 0 s r → rt_PS T9 S9 8 0 s9 r) → fm_I nb ad M_lp → fm_same [60064, 60065, 60066, 60067] M M_lp → ∀ (H : Heap) (locs : List Loc), fm_at D ad C nb M_lp H → va_S (fm_A nb ad) s.heap H locs → ∀ (ls : Array Slot), lv_has ls 2 [(1, .int lp_1), (0, .ref (ad 60 0))] → W p l e (headSpec wsX12_product ({ frames := 36, cells := 0, slots := 0, locals := 780 })).room s m ([.ref (ad 60 0)] : List Value).toArray below meth c H locs 0 0 (MQ below (va_Qi (fun (r : Int32) (u : fm_M) => fm_I nb ad u ∧ fm_same [60064, 60065, 60066, 60067] M u ∧ ((M.1 60 0 64).toInt ≤ (u.1 60 0 64).toInt ∧ (M.1 60 0 66).toInt ≤ (u.1 60 0 66).toInt ∧ (u.1 60 0 64).toInt ≤ (u.1 60 0 65).toInt ∧ ∃ s8 : Nat × Int, rt_PS T9 S9 8 0 s9 s8 ∧ rt_ms kc S9 B9 u s8 ∧ (s8.2 < 0 → (u.1 60 0 66).toInt = 0))) (fun u t => fm_at D ad C nb u t.heap) (fm_A nb ad)) ([.ref (ad 60 0)] : List Value).toArray s 0 0 (fm_A nb ad)) (F0 m 5 ls []) := by
    intro n_lp
    induction n_lp with
    | zero => intro lp_1 M_lp hm_lp hv hq hI hE H locs hw hS ls hl; exact absurd hm_lp (Nat.not_lt_zero _)
    | succ n_lp ih_lp =>
      intro lp_1 M_lp hm_lp hv hq hI hE H locs hw hS ls hl
      obtain ⟨s7, ms7, oo7, hq7⟩ := hq
      refine lv_aload_n hx hb dX12_product_5 rfl (lv_at hl 1 rfl) ?_
      obtain ⟨q4, vq4, hQq4, hRq4⟩ := hc.2.2.2.2.1 (RX12, 401, "*", [42]) (by decide)
      refine va_ldcwS hx hb hown hRq4 dX12_product_6 ?_
      have tk5 := rt_TMs hE (by decide) hTK
      refine fm_ci (va_runV (As := [.ref q4]) (rest := []) ⟨hx, hb, hml, hown, hts⟩ (fc_X12_take l D ad C nb M_lp hI q4 vq4 1 (fun j => ([42] : List Int32).getD j 0) (by decide) kc S9 B9 T9 (s7) 42 (by omega) tk5 ms7 rt_cd_42) (cwV 1 hts gX12_product_X12_take rfl rfl rfl (by decide +kernel) ⟨Nat.le_of_ble_eq_true rfl, Nat.le_of_ble_eq_true rfl⟩) (fm_preVS hc hw hS hQq4 kl_60 sh_60 rfl) rfl rfl hl.1 rfl (lv_room (Nat.le_of_ble_eq_true rfl)) dX12_product_9 ⟨by decide +kernel, by decide +kernel⟩) hS hc (fun r6 M7 H locs hr6 hw hS => ?_)
      obtain ⟨hI, hEM7, hr6⟩ := hr6
      have hE := hE.tr hEM7 (by decide)
      have mM7_60_63 : (M7.1 60 0 63).toInt = (M_lp.1 60 0 63).toInt := by rw [(hEM7 60 0 63 (by decide)).1]
      have mM7_60_66 : (M7.1 60 0 66).toInt = (M_lp.1 60 0 66).toInt := by rw [(hEM7 60 0 66 (by decide)).1]
      rcases hr6 with ⟨rfl, ahr6, bhr6, dhr6, ehr6, mhr6⟩ | ⟨rfl, ahr6, bhr6, dhr6, mhr6⟩
      · have ooM7 : (rt_adv T9 (s7)).2 < 0 → (M7.1 60 0 66).toInt = 0 := fun z => by have z9 := oo7 z; omega
        refine fx_if_eq (tgt := 25) hx hb dX12_product_12 (by decide) zk_1 (fun c8 => by exfalso; omega) (fun c8 => ?_)
        refine lv_iload_n hx hb dX12_product_15 rfl (lv_at hl 0 rfl) ?_
        refine lv_aload_n hx hb dX12_product_16 rfl (lv_at hl 1 rfl) ?_
        have tk9 := rt_TMs hE (by decide) hTK
        have d10_63 := hI.bd (k := 0) bd_60_63
        have d10_64 := hI.bd (k := 0) bd_60_64
        have d10_65 := hI.bd (k := 0) bd_60_65
        have d10_66 := hI.bd (k := 0) bd_60_66
        refine fm_ci (va_runV (As := []) (rest := [.int lp_1]) ⟨hx, hb, hml, hown, hts⟩ (fc_X12_one_0 l D ad C nb M7 hI kc S9 B9 T9 (rt_adv T9 (s7)) (by omega) (by omega) tk9 mhr6 ooM7) (cwV 0 hts gX12_product_X12_one rfl rfl rfl (by decide +kernel) ⟨Nat.le_of_ble_eq_true rfl, Nat.le_of_ble_eq_true rfl⟩) (fm_preV hc hw hS kl_60 sh_60 rfl) rfl rfl hl.1 rfl (lv_room (Nat.le_of_ble_eq_true rfl)) dX12_product_17 ⟨by decide +kernel, by decide +kernel⟩) hS hc (fun r11 M12 H locs hr11 hw hS => ?_)
        obtain ⟨hI, hEM12, hr11⟩ := hr11
        have hE := hE.tr hEM12 (by decide)
        have mM12_60_63 : (M12.1 60 0 63).toInt = (M7.1 60 0 63).toInt := by rw [(hEM12 60 0 63 (by decide)).1]
        obtain ⟨ahr11, bhr11, dhr11, shr11, phr11, mhr11, ohr11⟩ := hr11
        refine fx_imulU hx hb dX12_product_20 (fun y13 ey13 => ?_)
        refine lv_istore_n (lv' := [(1, .int y13), (0, .ref (ad 60 0))]) hx hb dX12_product_21 rfl hl (by decide) rfl (fun ls hl => ?_)
        refine lv_goto (tgt := 5) hx hb dX12_product_22 (by decide) ?_
        exact ih_lp y13 M12 (by omega) (by omega) ⟨shr11, mhr11, ohr11, fun r h => hq7 r (rt_PS_9y ⟨dhr6, ehr6⟩ phr11 h)⟩ hI hE _ _ hw hS ls (lv_sub hl [0, 1] rfl)
      · have ooM7 : (s7).2 < 0 → (M7.1 60 0 66).toInt = 0 := fun z => by have z9 := oo7 z; omega
        refine fx_if_eq (tgt := 25) hx hb dX12_product_12 (by decide) zk_0 (fun c14 => ?_) (fun c14 => by exfalso; omega)
        refine lv_iload_n hx hb dX12_product_25 rfl (lv_at hl 0 rfl) ?_
        exact W.iret (v := lp_1) hx hb hr (fun t ht hW => ⟨⟨lp_1, M7, rfl, ⟨hI, hE, ⟨by omega, by omega, by omega, s7, (hq7 _ (rt_PS_9n dhr6)), mhr6, ooM7⟩⟩, by show fm_at D ad C nb _ t.heap; rw [ht]; exact hw⟩, hS.F ht⟩) hS.2.2 dX12_product_26
  exact lp _ r2 M3 (Nat.lt_succ_self _) (by omega) ⟨shr2, mhr2, ohr2, fun r h => rt_PS_8 phr2 h⟩ hI hE _ _ hw hS ls (lv_sub hl [0, 1] rfl)
set_option maxHeartbeats 400000 in
set_option maxRecDepth 20000 in
theorem fc_X12_sum_0 (l : Launch) (D : va_G) (ad : Nat → Nat → Nat) (C : Nat → Nat → ClassId) (nb : Nat) (M : fm_M) (hI : fm_I nb ad M) (kc : Nat) (S9 B9 T9 : Nat → Int) (s9 : Nat × Int) (hft : (M.1 60 0 64).toInt ≤ (M.1 60 0 65).toInt) (hop : 0 ≤ (M.1 60 0 66).toInt) (hTK : rt_TM M kc S9 B9 T9) (hms : rt_ms kc S9 B9 M s9) (hoo : s9.2 < 0 → (M.1 60 0 66).toInt = 0) : Met l yX12_sum wsX12_sum ({ frames := 37, cells := 0, slots := 0, locals := 801 }) (va_Pc [.ref (ad 60 0)] (fm_P D ad C nb M)) (va_Qi (fun (r : Int32) (u : fm_M) => fm_I nb ad u ∧ fm_same [60064, 60065, 60066, 60067] M u ∧ ((M.1 60 0 64).toInt ≤ (u.1 60 0 64).toInt ∧ (M.1 60 0 66).toInt ≤ (u.1 60 0 66).toInt ∧ (u.1 60 0 64).toInt ≤ (u.1 60 0 65).toInt ∧ ∃ s8 : Nat × Int, rt_PS T9 S9 6 0 s9 s8 ∧ rt_ms kc S9 B9 u s8 ∧ (s8.2 < 0 → (u.1 60 0 66).toInt = 0))) (fun u t => fm_at D ad C nb u t.heap) (fm_A nb ad)) 0 0 (fm_A nb ad) := by
  refine Met.ofW (cc := cX12_sum) (maxL := 3) (ret := (some .int)) (by decide) rfl ?_
  intro p e s m args below meth c s₁ B hml hv
  obtain ⟨rfl, hw, hc⟩ := hv
  have hx := B.exec
  have hb := B.bytes
  have hr := B.returns
  have hts := atoms_spec (ws := wsX12_sum) B.pre
  have hown : s.vm.findClass RX12 = some m.cls := findClass_of_methodNamed B.named
  have hS : va_S (fm_A nb ad) s.heap s.heap [] := va_S.rf
  have hE : fm_same [60064, 60065, 60066, 60067] M M := fm_same.rf
  have hl := lv_entry ([.ref (ad 60 0)]) (n := 3) (Nat.le_of_ble_eq_true rfl)
  rw [lg_entry_eq]
  generalize (lg_sl ([.ref (ad 60 0)]) ++ List.replicate (3 - (lg_sl ([.ref (ad 60 0)])).length) Slot.unset).toArray = ls at hl ⊢
  have hl : lv_has ls 3 [(0, .ref (ad 60 0))] := hl
  refine lv_aload_n hx hb dX12_sum_0 rfl (lv_at hl 0 rfl) ?_
  have d1_63 := hI.bd (k := 0) bd_60_63
  have d1_64 := hI.bd (k := 0) bd_60_64
  have d1_65 := hI.bd (k := 0) bd_60_65
  have d1_66 := hI.bd (k := 0) bd_60_66
  refine fm_ci (va_runV (As := []) (rest := []) ⟨hx, hb, hml, hown, hts⟩ (fc_X12_product_0 l D ad C nb M hI kc S9 B9 T9 (s9) (by omega) (by omega) hTK hms hoo) (cwV 0 hts gX12_sum_X12_product rfl rfl rfl (by decide +kernel) ⟨Nat.le_of_ble_eq_true rfl, Nat.le_of_ble_eq_true rfl⟩) (fm_preV hc hw hS kl_60 sh_60 rfl) rfl rfl hl.1 rfl (lv_room (Nat.le_of_ble_eq_true rfl)) dX12_sum_1 ⟨by decide +kernel, by decide +kernel⟩) hS hc (fun r2 M3 H locs hr2 hw hS => ?_)
  obtain ⟨hI, hEM3, hr2⟩ := hr2
  have hE := hE.tr hEM3 (by decide)
  have mM3_60_63 : (M3.1 60 0 63).toInt = (M.1 60 0 63).toInt := by rw [(hEM3 60 0 63 (by decide)).1]
  obtain ⟨ahr2, bhr2, dhr2, shr2, phr2, mhr2, ohr2⟩ := hr2
  refine lv_istore_n (lv' := [(1, .int r2), (0, .ref (ad 60 0))]) hx hb dX12_sum_4 rfl hl (by decide) rfl (fun ls hl => ?_)
  refine lv_iconst (v := 1) hx hb dX12_sum_5 (by decide) ?_
  refine lv_istore_n (lv' := [(2, .int 1), (1, .int r2), (0, .ref (ad 60 0))]) hx hb dX12_sum_6 rfl hl (by decide) rfl (fun ls hl => ?_)
  have lp : ∀ (n_lp : Nat) (lp_2 : Int32) (lp_1 : Int32) (M_lp : fm_M), 2 * (161 - (M_lp.1 60 0 64).toInt).toNat + lp_2.toInt.toNat < n_lp → (0 ≤ lp_2.toInt ∧ lp_2.toInt ≤ 1) → ((M.1 60 0 64).toInt ≤ (M_lp.1 60 0 64).toInt ∧ (M.1 60 0 66).toInt ≤ (M_lp.1 60 0 66).toInt ∧ (M_lp.1 60 0 64).toInt ≤ (M_lp.1 60 0 65).toInt) → (∃ s : Nat × Int, rt_ms kc S9 B9 M_lp s ∧ (s.2 < 0 → (M_lp.1 60 0 66).toInt = 0) ∧ (lp_2.toInt = 1 → ∀ r : Nat × Int, rt_PS T9 S9 7 0 s r → rt_PS T9 S9 6 0 s9 r) ∧ (lp_2.toInt = 0 → rt_PS T9 S9 6 0 s9 s)) → fm_I nb ad M_lp → fm_same [60064, 60065, 60066, 60067] M M_lp → ∀ (H : Heap) (locs : List Loc), fm_at D ad C nb M_lp H → va_S (fm_A nb ad) s.heap H locs → ∀ (ls : Array Slot), lv_has ls 3 [(2, .int lp_2), (1, .int lp_1), (0, .ref (ad 60 0))] → W p l e (headSpec wsX12_sum ({ frames := 37, cells := 0, slots := 0, locals := 801 })).room s m ([.ref (ad 60 0)] : List Value).toArray below meth c H locs 0 0 (MQ below (va_Qi (fun (r : Int32) (u : fm_M) => fm_I nb ad u ∧ fm_same [60064, 60065, 60066, 60067] M u ∧ ((M.1 60 0 64).toInt ≤ (u.1 60 0 64).toInt ∧ (M.1 60 0 66).toInt ≤ (u.1 60 0 66).toInt ∧ (u.1 60 0 64).toInt ≤ (u.1 60 0 65).toInt ∧ ∃ s8 : Nat × Int, rt_PS T9 S9 6 0 s9 s8 ∧ rt_ms kc S9 B9 u s8 ∧ (s8.2 < 0 → (u.1 60 0 66).toInt = 0))) (fun u t => fm_at D ad C nb u t.heap) (fm_A nb ad)) ([.ref (ad 60 0)] : List Value).toArray s 0 0 (fm_A nb ad)) (F0 m 7 ls []) := by
    intro n_lp
    induction n_lp with
    | zero => intro lp_2 lp_1 M_lp hm_lp b_lp_2 hv hq hI hE H locs hw hS ls hl; exact absurd hm_lp (Nat.not_lt_zero _)
    | succ n_lp ih_lp =>
      intro lp_2 lp_1 M_lp hm_lp b_lp_2 hv hq hI hE H locs hw hS ls hl
      obtain ⟨s7, ms7, oo7, hq7, hq0⟩ := hq
      refine lv_iload_n hx hb dX12_sum_7 rfl (lv_at hl 0 rfl) ?_
      refine fx_if_eq (tgt := 56) hx hb dX12_sum_8 (by decide) rfl (fun c4 => ?_) (fun c4 => ?_)
      · refine lv_iload_n hx hb dX12_sum_56 rfl (lv_at hl 1 rfl) ?_
        exact W.iret (v := lp_1) hx hb hr (fun t ht hW => ⟨⟨lp_1, M_lp, rfl, ⟨hI, hE, ⟨by omega, by omega, by omega, s7, (hq0 (by omega)), ms7, oo7⟩⟩, by show fm_at D ad C nb _ t.heap; rw [ht]; exact hw⟩, hS.F ht⟩) hS.2.2 dX12_sum_57
      · refine lv_aload_n hx hb dX12_sum_11 rfl (lv_at hl 2 rfl) ?_
        obtain ⟨q5, vq5, hQq5, hRq5⟩ := hc.2.2.2.2.1 (RX12, 394, "+", [43]) (by decide)
        refine va_ldcwS hx hb hown hRq5 dX12_sum_12 ?_
        have tk6 := rt_TMs hE (by decide) hTK
        refine fm_ci (va_runV (As := [.ref q5]) (rest := []) ⟨hx, hb, hml, hown, hts⟩ (fc_X12_take l D ad C nb M_lp hI q5 vq5 1 (fun j => ([43] : List Int32).getD j 0) (by decide) kc S9 B9 T9 (s7) 43 (by omega) tk6 ms7 rt_cd_43) (cwV 1 hts gX12_sum_X12_take rfl rfl rfl (by decide +kernel) ⟨Nat.le_of_ble_eq_true rfl, Nat.le_of_ble_eq_true rfl⟩) (fm_preVS hc hw hS hQq5 kl_60 sh_60 rfl) rfl rfl hl.1 rfl (lv_room (Nat.le_of_ble_eq_true rfl)) dX12_sum_15 ⟨by decide +kernel, by decide +kernel⟩) hS hc (fun r7 M8 H locs hr7 hw hS => ?_)
        obtain ⟨hI, hEM8, hr7⟩ := hr7
        have hE := hE.tr hEM8 (by decide)
        have mM8_60_63 : (M8.1 60 0 63).toInt = (M_lp.1 60 0 63).toInt := by rw [(hEM8 60 0 63 (by decide)).1]
        have mM8_60_66 : (M8.1 60 0 66).toInt = (M_lp.1 60 0 66).toInt := by rw [(hEM8 60 0 66 (by decide)).1]
        rcases hr7 with ⟨rfl, ahr7, bhr7, dhr7, ehr7, mhr7⟩ | ⟨rfl, ahr7, bhr7, dhr7, mhr7⟩
        · have ooM8 : (rt_adv T9 (s7)).2 < 0 → (M8.1 60 0 66).toInt = 0 := fun z => by have z9 := oo7 z; omega
          refine fx_if_eq (tgt := 31) hx hb dX12_sum_18 (by decide) zk_1 (fun c9 => by exfalso; omega) (fun c9 => ?_)
          refine lv_iload_n hx hb dX12_sum_21 rfl (lv_at hl 1 rfl) ?_
          refine lv_aload_n hx hb dX12_sum_22 rfl (lv_at hl 2 rfl) ?_
          have tk10 := rt_TMs hE (by decide) hTK
          have d11_63 := hI.bd (k := 0) bd_60_63
          have d11_64 := hI.bd (k := 0) bd_60_64
          have d11_65 := hI.bd (k := 0) bd_60_65
          have d11_66 := hI.bd (k := 0) bd_60_66
          refine fm_ci (va_runV (As := []) (rest := [.int lp_1]) ⟨hx, hb, hml, hown, hts⟩ (fc_X12_product_0 l D ad C nb M8 hI kc S9 B9 T9 (rt_adv T9 (s7)) (by omega) (by omega) tk10 mhr7 ooM8) (cwV 0 hts gX12_sum_X12_product rfl rfl rfl (by decide +kernel) ⟨Nat.le_of_ble_eq_true rfl, Nat.le_of_ble_eq_true rfl⟩) (fm_preV hc hw hS kl_60 sh_60 rfl) rfl rfl hl.1 rfl (lv_room (Nat.le_of_ble_eq_true rfl)) dX12_sum_23 ⟨by decide +kernel, by decide +kernel⟩) hS hc (fun r12 M13 H locs hr12 hw hS => ?_)
          obtain ⟨hI, hEM13, hr12⟩ := hr12
          have hE := hE.tr hEM13 (by decide)
          have mM13_60_63 : (M13.1 60 0 63).toInt = (M8.1 60 0 63).toInt := by rw [(hEM13 60 0 63 (by decide)).1]
          obtain ⟨ahr12, bhr12, dhr12, shr12, phr12, mhr12, ohr12⟩ := hr12
          refine fx_iaddU hx hb dX12_sum_26 (fun y14 ey14 => ?_)
          refine lv_istore_n (lv' := [(1, .int y14), (2, .int lp_2), (0, .ref (ad 60 0))]) hx hb dX12_sum_27 rfl hl (by decide) rfl (fun ls hl => ?_)
          refine lv_goto (tgt := 7) hx hb dX12_sum_28 (by decide) ?_
          exact ih_lp lp_2 y14 M13 (by omega) (by omega) (by omega) ⟨shr12, mhr12, ohr12, fun _ r h => hq7 (by omega) r (rt_PS_7y ⟨dhr7, Or.inl ehr7⟩ phr12 h), fun z => absurd z (by omega)⟩ hI hE _ _ hw hS ls (lv_sub hl [1, 0, 2] rfl)
        · have ooM8 : (s7).2 < 0 → (M8.1 60 0 66).toInt = 0 := fun z => by have z9 := oo7 z; omega
          refine fx_if_eq (tgt := 31) hx hb dX12_sum_18 (by decide) zk_0 (fun c15 => ?_) (fun c15 => by exfalso; omega)
          refine lv_aload_n hx hb dX12_sum_31 rfl (lv_at hl 2 rfl) ?_
          obtain ⟨q16, vq16, hQq16, hRq16⟩ := hc.2.2.2.2.1 (RX12, 396, "-", [45]) (by decide)
          refine va_ldcwS hx hb hown hRq16 dX12_sum_32 ?_
          have tk17 := rt_TMs hE (by decide) hTK
          refine fm_ci (va_runV (As := [.ref q16]) (rest := []) ⟨hx, hb, hml, hown, hts⟩ (fc_X12_take l D ad C nb M8 hI q16 vq16 1 (fun j => ([45] : List Int32).getD j 0) (by decide) kc S9 B9 T9 (s7) 45 (by omega) tk17 mhr7 rt_cd_45) (cwV 1 hts gX12_sum_X12_take rfl rfl rfl (by decide +kernel) ⟨Nat.le_of_ble_eq_true rfl, Nat.le_of_ble_eq_true rfl⟩) (fm_preVS hc hw hS hQq16 kl_60 sh_60 rfl) rfl rfl hl.1 rfl (lv_room (Nat.le_of_ble_eq_true rfl)) dX12_sum_35 ⟨by decide +kernel, by decide +kernel⟩) hS hc (fun r18 M19 H locs hr18 hw hS => ?_)
          obtain ⟨hI, hEM19, hr18⟩ := hr18
          have hE := hE.tr hEM19 (by decide)
          have mM19_60_63 : (M19.1 60 0 63).toInt = (M8.1 60 0 63).toInt := by rw [(hEM19 60 0 63 (by decide)).1]
          have mM19_60_66 : (M19.1 60 0 66).toInt = (M8.1 60 0 66).toInt := by rw [(hEM19 60 0 66 (by decide)).1]
          rcases hr18 with ⟨rfl, ahr18, bhr18, dhr18, ehr18, mhr18⟩ | ⟨rfl, ahr18, bhr18, dhr18, mhr18⟩
          · have ooM19 : (rt_adv T9 (s7)).2 < 0 → (M19.1 60 0 66).toInt = 0 := fun z => by have z9 := ooM8 z; omega
            refine fx_if_eq (tgt := 51) hx hb dX12_sum_38 (by decide) zk_1 (fun c20 => by exfalso; omega) (fun c20 => ?_)
            refine lv_iload_n hx hb dX12_sum_41 rfl (lv_at hl 1 rfl) ?_
            refine lv_aload_n hx hb dX12_sum_42 rfl (lv_at hl 2 rfl) ?_
            have tk21 := rt_TMs hE (by decide) hTK
            have d22_63 := hI.bd (k := 0) bd_60_63
            have d22_64 := hI.bd (k := 0) bd_60_64
            have d22_65 := hI.bd (k := 0) bd_60_65
            have d22_66 := hI.bd (k := 0) bd_60_66
            refine fm_ci (va_runV (As := []) (rest := [.int lp_1]) ⟨hx, hb, hml, hown, hts⟩ (fc_X12_product_0 l D ad C nb M19 hI kc S9 B9 T9 (rt_adv T9 (s7)) (by omega) (by omega) tk21 mhr18 ooM19) (cwV 0 hts gX12_sum_X12_product rfl rfl rfl (by decide +kernel) ⟨Nat.le_of_ble_eq_true rfl, Nat.le_of_ble_eq_true rfl⟩) (fm_preV hc hw hS kl_60 sh_60 rfl) rfl rfl hl.1 rfl (lv_room (Nat.le_of_ble_eq_true rfl)) dX12_sum_43 ⟨by decide +kernel, by decide +kernel⟩) hS hc (fun r23 M24 H locs hr23 hw hS => ?_)
            obtain ⟨hI, hEM24, hr23⟩ := hr23
            have hE := hE.tr hEM24 (by decide)
            have mM24_60_63 : (M24.1 60 0 63).toInt = (M19.1 60 0 63).toInt := by rw [(hEM24 60 0 63 (by decide)).1]
            obtain ⟨ahr23, bhr23, dhr23, shr23, phr23, mhr23, ohr23⟩ := hr23
            refine fx_isubU hx hb dX12_sum_46 (fun y25 ey25 => ?_)
            refine lv_istore_n (lv' := [(1, .int y25), (2, .int lp_2), (0, .ref (ad 60 0))]) hx hb dX12_sum_47 rfl hl (by decide) rfl (fun ls hl => ?_)
            refine lv_goto (tgt := 7) hx hb dX12_sum_48 (by decide) ?_
            exact ih_lp lp_2 y25 M24 (by omega) (by omega) (by omega) ⟨shr23, mhr23, ohr23, fun _ r h => hq7 (by omega) r (rt_PS_7y ⟨dhr18, Or.inr ehr18⟩ phr23 h), fun z => absurd z (by omega)⟩ hI hE _ _ hw hS ls (lv_sub hl [1, 0, 2] rfl)
          · have ooM19 : (s7).2 < 0 → (M19.1 60 0 66).toInt = 0 := fun z => by have z9 := ooM8 z; omega
            refine fx_if_eq (tgt := 51) hx hb dX12_sum_38 (by decide) zk_0 (fun c26 => ?_) (fun c26 => by exfalso; omega)
            refine lv_iconst (v := 0) hx hb dX12_sum_51 (by decide) ?_
            refine lv_istore_n (lv' := [(2, .int 0), (1, .int lp_1), (0, .ref (ad 60 0))]) hx hb dX12_sum_52 rfl hl (by decide) rfl (fun ls hl => ?_)
            refine lv_goto (tgt := 7) hx hb dX12_sum_53 (by decide) ?_
            exact ih_lp 0 lp_1 M19 (by have zlp_2 := zk_0; omega) (by decide) (by omega) ⟨s7, mhr18, ooM19, fun z => absurd z (by decide), fun _ => hq7 (by omega) _ (rt_PS_7n (by have za := dhr7; have zb := dhr18; omega))⟩ hI hE _ _ hw hS ls (lv_sub hl [0, 1, 2] rfl)
  exact lp _ 1 r2 M3 (Nat.lt_succ_self _) (by decide) (by omega) ⟨shr2, mhr2, ohr2, fun _ r h => rt_PS_6 phr2 h, fun z => absurd z (by decide)⟩ hI hE _ _ hw hS ls (lv_sub hl [0, 1, 2] rfl)
set_option maxHeartbeats 400000 in
set_option maxRecDepth 20000 in
theorem fc_X12_turned_0 (l : Launch) (D : va_G) (ad : Nat → Nat → Nat) (C : Nat → Nat → ClassId) (nb : Nat) (M : fm_M) (hI : fm_I nb ad M) (kc : Nat) (S9 B9 T9 : Nat → Int) (s9 : Nat × Int) (hft : (M.1 60 0 64).toInt ≤ (M.1 60 0 65).toInt) (hop : 0 ≤ (M.1 60 0 66).toInt) (hTK : rt_TM M kc S9 B9 T9) (hms : rt_ms kc S9 B9 M s9) (hoo : s9.2 < 0 → (M.1 60 0 66).toInt = 0) : Met l yX12_turned wsX12_turned ({ frames := 38, cells := 0, slots := 0, locals := 823 }) (va_Pc [.ref (ad 60 0)] (fm_P D ad C nb M)) (va_Qi (fun (r : Int32) (u : fm_M) => fm_I nb ad u ∧ fm_same [60064, 60065, 60066, 60067] M u ∧ ((M.1 60 0 64).toInt ≤ (u.1 60 0 64).toInt ∧ (M.1 60 0 66).toInt ≤ (u.1 60 0 66).toInt ∧ (u.1 60 0 64).toInt ≤ (u.1 60 0 65).toInt ∧ ∃ s8 : Nat × Int, rt_PS T9 S9 4 0 s9 s8 ∧ rt_ms kc S9 B9 u s8 ∧ (s8.2 < 0 → (u.1 60 0 66).toInt = 0))) (fun u t => fm_at D ad C nb u t.heap) (fm_A nb ad)) 0 0 (fm_A nb ad) := by
  refine Met.ofW (cc := cX12_turned) (maxL := 2) (ret := (some .int)) (by decide) rfl ?_
  intro p e s m args below meth c s₁ B hml hv
  obtain ⟨rfl, hw, hc⟩ := hv
  have hx := B.exec
  have hb := B.bytes
  have hr := B.returns
  have hts := atoms_spec (ws := wsX12_turned) B.pre
  have hown : s.vm.findClass RX12 = some m.cls := findClass_of_methodNamed B.named
  have hinX12 : ∀ w ∈ u_ws RX12 TX12 79, w ∈ wsX12_turned := fun w h => List.mem_cons_of_mem _ (iT_X12 w h)
  have hS : va_S (fm_A nb ad) s.heap s.heap [] := va_S.rf
  have hE : fm_same [60064, 60065, 60066, 60067] M M := fm_same.rf
  have hl := lv_entry ([.ref (ad 60 0)]) (n := 2) (Nat.le_of_ble_eq_true rfl)
  rw [lg_entry_eq]
  generalize (lg_sl ([.ref (ad 60 0)]) ++ List.replicate (2 - (lg_sl ([.ref (ad 60 0)])).length) Slot.unset).toArray = ls at hl ⊢
  have hl : lv_has ls 2 [(0, .ref (ad 60 0))] := hl
  refine lv_aload_n hx hb dX12_turned_0 rfl (lv_at hl 0 rfl) ?_
  refine fm_getI (a := 60) (j := 67) (T := TX12) (N := 79) hx hb hts hinX12 hown hc hw hI kl_60 sh_60 rfl (by decide) rfl bd_60_67 (hts (.fieldLink RX12 349 "RedTentModel" "fault" "I") (List.mem_cons_of_mem _ tw_5_187)) (fun _ h9 => h9) dX12_turned_1 (fun x1 ex1 bx1 => ?_)
  refine fx_if_lt (tgt := 9) hx hb dX12_turned_4 (by decide) rfl (fun c2 => ?_) (fun c2 => ?_)
  · have gh : s9.2 = x1.toInt := by rw [ex1]; exact hms.2.2.2.symm
    have hs0 : s9.2 < 0 := by omega
    have ho0 := hoo hs0
    refine lv_aload_n hx hb dX12_turned_9 rfl (lv_at hl 0 rfl) ?_
    obtain ⟨q3, vq3, hQq3, hRq3⟩ := hc.2.2.2.2.1 (RX12, 378, "not", [110, 111, 116]) (by decide)
    refine va_ldcwS hx hb hown hRq3 dX12_turned_10 ?_
    refine vp_callSi (va_Run.run (va_runV (As := [.ref q3]) (rest := []) ⟨hx, hb, hml, hown, hts⟩ (fc_X12_is l D ad C nb M hI q3 vq3 3 (fun j => ([110, 111, 116] : List Int32).getD j 0) (by decide) (rt_mto hTK hms) rt_cd_11.2.1) (cwV 1 hts gX12_turned_X12_is rfl rfl rfl (by decide +kernel) ⟨Nat.le_of_ble_eq_true rfl, Nat.le_of_ble_eq_true rfl⟩) (fm_preVS hc hw hS hQq3 kl_60 sh_60 rfl) rfl rfl hl.1 rfl (lv_room (Nat.le_of_ble_eq_true rfl)) dX12_turned_13 ⟨by decide +kernel, by decide +kernel⟩)) (fun r4 hr4 => ?_)
    rcases hr4 with ⟨rfl, chr4⟩ | ⟨rfl, chr4⟩
    · have sv5 := (rt_is hTK hms rt_cd_11).mp chr4
      refine fx_if_eq (tgt := 53) hx hb dX12_turned_16 (by decide) zk_1 (fun c6 => by exfalso; omega) (fun c6 => ?_)
      refine lv_aload_n hx hb dX12_turned_19 rfl (lv_at hl 0 rfl) ?_
      have hJ7 := hI
      refine fm_ci (va_runV (As := []) (rest := []) ⟨hx, hb, hml, hown, hts⟩ (fc_X12_opens l D ad C nb M hI kc S9 B9 T9 (s9) hTK hms) (cwV 0 hts gX12_turned_X12_opens rfl rfl rfl (by decide +kernel) ⟨Nat.le_of_ble_eq_true rfl, Nat.le_of_ble_eq_true rfl⟩) (fm_preV hc hw hS kl_60 sh_60 rfl) rfl rfl hl.1 rfl (lv_room (Nat.le_of_ble_eq_true rfl)) dX12_turned_20 ⟨by decide +kernel, by decide +kernel⟩) hS hc (fun r8 M9 H locs hr8 hw hS => ?_)
      obtain ⟨hI, hEM9, hr8⟩ := hr8
      have hE := hE.tr hEM9 (by decide)
      have mM9_60_63 : (M9.1 60 0 63).toInt = (M.1 60 0 63).toInt := by rw [(hEM9 60 0 63 (by decide)).1]
      rcases hr8 with ⟨rfl, ahr8, bhr8, dhr8, mhr8⟩ | ⟨rfl, zhr8, ahr8, bhr8, dhr8, mhr8⟩
      · have ooM9 : (rt_adv T9 (s9)).2 < 0 → (M9.1 60 0 66).toInt = 1 := fun z => by have z9 := hoo z; omega
        refine fx_if_ne (tgt := 28) hx hb dX12_turned_23 (by decide) zk_1 (fun c10 => ?_) (fun c10 => by exfalso; omega)
        refine lv_aload_n hx hb dX12_turned_28 rfl (lv_at hl 0 rfl) ?_
        have tk11 := rt_TMs hE (by decide) hTK
        have d12_63 := hI.bd (k := 0) bd_60_63
        have d12_64 := hI.bd (k := 0) bd_60_64
        have d12_65 := hI.bd (k := 0) bd_60_65
        have d12_66 := hI.bd (k := 0) bd_60_66
        refine fm_ci (va_runV (As := []) (rest := []) ⟨hx, hb, hml, hown, hts⟩ (fc_X12_turned_1 l D ad C nb M9 hI kc S9 B9 T9 (rt_adv T9 (s9)) (by omega) (by omega) tk11 mhr8 ooM9) (cwV 0 hts gX12_turned_X12_turned rfl rfl rfl (by decide +kernel) ⟨Nat.le_of_ble_eq_true rfl, Nat.le_of_ble_eq_true rfl⟩) (fm_preV hc hw hS kl_60 sh_60 rfl) rfl rfl hl.1 rfl (lv_room (Nat.le_of_ble_eq_true rfl)) dX12_turned_29 ⟨by decide +kernel, by decide +kernel⟩) hS hc (fun r13 M14 H locs hr13 hw hS => ?_)
        obtain ⟨hI, hEM14, hr13⟩ := hr13
        have hE := hE.tr hEM14 (by decide)
        have mM14_60_63 : (M14.1 60 0 63).toInt = (M9.1 60 0 63).toInt := by rw [(hEM14 60 0 63 (by decide)).1]
        obtain ⟨ahr13, bhr13, dhr13, shr13, phr13, mhr13, ohr13⟩ := hr13
        refine lv_istore_n (lv' := [(1, .int r13), (0, .ref (ad 60 0))]) hx hb dX12_turned_32 rfl hl (by decide) rfl (fun ls hl => ?_)
        refine lv_aload_n hx hb dX12_turned_33 rfl (lv_at hl 1 rfl) ?_
        refine lv_dup hx hb dX12_turned_34 rfl ?_
        refine fm_getI (a := 60) (j := 66) (T := TX12) (N := 79) hx hb hts hinX12 hown hc hw hI kl_60 sh_60 rfl (by decide) rfl bd_60_66 (hts (.fieldLink RX12 372 "RedTentModel" "open" "I") (List.mem_cons_of_mem _ tw_5_186)) (fun _ h9 => h9) dX12_turned_35 (fun x15 ex15 bx15 => ?_)
        have wx15 : x15.toInt = (M14.1 60 0 66).toInt := by rw [ex15]
        refine lv_iconst (v := 1) hx hb dX12_turned_38 (by decide) ?_
        refine fx_isub hx hb dX12_turned_39 rfl zk_1 (by omega) (fun y16 ey16 ty16 => ?_)
        refine fm_putI (a := 60) (j := 66) (T := TX12) (N := 79) hx hb hts hinX12 tyX12 tyX12_ok nmX12 hown hc hw hI hE hS kl_60 sh_60 od_60 rfl (by decide) rfl bd_60_66 (hts (.fieldLink RX12 372 "RedTentModel" "open" "I") (List.mem_cons_of_mem _ tw_5_186)) (fun _ h9 => h9) rfl (by decide +kernel) (by omega) (by decide) (by decide) dX12_turned_40 (fun M17 H locs eM17 hw hI hE hS => ?_)
        have mM17_60_63 : (M17.1 60 0 63).toInt = (M14.1 60 0 63).toInt := by rw [eM17, fm_wI_nj (fun z => absurd z.2.2 (by decide))]
        have mM17_60_64 : (M17.1 60 0 64).toInt = (M14.1 60 0 64).toInt := by rw [eM17, fm_wI_nj (fun z => absurd z.2.2 (by decide))]
        have mM17_60_65 : (M17.1 60 0 65).toInt = (M14.1 60 0 65).toInt := by rw [eM17, fm_wI_nj (fun z => absurd z.2.2 (by decide))]
        have mM17_60_66 : (M17.1 60 0 66).toInt = y16.toInt := by rw [eM17, fm_wI_at]
        have hEM17 : fm_same [60066] M14 M17 := by rw [eM17]; exact fm_same.rf.wI (by decide)
        have mwM17 := rt_ms_same hEM17 (by decide) mhr13
        have ooM17 : (shr13).2 < 0 → (M17.1 60 0 66).toInt = 0 := fun z => by have z9 := ohr13 z; omega
        refine lv_iload_n hx hb dX12_turned_43 rfl (lv_at hl 0 rfl) ?_
        refine fx_if_ne (tgt := 51) hx hb dX12_turned_44 (by decide) rfl (fun c18 => ?_) (fun c18 => ?_)
        · refine lv_iconst (v := 0) hx hb dX12_turned_51 (by decide) ?_
          exact W.iret (v := 0) hx hb hr (fun t ht hW => ⟨⟨0, M17, rfl, ⟨hI, hE, ⟨by omega, by omega, by omega, shr13, (rt_PS_4y ⟨hs0, sv5⟩ (by decide) phr13), mwM17, ooM17⟩⟩, by show fm_at D ad C nb _ t.heap; rw [ht]; exact hw⟩, hS.F ht⟩) hS.2.2 dX12_turned_52
        · refine lv_iconst (v := 1) hx hb dX12_turned_47 (by decide) ?_
          refine lv_goto (tgt := 52) hx hb dX12_turned_48 (by decide) ?_
          exact W.iret (v := 1) hx hb hr (fun t ht hW => ⟨⟨1, M17, rfl, ⟨hI, hE, ⟨by omega, by omega, by omega, shr13, (rt_PS_4y ⟨hs0, sv5⟩ (by decide) phr13), mwM17, ooM17⟩⟩, by show fm_at D ad C nb _ t.heap; rw [ht]; exact hw⟩, hS.F ht⟩) hS.2.2 dX12_turned_52
      · exfalso; omega
    · have sv19 : ¬ T9 (s9).1 = 11 := fun z => chr4 ((rt_is hTK hms rt_cd_11).mpr z)
      refine fx_if_eq (tgt := 53) hx hb dX12_turned_16 (by decide) zk_0 (fun c20 => ?_) (fun c20 => by exfalso; omega)
      refine lv_aload_n hx hb dX12_turned_53 rfl (lv_at hl 0 rfl) ?_
      have d21_63 := hI.bd (k := 0) bd_60_63
      have d21_64 := hI.bd (k := 0) bd_60_64
      have d21_65 := hI.bd (k := 0) bd_60_65
      have d21_66 := hI.bd (k := 0) bd_60_66
      refine fm_ci (va_runV (As := []) (rest := []) ⟨hx, hb, hml, hown, hts⟩ (fc_X12_sum_0 l D ad C nb M hI kc S9 B9 T9 (s9) (by omega) (by omega) hTK hms hoo) (cwV 0 hts gX12_turned_X12_sum rfl rfl rfl (by decide +kernel) ⟨Nat.le_of_ble_eq_true rfl, Nat.le_of_ble_eq_true rfl⟩) (fm_preV hc hw hS kl_60 sh_60 rfl) rfl rfl hl.1 rfl (lv_room (Nat.le_of_ble_eq_true rfl)) dX12_turned_54 ⟨by decide +kernel, by decide +kernel⟩) hS hc (fun r22 M23 H locs hr22 hw hS => ?_)
      obtain ⟨hI, hEM23, hr22⟩ := hr22
      have hE := hE.tr hEM23 (by decide)
      have mM23_60_63 : (M23.1 60 0 63).toInt = (M.1 60 0 63).toInt := by rw [(hEM23 60 0 63 (by decide)).1]
      obtain ⟨ahr22, bhr22, dhr22, shr22, phr22, mhr22, ohr22⟩ := hr22
      refine lv_istore_n (lv' := [(1, .int r22), (0, .ref (ad 60 0))]) hx hb dX12_turned_57 rfl hl (by decide) rfl (fun ls hl => ?_)
      refine lv_aload_n hx hb dX12_turned_58 rfl (lv_at hl 1 rfl) ?_
      obtain ⟨q24, vq24, hQq24, hRq24⟩ := hc.2.2.2.2.1 (RX12, 387, "<", [60]) (by decide)
      refine va_ldcwS hx hb hown hRq24 dX12_turned_59 ?_
      have tk25 := rt_TMs hE (by decide) hTK
      refine fm_ci (va_runV (As := [.ref q24]) (rest := []) ⟨hx, hb, hml, hown, hts⟩ (fc_X12_take l D ad C nb M23 hI q24 vq24 1 (fun j => ([60] : List Int32).getD j 0) (by decide) kc S9 B9 T9 (shr22) 60 (by omega) tk25 mhr22 rt_cd_60) (cwV 1 hts gX12_turned_X12_take rfl rfl rfl (by decide +kernel) ⟨Nat.le_of_ble_eq_true rfl, Nat.le_of_ble_eq_true rfl⟩) (fm_preVS hc hw hS hQq24 kl_60 sh_60 rfl) rfl rfl hl.1 rfl (lv_room (Nat.le_of_ble_eq_true rfl)) dX12_turned_62 ⟨by decide +kernel, by decide +kernel⟩) hS hc (fun r26 M27 H locs hr26 hw hS => ?_)
      obtain ⟨hI, hEM27, hr26⟩ := hr26
      have hE := hE.tr hEM27 (by decide)
      have mM27_60_63 : (M27.1 60 0 63).toInt = (M23.1 60 0 63).toInt := by rw [(hEM27 60 0 63 (by decide)).1]
      have mM27_60_66 : (M27.1 60 0 66).toInt = (M23.1 60 0 66).toInt := by rw [(hEM27 60 0 66 (by decide)).1]
      rcases hr26 with ⟨rfl, ahr26, bhr26, dhr26, ehr26, mhr26⟩ | ⟨rfl, ahr26, bhr26, dhr26, mhr26⟩
      · have ooM27 : (rt_adv T9 (shr22)).2 < 0 → (M27.1 60 0 66).toInt = 0 := fun z => by have z9 := ohr22 z; omega
        refine fx_if_eq (tgt := 82) hx hb dX12_turned_65 (by decide) zk_1 (fun c28 => by exfalso; omega) (fun c28 => ?_)
        refine lv_iload_n hx hb dX12_turned_68 rfl (lv_at hl 0 rfl) ?_
        refine lv_aload_n hx hb dX12_turned_69 rfl (lv_at hl 1 rfl) ?_
        have tk29 := rt_TMs hE (by decide) hTK
        have d30_63 := hI.bd (k := 0) bd_60_63
        have d30_64 := hI.bd (k := 0) bd_60_64
        have d30_65 := hI.bd (k := 0) bd_60_65
        have d30_66 := hI.bd (k := 0) bd_60_66
        refine fm_ci (va_runV (As := []) (rest := [.int r22]) ⟨hx, hb, hml, hown, hts⟩ (fc_X12_sum_0 l D ad C nb M27 hI kc S9 B9 T9 (rt_adv T9 (shr22)) (by omega) (by omega) tk29 mhr26 ooM27) (cwV 0 hts gX12_turned_X12_sum rfl rfl rfl (by decide +kernel) ⟨Nat.le_of_ble_eq_true rfl, Nat.le_of_ble_eq_true rfl⟩) (fm_preV hc hw hS kl_60 sh_60 rfl) rfl rfl hl.1 rfl (lv_room (Nat.le_of_ble_eq_true rfl)) dX12_turned_70 ⟨by decide +kernel, by decide +kernel⟩) hS hc (fun r31 M32 H locs hr31 hw hS => ?_)
        obtain ⟨hI, hEM32, hr31⟩ := hr31
        have hE := hE.tr hEM32 (by decide)
        have mM32_60_63 : (M32.1 60 0 63).toInt = (M27.1 60 0 63).toInt := by rw [(hEM32 60 0 63 (by decide)).1]
        obtain ⟨ahr31, bhr31, dhr31, shr31, phr31, mhr31, ohr31⟩ := hr31
        refine fx_icmp_ge (tgt := 80) hx hb dX12_turned_73 (by decide) rfl rfl (fun c33 => ?_) (fun c33 => ?_)
        · refine lv_iconst (v := 0) hx hb dX12_turned_80 (by decide) ?_
          exact W.iret (v := 0) hx hb hr (fun t ht hW => ⟨⟨0, M32, rfl, ⟨hI, hE, ⟨by omega, by omega, by omega, shr31, (rt_PS_4n (fun z => sv19 z.2) (rt_PS_5 phr22 (rt_PS_11y ⟨dhr26, Or.inl ehr26⟩ phr31))), mhr31, ohr31⟩⟩, by show fm_at D ad C nb _ t.heap; rw [ht]; exact hw⟩, hS.F ht⟩) hS.2.2 dX12_turned_81
        · refine lv_iconst (v := 1) hx hb dX12_turned_76 (by decide) ?_
          refine lv_goto (tgt := 81) hx hb dX12_turned_77 (by decide) ?_
          exact W.iret (v := 1) hx hb hr (fun t ht hW => ⟨⟨1, M32, rfl, ⟨hI, hE, ⟨by omega, by omega, by omega, shr31, (rt_PS_4n (fun z => sv19 z.2) (rt_PS_5 phr22 (rt_PS_11y ⟨dhr26, Or.inl ehr26⟩ phr31))), mhr31, ohr31⟩⟩, by show fm_at D ad C nb _ t.heap; rw [ht]; exact hw⟩, hS.F ht⟩) hS.2.2 dX12_turned_81
      · have ooM27 : (shr22).2 < 0 → (M27.1 60 0 66).toInt = 0 := fun z => by have z9 := ohr22 z; omega
        refine fx_if_eq (tgt := 82) hx hb dX12_turned_65 (by decide) zk_0 (fun c34 => ?_) (fun c34 => by exfalso; omega)
        refine lv_aload_n hx hb dX12_turned_82 rfl (lv_at hl 1 rfl) ?_
        obtain ⟨q35, vq35, hQq35, hRq35⟩ := hc.2.2.2.2.1 (RX12, 389, "=", [61]) (by decide)
        refine va_ldcwS hx hb hown hRq35 dX12_turned_83 ?_
        have tk36 := rt_TMs hE (by decide) hTK
        refine fm_ci (va_runV (As := [.ref q35]) (rest := []) ⟨hx, hb, hml, hown, hts⟩ (fc_X12_take l D ad C nb M27 hI q35 vq35 1 (fun j => ([61] : List Int32).getD j 0) (by decide) kc S9 B9 T9 (shr22) 61 (by omega) tk36 mhr26 rt_cd_61) (cwV 1 hts gX12_turned_X12_take rfl rfl rfl (by decide +kernel) ⟨Nat.le_of_ble_eq_true rfl, Nat.le_of_ble_eq_true rfl⟩) (fm_preVS hc hw hS hQq35 kl_60 sh_60 rfl) rfl rfl hl.1 rfl (lv_room (Nat.le_of_ble_eq_true rfl)) dX12_turned_86 ⟨by decide +kernel, by decide +kernel⟩) hS hc (fun r37 M38 H locs hr37 hw hS => ?_)
        obtain ⟨hI, hEM38, hr37⟩ := hr37
        have hE := hE.tr hEM38 (by decide)
        have mM38_60_63 : (M38.1 60 0 63).toInt = (M27.1 60 0 63).toInt := by rw [(hEM38 60 0 63 (by decide)).1]
        have mM38_60_66 : (M38.1 60 0 66).toInt = (M27.1 60 0 66).toInt := by rw [(hEM38 60 0 66 (by decide)).1]
        rcases hr37 with ⟨rfl, ahr37, bhr37, dhr37, ehr37, mhr37⟩ | ⟨rfl, ahr37, bhr37, dhr37, mhr37⟩
        · have ooM38 : (rt_adv T9 (shr22)).2 < 0 → (M38.1 60 0 66).toInt = 0 := fun z => by have z9 := ooM27 z; omega
          refine fx_if_eq (tgt := 106) hx hb dX12_turned_89 (by decide) zk_1 (fun c39 => by exfalso; omega) (fun c39 => ?_)
          refine lv_iload_n hx hb dX12_turned_92 rfl (lv_at hl 0 rfl) ?_
          refine lv_aload_n hx hb dX12_turned_93 rfl (lv_at hl 1 rfl) ?_
          have tk40 := rt_TMs hE (by decide) hTK
          have d41_63 := hI.bd (k := 0) bd_60_63
          have d41_64 := hI.bd (k := 0) bd_60_64
          have d41_65 := hI.bd (k := 0) bd_60_65
          have d41_66 := hI.bd (k := 0) bd_60_66
          refine fm_ci (va_runV (As := []) (rest := [.int r22]) ⟨hx, hb, hml, hown, hts⟩ (fc_X12_sum_0 l D ad C nb M38 hI kc S9 B9 T9 (rt_adv T9 (shr22)) (by omega) (by omega) tk40 mhr37 ooM38) (cwV 0 hts gX12_turned_X12_sum rfl rfl rfl (by decide +kernel) ⟨Nat.le_of_ble_eq_true rfl, Nat.le_of_ble_eq_true rfl⟩) (fm_preV hc hw hS kl_60 sh_60 rfl) rfl rfl hl.1 rfl (lv_room (Nat.le_of_ble_eq_true rfl)) dX12_turned_94 ⟨by decide +kernel, by decide +kernel⟩) hS hc (fun r42 M43 H locs hr42 hw hS => ?_)
          obtain ⟨hI, hEM43, hr42⟩ := hr42
          have hE := hE.tr hEM43 (by decide)
          have mM43_60_63 : (M43.1 60 0 63).toInt = (M38.1 60 0 63).toInt := by rw [(hEM43 60 0 63 (by decide)).1]
          obtain ⟨ahr42, bhr42, dhr42, shr42, phr42, mhr42, ohr42⟩ := hr42
          refine fx_icmp_ne (tgt := 104) hx hb dX12_turned_97 (by decide) rfl rfl (fun c44 => ?_) (fun c44 => ?_)
          · refine lv_iconst (v := 0) hx hb dX12_turned_104 (by decide) ?_
            exact W.iret (v := 0) hx hb hr (fun t ht hW => ⟨⟨0, M43, rfl, ⟨hI, hE, ⟨by omega, by omega, by omega, shr42, (rt_PS_4n (fun z => sv19 z.2) (rt_PS_5 phr22 (rt_PS_11y ⟨dhr37, Or.inr ehr37⟩ phr42))), mhr42, ohr42⟩⟩, by show fm_at D ad C nb _ t.heap; rw [ht]; exact hw⟩, hS.F ht⟩) hS.2.2 dX12_turned_105
          · refine lv_iconst (v := 1) hx hb dX12_turned_100 (by decide) ?_
            refine lv_goto (tgt := 105) hx hb dX12_turned_101 (by decide) ?_
            exact W.iret (v := 1) hx hb hr (fun t ht hW => ⟨⟨1, M43, rfl, ⟨hI, hE, ⟨by omega, by omega, by omega, shr42, (rt_PS_4n (fun z => sv19 z.2) (rt_PS_5 phr22 (rt_PS_11y ⟨dhr37, Or.inr ehr37⟩ phr42))), mhr42, ohr42⟩⟩, by show fm_at D ad C nb _ t.heap; rw [ht]; exact hw⟩, hS.F ht⟩) hS.2.2 dX12_turned_105
        · have ooM38 : (shr22).2 < 0 → (M38.1 60 0 66).toInt = 0 := fun z => by have z9 := ooM27 z; omega
          refine fx_if_eq (tgt := 106) hx hb dX12_turned_89 (by decide) zk_0 (fun c45 => ?_) (fun c45 => by exfalso; omega)
          refine lv_iload_n hx hb dX12_turned_106 rfl (lv_at hl 0 rfl) ?_
          exact W.iret (v := r22) hx hb hr (fun t ht hW => ⟨⟨r22, M38, rfl, ⟨hI, hE, ⟨by omega, by omega, by omega, shr22, (rt_PS_4n (fun z => sv19 z.2) (rt_PS_5 phr22 (rt_PS_11n (by have za := dhr26; have zb := dhr37; omega)))), mhr37, ooM38⟩⟩, by show fm_at D ad C nb _ t.heap; rw [ht]; exact hw⟩, hS.F ht⟩) hS.2.2 dX12_turned_107
  · refine lv_iconst (v := 0) hx hb dX12_turned_7 (by decide) ?_
    exact W.iret (v := 0) hx hb hr (fun t ht hW => ⟨⟨0, M, rfl, ⟨hI, hE, ⟨by omega, by omega, by omega, s9, (rt_PS_id (by rw [← hms.2.2.2, ← ex1]; omega) (by decide)), hms, hoo⟩⟩, by show fm_at D ad C nb _ t.heap; rw [ht]; exact hw⟩, hS.F ht⟩) hS.2.2 dX12_turned_8
set_option maxHeartbeats 400000 in
set_option maxRecDepth 20000 in
theorem fc_X12_both_0 (l : Launch) (D : va_G) (ad : Nat → Nat → Nat) (C : Nat → Nat → ClassId) (nb : Nat) (M : fm_M) (hI : fm_I nb ad M) (kc : Nat) (S9 B9 T9 : Nat → Int) (s9 : Nat × Int) (hft : (M.1 60 0 64).toInt ≤ (M.1 60 0 65).toInt) (hop : 0 ≤ (M.1 60 0 66).toInt) (hTK : rt_TM M kc S9 B9 T9) (hms : rt_ms kc S9 B9 M s9) (hoo : s9.2 < 0 → (M.1 60 0 66).toInt = 0) : Met l yX12_both wsX12_both ({ frames := 39, cells := 0, slots := 0, locals := 844 }) (va_Pc [.ref (ad 60 0)] (fm_P D ad C nb M)) (va_Qi (fun (r : Int32) (u : fm_M) => fm_I nb ad u ∧ fm_same [60064, 60065, 60066, 60067] M u ∧ ((M.1 60 0 64).toInt ≤ (u.1 60 0 64).toInt ∧ (M.1 60 0 66).toInt ≤ (u.1 60 0 66).toInt ∧ (u.1 60 0 64).toInt ≤ (u.1 60 0 65).toInt ∧ ∃ s8 : Nat × Int, rt_PS T9 S9 2 0 s9 s8 ∧ rt_ms kc S9 B9 u s8 ∧ (s8.2 < 0 → (u.1 60 0 66).toInt = 0))) (fun u t => fm_at D ad C nb u t.heap) (fm_A nb ad)) 0 0 (fm_A nb ad) := by
  refine Met.ofW (cc := cX12_both) (maxL := 3) (ret := (some .int)) (by decide) rfl ?_
  intro p e s m args below meth c s₁ B hml hv
  obtain ⟨rfl, hw, hc⟩ := hv
  have hx := B.exec
  have hb := B.bytes
  have hr := B.returns
  have hts := atoms_spec (ws := wsX12_both) B.pre
  have hown : s.vm.findClass RX12 = some m.cls := findClass_of_methodNamed B.named
  have hS : va_S (fm_A nb ad) s.heap s.heap [] := va_S.rf
  have hE : fm_same [60064, 60065, 60066, 60067] M M := fm_same.rf
  have hl := lv_entry ([.ref (ad 60 0)]) (n := 3) (Nat.le_of_ble_eq_true rfl)
  rw [lg_entry_eq]
  generalize (lg_sl ([.ref (ad 60 0)]) ++ List.replicate (3 - (lg_sl ([.ref (ad 60 0)])).length) Slot.unset).toArray = ls at hl ⊢
  have hl : lv_has ls 3 [(0, .ref (ad 60 0))] := hl
  refine lv_aload_n hx hb dX12_both_0 rfl (lv_at hl 0 rfl) ?_
  have d1_63 := hI.bd (k := 0) bd_60_63
  have d1_64 := hI.bd (k := 0) bd_60_64
  have d1_65 := hI.bd (k := 0) bd_60_65
  have d1_66 := hI.bd (k := 0) bd_60_66
  refine fm_ci (va_runV (As := []) (rest := []) ⟨hx, hb, hml, hown, hts⟩ (fc_X12_turned_0 l D ad C nb M hI kc S9 B9 T9 (s9) (by omega) (by omega) hTK hms hoo) (cwV 0 hts gX12_both_X12_turned rfl rfl rfl (by decide +kernel) ⟨Nat.le_of_ble_eq_true rfl, Nat.le_of_ble_eq_true rfl⟩) (fm_preV hc hw hS kl_60 sh_60 rfl) rfl rfl hl.1 rfl (lv_room (Nat.le_of_ble_eq_true rfl)) dX12_both_1 ⟨by decide +kernel, by decide +kernel⟩) hS hc (fun r2 M3 H locs hr2 hw hS => ?_)
  obtain ⟨hI, hEM3, hr2⟩ := hr2
  have hE := hE.tr hEM3 (by decide)
  have mM3_60_63 : (M3.1 60 0 63).toInt = (M.1 60 0 63).toInt := by rw [(hEM3 60 0 63 (by decide)).1]
  obtain ⟨ahr2, bhr2, dhr2, shr2, phr2, mhr2, ohr2⟩ := hr2
  refine lv_istore_n (lv' := [(1, .int r2), (0, .ref (ad 60 0))]) hx hb dX12_both_4 rfl hl (by decide) rfl (fun ls hl => ?_)
  have lp : ∀ (n_lp : Nat) (lp_1 : Int32) (M_lp : fm_M), (161 - (M_lp.1 60 0 64).toInt).toNat < n_lp → ((M.1 60 0 64).toInt ≤ (M_lp.1 60 0 64).toInt ∧ (M.1 60 0 66).toInt ≤ (M_lp.1 60 0 66).toInt ∧ (M_lp.1 60 0 64).toInt ≤ (M_lp.1 60 0 65).toInt) → (∃ s : Nat × Int, rt_ms kc S9 B9 M_lp s ∧ (s.2 < 0 → (M_lp.1 60 0 66).toInt = 0) ∧ ∀ r : Nat × Int, rt_PS T9 S9 3 0 s r → rt_PS T9 S9 2 0 s9 r) → fm_I nb ad M_lp → fm_same [60064, 60065, 60066, 60067] M M_lp → ∀ (H : Heap) (locs : List Loc), fm_at D ad C nb M_lp H → va_S (fm_A nb ad) s.heap H locs → ∀ (ls : Array Slot), lv_has ls 3 [(1, .int lp_1), (0, .ref (ad 60 0))] → W p l e (headSpec wsX12_both ({ frames := 39, cells := 0, slots := 0, locals := 844 })).room s m ([.ref (ad 60 0)] : List Value).toArray below meth c H locs 0 0 (MQ below (va_Qi (fun (r : Int32) (u : fm_M) => fm_I nb ad u ∧ fm_same [60064, 60065, 60066, 60067] M u ∧ ((M.1 60 0 64).toInt ≤ (u.1 60 0 64).toInt ∧ (M.1 60 0 66).toInt ≤ (u.1 60 0 66).toInt ∧ (u.1 60 0 64).toInt ≤ (u.1 60 0 65).toInt ∧ ∃ s8 : Nat × Int, rt_PS T9 S9 2 0 s9 s8 ∧ rt_ms kc S9 B9 u s8 ∧ (s8.2 < 0 → (u.1 60 0 66).toInt = 0))) (fun u t => fm_at D ad C nb u t.heap) (fm_A nb ad)) ([.ref (ad 60 0)] : List Value).toArray s 0 0 (fm_A nb ad)) (F0 m 5 ls []) := by
    intro n_lp
    induction n_lp with
    | zero => intro lp_1 M_lp hm_lp hv hq hI hE H locs hw hS ls hl; exact absurd hm_lp (Nat.not_lt_zero _)
    | succ n_lp ih_lp =>
      intro lp_1 M_lp hm_lp hv hq hI hE H locs hw hS ls hl
      obtain ⟨s7, ms7, oo7, hq7⟩ := hq
      refine lv_aload_n hx hb dX12_both_5 rfl (lv_at hl 1 rfl) ?_
      obtain ⟨q4, vq4, hQq4, hRq4⟩ := hc.2.2.2.2.1 (RX12, 370, "and", [97, 110, 100]) (by decide)
      refine va_ldcwS hx hb hown hRq4 dX12_both_6 ?_
      have tk5 := rt_TMs hE (by decide) hTK
      refine fm_ci (va_runV (As := [.ref q4]) (rest := []) ⟨hx, hb, hml, hown, hts⟩ (fc_X12_take l D ad C nb M_lp hI q4 vq4 3 (fun j => ([97, 110, 100] : List Int32).getD j 0) (by decide) kc S9 B9 T9 (s7) 10 (by omega) tk5 ms7 rt_cd_10) (cwV 1 hts gX12_both_X12_take rfl rfl rfl (by decide +kernel) ⟨Nat.le_of_ble_eq_true rfl, Nat.le_of_ble_eq_true rfl⟩) (fm_preVS hc hw hS hQq4 kl_60 sh_60 rfl) rfl rfl hl.1 rfl (lv_room (Nat.le_of_ble_eq_true rfl)) dX12_both_9 ⟨by decide +kernel, by decide +kernel⟩) hS hc (fun r6 M7 H locs hr6 hw hS => ?_)
      obtain ⟨hI, hEM7, hr6⟩ := hr6
      have hE := hE.tr hEM7 (by decide)
      have mM7_60_63 : (M7.1 60 0 63).toInt = (M_lp.1 60 0 63).toInt := by rw [(hEM7 60 0 63 (by decide)).1]
      have mM7_60_66 : (M7.1 60 0 66).toInt = (M_lp.1 60 0 66).toInt := by rw [(hEM7 60 0 66 (by decide)).1]
      rcases hr6 with ⟨rfl, ahr6, bhr6, dhr6, ehr6, mhr6⟩ | ⟨rfl, ahr6, bhr6, dhr6, mhr6⟩
      · have ooM7 : (rt_adv T9 (s7)).2 < 0 → (M7.1 60 0 66).toInt = 0 := fun z => by have z9 := oo7 z; omega
        refine fx_if_eq (tgt := 37) hx hb dX12_both_12 (by decide) zk_1 (fun c8 => by exfalso; omega) (fun c8 => ?_)
        refine lv_aload_n hx hb dX12_both_15 rfl (lv_at hl 1 rfl) ?_
        have tk9 := rt_TMs hE (by decide) hTK
        have d10_63 := hI.bd (k := 0) bd_60_63
        have d10_64 := hI.bd (k := 0) bd_60_64
        have d10_65 := hI.bd (k := 0) bd_60_65
        have d10_66 := hI.bd (k := 0) bd_60_66
        refine fm_ci (va_runV (As := []) (rest := []) ⟨hx, hb, hml, hown, hts⟩ (fc_X12_turned_0 l D ad C nb M7 hI kc S9 B9 T9 (rt_adv T9 (s7)) (by omega) (by omega) tk9 mhr6 ooM7) (cwV 0 hts gX12_both_X12_turned rfl rfl rfl (by decide +kernel) ⟨Nat.le_of_ble_eq_true rfl, Nat.le_of_ble_eq_true rfl⟩) (fm_preV hc hw hS kl_60 sh_60 rfl) rfl rfl hl.1 rfl (lv_room (Nat.le_of_ble_eq_true rfl)) dX12_both_16 ⟨by decide +kernel, by decide +kernel⟩) hS hc (fun r11 M12 H locs hr11 hw hS => ?_)
        obtain ⟨hI, hEM12, hr11⟩ := hr11
        have hE := hE.tr hEM12 (by decide)
        have mM12_60_63 : (M12.1 60 0 63).toInt = (M7.1 60 0 63).toInt := by rw [(hEM12 60 0 63 (by decide)).1]
        obtain ⟨ahr11, bhr11, dhr11, shr11, phr11, mhr11, ohr11⟩ := hr11
        refine lv_istore_n (lv' := [(2, .int r11), (1, .int lp_1), (0, .ref (ad 60 0))]) hx hb dX12_both_19 rfl hl (by decide) rfl (fun ls hl => ?_)
        refine lv_iload_n hx hb dX12_both_20 rfl (lv_at hl 1 rfl) ?_
        refine fx_if_eq (tgt := 32) hx hb dX12_both_21 (by decide) rfl (fun c13 => ?_) (fun c13 => ?_)
        · refine lv_iconst (v := 0) hx hb dX12_both_32 (by decide) ?_
          refine lv_istore_n (lv' := [(1, .int 0), (2, .int r11), (0, .ref (ad 60 0))]) hx hb dX12_both_33 rfl hl (by decide) rfl (fun ls hl => ?_)
          refine lv_goto (tgt := 5) hx hb dX12_both_34 (by decide) ?_
          exact ih_lp 0 M12 (by omega) (by omega) ⟨shr11, mhr11, ohr11, fun r h => hq7 r (rt_PS_3y ⟨dhr6, ehr6⟩ phr11 h)⟩ hI hE _ _ hw hS ls (lv_sub hl [0, 2] rfl)
        · refine lv_iload_n hx hb dX12_both_24 rfl (lv_at hl 0 rfl) ?_
          refine fx_if_eq (tgt := 32) hx hb dX12_both_25 (by decide) rfl (fun c14 => ?_) (fun c14 => ?_)
          · refine lv_iconst (v := 0) hx hb dX12_both_32 (by decide) ?_
            refine lv_istore_n (lv' := [(1, .int 0), (2, .int r11), (0, .ref (ad 60 0))]) hx hb dX12_both_33 rfl hl (by decide) rfl (fun ls hl => ?_)
            refine lv_goto (tgt := 5) hx hb dX12_both_34 (by decide) ?_
            exact ih_lp 0 M12 (by omega) (by omega) ⟨shr11, mhr11, ohr11, fun r h => hq7 r (rt_PS_3y ⟨dhr6, ehr6⟩ phr11 h)⟩ hI hE _ _ hw hS ls (lv_sub hl [0, 2] rfl)
          · refine lv_iconst (v := 1) hx hb dX12_both_28 (by decide) ?_
            refine lv_goto (tgt := 33) hx hb dX12_both_29 (by decide) ?_
            refine lv_istore_n (lv' := [(1, .int 1), (2, .int r11), (0, .ref (ad 60 0))]) hx hb dX12_both_33 rfl hl (by decide) rfl (fun ls hl => ?_)
            refine lv_goto (tgt := 5) hx hb dX12_both_34 (by decide) ?_
            exact ih_lp 1 M12 (by omega) (by omega) ⟨shr11, mhr11, ohr11, fun r h => hq7 r (rt_PS_3y ⟨dhr6, ehr6⟩ phr11 h)⟩ hI hE _ _ hw hS ls (lv_sub hl [0, 2] rfl)
      · have ooM7 : (s7).2 < 0 → (M7.1 60 0 66).toInt = 0 := fun z => by have z9 := oo7 z; omega
        refine fx_if_eq (tgt := 37) hx hb dX12_both_12 (by decide) zk_0 (fun c15 => ?_) (fun c15 => by exfalso; omega)
        refine lv_iload_n hx hb dX12_both_37 rfl (lv_at hl 0 rfl) ?_
        exact W.iret (v := lp_1) hx hb hr (fun t ht hW => ⟨⟨lp_1, M7, rfl, ⟨hI, hE, ⟨by omega, by omega, by omega, s7, (hq7 _ (rt_PS_3n dhr6)), mhr6, ooM7⟩⟩, by show fm_at D ad C nb _ t.heap; rw [ht]; exact hw⟩, hS.F ht⟩) hS.2.2 dX12_both_38
  exact lp _ r2 M3 (Nat.lt_succ_self _) (by omega) ⟨shr2, mhr2, ohr2, fun r h => rt_PS_2 phr2 h⟩ hI hE _ _ hw hS ls (lv_sub hl [0, 1] rfl)
set_option maxHeartbeats 400000 in
set_option maxRecDepth 20000 in
theorem fc_X12_either_0 (l : Launch) (D : va_G) (ad : Nat → Nat → Nat) (C : Nat → Nat → ClassId) (nb : Nat) (M : fm_M) (hI : fm_I nb ad M) (kc : Nat) (S9 B9 T9 : Nat → Int) (s9 : Nat × Int) (hft : (M.1 60 0 64).toInt ≤ (M.1 60 0 65).toInt) (hop : 0 ≤ (M.1 60 0 66).toInt) (hTK : rt_TM M kc S9 B9 T9) (hms : rt_ms kc S9 B9 M s9) (hoo : s9.2 < 0 → (M.1 60 0 66).toInt = 0) : Met l yX12_either wsX12_either ({ frames := 40, cells := 0, slots := 0, locals := 866 }) (va_Pc [.ref (ad 60 0)] (fm_P D ad C nb M)) (va_Qi (fun (r : Int32) (u : fm_M) => fm_I nb ad u ∧ fm_same [60064, 60065, 60066, 60067] M u ∧ ((M.1 60 0 64).toInt ≤ (u.1 60 0 64).toInt ∧ (M.1 60 0 66).toInt ≤ (u.1 60 0 66).toInt ∧ (u.1 60 0 64).toInt ≤ (u.1 60 0 65).toInt ∧ ∃ s8 : Nat × Int, rt_PS T9 S9 0 0 s9 s8 ∧ rt_ms kc S9 B9 u s8 ∧ (s8.2 < 0 → (u.1 60 0 66).toInt = 0))) (fun u t => fm_at D ad C nb u t.heap) (fm_A nb ad)) 0 0 (fm_A nb ad) := by
  refine Met.ofW (cc := cX12_either) (maxL := 3) (ret := (some .int)) (by decide) rfl ?_
  intro p e s m args below meth c s₁ B hml hv
  obtain ⟨rfl, hw, hc⟩ := hv
  have hx := B.exec
  have hb := B.bytes
  have hr := B.returns
  have hts := atoms_spec (ws := wsX12_either) B.pre
  have hown : s.vm.findClass RX12 = some m.cls := findClass_of_methodNamed B.named
  have hS : va_S (fm_A nb ad) s.heap s.heap [] := va_S.rf
  have hE : fm_same [60064, 60065, 60066, 60067] M M := fm_same.rf
  have hl := lv_entry ([.ref (ad 60 0)]) (n := 3) (Nat.le_of_ble_eq_true rfl)
  rw [lg_entry_eq]
  generalize (lg_sl ([.ref (ad 60 0)]) ++ List.replicate (3 - (lg_sl ([.ref (ad 60 0)])).length) Slot.unset).toArray = ls at hl ⊢
  have hl : lv_has ls 3 [(0, .ref (ad 60 0))] := hl
  refine lv_aload_n hx hb dX12_either_0 rfl (lv_at hl 0 rfl) ?_
  have d1_63 := hI.bd (k := 0) bd_60_63
  have d1_64 := hI.bd (k := 0) bd_60_64
  have d1_65 := hI.bd (k := 0) bd_60_65
  have d1_66 := hI.bd (k := 0) bd_60_66
  refine fm_ci (va_runV (As := []) (rest := []) ⟨hx, hb, hml, hown, hts⟩ (fc_X12_both_0 l D ad C nb M hI kc S9 B9 T9 (s9) (by omega) (by omega) hTK hms hoo) (cwV 0 hts gX12_either_X12_both rfl rfl rfl (by decide +kernel) ⟨Nat.le_of_ble_eq_true rfl, Nat.le_of_ble_eq_true rfl⟩) (fm_preV hc hw hS kl_60 sh_60 rfl) rfl rfl hl.1 rfl (lv_room (Nat.le_of_ble_eq_true rfl)) dX12_either_1 ⟨by decide +kernel, by decide +kernel⟩) hS hc (fun r2 M3 H locs hr2 hw hS => ?_)
  obtain ⟨hI, hEM3, hr2⟩ := hr2
  have hE := hE.tr hEM3 (by decide)
  have mM3_60_63 : (M3.1 60 0 63).toInt = (M.1 60 0 63).toInt := by rw [(hEM3 60 0 63 (by decide)).1]
  obtain ⟨ahr2, bhr2, dhr2, shr2, phr2, mhr2, ohr2⟩ := hr2
  refine lv_istore_n (lv' := [(1, .int r2), (0, .ref (ad 60 0))]) hx hb dX12_either_4 rfl hl (by decide) rfl (fun ls hl => ?_)
  have lp : ∀ (n_lp : Nat) (lp_1 : Int32) (M_lp : fm_M), (161 - (M_lp.1 60 0 64).toInt).toNat < n_lp → ((M.1 60 0 64).toInt ≤ (M_lp.1 60 0 64).toInt ∧ (M.1 60 0 66).toInt ≤ (M_lp.1 60 0 66).toInt ∧ (M_lp.1 60 0 64).toInt ≤ (M_lp.1 60 0 65).toInt) → (∃ s : Nat × Int, rt_ms kc S9 B9 M_lp s ∧ (s.2 < 0 → (M_lp.1 60 0 66).toInt = 0) ∧ ∀ r : Nat × Int, rt_PS T9 S9 1 0 s r → rt_PS T9 S9 0 0 s9 r) → fm_I nb ad M_lp → fm_same [60064, 60065, 60066, 60067] M M_lp → ∀ (H : Heap) (locs : List Loc), fm_at D ad C nb M_lp H → va_S (fm_A nb ad) s.heap H locs → ∀ (ls : Array Slot), lv_has ls 3 [(1, .int lp_1), (0, .ref (ad 60 0))] → W p l e (headSpec wsX12_either ({ frames := 40, cells := 0, slots := 0, locals := 866 })).room s m ([.ref (ad 60 0)] : List Value).toArray below meth c H locs 0 0 (MQ below (va_Qi (fun (r : Int32) (u : fm_M) => fm_I nb ad u ∧ fm_same [60064, 60065, 60066, 60067] M u ∧ ((M.1 60 0 64).toInt ≤ (u.1 60 0 64).toInt ∧ (M.1 60 0 66).toInt ≤ (u.1 60 0 66).toInt ∧ (u.1 60 0 64).toInt ≤ (u.1 60 0 65).toInt ∧ ∃ s8 : Nat × Int, rt_PS T9 S9 0 0 s9 s8 ∧ rt_ms kc S9 B9 u s8 ∧ (s8.2 < 0 → (u.1 60 0 66).toInt = 0))) (fun u t => fm_at D ad C nb u t.heap) (fm_A nb ad)) ([.ref (ad 60 0)] : List Value).toArray s 0 0 (fm_A nb ad)) (F0 m 5 ls []) := by
    intro n_lp
    induction n_lp with
    | zero => intro lp_1 M_lp hm_lp hv hq hI hE H locs hw hS ls hl; exact absurd hm_lp (Nat.not_lt_zero _)
    | succ n_lp ih_lp =>
      intro lp_1 M_lp hm_lp hv hq hI hE H locs hw hS ls hl
      obtain ⟨s7, ms7, oo7, hq7⟩ := hq
      refine lv_aload_n hx hb dX12_either_5 rfl (lv_at hl 1 rfl) ?_
      obtain ⟨q4, vq4, hQq4, hRq4⟩ := hc.2.2.2.2.1 (RX12, 362, "or", [111, 114]) (by decide)
      refine va_ldcwS hx hb hown hRq4 dX12_either_6 ?_
      have tk5 := rt_TMs hE (by decide) hTK
      refine fm_ci (va_runV (As := [.ref q4]) (rest := []) ⟨hx, hb, hml, hown, hts⟩ (fc_X12_take l D ad C nb M_lp hI q4 vq4 2 (fun j => ([111, 114] : List Int32).getD j 0) (by decide) kc S9 B9 T9 (s7) 9 (by omega) tk5 ms7 rt_cd_9) (cwV 1 hts gX12_either_X12_take rfl rfl rfl (by decide +kernel) ⟨Nat.le_of_ble_eq_true rfl, Nat.le_of_ble_eq_true rfl⟩) (fm_preVS hc hw hS hQq4 kl_60 sh_60 rfl) rfl rfl hl.1 rfl (lv_room (Nat.le_of_ble_eq_true rfl)) dX12_either_9 ⟨by decide +kernel, by decide +kernel⟩) hS hc (fun r6 M7 H locs hr6 hw hS => ?_)
      obtain ⟨hI, hEM7, hr6⟩ := hr6
      have hE := hE.tr hEM7 (by decide)
      have mM7_60_63 : (M7.1 60 0 63).toInt = (M_lp.1 60 0 63).toInt := by rw [(hEM7 60 0 63 (by decide)).1]
      have mM7_60_66 : (M7.1 60 0 66).toInt = (M_lp.1 60 0 66).toInt := by rw [(hEM7 60 0 66 (by decide)).1]
      rcases hr6 with ⟨rfl, ahr6, bhr6, dhr6, ehr6, mhr6⟩ | ⟨rfl, ahr6, bhr6, dhr6, mhr6⟩
      · have ooM7 : (rt_adv T9 (s7)).2 < 0 → (M7.1 60 0 66).toInt = 0 := fun z => by have z9 := oo7 z; omega
        refine fx_if_eq (tgt := 37) hx hb dX12_either_12 (by decide) zk_1 (fun c8 => by exfalso; omega) (fun c8 => ?_)
        refine lv_aload_n hx hb dX12_either_15 rfl (lv_at hl 1 rfl) ?_
        have tk9 := rt_TMs hE (by decide) hTK
        have d10_63 := hI.bd (k := 0) bd_60_63
        have d10_64 := hI.bd (k := 0) bd_60_64
        have d10_65 := hI.bd (k := 0) bd_60_65
        have d10_66 := hI.bd (k := 0) bd_60_66
        refine fm_ci (va_runV (As := []) (rest := []) ⟨hx, hb, hml, hown, hts⟩ (fc_X12_both_0 l D ad C nb M7 hI kc S9 B9 T9 (rt_adv T9 (s7)) (by omega) (by omega) tk9 mhr6 ooM7) (cwV 0 hts gX12_either_X12_both rfl rfl rfl (by decide +kernel) ⟨Nat.le_of_ble_eq_true rfl, Nat.le_of_ble_eq_true rfl⟩) (fm_preV hc hw hS kl_60 sh_60 rfl) rfl rfl hl.1 rfl (lv_room (Nat.le_of_ble_eq_true rfl)) dX12_either_16 ⟨by decide +kernel, by decide +kernel⟩) hS hc (fun r11 M12 H locs hr11 hw hS => ?_)
        obtain ⟨hI, hEM12, hr11⟩ := hr11
        have hE := hE.tr hEM12 (by decide)
        have mM12_60_63 : (M12.1 60 0 63).toInt = (M7.1 60 0 63).toInt := by rw [(hEM12 60 0 63 (by decide)).1]
        obtain ⟨ahr11, bhr11, dhr11, shr11, phr11, mhr11, ohr11⟩ := hr11
        refine lv_istore_n (lv' := [(2, .int r11), (1, .int lp_1), (0, .ref (ad 60 0))]) hx hb dX12_either_19 rfl hl (by decide) rfl (fun ls hl => ?_)
        refine lv_iload_n hx hb dX12_either_20 rfl (lv_at hl 1 rfl) ?_
        refine fx_if_ne (tgt := 28) hx hb dX12_either_21 (by decide) rfl (fun c13 => ?_) (fun c13 => ?_)
        · refine lv_iconst (v := 1) hx hb dX12_either_28 (by decide) ?_
          refine lv_goto (tgt := 33) hx hb dX12_either_29 (by decide) ?_
          refine lv_istore_n (lv' := [(1, .int 1), (2, .int r11), (0, .ref (ad 60 0))]) hx hb dX12_either_33 rfl hl (by decide) rfl (fun ls hl => ?_)
          refine lv_goto (tgt := 5) hx hb dX12_either_34 (by decide) ?_
          exact ih_lp 1 M12 (by omega) (by omega) ⟨shr11, mhr11, ohr11, fun r h => hq7 r (rt_PS_1y ⟨dhr6, ehr6⟩ phr11 h)⟩ hI hE _ _ hw hS ls (lv_sub hl [0, 2] rfl)
        · refine lv_iload_n hx hb dX12_either_24 rfl (lv_at hl 0 rfl) ?_
          refine fx_if_eq (tgt := 32) hx hb dX12_either_25 (by decide) rfl (fun c14 => ?_) (fun c14 => ?_)
          · refine lv_iconst (v := 0) hx hb dX12_either_32 (by decide) ?_
            refine lv_istore_n (lv' := [(1, .int 0), (2, .int r11), (0, .ref (ad 60 0))]) hx hb dX12_either_33 rfl hl (by decide) rfl (fun ls hl => ?_)
            refine lv_goto (tgt := 5) hx hb dX12_either_34 (by decide) ?_
            exact ih_lp 0 M12 (by omega) (by omega) ⟨shr11, mhr11, ohr11, fun r h => hq7 r (rt_PS_1y ⟨dhr6, ehr6⟩ phr11 h)⟩ hI hE _ _ hw hS ls (lv_sub hl [0, 2] rfl)
          · refine lv_iconst (v := 1) hx hb dX12_either_28 (by decide) ?_
            refine lv_goto (tgt := 33) hx hb dX12_either_29 (by decide) ?_
            refine lv_istore_n (lv' := [(1, .int 1), (2, .int r11), (0, .ref (ad 60 0))]) hx hb dX12_either_33 rfl hl (by decide) rfl (fun ls hl => ?_)
            refine lv_goto (tgt := 5) hx hb dX12_either_34 (by decide) ?_
            exact ih_lp 1 M12 (by omega) (by omega) ⟨shr11, mhr11, ohr11, fun r h => hq7 r (rt_PS_1y ⟨dhr6, ehr6⟩ phr11 h)⟩ hI hE _ _ hw hS ls (lv_sub hl [0, 2] rfl)
      · have ooM7 : (s7).2 < 0 → (M7.1 60 0 66).toInt = 0 := fun z => by have z9 := oo7 z; omega
        refine fx_if_eq (tgt := 37) hx hb dX12_either_12 (by decide) zk_0 (fun c15 => ?_) (fun c15 => by exfalso; omega)
        refine lv_iload_n hx hb dX12_either_37 rfl (lv_at hl 0 rfl) ?_
        exact W.iret (v := lp_1) hx hb hr (fun t ht hW => ⟨⟨lp_1, M7, rfl, ⟨hI, hE, ⟨by omega, by omega, by omega, s7, (hq7 _ (rt_PS_1n dhr6)), mhr6, ooM7⟩⟩, by show fm_at D ad C nb _ t.heap; rw [ht]; exact hw⟩, hS.F ht⟩) hS.2.2 dX12_either_38
  exact lp _ r2 M3 (Nat.lt_succ_self _) (by omega) ⟨shr2, mhr2, ohr2, fun r h => rt_PS_0 phr2 h⟩ hI hE _ _ hw hS ls (lv_sub hl [0, 1] rfl)

theorem zb_X12_byteAt_0 : (decode cX12_byteAt 0 = .ok (.iload_n 1, 1)) ∧ (decode cX12_byteAt 1 = .ok (.aload_n 0, 1)) ∧ (decode cX12_byteAt 2 = .ok (.getfield 328, 3)) ∧ (decode cX12_byteAt 5 = .ok (.if_icmp .ge 33, 3)) ∧ (decode cX12_byteAt 38 = .ok (.iconst 0, 1)) ∧ (decode cX12_byteAt 39 = .ok (.ireturn, 1)) ∧ (decode cX12_byteAt 8 = .ok (.aload_n 0, 1)) ∧ (decode cX12_byteAt 9 = .ok (.getfield 331, 3)) ∧ (decode cX12_byteAt 12 = .ok (.ifCond .ge 12, 3)) ∧ (decode cX12_byteAt 24 = .ok (.aload_n 0, 1)) ∧ (decode cX12_byteAt 25 = .ok (.getfield 128, 3)) := by decide +kernel
theorem dX12_byteAt_0 : decode cX12_byteAt 0 = .ok (.iload_n 1, 1) := zb_X12_byteAt_0.1
theorem dX12_byteAt_1 : decode cX12_byteAt 1 = .ok (.aload_n 0, 1) := zb_X12_byteAt_0.2.1
theorem dX12_byteAt_2 : decode cX12_byteAt 2 = .ok (.getfield 328, 3) := zb_X12_byteAt_0.2.2.1
theorem dX12_byteAt_5 : decode cX12_byteAt 5 = .ok (.if_icmp .ge 33, 3) := zb_X12_byteAt_0.2.2.2.1
theorem dX12_byteAt_38 : decode cX12_byteAt 38 = .ok (.iconst 0, 1) := zb_X12_byteAt_0.2.2.2.2.1
theorem dX12_byteAt_39 : decode cX12_byteAt 39 = .ok (.ireturn, 1) := zb_X12_byteAt_0.2.2.2.2.2.1
theorem dX12_byteAt_8 : decode cX12_byteAt 8 = .ok (.aload_n 0, 1) := zb_X12_byteAt_0.2.2.2.2.2.2.1
theorem dX12_byteAt_9 : decode cX12_byteAt 9 = .ok (.getfield 331, 3) := zb_X12_byteAt_0.2.2.2.2.2.2.2.1
theorem dX12_byteAt_12 : decode cX12_byteAt 12 = .ok (.ifCond .ge 12, 3) := zb_X12_byteAt_0.2.2.2.2.2.2.2.2.1
theorem dX12_byteAt_24 : decode cX12_byteAt 24 = .ok (.aload_n 0, 1) := zb_X12_byteAt_0.2.2.2.2.2.2.2.2.2.1
theorem dX12_byteAt_25 : decode cX12_byteAt 25 = .ok (.getfield 128, 3) := zb_X12_byteAt_0.2.2.2.2.2.2.2.2.2.2
theorem zb_X12_byteAt_28 : (decode cX12_byteAt 28 = .ok (.aload_n 0, 1)) ∧ (decode cX12_byteAt 29 = .ok (.getfield 331, 3)) ∧ (decode cX12_byteAt 32 = .ok (.iload_n 1, 1)) ∧ (decode cX12_byteAt 33 = .ok (.iadd, 1)) ∧ (decode cX12_byteAt 34 = .ok (.iaload, 1)) ∧ (decode cX12_byteAt 35 = .ok (.goto 4, 3)) ∧ (decode cX12_byteAt 15 = .ok (.aload_n 0, 1)) ∧ (decode cX12_byteAt 16 = .ok (.getfield 125, 3)) ∧ (decode cX12_byteAt 19 = .ok (.iload_n 1, 1)) ∧ (decode cX12_byteAt 20 = .ok (.iaload, 1)) ∧ (decode cX12_byteAt 21 = .ok (.goto 18, 3)) := by decide +kernel
theorem dX12_byteAt_28 : decode cX12_byteAt 28 = .ok (.aload_n 0, 1) := zb_X12_byteAt_28.1
theorem dX12_byteAt_29 : decode cX12_byteAt 29 = .ok (.getfield 331, 3) := zb_X12_byteAt_28.2.1
theorem dX12_byteAt_32 : decode cX12_byteAt 32 = .ok (.iload_n 1, 1) := zb_X12_byteAt_28.2.2.1
theorem dX12_byteAt_33 : decode cX12_byteAt 33 = .ok (.iadd, 1) := zb_X12_byteAt_28.2.2.2.1
theorem dX12_byteAt_34 : decode cX12_byteAt 34 = .ok (.iaload, 1) := zb_X12_byteAt_28.2.2.2.2.1
theorem dX12_byteAt_35 : decode cX12_byteAt 35 = .ok (.goto 4, 3) := zb_X12_byteAt_28.2.2.2.2.2.1
theorem dX12_byteAt_15 : decode cX12_byteAt 15 = .ok (.aload_n 0, 1) := zb_X12_byteAt_28.2.2.2.2.2.2.1
theorem dX12_byteAt_16 : decode cX12_byteAt 16 = .ok (.getfield 125, 3) := zb_X12_byteAt_28.2.2.2.2.2.2.2.1
theorem dX12_byteAt_19 : decode cX12_byteAt 19 = .ok (.iload_n 1, 1) := zb_X12_byteAt_28.2.2.2.2.2.2.2.2.1
theorem dX12_byteAt_20 : decode cX12_byteAt 20 = .ok (.iaload, 1) := zb_X12_byteAt_28.2.2.2.2.2.2.2.2.2.1
theorem dX12_byteAt_21 : decode cX12_byteAt 21 = .ok (.goto 18, 3) := zb_X12_byteAt_28.2.2.2.2.2.2.2.2.2.2
theorem zb_X12_isLetter_0 : (decode cX12_isLetter 0 = .ok (.iload_n 1, 1)) ∧ (decode cX12_isLetter 1 = .ok (.aload_n 0, 1)) ∧ (decode cX12_isLetter 2 = .ok (.getfield 328, 3)) ∧ (decode cX12_isLetter 5 = .ok (.if_icmp .ge 22, 3)) ∧ (decode cX12_isLetter 27 = .ok (.iconst 0, 1)) ∧ (decode cX12_isLetter 28 = .ok (.ireturn, 1)) ∧ (decode cX12_isLetter 8 = .ok (.aload_n 0, 1)) ∧ (decode cX12_isLetter 9 = .ok (.iload_n 1, 1)) := by decide +kernel
theorem dX12_isLetter_0 : decode cX12_isLetter 0 = .ok (.iload_n 1, 1) := zb_X12_isLetter_0.1
theorem dX12_isLetter_1 : decode cX12_isLetter 1 = .ok (.aload_n 0, 1) := zb_X12_isLetter_0.2.1
theorem dX12_isLetter_2 : decode cX12_isLetter 2 = .ok (.getfield 328, 3) := zb_X12_isLetter_0.2.2.1
theorem dX12_isLetter_5 : decode cX12_isLetter 5 = .ok (.if_icmp .ge 22, 3) := zb_X12_isLetter_0.2.2.2.1
theorem dX12_isLetter_27 : decode cX12_isLetter 27 = .ok (.iconst 0, 1) := zb_X12_isLetter_0.2.2.2.2.1
theorem dX12_isLetter_28 : decode cX12_isLetter 28 = .ok (.ireturn, 1) := zb_X12_isLetter_0.2.2.2.2.2.1
theorem dX12_isLetter_8 : decode cX12_isLetter 8 = .ok (.aload_n 0, 1) := zb_X12_isLetter_0.2.2.2.2.2.2.1
theorem dX12_isLetter_9 : decode cX12_isLetter 9 = .ok (.iload_n 1, 1) := zb_X12_isLetter_0.2.2.2.2.2.2.2
theorem zb_X12_isLetter_10 : (decode cX12_isLetter 10 = .ok (.invokevirtual 334, 3)) ∧ (decode cX12_isLetter 13 = .ok (.bipush 97, 2)) ∧ (decode cX12_isLetter 15 = .ok (.bipush 122, 2)) ∧ (decode cX12_isLetter 17 = .ok (.invokestatic 186, 3)) ∧ (decode cX12_isLetter 20 = .ok (.ifCond .eq 7, 3)) ∧ (decode cX12_isLetter 23 = .ok (.iconst 1, 1)) ∧ (decode cX12_isLetter 24 = .ok (.goto 4, 3)) := by decide +kernel
theorem dX12_isLetter_10 : decode cX12_isLetter 10 = .ok (.invokevirtual 334, 3) := zb_X12_isLetter_10.1
theorem dX12_isLetter_13 : decode cX12_isLetter 13 = .ok (.bipush 97, 2) := zb_X12_isLetter_10.2.1
theorem dX12_isLetter_15 : decode cX12_isLetter 15 = .ok (.bipush 122, 2) := zb_X12_isLetter_10.2.2.1
theorem dX12_isLetter_17 : decode cX12_isLetter 17 = .ok (.invokestatic 186, 3) := zb_X12_isLetter_10.2.2.2.1
theorem dX12_isLetter_20 : decode cX12_isLetter 20 = .ok (.ifCond .eq 7, 3) := zb_X12_isLetter_10.2.2.2.2.1
theorem dX12_isLetter_23 : decode cX12_isLetter 23 = .ok (.iconst 1, 1) := zb_X12_isLetter_10.2.2.2.2.2.1
theorem dX12_isLetter_24 : decode cX12_isLetter 24 = .ok (.goto 4, 3) := zb_X12_isLetter_10.2.2.2.2.2.2
theorem zb_X12_isDigit_0 : (decode cX12_isDigit 0 = .ok (.iload_n 1, 1)) ∧ (decode cX12_isDigit 1 = .ok (.aload_n 0, 1)) ∧ (decode cX12_isDigit 2 = .ok (.getfield 328, 3)) ∧ (decode cX12_isDigit 5 = .ok (.if_icmp .ge 22, 3)) ∧ (decode cX12_isDigit 27 = .ok (.iconst 0, 1)) ∧ (decode cX12_isDigit 28 = .ok (.ireturn, 1)) ∧ (decode cX12_isDigit 8 = .ok (.aload_n 0, 1)) ∧ (decode cX12_isDigit 9 = .ok (.iload_n 1, 1)) := by decide +kernel
theorem dX12_isDigit_0 : decode cX12_isDigit 0 = .ok (.iload_n 1, 1) := zb_X12_isDigit_0.1
theorem dX12_isDigit_1 : decode cX12_isDigit 1 = .ok (.aload_n 0, 1) := zb_X12_isDigit_0.2.1
theorem dX12_isDigit_2 : decode cX12_isDigit 2 = .ok (.getfield 328, 3) := zb_X12_isDigit_0.2.2.1
theorem dX12_isDigit_5 : decode cX12_isDigit 5 = .ok (.if_icmp .ge 22, 3) := zb_X12_isDigit_0.2.2.2.1
theorem dX12_isDigit_27 : decode cX12_isDigit 27 = .ok (.iconst 0, 1) := zb_X12_isDigit_0.2.2.2.2.1
theorem dX12_isDigit_28 : decode cX12_isDigit 28 = .ok (.ireturn, 1) := zb_X12_isDigit_0.2.2.2.2.2.1
theorem dX12_isDigit_8 : decode cX12_isDigit 8 = .ok (.aload_n 0, 1) := zb_X12_isDigit_0.2.2.2.2.2.2.1
theorem dX12_isDigit_9 : decode cX12_isDigit 9 = .ok (.iload_n 1, 1) := zb_X12_isDigit_0.2.2.2.2.2.2.2
theorem zb_X12_isDigit_10 : (decode cX12_isDigit 10 = .ok (.invokevirtual 334, 3)) ∧ (decode cX12_isDigit 13 = .ok (.bipush 48, 2)) ∧ (decode cX12_isDigit 15 = .ok (.bipush 57, 2)) ∧ (decode cX12_isDigit 17 = .ok (.invokestatic 186, 3)) ∧ (decode cX12_isDigit 20 = .ok (.ifCond .eq 7, 3)) ∧ (decode cX12_isDigit 23 = .ok (.iconst 1, 1)) ∧ (decode cX12_isDigit 24 = .ok (.goto 4, 3)) := by decide +kernel
theorem dX12_isDigit_10 : decode cX12_isDigit 10 = .ok (.invokevirtual 334, 3) := zb_X12_isDigit_10.1
theorem dX12_isDigit_13 : decode cX12_isDigit 13 = .ok (.bipush 48, 2) := zb_X12_isDigit_10.2.1
theorem dX12_isDigit_15 : decode cX12_isDigit 15 = .ok (.bipush 57, 2) := zb_X12_isDigit_10.2.2.1
theorem dX12_isDigit_17 : decode cX12_isDigit 17 = .ok (.invokestatic 186, 3) := zb_X12_isDigit_10.2.2.2.1
theorem dX12_isDigit_20 : decode cX12_isDigit 20 = .ok (.ifCond .eq 7, 3) := zb_X12_isDigit_10.2.2.2.2.1
theorem dX12_isDigit_23 : decode cX12_isDigit 23 = .ok (.iconst 1, 1) := zb_X12_isDigit_10.2.2.2.2.2.1
theorem dX12_isDigit_24 : decode cX12_isDigit 24 = .ok (.goto 4, 3) := zb_X12_isDigit_10.2.2.2.2.2.2
theorem zb_X12_is_33 : (decode cX12_is 33 = .ok (.iconst 0, 1)) ∧ (decode cX12_is 34 = .ok (.istore_n 3, 1)) ∧ (decode cX12_is 35 = .ok (.iload_n 3, 1)) ∧ (decode cX12_is 36 = .ok (.aload_n 1, 1)) ∧ (decode cX12_is 37 = .ok (.invokevirtual 172, 3)) ∧ (decode cX12_is 40 = .ok (.if_icmp .ge 37, 3)) ∧ (decode cX12_is 77 = .ok (.iload_n 2, 1)) ∧ (decode cX12_is 78 = .ok (.ireturn, 1)) ∧ (decode cX12_is 43 = .ok (.iload_n 2, 1)) ∧ (decode cX12_is 44 = .ok (.ifCond .eq 33, 3)) ∧ (decode cX12_is 47 = .ok (.aload_n 0, 1)) := by decide +kernel
theorem dX12_is_33 : decode cX12_is 33 = .ok (.iconst 0, 1) := zb_X12_is_33.1
theorem dX12_is_34 : decode cX12_is 34 = .ok (.istore_n 3, 1) := zb_X12_is_33.2.1
theorem dX12_is_35 : decode cX12_is 35 = .ok (.iload_n 3, 1) := zb_X12_is_33.2.2.1
theorem dX12_is_36 : decode cX12_is 36 = .ok (.aload_n 1, 1) := zb_X12_is_33.2.2.2.1
theorem dX12_is_37 : decode cX12_is 37 = .ok (.invokevirtual 172, 3) := zb_X12_is_33.2.2.2.2.1
theorem dX12_is_40 : decode cX12_is 40 = .ok (.if_icmp .ge 37, 3) := zb_X12_is_33.2.2.2.2.2.1
theorem dX12_is_77 : decode cX12_is 77 = .ok (.iload_n 2, 1) := zb_X12_is_33.2.2.2.2.2.2.1
theorem dX12_is_78 : decode cX12_is 78 = .ok (.ireturn, 1) := zb_X12_is_33.2.2.2.2.2.2.2.1
theorem dX12_is_43 : decode cX12_is 43 = .ok (.iload_n 2, 1) := zb_X12_is_33.2.2.2.2.2.2.2.2.1
theorem dX12_is_44 : decode cX12_is 44 = .ok (.ifCond .eq 33, 3) := zb_X12_is_33.2.2.2.2.2.2.2.2.2.1
theorem dX12_is_47 : decode cX12_is 47 = .ok (.aload_n 0, 1) := zb_X12_is_33.2.2.2.2.2.2.2.2.2.2
theorem zb_X12_is_48 : (decode cX12_is 48 = .ok (.aload_n 0, 1)) ∧ (decode cX12_is 49 = .ok (.getfield 340, 3)) ∧ (decode cX12_is 52 = .ok (.iload_n 3, 1)) ∧ (decode cX12_is 53 = .ok (.iadd, 1)) ∧ (decode cX12_is 54 = .ok (.invokevirtual 334, 3)) ∧ (decode cX12_is 57 = .ok (.aload_n 1, 1)) ∧ (decode cX12_is 58 = .ok (.iload_n 3, 1)) ∧ (decode cX12_is 59 = .ok (.invokevirtual 178, 3)) ∧ (decode cX12_is 62 = .ok (.if_icmp .ne 7, 3)) ∧ (decode cX12_is 69 = .ok (.iconst 0, 1)) ∧ (decode cX12_is 70 = .ok (.istore_n 2, 1)) := by decide +kernel
theorem dX12_is_48 : decode cX12_is 48 = .ok (.aload_n 0, 1) := zb_X12_is_48.1
theorem dX12_is_49 : decode cX12_is 49 = .ok (.getfield 340, 3) := zb_X12_is_48.2.1
theorem dX12_is_52 : decode cX12_is 52 = .ok (.iload_n 3, 1) := zb_X12_is_48.2.2.1
theorem dX12_is_53 : decode cX12_is 53 = .ok (.iadd, 1) := zb_X12_is_48.2.2.2.1
theorem dX12_is_54 : decode cX12_is 54 = .ok (.invokevirtual 334, 3) := zb_X12_is_48.2.2.2.2.1
theorem dX12_is_57 : decode cX12_is 57 = .ok (.aload_n 1, 1) := zb_X12_is_48.2.2.2.2.2.1
theorem dX12_is_58 : decode cX12_is 58 = .ok (.iload_n 3, 1) := zb_X12_is_48.2.2.2.2.2.2.1
theorem dX12_is_59 : decode cX12_is 59 = .ok (.invokevirtual 178, 3) := zb_X12_is_48.2.2.2.2.2.2.2.1
theorem dX12_is_62 : decode cX12_is 62 = .ok (.if_icmp .ne 7, 3) := zb_X12_is_48.2.2.2.2.2.2.2.2.1
theorem dX12_is_69 : decode cX12_is 69 = .ok (.iconst 0, 1) := zb_X12_is_48.2.2.2.2.2.2.2.2.2.1
theorem dX12_is_70 : decode cX12_is 70 = .ok (.istore_n 2, 1) := zb_X12_is_48.2.2.2.2.2.2.2.2.2.2
theorem zb_X12_is_71 : (decode cX12_is 71 = .ok (.iinc 3 1, 3)) ∧ (decode cX12_is 74 = .ok (.goto (-39), 3)) ∧ (decode cX12_is 65 = .ok (.iconst 1, 1)) ∧ (decode cX12_is 66 = .ok (.goto 4, 3)) ∧ (decode cX12_is 0 = .ok (.aload_n 0, 1)) ∧ (decode cX12_is 1 = .ok (.getfield 340, 3)) ∧ (decode cX12_is 4 = .ok (.aload_n 0, 1)) ∧ (decode cX12_is 5 = .ok (.getfield 328, 3)) ∧ (decode cX12_is 8 = .ok (.if_icmp .ge 23, 3)) ∧ (decode cX12_is 31 = .ok (.iconst 0, 1)) ∧ (decode cX12_is 32 = .ok (.istore_n 2, 1)) := by decide +kernel
theorem dX12_is_71 : decode cX12_is 71 = .ok (.iinc 3 1, 3) := zb_X12_is_71.1
theorem dX12_is_74 : decode cX12_is 74 = .ok (.goto (-39), 3) := zb_X12_is_71.2.1
theorem dX12_is_65 : decode cX12_is 65 = .ok (.iconst 1, 1) := zb_X12_is_71.2.2.1
theorem dX12_is_66 : decode cX12_is 66 = .ok (.goto 4, 3) := zb_X12_is_71.2.2.2.1
theorem dX12_is_0 : decode cX12_is 0 = .ok (.aload_n 0, 1) := zb_X12_is_71.2.2.2.2.1
theorem dX12_is_1 : decode cX12_is 1 = .ok (.getfield 340, 3) := zb_X12_is_71.2.2.2.2.2.1
theorem dX12_is_4 : decode cX12_is 4 = .ok (.aload_n 0, 1) := zb_X12_is_71.2.2.2.2.2.2.1
theorem dX12_is_5 : decode cX12_is 5 = .ok (.getfield 328, 3) := zb_X12_is_71.2.2.2.2.2.2.2.1
theorem dX12_is_8 : decode cX12_is 8 = .ok (.if_icmp .ge 23, 3) := zb_X12_is_71.2.2.2.2.2.2.2.2.1
theorem dX12_is_31 : decode cX12_is 31 = .ok (.iconst 0, 1) := zb_X12_is_71.2.2.2.2.2.2.2.2.2.1
theorem dX12_is_32 : decode cX12_is 32 = .ok (.istore_n 2, 1) := zb_X12_is_71.2.2.2.2.2.2.2.2.2.2
theorem zb_X12_is_11 : (decode cX12_is 11 = .ok (.aload_n 0, 1)) ∧ (decode cX12_is 12 = .ok (.getfield 337, 3)) ∧ (decode cX12_is 15 = .ok (.aload_n 0, 1)) ∧ (decode cX12_is 16 = .ok (.getfield 340, 3)) ∧ (decode cX12_is 19 = .ok (.isub, 1)) ∧ (decode cX12_is 20 = .ok (.aload_n 1, 1)) ∧ (decode cX12_is 21 = .ok (.invokevirtual 172, 3)) ∧ (decode cX12_is 24 = .ok (.if_icmp .ne 7, 3)) ∧ (decode cX12_is 27 = .ok (.iconst 1, 1)) ∧ (decode cX12_is 28 = .ok (.goto 4, 3)) := by decide +kernel
theorem dX12_is_11 : decode cX12_is 11 = .ok (.aload_n 0, 1) := zb_X12_is_11.1
theorem dX12_is_12 : decode cX12_is 12 = .ok (.getfield 337, 3) := zb_X12_is_11.2.1
theorem dX12_is_15 : decode cX12_is 15 = .ok (.aload_n 0, 1) := zb_X12_is_11.2.2.1
theorem dX12_is_16 : decode cX12_is 16 = .ok (.getfield 340, 3) := zb_X12_is_11.2.2.2.1
theorem dX12_is_19 : decode cX12_is 19 = .ok (.isub, 1) := zb_X12_is_11.2.2.2.2.1
theorem dX12_is_20 : decode cX12_is 20 = .ok (.aload_n 1, 1) := zb_X12_is_11.2.2.2.2.2.1
theorem dX12_is_21 : decode cX12_is 21 = .ok (.invokevirtual 172, 3) := zb_X12_is_11.2.2.2.2.2.2.1
theorem dX12_is_24 : decode cX12_is 24 = .ok (.if_icmp .ne 7, 3) := zb_X12_is_11.2.2.2.2.2.2.2.1
theorem dX12_is_27 : decode cX12_is 27 = .ok (.iconst 1, 1) := zb_X12_is_11.2.2.2.2.2.2.2.2.1
theorem dX12_is_28 : decode cX12_is 28 = .ok (.goto 4, 3) := zb_X12_is_11.2.2.2.2.2.2.2.2.2
theorem zb_X12_wrong_0 : (decode cX12_wrong 0 = .ok (.aload_n 0, 1)) ∧ (decode cX12_wrong 1 = .ok (.aload_n 0, 1)) ∧ (decode cX12_wrong 2 = .ok (.getfield 349, 3)) ∧ (decode cX12_wrong 5 = .ok (.ifCond .ge 10, 3)) ∧ (decode cX12_wrong 15 = .ok (.aload_n 0, 1)) ∧ (decode cX12_wrong 16 = .ok (.getfield 349, 3)) ∧ (decode cX12_wrong 19 = .ok (.putfield 349, 3)) ∧ (decode cX12_wrong 22 = .ok (.iconst 0, 1)) ∧ (decode cX12_wrong 23 = .ok (.ireturn, 1)) ∧ (decode cX12_wrong 8 = .ok (.aload_n 0, 1)) ∧ (decode cX12_wrong 9 = .ok (.getfield 340, 3)) ∧ (decode cX12_wrong 12 = .ok (.goto 7, 3)) := by decide +kernel
theorem dX12_wrong_0 : decode cX12_wrong 0 = .ok (.aload_n 0, 1) := zb_X12_wrong_0.1
theorem dX12_wrong_1 : decode cX12_wrong 1 = .ok (.aload_n 0, 1) := zb_X12_wrong_0.2.1
theorem dX12_wrong_2 : decode cX12_wrong 2 = .ok (.getfield 349, 3) := zb_X12_wrong_0.2.2.1
theorem dX12_wrong_5 : decode cX12_wrong 5 = .ok (.ifCond .ge 10, 3) := zb_X12_wrong_0.2.2.2.1
theorem dX12_wrong_15 : decode cX12_wrong 15 = .ok (.aload_n 0, 1) := zb_X12_wrong_0.2.2.2.2.1
theorem dX12_wrong_16 : decode cX12_wrong 16 = .ok (.getfield 349, 3) := zb_X12_wrong_0.2.2.2.2.2.1
theorem dX12_wrong_19 : decode cX12_wrong 19 = .ok (.putfield 349, 3) := zb_X12_wrong_0.2.2.2.2.2.2.1
theorem dX12_wrong_22 : decode cX12_wrong 22 = .ok (.iconst 0, 1) := zb_X12_wrong_0.2.2.2.2.2.2.2.1
theorem dX12_wrong_23 : decode cX12_wrong 23 = .ok (.ireturn, 1) := zb_X12_wrong_0.2.2.2.2.2.2.2.2.1
theorem dX12_wrong_8 : decode cX12_wrong 8 = .ok (.aload_n 0, 1) := zb_X12_wrong_0.2.2.2.2.2.2.2.2.2.1
theorem dX12_wrong_9 : decode cX12_wrong 9 = .ok (.getfield 340, 3) := zb_X12_wrong_0.2.2.2.2.2.2.2.2.2.2.1
theorem dX12_wrong_12 : decode cX12_wrong 12 = .ok (.goto 7, 3) := zb_X12_wrong_0.2.2.2.2.2.2.2.2.2.2.2
theorem zb_X12_take_0 : (decode cX12_take 0 = .ok (.aload_n 0, 1)) ∧ (decode cX12_take 1 = .ok (.getfield 349, 3)) ∧ (decode cX12_take 4 = .ok (.ifCond .ge 11, 3)) ∧ (decode cX12_take 15 = .ok (.iconst 0, 1)) ∧ (decode cX12_take 16 = .ok (.ireturn, 1)) ∧ (decode cX12_take 7 = .ok (.aload_n 0, 1)) ∧ (decode cX12_take 8 = .ok (.aload_n 1, 1)) := by decide +kernel
theorem dX12_take_0 : decode cX12_take 0 = .ok (.aload_n 0, 1) := zb_X12_take_0.1
theorem dX12_take_1 : decode cX12_take 1 = .ok (.getfield 349, 3) := zb_X12_take_0.2.1
theorem dX12_take_4 : decode cX12_take 4 = .ok (.ifCond .ge 11, 3) := zb_X12_take_0.2.2.1
theorem dX12_take_15 : decode cX12_take 15 = .ok (.iconst 0, 1) := zb_X12_take_0.2.2.2.1
theorem dX12_take_16 : decode cX12_take 16 = .ok (.ireturn, 1) := zb_X12_take_0.2.2.2.2.1
theorem dX12_take_7 : decode cX12_take 7 = .ok (.aload_n 0, 1) := zb_X12_take_0.2.2.2.2.2.1
theorem dX12_take_8 : decode cX12_take 8 = .ok (.aload_n 1, 1) := zb_X12_take_0.2.2.2.2.2.2
theorem zb_X12_take_9 : (decode cX12_take 9 = .ok (.invokevirtual 352, 3)) ∧ (decode cX12_take 12 = .ok (.ifCond .ne 5, 3)) ∧ (decode cX12_take 17 = .ok (.aload_n 0, 1)) ∧ (decode cX12_take 18 = .ok (.invokevirtual 356, 3)) ∧ (decode cX12_take 21 = .ok (.iconst 1, 1)) ∧ (decode cX12_take 22 = .ok (.ireturn, 1)) := by decide +kernel
theorem dX12_take_9 : decode cX12_take 9 = .ok (.invokevirtual 352, 3) := zb_X12_take_9.1
theorem dX12_take_12 : decode cX12_take 12 = .ok (.ifCond .ne 5, 3) := zb_X12_take_9.2.1
theorem dX12_take_17 : decode cX12_take 17 = .ok (.aload_n 0, 1) := zb_X12_take_9.2.2.1
theorem dX12_take_18 : decode cX12_take 18 = .ok (.invokevirtual 356, 3) := zb_X12_take_9.2.2.2.1
theorem dX12_take_21 : decode cX12_take 21 = .ok (.iconst 1, 1) := zb_X12_take_9.2.2.2.2.1
theorem dX12_take_22 : decode cX12_take 22 = .ok (.ireturn, 1) := zb_X12_take_9.2.2.2.2.2
theorem zb_X12_opens_0 : (decode cX12_opens 0 = .ok (.aload_n 0, 1)) ∧ (decode cX12_opens 1 = .ok (.getfield 372, 3)) ∧ (decode cX12_opens 4 = .ok (.iconst 5, 1)) ∧ (decode cX12_opens 5 = .ok (.if_icmp .ne 10, 3)) ∧ (decode cX12_opens 15 = .ok (.aload_n 0, 1)) ∧ (decode cX12_opens 16 = .ok (.dup, 1)) ∧ (decode cX12_opens 17 = .ok (.getfield 372, 3)) ∧ (decode cX12_opens 20 = .ok (.iconst 1, 1)) ∧ (decode cX12_opens 21 = .ok (.iadd, 1)) ∧ (decode cX12_opens 22 = .ok (.putfield 372, 3)) := by decide +kernel
theorem dX12_opens_0 : decode cX12_opens 0 = .ok (.aload_n 0, 1) := zb_X12_opens_0.1
theorem dX12_opens_1 : decode cX12_opens 1 = .ok (.getfield 372, 3) := zb_X12_opens_0.2.1
theorem dX12_opens_4 : decode cX12_opens 4 = .ok (.iconst 5, 1) := zb_X12_opens_0.2.2.1
theorem dX12_opens_5 : decode cX12_opens 5 = .ok (.if_icmp .ne 10, 3) := zb_X12_opens_0.2.2.2.1
theorem dX12_opens_15 : decode cX12_opens 15 = .ok (.aload_n 0, 1) := zb_X12_opens_0.2.2.2.2.1
theorem dX12_opens_16 : decode cX12_opens 16 = .ok (.dup, 1) := zb_X12_opens_0.2.2.2.2.2.1
theorem dX12_opens_17 : decode cX12_opens 17 = .ok (.getfield 372, 3) := zb_X12_opens_0.2.2.2.2.2.2.1
theorem dX12_opens_20 : decode cX12_opens 20 = .ok (.iconst 1, 1) := zb_X12_opens_0.2.2.2.2.2.2.2.1
theorem dX12_opens_21 : decode cX12_opens 21 = .ok (.iadd, 1) := zb_X12_opens_0.2.2.2.2.2.2.2.2.1
theorem dX12_opens_22 : decode cX12_opens 22 = .ok (.putfield 372, 3) := zb_X12_opens_0.2.2.2.2.2.2.2.2.2
theorem zb_X12_opens_25 : (decode cX12_opens 25 = .ok (.aload_n 0, 1)) ∧ (decode cX12_opens 26 = .ok (.invokevirtual 356, 3)) ∧ (decode cX12_opens 29 = .ok (.iconst 1, 1)) ∧ (decode cX12_opens 30 = .ok (.ireturn, 1)) ∧ (decode cX12_opens 8 = .ok (.aload_n 0, 1)) ∧ (decode cX12_opens 9 = .ok (.invokevirtual 375, 3)) ∧ (decode cX12_opens 12 = .ok (.istore_n 1, 1)) ∧ (decode cX12_opens 13 = .ok (.iconst 0, 1)) ∧ (decode cX12_opens 14 = .ok (.ireturn, 1)) := by decide +kernel
theorem dX12_opens_25 : decode cX12_opens 25 = .ok (.aload_n 0, 1) := zb_X12_opens_25.1
theorem dX12_opens_26 : decode cX12_opens 26 = .ok (.invokevirtual 356, 3) := zb_X12_opens_25.2.1
theorem dX12_opens_29 : decode cX12_opens 29 = .ok (.iconst 1, 1) := zb_X12_opens_25.2.2.1
theorem dX12_opens_30 : decode cX12_opens 30 = .ok (.ireturn, 1) := zb_X12_opens_25.2.2.2.1
theorem dX12_opens_8 : decode cX12_opens 8 = .ok (.aload_n 0, 1) := zb_X12_opens_25.2.2.2.2.1
theorem dX12_opens_9 : decode cX12_opens 9 = .ok (.invokevirtual 375, 3) := zb_X12_opens_25.2.2.2.2.2.1
theorem dX12_opens_12 : decode cX12_opens 12 = .ok (.istore_n 1, 1) := zb_X12_opens_25.2.2.2.2.2.2.1
theorem dX12_opens_13 : decode cX12_opens 13 = .ok (.iconst 0, 1) := zb_X12_opens_25.2.2.2.2.2.2.2.1
theorem dX12_opens_14 : decode cX12_opens 14 = .ok (.ireturn, 1) := zb_X12_opens_25.2.2.2.2.2.2.2.2
theorem zb_X12_one_10 : (decode cX12_one 10 = .ok (.ldc_w 396, 3)) ∧ (decode cX12_one 47 = .ok (.ldc_w 403, 3)) ∧ (decode cX12_one 144 = .ok (.imul, 1)) ∧ (decode cX12_one 155 = .ok (.iinc 2 1, 3)) ∧ (decode cX12_one 168 = .ok (.ldc_w 410, 3)) ∧ (decode cX12_one 182 = .ok (.ldc_w 411, 3)) ∧ (decode cX12_one 196 = .ok (.ldc_w 412, 3)) ∧ (decode cX12_one 210 = .ok (.ldc_w 413, 3)) ∧ (decode cX12_one 224 = .ok (.ldc_w 414, 3)) ∧ (decode cX12_one 238 = .ok (.ldc_w 415, 3)) ∧ (decode cX12_one 71 = .ok (.ldc_w 408, 3)) ∧ (decode cX12_one 44 = .ok (.ineg, 1)) := by decide +kernel
theorem dX12_one_10 : decode cX12_one 10 = .ok (.ldc_w 396, 3) := zb_X12_one_10.1
theorem dX12_one_47 : decode cX12_one 47 = .ok (.ldc_w 403, 3) := zb_X12_one_10.2.1
theorem dX12_one_144 : decode cX12_one 144 = .ok (.imul, 1) := zb_X12_one_10.2.2.1
theorem dX12_one_155 : decode cX12_one 155 = .ok (.iinc 2 1, 3) := zb_X12_one_10.2.2.2.1
theorem dX12_one_168 : decode cX12_one 168 = .ok (.ldc_w 410, 3) := zb_X12_one_10.2.2.2.2.1
theorem dX12_one_182 : decode cX12_one 182 = .ok (.ldc_w 411, 3) := zb_X12_one_10.2.2.2.2.2.1
theorem dX12_one_196 : decode cX12_one 196 = .ok (.ldc_w 412, 3) := zb_X12_one_10.2.2.2.2.2.2.1
theorem dX12_one_210 : decode cX12_one 210 = .ok (.ldc_w 413, 3) := zb_X12_one_10.2.2.2.2.2.2.2.1
theorem dX12_one_224 : decode cX12_one 224 = .ok (.ldc_w 414, 3) := zb_X12_one_10.2.2.2.2.2.2.2.2.1
theorem dX12_one_238 : decode cX12_one 238 = .ok (.ldc_w 415, 3) := zb_X12_one_10.2.2.2.2.2.2.2.2.2.1
theorem dX12_one_71 : decode cX12_one 71 = .ok (.ldc_w 408, 3) := zb_X12_one_10.2.2.2.2.2.2.2.2.2.2.1
theorem dX12_one_44 : decode cX12_one 44 = .ok (.ineg, 1) := zb_X12_one_10.2.2.2.2.2.2.2.2.2.2.2
theorem zb_X12_product_0 : (decode cX12_product 0 = .ok (.aload_n 0, 1)) ∧ (decode cX12_product 1 = .ok (.invokevirtual 398, 3)) ∧ (decode cX12_product 4 = .ok (.istore_n 1, 1)) ∧ (decode cX12_product 5 = .ok (.aload_n 0, 1)) ∧ (decode cX12_product 6 = .ok (.ldc_w 401, 3)) ∧ (decode cX12_product 9 = .ok (.invokevirtual 364, 3)) ∧ (decode cX12_product 12 = .ok (.ifCond .eq 13, 3)) ∧ (decode cX12_product 15 = .ok (.iload_n 1, 1)) := by decide +kernel
theorem dX12_product_0 : decode cX12_product 0 = .ok (.aload_n 0, 1) := zb_X12_product_0.1
theorem dX12_product_1 : decode cX12_product 1 = .ok (.invokevirtual 398, 3) := zb_X12_product_0.2.1
theorem dX12_product_4 : decode cX12_product 4 = .ok (.istore_n 1, 1) := zb_X12_product_0.2.2.1
theorem dX12_product_5 : decode cX12_product 5 = .ok (.aload_n 0, 1) := zb_X12_product_0.2.2.2.1
theorem dX12_product_6 : decode cX12_product 6 = .ok (.ldc_w 401, 3) := zb_X12_product_0.2.2.2.2.1
theorem dX12_product_9 : decode cX12_product 9 = .ok (.invokevirtual 364, 3) := zb_X12_product_0.2.2.2.2.2.1
theorem dX12_product_12 : decode cX12_product 12 = .ok (.ifCond .eq 13, 3) := zb_X12_product_0.2.2.2.2.2.2.1
theorem dX12_product_15 : decode cX12_product 15 = .ok (.iload_n 1, 1) := zb_X12_product_0.2.2.2.2.2.2.2
theorem zb_X12_product_16 : (decode cX12_product 16 = .ok (.aload_n 0, 1)) ∧ (decode cX12_product 17 = .ok (.invokevirtual 398, 3)) ∧ (decode cX12_product 20 = .ok (.imul, 1)) ∧ (decode cX12_product 21 = .ok (.istore_n 1, 1)) ∧ (decode cX12_product 22 = .ok (.goto (-17), 3)) ∧ (decode cX12_product 25 = .ok (.iload_n 1, 1)) ∧ (decode cX12_product 26 = .ok (.ireturn, 1)) := by decide +kernel
theorem dX12_product_16 : decode cX12_product 16 = .ok (.aload_n 0, 1) := zb_X12_product_16.1
theorem dX12_product_17 : decode cX12_product 17 = .ok (.invokevirtual 398, 3) := zb_X12_product_16.2.1
theorem dX12_product_20 : decode cX12_product 20 = .ok (.imul, 1) := zb_X12_product_16.2.2.1
theorem dX12_product_21 : decode cX12_product 21 = .ok (.istore_n 1, 1) := zb_X12_product_16.2.2.2.1
theorem dX12_product_22 : decode cX12_product 22 = .ok (.goto (-17), 3) := zb_X12_product_16.2.2.2.2.1
theorem dX12_product_25 : decode cX12_product 25 = .ok (.iload_n 1, 1) := zb_X12_product_16.2.2.2.2.2.1
theorem dX12_product_26 : decode cX12_product 26 = .ok (.ireturn, 1) := zb_X12_product_16.2.2.2.2.2.2
theorem zb_X12_sum_0 : (decode cX12_sum 0 = .ok (.aload_n 0, 1)) ∧ (decode cX12_sum 1 = .ok (.invokevirtual 391, 3)) ∧ (decode cX12_sum 4 = .ok (.istore_n 1, 1)) ∧ (decode cX12_sum 5 = .ok (.iconst 1, 1)) ∧ (decode cX12_sum 6 = .ok (.istore_n 2, 1)) ∧ (decode cX12_sum 7 = .ok (.iload_n 2, 1)) ∧ (decode cX12_sum 8 = .ok (.ifCond .eq 48, 3)) ∧ (decode cX12_sum 56 = .ok (.iload_n 1, 1)) ∧ (decode cX12_sum 57 = .ok (.ireturn, 1)) ∧ (decode cX12_sum 11 = .ok (.aload_n 0, 1)) ∧ (decode cX12_sum 12 = .ok (.ldc_w 394, 3)) := by decide +kernel
theorem dX12_sum_0 : decode cX12_sum 0 = .ok (.aload_n 0, 1) := zb_X12_sum_0.1
theorem dX12_sum_1 : decode cX12_sum 1 = .ok (.invokevirtual 391, 3) := zb_X12_sum_0.2.1
theorem dX12_sum_4 : decode cX12_sum 4 = .ok (.istore_n 1, 1) := zb_X12_sum_0.2.2.1
theorem dX12_sum_5 : decode cX12_sum 5 = .ok (.iconst 1, 1) := zb_X12_sum_0.2.2.2.1
theorem dX12_sum_6 : decode cX12_sum 6 = .ok (.istore_n 2, 1) := zb_X12_sum_0.2.2.2.2.1
theorem dX12_sum_7 : decode cX12_sum 7 = .ok (.iload_n 2, 1) := zb_X12_sum_0.2.2.2.2.2.1
theorem dX12_sum_8 : decode cX12_sum 8 = .ok (.ifCond .eq 48, 3) := zb_X12_sum_0.2.2.2.2.2.2.1
theorem dX12_sum_56 : decode cX12_sum 56 = .ok (.iload_n 1, 1) := zb_X12_sum_0.2.2.2.2.2.2.2.1
theorem dX12_sum_57 : decode cX12_sum 57 = .ok (.ireturn, 1) := zb_X12_sum_0.2.2.2.2.2.2.2.2.1
theorem dX12_sum_11 : decode cX12_sum 11 = .ok (.aload_n 0, 1) := zb_X12_sum_0.2.2.2.2.2.2.2.2.2.1
theorem dX12_sum_12 : decode cX12_sum 12 = .ok (.ldc_w 394, 3) := zb_X12_sum_0.2.2.2.2.2.2.2.2.2.2
theorem zb_X12_sum_15 : (decode cX12_sum 15 = .ok (.invokevirtual 364, 3)) ∧ (decode cX12_sum 18 = .ok (.ifCond .eq 13, 3)) ∧ (decode cX12_sum 21 = .ok (.iload_n 1, 1)) ∧ (decode cX12_sum 22 = .ok (.aload_n 0, 1)) ∧ (decode cX12_sum 23 = .ok (.invokevirtual 391, 3)) ∧ (decode cX12_sum 26 = .ok (.iadd, 1)) ∧ (decode cX12_sum 27 = .ok (.istore_n 1, 1)) ∧ (decode cX12_sum 28 = .ok (.goto (-21), 3)) ∧ (decode cX12_sum 31 = .ok (.aload_n 0, 1)) ∧ (decode cX12_sum 32 = .ok (.ldc_w 396, 3)) ∧ (decode cX12_sum 35 = .ok (.invokevirtual 364, 3)) := by decide +kernel
theorem dX12_sum_15 : decode cX12_sum 15 = .ok (.invokevirtual 364, 3) := zb_X12_sum_15.1
theorem dX12_sum_18 : decode cX12_sum 18 = .ok (.ifCond .eq 13, 3) := zb_X12_sum_15.2.1
theorem dX12_sum_21 : decode cX12_sum 21 = .ok (.iload_n 1, 1) := zb_X12_sum_15.2.2.1
theorem dX12_sum_22 : decode cX12_sum 22 = .ok (.aload_n 0, 1) := zb_X12_sum_15.2.2.2.1
theorem dX12_sum_23 : decode cX12_sum 23 = .ok (.invokevirtual 391, 3) := zb_X12_sum_15.2.2.2.2.1
theorem dX12_sum_26 : decode cX12_sum 26 = .ok (.iadd, 1) := zb_X12_sum_15.2.2.2.2.2.1
theorem dX12_sum_27 : decode cX12_sum 27 = .ok (.istore_n 1, 1) := zb_X12_sum_15.2.2.2.2.2.2.1
theorem dX12_sum_28 : decode cX12_sum 28 = .ok (.goto (-21), 3) := zb_X12_sum_15.2.2.2.2.2.2.2.1
theorem dX12_sum_31 : decode cX12_sum 31 = .ok (.aload_n 0, 1) := zb_X12_sum_15.2.2.2.2.2.2.2.2.1
theorem dX12_sum_32 : decode cX12_sum 32 = .ok (.ldc_w 396, 3) := zb_X12_sum_15.2.2.2.2.2.2.2.2.2.1
theorem dX12_sum_35 : decode cX12_sum 35 = .ok (.invokevirtual 364, 3) := zb_X12_sum_15.2.2.2.2.2.2.2.2.2.2
theorem zb_X12_sum_38 : (decode cX12_sum 38 = .ok (.ifCond .eq 13, 3)) ∧ (decode cX12_sum 41 = .ok (.iload_n 1, 1)) ∧ (decode cX12_sum 42 = .ok (.aload_n 0, 1)) ∧ (decode cX12_sum 43 = .ok (.invokevirtual 391, 3)) ∧ (decode cX12_sum 46 = .ok (.isub, 1)) ∧ (decode cX12_sum 47 = .ok (.istore_n 1, 1)) ∧ (decode cX12_sum 48 = .ok (.goto (-41), 3)) ∧ (decode cX12_sum 51 = .ok (.iconst 0, 1)) ∧ (decode cX12_sum 52 = .ok (.istore_n 2, 1)) ∧ (decode cX12_sum 53 = .ok (.goto (-46), 3)) := by decide +kernel
theorem dX12_sum_38 : decode cX12_sum 38 = .ok (.ifCond .eq 13, 3) := zb_X12_sum_38.1
theorem dX12_sum_41 : decode cX12_sum 41 = .ok (.iload_n 1, 1) := zb_X12_sum_38.2.1
theorem dX12_sum_42 : decode cX12_sum 42 = .ok (.aload_n 0, 1) := zb_X12_sum_38.2.2.1
theorem dX12_sum_43 : decode cX12_sum 43 = .ok (.invokevirtual 391, 3) := zb_X12_sum_38.2.2.2.1
theorem dX12_sum_46 : decode cX12_sum 46 = .ok (.isub, 1) := zb_X12_sum_38.2.2.2.2.1
theorem dX12_sum_47 : decode cX12_sum 47 = .ok (.istore_n 1, 1) := zb_X12_sum_38.2.2.2.2.2.1
theorem dX12_sum_48 : decode cX12_sum 48 = .ok (.goto (-41), 3) := zb_X12_sum_38.2.2.2.2.2.2.1
theorem dX12_sum_51 : decode cX12_sum 51 = .ok (.iconst 0, 1) := zb_X12_sum_38.2.2.2.2.2.2.2.1
theorem dX12_sum_52 : decode cX12_sum 52 = .ok (.istore_n 2, 1) := zb_X12_sum_38.2.2.2.2.2.2.2.2.1
theorem dX12_sum_53 : decode cX12_sum 53 = .ok (.goto (-46), 3) := zb_X12_sum_38.2.2.2.2.2.2.2.2.2
theorem zb_X12_turned_0 : (decode cX12_turned 0 = .ok (.aload_n 0, 1)) ∧ (decode cX12_turned 1 = .ok (.getfield 349, 3)) ∧ (decode cX12_turned 4 = .ok (.ifCond .lt 5, 3)) ∧ (decode cX12_turned 9 = .ok (.aload_n 0, 1)) ∧ (decode cX12_turned 10 = .ok (.ldc_w 378, 3)) ∧ (decode cX12_turned 13 = .ok (.invokevirtual 352, 3)) ∧ (decode cX12_turned 16 = .ok (.ifCond .eq 37, 3)) ∧ (decode cX12_turned 53 = .ok (.aload_n 0, 1)) ∧ (decode cX12_turned 54 = .ok (.invokevirtual 384, 3)) ∧ (decode cX12_turned 57 = .ok (.istore_n 1, 1)) ∧ (decode cX12_turned 58 = .ok (.aload_n 0, 1)) ∧ (decode cX12_turned 59 = .ok (.ldc_w 387, 3)) := by decide +kernel
theorem dX12_turned_0 : decode cX12_turned 0 = .ok (.aload_n 0, 1) := zb_X12_turned_0.1
theorem dX12_turned_1 : decode cX12_turned 1 = .ok (.getfield 349, 3) := zb_X12_turned_0.2.1
theorem dX12_turned_4 : decode cX12_turned 4 = .ok (.ifCond .lt 5, 3) := zb_X12_turned_0.2.2.1
theorem dX12_turned_9 : decode cX12_turned 9 = .ok (.aload_n 0, 1) := zb_X12_turned_0.2.2.2.1
theorem dX12_turned_10 : decode cX12_turned 10 = .ok (.ldc_w 378, 3) := zb_X12_turned_0.2.2.2.2.1
theorem dX12_turned_13 : decode cX12_turned 13 = .ok (.invokevirtual 352, 3) := zb_X12_turned_0.2.2.2.2.2.1
theorem dX12_turned_16 : decode cX12_turned 16 = .ok (.ifCond .eq 37, 3) := zb_X12_turned_0.2.2.2.2.2.2.1
theorem dX12_turned_53 : decode cX12_turned 53 = .ok (.aload_n 0, 1) := zb_X12_turned_0.2.2.2.2.2.2.2.1
theorem dX12_turned_54 : decode cX12_turned 54 = .ok (.invokevirtual 384, 3) := zb_X12_turned_0.2.2.2.2.2.2.2.2.1
theorem dX12_turned_57 : decode cX12_turned 57 = .ok (.istore_n 1, 1) := zb_X12_turned_0.2.2.2.2.2.2.2.2.2.1
theorem dX12_turned_58 : decode cX12_turned 58 = .ok (.aload_n 0, 1) := zb_X12_turned_0.2.2.2.2.2.2.2.2.2.2.1
theorem dX12_turned_59 : decode cX12_turned 59 = .ok (.ldc_w 387, 3) := zb_X12_turned_0.2.2.2.2.2.2.2.2.2.2.2
theorem zb_X12_turned_62 : (decode cX12_turned 62 = .ok (.invokevirtual 364, 3)) ∧ (decode cX12_turned 65 = .ok (.ifCond .eq 17, 3)) ∧ (decode cX12_turned 68 = .ok (.iload_n 1, 1)) ∧ (decode cX12_turned 69 = .ok (.aload_n 0, 1)) ∧ (decode cX12_turned 70 = .ok (.invokevirtual 384, 3)) ∧ (decode cX12_turned 73 = .ok (.if_icmp .ge 7, 3)) ∧ (decode cX12_turned 80 = .ok (.iconst 0, 1)) ∧ (decode cX12_turned 81 = .ok (.ireturn, 1)) ∧ (decode cX12_turned 76 = .ok (.iconst 1, 1)) ∧ (decode cX12_turned 77 = .ok (.goto 4, 3)) ∧ (decode cX12_turned 82 = .ok (.aload_n 0, 1)) ∧ (decode cX12_turned 83 = .ok (.ldc_w 389, 3)) := by decide +kernel
theorem dX12_turned_62 : decode cX12_turned 62 = .ok (.invokevirtual 364, 3) := zb_X12_turned_62.1
theorem dX12_turned_65 : decode cX12_turned 65 = .ok (.ifCond .eq 17, 3) := zb_X12_turned_62.2.1
theorem dX12_turned_68 : decode cX12_turned 68 = .ok (.iload_n 1, 1) := zb_X12_turned_62.2.2.1
theorem dX12_turned_69 : decode cX12_turned 69 = .ok (.aload_n 0, 1) := zb_X12_turned_62.2.2.2.1
theorem dX12_turned_70 : decode cX12_turned 70 = .ok (.invokevirtual 384, 3) := zb_X12_turned_62.2.2.2.2.1
theorem dX12_turned_73 : decode cX12_turned 73 = .ok (.if_icmp .ge 7, 3) := zb_X12_turned_62.2.2.2.2.2.1
theorem dX12_turned_80 : decode cX12_turned 80 = .ok (.iconst 0, 1) := zb_X12_turned_62.2.2.2.2.2.2.1
theorem dX12_turned_81 : decode cX12_turned 81 = .ok (.ireturn, 1) := zb_X12_turned_62.2.2.2.2.2.2.2.1
theorem dX12_turned_76 : decode cX12_turned 76 = .ok (.iconst 1, 1) := zb_X12_turned_62.2.2.2.2.2.2.2.2.1
theorem dX12_turned_77 : decode cX12_turned 77 = .ok (.goto 4, 3) := zb_X12_turned_62.2.2.2.2.2.2.2.2.2.1
theorem dX12_turned_82 : decode cX12_turned 82 = .ok (.aload_n 0, 1) := zb_X12_turned_62.2.2.2.2.2.2.2.2.2.2.1
theorem dX12_turned_83 : decode cX12_turned 83 = .ok (.ldc_w 389, 3) := zb_X12_turned_62.2.2.2.2.2.2.2.2.2.2.2
theorem zb_X12_turned_86 : (decode cX12_turned 86 = .ok (.invokevirtual 364, 3)) ∧ (decode cX12_turned 89 = .ok (.ifCond .eq 17, 3)) ∧ (decode cX12_turned 92 = .ok (.iload_n 1, 1)) ∧ (decode cX12_turned 93 = .ok (.aload_n 0, 1)) ∧ (decode cX12_turned 94 = .ok (.invokevirtual 384, 3)) ∧ (decode cX12_turned 97 = .ok (.if_icmp .ne 7, 3)) ∧ (decode cX12_turned 104 = .ok (.iconst 0, 1)) ∧ (decode cX12_turned 105 = .ok (.ireturn, 1)) ∧ (decode cX12_turned 100 = .ok (.iconst 1, 1)) ∧ (decode cX12_turned 101 = .ok (.goto 4, 3)) ∧ (decode cX12_turned 106 = .ok (.iload_n 1, 1)) ∧ (decode cX12_turned 107 = .ok (.ireturn, 1)) := by decide +kernel
theorem dX12_turned_86 : decode cX12_turned 86 = .ok (.invokevirtual 364, 3) := zb_X12_turned_86.1
theorem dX12_turned_89 : decode cX12_turned 89 = .ok (.ifCond .eq 17, 3) := zb_X12_turned_86.2.1
theorem dX12_turned_92 : decode cX12_turned 92 = .ok (.iload_n 1, 1) := zb_X12_turned_86.2.2.1
theorem dX12_turned_93 : decode cX12_turned 93 = .ok (.aload_n 0, 1) := zb_X12_turned_86.2.2.2.1
theorem dX12_turned_94 : decode cX12_turned 94 = .ok (.invokevirtual 384, 3) := zb_X12_turned_86.2.2.2.2.1
theorem dX12_turned_97 : decode cX12_turned 97 = .ok (.if_icmp .ne 7, 3) := zb_X12_turned_86.2.2.2.2.2.1
theorem dX12_turned_104 : decode cX12_turned 104 = .ok (.iconst 0, 1) := zb_X12_turned_86.2.2.2.2.2.2.1
theorem dX12_turned_105 : decode cX12_turned 105 = .ok (.ireturn, 1) := zb_X12_turned_86.2.2.2.2.2.2.2.1
theorem dX12_turned_100 : decode cX12_turned 100 = .ok (.iconst 1, 1) := zb_X12_turned_86.2.2.2.2.2.2.2.2.1
theorem dX12_turned_101 : decode cX12_turned 101 = .ok (.goto 4, 3) := zb_X12_turned_86.2.2.2.2.2.2.2.2.2.1
theorem dX12_turned_106 : decode cX12_turned 106 = .ok (.iload_n 1, 1) := zb_X12_turned_86.2.2.2.2.2.2.2.2.2.2.1
theorem dX12_turned_107 : decode cX12_turned 107 = .ok (.ireturn, 1) := zb_X12_turned_86.2.2.2.2.2.2.2.2.2.2.2
theorem zb_X12_turned_19 : (decode cX12_turned 19 = .ok (.aload_n 0, 1)) ∧ (decode cX12_turned 20 = .ok (.invokevirtual 380, 3)) ∧ (decode cX12_turned 23 = .ok (.ifCond .ne 5, 3)) ∧ (decode cX12_turned 28 = .ok (.aload_n 0, 1)) ∧ (decode cX12_turned 26 = .ok (.iconst 0, 1)) ∧ (decode cX12_turned 27 = .ok (.ireturn, 1)) ∧ (decode cX12_turned 7 = .ok (.iconst 0, 1)) ∧ (decode cX12_turned 8 = .ok (.ireturn, 1)) ∧ (decode cX12_turned 29 = .ok (.invokevirtual 367, 3)) ∧ (decode cX12_turned 32 = .ok (.istore_n 1, 1)) ∧ (decode cX12_turned 33 = .ok (.aload_n 0, 1)) ∧ (decode cX12_turned 34 = .ok (.dup, 1)) := by decide +kernel
theorem dX12_turned_19 : decode cX12_turned 19 = .ok (.aload_n 0, 1) := zb_X12_turned_19.1
theorem dX12_turned_20 : decode cX12_turned 20 = .ok (.invokevirtual 380, 3) := zb_X12_turned_19.2.1
theorem dX12_turned_23 : decode cX12_turned 23 = .ok (.ifCond .ne 5, 3) := zb_X12_turned_19.2.2.1
theorem dX12_turned_28 : decode cX12_turned 28 = .ok (.aload_n 0, 1) := zb_X12_turned_19.2.2.2.1
theorem dX12_turned_26 : decode cX12_turned 26 = .ok (.iconst 0, 1) := zb_X12_turned_19.2.2.2.2.1
theorem dX12_turned_27 : decode cX12_turned 27 = .ok (.ireturn, 1) := zb_X12_turned_19.2.2.2.2.2.1
theorem dX12_turned_7 : decode cX12_turned 7 = .ok (.iconst 0, 1) := zb_X12_turned_19.2.2.2.2.2.2.1
theorem dX12_turned_8 : decode cX12_turned 8 = .ok (.ireturn, 1) := zb_X12_turned_19.2.2.2.2.2.2.2.1
theorem dX12_turned_29 : decode cX12_turned 29 = .ok (.invokevirtual 367, 3) := zb_X12_turned_19.2.2.2.2.2.2.2.2.1
theorem dX12_turned_32 : decode cX12_turned 32 = .ok (.istore_n 1, 1) := zb_X12_turned_19.2.2.2.2.2.2.2.2.2.1
theorem dX12_turned_33 : decode cX12_turned 33 = .ok (.aload_n 0, 1) := zb_X12_turned_19.2.2.2.2.2.2.2.2.2.2.1
theorem dX12_turned_34 : decode cX12_turned 34 = .ok (.dup, 1) := zb_X12_turned_19.2.2.2.2.2.2.2.2.2.2.2
theorem zb_X12_turned_35 : (decode cX12_turned 35 = .ok (.getfield 372, 3)) ∧ (decode cX12_turned 38 = .ok (.iconst 1, 1)) ∧ (decode cX12_turned 39 = .ok (.isub, 1)) ∧ (decode cX12_turned 40 = .ok (.putfield 372, 3)) ∧ (decode cX12_turned 43 = .ok (.iload_n 1, 1)) ∧ (decode cX12_turned 44 = .ok (.ifCond .ne 7, 3)) ∧ (decode cX12_turned 51 = .ok (.iconst 0, 1)) ∧ (decode cX12_turned 52 = .ok (.ireturn, 1)) ∧ (decode cX12_turned 47 = .ok (.iconst 1, 1)) ∧ (decode cX12_turned 48 = .ok (.goto 4, 3)) := by decide +kernel
theorem dX12_turned_35 : decode cX12_turned 35 = .ok (.getfield 372, 3) := zb_X12_turned_35.1
theorem dX12_turned_38 : decode cX12_turned 38 = .ok (.iconst 1, 1) := zb_X12_turned_35.2.1
theorem dX12_turned_39 : decode cX12_turned 39 = .ok (.isub, 1) := zb_X12_turned_35.2.2.1
theorem dX12_turned_40 : decode cX12_turned 40 = .ok (.putfield 372, 3) := zb_X12_turned_35.2.2.2.1
theorem dX12_turned_43 : decode cX12_turned 43 = .ok (.iload_n 1, 1) := zb_X12_turned_35.2.2.2.2.1
theorem dX12_turned_44 : decode cX12_turned 44 = .ok (.ifCond .ne 7, 3) := zb_X12_turned_35.2.2.2.2.2.1
theorem dX12_turned_51 : decode cX12_turned 51 = .ok (.iconst 0, 1) := zb_X12_turned_35.2.2.2.2.2.2.1
theorem dX12_turned_52 : decode cX12_turned 52 = .ok (.ireturn, 1) := zb_X12_turned_35.2.2.2.2.2.2.2.1
theorem dX12_turned_47 : decode cX12_turned 47 = .ok (.iconst 1, 1) := zb_X12_turned_35.2.2.2.2.2.2.2.2.1
theorem dX12_turned_48 : decode cX12_turned 48 = .ok (.goto 4, 3) := zb_X12_turned_35.2.2.2.2.2.2.2.2.2
theorem zb_X12_both_0 : (decode cX12_both 0 = .ok (.aload_n 0, 1)) ∧ (decode cX12_both 1 = .ok (.invokevirtual 367, 3)) ∧ (decode cX12_both 4 = .ok (.istore_n 1, 1)) ∧ (decode cX12_both 5 = .ok (.aload_n 0, 1)) ∧ (decode cX12_both 6 = .ok (.ldc_w 370, 3)) ∧ (decode cX12_both 9 = .ok (.invokevirtual 364, 3)) ∧ (decode cX12_both 12 = .ok (.ifCond .eq 25, 3)) ∧ (decode cX12_both 15 = .ok (.aload_n 0, 1)) ∧ (decode cX12_both 16 = .ok (.invokevirtual 367, 3)) ∧ (decode cX12_both 19 = .ok (.istore_n 2, 1)) ∧ (decode cX12_both 20 = .ok (.iload_n 1, 1)) := by decide +kernel
theorem dX12_both_0 : decode cX12_both 0 = .ok (.aload_n 0, 1) := zb_X12_both_0.1
theorem dX12_both_1 : decode cX12_both 1 = .ok (.invokevirtual 367, 3) := zb_X12_both_0.2.1
theorem dX12_both_4 : decode cX12_both 4 = .ok (.istore_n 1, 1) := zb_X12_both_0.2.2.1
theorem dX12_both_5 : decode cX12_both 5 = .ok (.aload_n 0, 1) := zb_X12_both_0.2.2.2.1
theorem dX12_both_6 : decode cX12_both 6 = .ok (.ldc_w 370, 3) := zb_X12_both_0.2.2.2.2.1
theorem dX12_both_9 : decode cX12_both 9 = .ok (.invokevirtual 364, 3) := zb_X12_both_0.2.2.2.2.2.1
theorem dX12_both_12 : decode cX12_both 12 = .ok (.ifCond .eq 25, 3) := zb_X12_both_0.2.2.2.2.2.2.1
theorem dX12_both_15 : decode cX12_both 15 = .ok (.aload_n 0, 1) := zb_X12_both_0.2.2.2.2.2.2.2.1
theorem dX12_both_16 : decode cX12_both 16 = .ok (.invokevirtual 367, 3) := zb_X12_both_0.2.2.2.2.2.2.2.2.1
theorem dX12_both_19 : decode cX12_both 19 = .ok (.istore_n 2, 1) := zb_X12_both_0.2.2.2.2.2.2.2.2.2.1
theorem dX12_both_20 : decode cX12_both 20 = .ok (.iload_n 1, 1) := zb_X12_both_0.2.2.2.2.2.2.2.2.2.2
theorem zb_X12_both_21 : (decode cX12_both 21 = .ok (.ifCond .eq 11, 3)) ∧ (decode cX12_both 32 = .ok (.iconst 0, 1)) ∧ (decode cX12_both 33 = .ok (.istore_n 1, 1)) ∧ (decode cX12_both 34 = .ok (.goto (-29), 3)) ∧ (decode cX12_both 24 = .ok (.iload_n 2, 1)) ∧ (decode cX12_both 25 = .ok (.ifCond .eq 7, 3)) ∧ (decode cX12_both 28 = .ok (.iconst 1, 1)) ∧ (decode cX12_both 29 = .ok (.goto 4, 3)) ∧ (decode cX12_both 37 = .ok (.iload_n 1, 1)) ∧ (decode cX12_both 38 = .ok (.ireturn, 1)) := by decide +kernel
theorem dX12_both_21 : decode cX12_both 21 = .ok (.ifCond .eq 11, 3) := zb_X12_both_21.1
theorem dX12_both_32 : decode cX12_both 32 = .ok (.iconst 0, 1) := zb_X12_both_21.2.1
theorem dX12_both_33 : decode cX12_both 33 = .ok (.istore_n 1, 1) := zb_X12_both_21.2.2.1
theorem dX12_both_34 : decode cX12_both 34 = .ok (.goto (-29), 3) := zb_X12_both_21.2.2.2.1
theorem dX12_both_24 : decode cX12_both 24 = .ok (.iload_n 2, 1) := zb_X12_both_21.2.2.2.2.1
theorem dX12_both_25 : decode cX12_both 25 = .ok (.ifCond .eq 7, 3) := zb_X12_both_21.2.2.2.2.2.1
theorem dX12_both_28 : decode cX12_both 28 = .ok (.iconst 1, 1) := zb_X12_both_21.2.2.2.2.2.2.1
theorem dX12_both_29 : decode cX12_both 29 = .ok (.goto 4, 3) := zb_X12_both_21.2.2.2.2.2.2.2.1
theorem dX12_both_37 : decode cX12_both 37 = .ok (.iload_n 1, 1) := zb_X12_both_21.2.2.2.2.2.2.2.2.1
theorem dX12_both_38 : decode cX12_both 38 = .ok (.ireturn, 1) := zb_X12_both_21.2.2.2.2.2.2.2.2.2
theorem zb_X12_either_0 : (decode cX12_either 0 = .ok (.aload_n 0, 1)) ∧ (decode cX12_either 1 = .ok (.invokevirtual 359, 3)) ∧ (decode cX12_either 4 = .ok (.istore_n 1, 1)) ∧ (decode cX12_either 5 = .ok (.aload_n 0, 1)) ∧ (decode cX12_either 6 = .ok (.ldc_w 362, 3)) ∧ (decode cX12_either 9 = .ok (.invokevirtual 364, 3)) ∧ (decode cX12_either 12 = .ok (.ifCond .eq 25, 3)) ∧ (decode cX12_either 15 = .ok (.aload_n 0, 1)) ∧ (decode cX12_either 16 = .ok (.invokevirtual 359, 3)) ∧ (decode cX12_either 19 = .ok (.istore_n 2, 1)) ∧ (decode cX12_either 20 = .ok (.iload_n 1, 1)) := by decide +kernel
theorem dX12_either_0 : decode cX12_either 0 = .ok (.aload_n 0, 1) := zb_X12_either_0.1
theorem dX12_either_1 : decode cX12_either 1 = .ok (.invokevirtual 359, 3) := zb_X12_either_0.2.1
theorem dX12_either_4 : decode cX12_either 4 = .ok (.istore_n 1, 1) := zb_X12_either_0.2.2.1
theorem dX12_either_5 : decode cX12_either 5 = .ok (.aload_n 0, 1) := zb_X12_either_0.2.2.2.1
theorem dX12_either_6 : decode cX12_either 6 = .ok (.ldc_w 362, 3) := zb_X12_either_0.2.2.2.2.1
theorem dX12_either_9 : decode cX12_either 9 = .ok (.invokevirtual 364, 3) := zb_X12_either_0.2.2.2.2.2.1
theorem dX12_either_12 : decode cX12_either 12 = .ok (.ifCond .eq 25, 3) := zb_X12_either_0.2.2.2.2.2.2.1
theorem dX12_either_15 : decode cX12_either 15 = .ok (.aload_n 0, 1) := zb_X12_either_0.2.2.2.2.2.2.2.1
theorem dX12_either_16 : decode cX12_either 16 = .ok (.invokevirtual 359, 3) := zb_X12_either_0.2.2.2.2.2.2.2.2.1
theorem dX12_either_19 : decode cX12_either 19 = .ok (.istore_n 2, 1) := zb_X12_either_0.2.2.2.2.2.2.2.2.2.1
theorem dX12_either_20 : decode cX12_either 20 = .ok (.iload_n 1, 1) := zb_X12_either_0.2.2.2.2.2.2.2.2.2.2
theorem zb_X12_either_21 : (decode cX12_either 21 = .ok (.ifCond .ne 7, 3)) ∧ (decode cX12_either 28 = .ok (.iconst 1, 1)) ∧ (decode cX12_either 29 = .ok (.goto 4, 3)) ∧ (decode cX12_either 33 = .ok (.istore_n 1, 1)) ∧ (decode cX12_either 34 = .ok (.goto (-29), 3)) ∧ (decode cX12_either 24 = .ok (.iload_n 2, 1)) ∧ (decode cX12_either 25 = .ok (.ifCond .eq 7, 3)) ∧ (decode cX12_either 32 = .ok (.iconst 0, 1)) ∧ (decode cX12_either 37 = .ok (.iload_n 1, 1)) ∧ (decode cX12_either 38 = .ok (.ireturn, 1)) := by decide +kernel
theorem dX12_either_21 : decode cX12_either 21 = .ok (.ifCond .ne 7, 3) := zb_X12_either_21.1
theorem dX12_either_28 : decode cX12_either 28 = .ok (.iconst 1, 1) := zb_X12_either_21.2.1
theorem dX12_either_29 : decode cX12_either 29 = .ok (.goto 4, 3) := zb_X12_either_21.2.2.1
theorem dX12_either_33 : decode cX12_either 33 = .ok (.istore_n 1, 1) := zb_X12_either_21.2.2.2.1
theorem dX12_either_34 : decode cX12_either 34 = .ok (.goto (-29), 3) := zb_X12_either_21.2.2.2.2.1
theorem dX12_either_24 : decode cX12_either 24 = .ok (.iload_n 2, 1) := zb_X12_either_21.2.2.2.2.2.1
theorem dX12_either_25 : decode cX12_either 25 = .ok (.ifCond .eq 7, 3) := zb_X12_either_21.2.2.2.2.2.2.1
theorem dX12_either_32 : decode cX12_either 32 = .ok (.iconst 0, 1) := zb_X12_either_21.2.2.2.2.2.2.2.1
theorem dX12_either_37 : decode cX12_either 37 = .ok (.iload_n 1, 1) := zb_X12_either_21.2.2.2.2.2.2.2.2.1
theorem dX12_either_38 : decode cX12_either 38 = .ok (.ireturn, 1) := zb_X12_either_21.2.2.2.2.2.2.2.2.2
theorem ck_X12_next_0_29mr : ((cX12_next.data.toList).drop 0).take 16 = [42, 180, 1, 81, 42, 180, 1, 72, 162, 0, 42, 42, 42, 180, 1, 81] := by decide +kernel
theorem ck_X12_next_1_29mr : ((cX12_next.data.toList).drop 16).take 16 = [182, 1, 78, 16, 32, 159, 0, 16, 42, 42, 180, 1, 81, 182, 1, 78] := by decide +kernel
theorem ck_X12_next_2_29mr : ((cX12_next.data.toList).drop 32).take 16 = [16, 10, 160, 0, 16, 42, 89, 180, 1, 81, 4, 96, 181, 1, 81, 167] := by decide +kernel
theorem ck_X12_next_3_29mr : ((cX12_next.data.toList).drop 48).take 16 = [255, 209, 42, 42, 180, 1, 81, 181, 1, 84, 42, 42, 180, 1, 84, 182] := by decide +kernel
theorem ck_X12_next_4_29mr : ((cX12_next.data.toList).drop 64).take 16 = [1, 87, 153, 0, 27, 42, 42, 180, 1, 81, 182, 1, 87, 153, 0, 76] := by decide +kernel
theorem ck_X12_next_5_29mr : ((cX12_next.data.toList).drop 80).take 16 = [42, 89, 180, 1, 81, 4, 96, 181, 1, 81, 167, 255, 235, 42, 42, 180] := by decide +kernel
theorem ck_X12_next_6_29mr : ((cX12_next.data.toList).drop 96).take 16 = [1, 84, 182, 1, 90, 153, 0, 27, 42, 42, 180, 1, 81, 182, 1, 90] := by decide +kernel
theorem ck_X12_next_7_29mr : ((cX12_next.data.toList).drop 112).take 16 = [153, 0, 41, 42, 89, 180, 1, 81, 4, 96, 181, 1, 81, 167, 255, 235] := by decide +kernel
theorem ck_X12_next_8_29mr : ((cX12_next.data.toList).drop 128).take 16 = [42, 89, 180, 1, 81, 42, 180, 1, 84, 42, 180, 1, 72, 162, 0, 7] := by decide +kernel
theorem ck_X12_next_9_29mr : ((cX12_next.data.toList).drop 144).take 16 = [4, 167, 0, 4, 3, 96, 181, 1, 81, 177] := by decide +kernel
theorem ck_X12_one_0_29mr : ((cX12_one.data.toList).drop 0).take 16 = [42, 180, 1, 93, 155, 0, 5, 3, 172, 42, 19, 1, 140, 182, 1, 96] := by decide +kernel
theorem ck_X12_one_1_29mr : ((cX12_one.data.toList).drop 16).take 16 = [153, 0, 30, 42, 182, 1, 124, 154, 0, 5, 3, 172, 42, 182, 1, 142] := by decide +kernel
theorem ck_X12_one_2_29mr : ((cX12_one.data.toList).drop 32).take 16 = [60, 42, 89, 180, 1, 116, 4, 100, 181, 1, 116, 27, 116, 172, 42, 19] := by decide +kernel
theorem ck_X12_one_3_29mr : ((cX12_one.data.toList).drop 48).take 16 = [1, 147, 182, 1, 96, 153, 0, 44, 42, 182, 1, 124, 154, 0, 5, 3] := by decide +kernel
theorem ck_X12_one_4_29mr : ((cX12_one.data.toList).drop 64).take 16 = [172, 42, 182, 1, 149, 60, 42, 19, 1, 152, 182, 1, 108, 154, 0, 8] := by decide +kernel
theorem ck_X12_one_5_29mr : ((cX12_one.data.toList).drop 80).take 16 = [42, 182, 1, 119, 172, 42, 89, 180, 1, 116, 4, 100, 181, 1, 116, 27] := by decide +kernel
theorem ck_X12_one_6_29mr : ((cX12_one.data.toList).drop 96).take 16 = [172, 42, 42, 180, 1, 84, 182, 1, 90, 153, 0, 62, 42, 180, 1, 81] := by decide +kernel
theorem ck_X12_one_7_29mr : ((cX12_one.data.toList).drop 112).take 16 = [42, 180, 1, 84, 100, 7, 164, 0, 8, 42, 182, 1, 119, 172, 3, 60] := by decide +kernel
theorem ck_X12_one_8_29mr : ((cX12_one.data.toList).drop 128).take 16 = [42, 180, 1, 84, 61, 28, 42, 180, 1, 81, 162, 0, 23, 16, 10, 27] := by decide +kernel
theorem ck_X12_one_9_29mr : ((cX12_one.data.toList).drop 144).take 16 = [104, 42, 28, 182, 1, 78, 96, 16, 48, 100, 60, 132, 2, 1, 167, 255] := by decide +kernel
theorem ck_X12_one_10_29mr : ((cX12_one.data.toList).drop 160).take 16 = [231, 42, 182, 1, 100, 27, 172, 42, 19, 1, 154, 182, 1, 96, 153, 0] := by decide +kernel
theorem ck_X12_one_11_29mr : ((cX12_one.data.toList).drop 176).take 16 = [7, 3, 167, 0, 74, 42, 19, 1, 155, 182, 1, 96, 153, 0, 7, 4] := by decide +kernel
theorem ck_X12_one_12_29mr : ((cX12_one.data.toList).drop 192).take 16 = [167, 0, 60, 42, 19, 1, 156, 182, 1, 96, 153, 0, 7, 5, 167, 0] := by decide +kernel
theorem ck_X12_one_13_29mr : ((cX12_one.data.toList).drop 208).take 16 = [46, 42, 19, 1, 157, 182, 1, 96, 153, 0, 7, 6, 167, 0, 32, 42] := by decide +kernel
theorem ck_X12_one_14_29mr : ((cX12_one.data.toList).drop 224).take 16 = [19, 1, 158, 182, 1, 96, 153, 0, 7, 7, 167, 0, 18, 42, 19, 1] := by decide +kernel
theorem ck_X12_one_15_29mr : ((cX12_one.data.toList).drop 240).take 16 = [159, 182, 1, 96, 153, 0, 7, 8, 167, 0, 4, 2, 60, 27, 156, 0] := by decide +kernel
theorem ck_X12_one_16_29mr : ((cX12_one.data.toList).drop 256).take 16 = [8, 42, 182, 1, 119, 172, 42, 182, 1, 100, 42, 180, 0, 143, 27, 46] := by decide +kernel
theorem ck_X12_one_17_29mr : ((cX12_one.data.toList).drop 272).take 16 = [172] := by decide +kernel
theorem gX12_isLetter_X12_byteAt : GoodIn wsX12_isLetter (wsV RX12 334 RX12 yX12_byteAt wsX12_byteAt) := ru_gG (ru_gV tw_7_75 tw_7_77 tw_0_45 tw_1_12 mT_X12_byteAt)
theorem gX12_isLetter_X12_within : GoodIn wsX12_isLetter (va_wsS RX12 186 yX12_within wsX12_within) := ru_gG (ru_gS tw_6_122 tw_6_123 tw_1_12 mT_X12_within)
theorem gX12_isDigit_X12_byteAt : GoodIn wsX12_isDigit (wsV RX12 334 RX12 yX12_byteAt wsX12_byteAt) := ru_gG (ru_gV tw_7_75 tw_7_77 tw_0_45 tw_1_12 mT_X12_byteAt)
theorem gX12_isDigit_X12_within : GoodIn wsX12_isDigit (va_wsS RX12 186 yX12_within wsX12_within) := ru_gG (ru_gS tw_6_122 tw_6_123 tw_1_12 mT_X12_within)
theorem gX12_is_J0_length_8abf5 : GoodIn wsX12_is (wsV RX12 172 RJ0 yJ0_length_8abf5 wsJ0_length_8abf5) := ru_gG (ru_gV tw_5_118 tw_4_96 tw_4_97 tw_1_13 mT_J0_length_8abf5)
theorem gX12_is_X12_byteAt : GoodIn wsX12_is (wsV RX12 334 RX12 yX12_byteAt wsX12_byteAt) := ru_gG (ru_gV tw_7_75 tw_7_77 tw_0_45 tw_1_12 mT_X12_byteAt)
theorem gX12_is_J0_charAt_5068e : GoodIn wsX12_is (wsV RX12 178 RJ0 yJ0_charAt_5068e wsJ0_charAt_5068e) := ru_gG (ru_gV tw_5_119 tw_4_106 tw_4_107 tw_1_13 mT_J0_charAt_5068e)
theorem dX12_next_0 : decode cX12_next 0 = .ok (.aload_n 0, 1) := dk_0 (dk_k42 0) (dk_by (j := 0) rfl ck_X12_next_0_29mr rfl rfl rfl)
theorem dX12_next_1 : decode cX12_next 1 = .ok (.getfield 337, 3) := dk_2 (dk_k180 1) (dk_by (j := 1) rfl ck_X12_next_0_29mr rfl rfl rfl) (dk_by (j := 2) rfl ck_X12_next_0_29mr rfl rfl rfl) (dk_by (j := 3) rfl ck_X12_next_0_29mr rfl rfl rfl) (by decide)
theorem dX12_next_4 : decode cX12_next 4 = .ok (.aload_n 0, 1) := dk_0 (dk_k42 4) (dk_by (j := 4) rfl ck_X12_next_0_29mr rfl rfl rfl)
theorem dX12_next_5 : decode cX12_next 5 = .ok (.getfield 328, 3) := dk_2 (dk_k180 5) (dk_by (j := 5) rfl ck_X12_next_0_29mr rfl rfl rfl) (dk_by (j := 6) rfl ck_X12_next_0_29mr rfl rfl rfl) (dk_by (j := 7) rfl ck_X12_next_0_29mr rfl rfl rfl) (by decide)
theorem dX12_next_8 : decode cX12_next 8 = .ok (.if_icmp .ge 42, 3) := dk_s (dk_k162 8) (dk_by (j := 8) rfl ck_X12_next_0_29mr rfl rfl rfl) (dk_by (j := 9) rfl ck_X12_next_0_29mr rfl rfl rfl) (dk_by (j := 10) rfl ck_X12_next_0_29mr rfl rfl rfl) (by decide)
theorem dX12_next_50 : decode cX12_next 50 = .ok (.aload_n 0, 1) := dk_0 (dk_k42 50) (dk_by (j := 2) rfl ck_X12_next_3_29mr rfl rfl rfl)
theorem dX12_next_51 : decode cX12_next 51 = .ok (.aload_n 0, 1) := dk_0 (dk_k42 51) (dk_by (j := 3) rfl ck_X12_next_3_29mr rfl rfl rfl)
theorem dX12_next_52 : decode cX12_next 52 = .ok (.getfield 337, 3) := dk_2 (dk_k180 52) (dk_by (j := 4) rfl ck_X12_next_3_29mr rfl rfl rfl) (dk_by (j := 5) rfl ck_X12_next_3_29mr rfl rfl rfl) (dk_by (j := 6) rfl ck_X12_next_3_29mr rfl rfl rfl) (by decide)
theorem dX12_next_55 : decode cX12_next 55 = .ok (.putfield 340, 3) := dk_2 (dk_k181 55) (dk_by (j := 7) rfl ck_X12_next_3_29mr rfl rfl rfl) (dk_by (j := 8) rfl ck_X12_next_3_29mr rfl rfl rfl) (dk_by (j := 9) rfl ck_X12_next_3_29mr rfl rfl rfl) (by decide)
theorem dX12_next_58 : decode cX12_next 58 = .ok (.aload_n 0, 1) := dk_0 (dk_k42 58) (dk_by (j := 10) rfl ck_X12_next_3_29mr rfl rfl rfl)
theorem dX12_next_59 : decode cX12_next 59 = .ok (.aload_n 0, 1) := dk_0 (dk_k42 59) (dk_by (j := 11) rfl ck_X12_next_3_29mr rfl rfl rfl)
theorem dX12_next_60 : decode cX12_next 60 = .ok (.getfield 340, 3) := dk_2 (dk_k180 60) (dk_by (j := 12) rfl ck_X12_next_3_29mr rfl rfl rfl) (dk_by (j := 13) rfl ck_X12_next_3_29mr rfl rfl rfl) (dk_by (j := 14) rfl ck_X12_next_3_29mr rfl rfl rfl) (by decide)
theorem gX12_next_X12_isLetter : GoodIn wsX12_next (wsV RX12 343 RX12 yX12_isLetter wsX12_isLetter) := ru_gG (ru_gV tw_7_79 tw_7_81 tw_0_46 tw_1_12 mT_X12_isLetter)
theorem dX12_next_63 : decode cX12_next 63 = .ok (.invokevirtual 343, 3) := dk_2 (dk_k182 63) (dk_by (j := 15) rfl ck_X12_next_3_29mr rfl rfl rfl) (dk_by (j := 0) rfl ck_X12_next_4_29mr rfl rfl rfl) (dk_by (j := 1) rfl ck_X12_next_4_29mr rfl rfl rfl) (by decide)
theorem dX12_next_66 : decode cX12_next 66 = .ok (.ifCond .eq 27, 3) := dk_s (dk_k153 66) (dk_by (j := 2) rfl ck_X12_next_4_29mr rfl rfl rfl) (dk_by (j := 3) rfl ck_X12_next_4_29mr rfl rfl rfl) (dk_by (j := 4) rfl ck_X12_next_4_29mr rfl rfl rfl) (by decide)
theorem dX12_next_69 : decode cX12_next 69 = .ok (.aload_n 0, 1) := dk_0 (dk_k42 69) (dk_by (j := 5) rfl ck_X12_next_4_29mr rfl rfl rfl)
theorem dX12_next_70 : decode cX12_next 70 = .ok (.aload_n 0, 1) := dk_0 (dk_k42 70) (dk_by (j := 6) rfl ck_X12_next_4_29mr rfl rfl rfl)
theorem dX12_next_71 : decode cX12_next 71 = .ok (.getfield 337, 3) := dk_2 (dk_k180 71) (dk_by (j := 7) rfl ck_X12_next_4_29mr rfl rfl rfl) (dk_by (j := 8) rfl ck_X12_next_4_29mr rfl rfl rfl) (dk_by (j := 9) rfl ck_X12_next_4_29mr rfl rfl rfl) (by decide)
theorem dX12_next_74 : decode cX12_next 74 = .ok (.invokevirtual 343, 3) := dk_2 (dk_k182 74) (dk_by (j := 10) rfl ck_X12_next_4_29mr rfl rfl rfl) (dk_by (j := 11) rfl ck_X12_next_4_29mr rfl rfl rfl) (dk_by (j := 12) rfl ck_X12_next_4_29mr rfl rfl rfl) (by decide)
theorem dX12_next_77 : decode cX12_next 77 = .ok (.ifCond .eq 76, 3) := dk_s (dk_k153 77) (dk_by (j := 13) rfl ck_X12_next_4_29mr rfl rfl rfl) (dk_by (j := 14) rfl ck_X12_next_4_29mr rfl rfl rfl) (dk_by (j := 15) rfl ck_X12_next_4_29mr rfl rfl rfl) (by decide)
theorem dX12_next_80 : decode cX12_next 80 = .ok (.aload_n 0, 1) := dk_0 (dk_k42 80) (dk_by (j := 0) rfl ck_X12_next_5_29mr rfl rfl rfl)
theorem dX12_next_81 : decode cX12_next 81 = .ok (.dup, 1) := dk_0 (dk_k89 81) (dk_by (j := 1) rfl ck_X12_next_5_29mr rfl rfl rfl)
theorem dX12_next_82 : decode cX12_next 82 = .ok (.getfield 337, 3) := dk_2 (dk_k180 82) (dk_by (j := 2) rfl ck_X12_next_5_29mr rfl rfl rfl) (dk_by (j := 3) rfl ck_X12_next_5_29mr rfl rfl rfl) (dk_by (j := 4) rfl ck_X12_next_5_29mr rfl rfl rfl) (by decide)
theorem dX12_next_85 : decode cX12_next 85 = .ok (.iconst 1, 1) := dk_0 (dk_k4 85) (dk_by (j := 5) rfl ck_X12_next_5_29mr rfl rfl rfl)
theorem dX12_next_86 : decode cX12_next 86 = .ok (.iadd, 1) := dk_0 (dk_k96 86) (dk_by (j := 6) rfl ck_X12_next_5_29mr rfl rfl rfl)
theorem dX12_next_87 : decode cX12_next 87 = .ok (.putfield 337, 3) := dk_2 (dk_k181 87) (dk_by (j := 7) rfl ck_X12_next_5_29mr rfl rfl rfl) (dk_by (j := 8) rfl ck_X12_next_5_29mr rfl rfl rfl) (dk_by (j := 9) rfl ck_X12_next_5_29mr rfl rfl rfl) (by decide)
theorem dX12_next_90 : decode cX12_next 90 = .ok (.goto (-21), 3) := dk_s (dk_k167 90) (dk_by (j := 10) rfl ck_X12_next_5_29mr rfl rfl rfl) (dk_by (j := 11) rfl ck_X12_next_5_29mr rfl rfl rfl) (dk_by (j := 12) rfl ck_X12_next_5_29mr rfl rfl rfl) (by decide)
theorem dX12_next_153 : decode cX12_next 153 = .ok (.return_, 1) := dk_0 (dk_k177 153) (dk_by (j := 9) rfl ck_X12_next_9_29mr rfl rfl rfl)
theorem dX12_next_93 : decode cX12_next 93 = .ok (.aload_n 0, 1) := dk_0 (dk_k42 93) (dk_by (j := 13) rfl ck_X12_next_5_29mr rfl rfl rfl)
theorem dX12_next_94 : decode cX12_next 94 = .ok (.aload_n 0, 1) := dk_0 (dk_k42 94) (dk_by (j := 14) rfl ck_X12_next_5_29mr rfl rfl rfl)
theorem dX12_next_95 : decode cX12_next 95 = .ok (.getfield 340, 3) := dk_2 (dk_k180 95) (dk_by (j := 15) rfl ck_X12_next_5_29mr rfl rfl rfl) (dk_by (j := 0) rfl ck_X12_next_6_29mr rfl rfl rfl) (dk_by (j := 1) rfl ck_X12_next_6_29mr rfl rfl rfl) (by decide)
theorem gX12_next_X12_isDigit : GoodIn wsX12_next (wsV RX12 346 RX12 yX12_isDigit wsX12_isDigit) := ru_gG (ru_gV tw_7_83 tw_7_85 tw_0_47 tw_1_12 mT_X12_isDigit)
theorem dX12_next_98 : decode cX12_next 98 = .ok (.invokevirtual 346, 3) := dk_2 (dk_k182 98) (dk_by (j := 2) rfl ck_X12_next_6_29mr rfl rfl rfl) (dk_by (j := 3) rfl ck_X12_next_6_29mr rfl rfl rfl) (dk_by (j := 4) rfl ck_X12_next_6_29mr rfl rfl rfl) (by decide)
theorem dX12_next_101 : decode cX12_next 101 = .ok (.ifCond .eq 27, 3) := dk_s (dk_k153 101) (dk_by (j := 5) rfl ck_X12_next_6_29mr rfl rfl rfl) (dk_by (j := 6) rfl ck_X12_next_6_29mr rfl rfl rfl) (dk_by (j := 7) rfl ck_X12_next_6_29mr rfl rfl rfl) (by decide)
theorem dX12_next_104 : decode cX12_next 104 = .ok (.aload_n 0, 1) := dk_0 (dk_k42 104) (dk_by (j := 8) rfl ck_X12_next_6_29mr rfl rfl rfl)
theorem dX12_next_105 : decode cX12_next 105 = .ok (.aload_n 0, 1) := dk_0 (dk_k42 105) (dk_by (j := 9) rfl ck_X12_next_6_29mr rfl rfl rfl)
theorem dX12_next_106 : decode cX12_next 106 = .ok (.getfield 337, 3) := dk_2 (dk_k180 106) (dk_by (j := 10) rfl ck_X12_next_6_29mr rfl rfl rfl) (dk_by (j := 11) rfl ck_X12_next_6_29mr rfl rfl rfl) (dk_by (j := 12) rfl ck_X12_next_6_29mr rfl rfl rfl) (by decide)
theorem dX12_next_109 : decode cX12_next 109 = .ok (.invokevirtual 346, 3) := dk_2 (dk_k182 109) (dk_by (j := 13) rfl ck_X12_next_6_29mr rfl rfl rfl) (dk_by (j := 14) rfl ck_X12_next_6_29mr rfl rfl rfl) (dk_by (j := 15) rfl ck_X12_next_6_29mr rfl rfl rfl) (by decide)
theorem dX12_next_112 : decode cX12_next 112 = .ok (.ifCond .eq 41, 3) := dk_s (dk_k153 112) (dk_by (j := 0) rfl ck_X12_next_7_29mr rfl rfl rfl) (dk_by (j := 1) rfl ck_X12_next_7_29mr rfl rfl rfl) (dk_by (j := 2) rfl ck_X12_next_7_29mr rfl rfl rfl) (by decide)
theorem dX12_next_115 : decode cX12_next 115 = .ok (.aload_n 0, 1) := dk_0 (dk_k42 115) (dk_by (j := 3) rfl ck_X12_next_7_29mr rfl rfl rfl)
theorem dX12_next_116 : decode cX12_next 116 = .ok (.dup, 1) := dk_0 (dk_k89 116) (dk_by (j := 4) rfl ck_X12_next_7_29mr rfl rfl rfl)
theorem dX12_next_117 : decode cX12_next 117 = .ok (.getfield 337, 3) := dk_2 (dk_k180 117) (dk_by (j := 5) rfl ck_X12_next_7_29mr rfl rfl rfl) (dk_by (j := 6) rfl ck_X12_next_7_29mr rfl rfl rfl) (dk_by (j := 7) rfl ck_X12_next_7_29mr rfl rfl rfl) (by decide)
theorem dX12_next_120 : decode cX12_next 120 = .ok (.iconst 1, 1) := dk_0 (dk_k4 120) (dk_by (j := 8) rfl ck_X12_next_7_29mr rfl rfl rfl)
theorem dX12_next_121 : decode cX12_next 121 = .ok (.iadd, 1) := dk_0 (dk_k96 121) (dk_by (j := 9) rfl ck_X12_next_7_29mr rfl rfl rfl)
theorem dX12_next_122 : decode cX12_next 122 = .ok (.putfield 337, 3) := dk_2 (dk_k181 122) (dk_by (j := 10) rfl ck_X12_next_7_29mr rfl rfl rfl) (dk_by (j := 11) rfl ck_X12_next_7_29mr rfl rfl rfl) (dk_by (j := 12) rfl ck_X12_next_7_29mr rfl rfl rfl) (by decide)
theorem dX12_next_125 : decode cX12_next 125 = .ok (.goto (-21), 3) := dk_s (dk_k167 125) (dk_by (j := 13) rfl ck_X12_next_7_29mr rfl rfl rfl) (dk_by (j := 14) rfl ck_X12_next_7_29mr rfl rfl rfl) (dk_by (j := 15) rfl ck_X12_next_7_29mr rfl rfl rfl) (by decide)
theorem dX12_next_128 : decode cX12_next 128 = .ok (.aload_n 0, 1) := dk_0 (dk_k42 128) (dk_by (j := 0) rfl ck_X12_next_8_29mr rfl rfl rfl)
theorem dX12_next_129 : decode cX12_next 129 = .ok (.dup, 1) := dk_0 (dk_k89 129) (dk_by (j := 1) rfl ck_X12_next_8_29mr rfl rfl rfl)
theorem dX12_next_130 : decode cX12_next 130 = .ok (.getfield 337, 3) := dk_2 (dk_k180 130) (dk_by (j := 2) rfl ck_X12_next_8_29mr rfl rfl rfl) (dk_by (j := 3) rfl ck_X12_next_8_29mr rfl rfl rfl) (dk_by (j := 4) rfl ck_X12_next_8_29mr rfl rfl rfl) (by decide)
theorem dX12_next_133 : decode cX12_next 133 = .ok (.aload_n 0, 1) := dk_0 (dk_k42 133) (dk_by (j := 5) rfl ck_X12_next_8_29mr rfl rfl rfl)
theorem dX12_next_134 : decode cX12_next 134 = .ok (.getfield 340, 3) := dk_2 (dk_k180 134) (dk_by (j := 6) rfl ck_X12_next_8_29mr rfl rfl rfl) (dk_by (j := 7) rfl ck_X12_next_8_29mr rfl rfl rfl) (dk_by (j := 8) rfl ck_X12_next_8_29mr rfl rfl rfl) (by decide)
theorem dX12_next_137 : decode cX12_next 137 = .ok (.aload_n 0, 1) := dk_0 (dk_k42 137) (dk_by (j := 9) rfl ck_X12_next_8_29mr rfl rfl rfl)
theorem dX12_next_138 : decode cX12_next 138 = .ok (.getfield 328, 3) := dk_2 (dk_k180 138) (dk_by (j := 10) rfl ck_X12_next_8_29mr rfl rfl rfl) (dk_by (j := 11) rfl ck_X12_next_8_29mr rfl rfl rfl) (dk_by (j := 12) rfl ck_X12_next_8_29mr rfl rfl rfl) (by decide)
theorem dX12_next_141 : decode cX12_next 141 = .ok (.if_icmp .ge 7, 3) := dk_s (dk_k162 141) (dk_by (j := 13) rfl ck_X12_next_8_29mr rfl rfl rfl) (dk_by (j := 14) rfl ck_X12_next_8_29mr rfl rfl rfl) (dk_by (j := 15) rfl ck_X12_next_8_29mr rfl rfl rfl) (by decide)
theorem dX12_next_148 : decode cX12_next 148 = .ok (.iconst 0, 1) := dk_0 (dk_k3 148) (dk_by (j := 4) rfl ck_X12_next_9_29mr rfl rfl rfl)
theorem dX12_next_149 : decode cX12_next 149 = .ok (.iadd, 1) := dk_0 (dk_k96 149) (dk_by (j := 5) rfl ck_X12_next_9_29mr rfl rfl rfl)
theorem dX12_next_150 : decode cX12_next 150 = .ok (.putfield 337, 3) := dk_2 (dk_k181 150) (dk_by (j := 6) rfl ck_X12_next_9_29mr rfl rfl rfl) (dk_by (j := 7) rfl ck_X12_next_9_29mr rfl rfl rfl) (dk_by (j := 8) rfl ck_X12_next_9_29mr rfl rfl rfl) (by decide)
theorem dX12_next_144 : decode cX12_next 144 = .ok (.iconst 1, 1) := dk_0 (dk_k4 144) (dk_by (j := 0) rfl ck_X12_next_9_29mr rfl rfl rfl)
theorem dX12_next_145 : decode cX12_next 145 = .ok (.goto 4, 3) := dk_s (dk_k167 145) (dk_by (j := 1) rfl ck_X12_next_9_29mr rfl rfl rfl) (dk_by (j := 2) rfl ck_X12_next_9_29mr rfl rfl rfl) (dk_by (j := 3) rfl ck_X12_next_9_29mr rfl rfl rfl) (by decide)
theorem dX12_next_11 : decode cX12_next 11 = .ok (.aload_n 0, 1) := dk_0 (dk_k42 11) (dk_by (j := 11) rfl ck_X12_next_0_29mr rfl rfl rfl)
theorem dX12_next_12 : decode cX12_next 12 = .ok (.aload_n 0, 1) := dk_0 (dk_k42 12) (dk_by (j := 12) rfl ck_X12_next_0_29mr rfl rfl rfl)
theorem dX12_next_13 : decode cX12_next 13 = .ok (.getfield 337, 3) := dk_2 (dk_k180 13) (dk_by (j := 13) rfl ck_X12_next_0_29mr rfl rfl rfl) (dk_by (j := 14) rfl ck_X12_next_0_29mr rfl rfl rfl) (dk_by (j := 15) rfl ck_X12_next_0_29mr rfl rfl rfl) (by decide)
theorem gX12_next_X12_byteAt : GoodIn wsX12_next (wsV RX12 334 RX12 yX12_byteAt wsX12_byteAt) := ru_gG (ru_gV tw_7_75 tw_7_77 tw_0_45 tw_1_12 mT_X12_byteAt)
theorem dX12_next_16 : decode cX12_next 16 = .ok (.invokevirtual 334, 3) := dk_2 (dk_k182 16) (dk_by (j := 0) rfl ck_X12_next_1_29mr rfl rfl rfl) (dk_by (j := 1) rfl ck_X12_next_1_29mr rfl rfl rfl) (dk_by (j := 2) rfl ck_X12_next_1_29mr rfl rfl rfl) (by decide)
theorem dX12_next_19 : decode cX12_next 19 = .ok (.bipush 32, 2) := dk_1 (dk_k16 19) (dk_by (j := 3) rfl ck_X12_next_1_29mr rfl rfl rfl) (dk_by (j := 4) rfl ck_X12_next_1_29mr rfl rfl rfl) (by decide)
theorem dX12_next_21 : decode cX12_next 21 = .ok (.if_icmp .eq 16, 3) := dk_s (dk_k159 21) (dk_by (j := 5) rfl ck_X12_next_1_29mr rfl rfl rfl) (dk_by (j := 6) rfl ck_X12_next_1_29mr rfl rfl rfl) (dk_by (j := 7) rfl ck_X12_next_1_29mr rfl rfl rfl) (by decide)
theorem dX12_next_37 : decode cX12_next 37 = .ok (.aload_n 0, 1) := dk_0 (dk_k42 37) (dk_by (j := 5) rfl ck_X12_next_2_29mr rfl rfl rfl)
theorem dX12_next_38 : decode cX12_next 38 = .ok (.dup, 1) := dk_0 (dk_k89 38) (dk_by (j := 6) rfl ck_X12_next_2_29mr rfl rfl rfl)
theorem dX12_next_39 : decode cX12_next 39 = .ok (.getfield 337, 3) := dk_2 (dk_k180 39) (dk_by (j := 7) rfl ck_X12_next_2_29mr rfl rfl rfl) (dk_by (j := 8) rfl ck_X12_next_2_29mr rfl rfl rfl) (dk_by (j := 9) rfl ck_X12_next_2_29mr rfl rfl rfl) (by decide)
theorem dX12_next_42 : decode cX12_next 42 = .ok (.iconst 1, 1) := dk_0 (dk_k4 42) (dk_by (j := 10) rfl ck_X12_next_2_29mr rfl rfl rfl)
theorem dX12_next_43 : decode cX12_next 43 = .ok (.iadd, 1) := dk_0 (dk_k96 43) (dk_by (j := 11) rfl ck_X12_next_2_29mr rfl rfl rfl)
theorem dX12_next_44 : decode cX12_next 44 = .ok (.putfield 337, 3) := dk_2 (dk_k181 44) (dk_by (j := 12) rfl ck_X12_next_2_29mr rfl rfl rfl) (dk_by (j := 13) rfl ck_X12_next_2_29mr rfl rfl rfl) (dk_by (j := 14) rfl ck_X12_next_2_29mr rfl rfl rfl) (by decide)
theorem dX12_next_47 : decode cX12_next 47 = .ok (.goto (-47), 3) := dk_s (dk_k167 47) (dk_by (j := 15) rfl ck_X12_next_2_29mr rfl rfl rfl) (dk_by (j := 0) rfl ck_X12_next_3_29mr rfl rfl rfl) (dk_by (j := 1) rfl ck_X12_next_3_29mr rfl rfl rfl) (by decide)
theorem dX12_next_24 : decode cX12_next 24 = .ok (.aload_n 0, 1) := dk_0 (dk_k42 24) (dk_by (j := 8) rfl ck_X12_next_1_29mr rfl rfl rfl)
theorem dX12_next_25 : decode cX12_next 25 = .ok (.aload_n 0, 1) := dk_0 (dk_k42 25) (dk_by (j := 9) rfl ck_X12_next_1_29mr rfl rfl rfl)
theorem dX12_next_26 : decode cX12_next 26 = .ok (.getfield 337, 3) := dk_2 (dk_k180 26) (dk_by (j := 10) rfl ck_X12_next_1_29mr rfl rfl rfl) (dk_by (j := 11) rfl ck_X12_next_1_29mr rfl rfl rfl) (dk_by (j := 12) rfl ck_X12_next_1_29mr rfl rfl rfl) (by decide)
theorem dX12_next_29 : decode cX12_next 29 = .ok (.invokevirtual 334, 3) := dk_2 (dk_k182 29) (dk_by (j := 13) rfl ck_X12_next_1_29mr rfl rfl rfl) (dk_by (j := 14) rfl ck_X12_next_1_29mr rfl rfl rfl) (dk_by (j := 15) rfl ck_X12_next_1_29mr rfl rfl rfl) (by decide)
theorem dX12_next_32 : decode cX12_next 32 = .ok (.bipush 10, 2) := dk_1 (dk_k16 32) (dk_by (j := 0) rfl ck_X12_next_2_29mr rfl rfl rfl) (dk_by (j := 1) rfl ck_X12_next_2_29mr rfl rfl rfl) (by decide)
theorem dX12_next_34 : decode cX12_next 34 = .ok (.if_icmp .ne 16, 3) := dk_s (dk_k160 34) (dk_by (j := 2) rfl ck_X12_next_2_29mr rfl rfl rfl) (dk_by (j := 3) rfl ck_X12_next_2_29mr rfl rfl rfl) (dk_by (j := 4) rfl ck_X12_next_2_29mr rfl rfl rfl) (by decide)
theorem gX12_take_X12_is : GoodIn wsX12_take (wsV RX12 352 RX12 yX12_is wsX12_is) := ru_gG (ru_gV tw_7_92 tw_7_94 tw_0_49 tw_1_12 mT_X12_is)
theorem gX12_take_X12_next : GoodIn wsX12_take (wsV RX12 356 RX12 yX12_next wsX12_next) := ru_gG (ru_gV tw_7_71 tw_7_73 tw_0_44 tw_1_12 mT_X12_next)
theorem gX12_opens_X12_next : GoodIn wsX12_opens (wsV RX12 356 RX12 yX12_next wsX12_next) := ru_gG (ru_gV tw_7_71 tw_7_73 tw_0_44 tw_1_12 mT_X12_next)
theorem gX12_opens_X12_wrong : GoodIn wsX12_opens (wsV RX12 375 RX12 yX12_wrong wsX12_wrong) := ru_gG (ru_gV tw_7_113 tw_7_115 tw_0_54 tw_1_12 mT_X12_wrong)
theorem dX12_one_0 : decode cX12_one 0 = .ok (.aload_n 0, 1) := dk_0 (dk_k42 0) (dk_by (j := 0) rfl ck_X12_one_0_29mr rfl rfl rfl)
theorem dX12_one_1 : decode cX12_one 1 = .ok (.getfield 349, 3) := dk_2 (dk_k180 1) (dk_by (j := 1) rfl ck_X12_one_0_29mr rfl rfl rfl) (dk_by (j := 2) rfl ck_X12_one_0_29mr rfl rfl rfl) (dk_by (j := 3) rfl ck_X12_one_0_29mr rfl rfl rfl) (by decide)
theorem dX12_one_4 : decode cX12_one 4 = .ok (.ifCond .lt 5, 3) := dk_s (dk_k155 4) (dk_by (j := 4) rfl ck_X12_one_0_29mr rfl rfl rfl) (dk_by (j := 5) rfl ck_X12_one_0_29mr rfl rfl rfl) (dk_by (j := 6) rfl ck_X12_one_0_29mr rfl rfl rfl) (by decide)
theorem dX12_one_9 : decode cX12_one 9 = .ok (.aload_n 0, 1) := dk_0 (dk_k42 9) (dk_by (j := 9) rfl ck_X12_one_0_29mr rfl rfl rfl)
theorem gX12_one_X12_is : GoodIn wsX12_one (wsV RX12 352 RX12 yX12_is wsX12_is) := ru_gG (ru_gV tw_7_92 tw_7_94 tw_0_49 tw_1_12 mT_X12_is)
theorem dX12_one_13 : decode cX12_one 13 = .ok (.invokevirtual 352, 3) := dk_2 (dk_k182 13) (dk_by (j := 13) rfl ck_X12_one_0_29mr rfl rfl rfl) (dk_by (j := 14) rfl ck_X12_one_0_29mr rfl rfl rfl) (dk_by (j := 15) rfl ck_X12_one_0_29mr rfl rfl rfl) (by decide)
theorem dX12_one_16 : decode cX12_one 16 = .ok (.ifCond .eq 30, 3) := dk_s (dk_k153 16) (dk_by (j := 0) rfl ck_X12_one_1_29mr rfl rfl rfl) (dk_by (j := 1) rfl ck_X12_one_1_29mr rfl rfl rfl) (dk_by (j := 2) rfl ck_X12_one_1_29mr rfl rfl rfl) (by decide)
theorem dX12_one_46 : decode cX12_one 46 = .ok (.aload_n 0, 1) := dk_0 (dk_k42 46) (dk_by (j := 14) rfl ck_X12_one_2_29mr rfl rfl rfl)
theorem dX12_one_50 : decode cX12_one 50 = .ok (.invokevirtual 352, 3) := dk_2 (dk_k182 50) (dk_by (j := 2) rfl ck_X12_one_3_29mr rfl rfl rfl) (dk_by (j := 3) rfl ck_X12_one_3_29mr rfl rfl rfl) (dk_by (j := 4) rfl ck_X12_one_3_29mr rfl rfl rfl) (by decide)
theorem dX12_one_53 : decode cX12_one 53 = .ok (.ifCond .eq 44, 3) := dk_s (dk_k153 53) (dk_by (j := 5) rfl ck_X12_one_3_29mr rfl rfl rfl) (dk_by (j := 6) rfl ck_X12_one_3_29mr rfl rfl rfl) (dk_by (j := 7) rfl ck_X12_one_3_29mr rfl rfl rfl) (by decide)
theorem dX12_one_97 : decode cX12_one 97 = .ok (.aload_n 0, 1) := dk_0 (dk_k42 97) (dk_by (j := 1) rfl ck_X12_one_6_29mr rfl rfl rfl)
theorem dX12_one_98 : decode cX12_one 98 = .ok (.aload_n 0, 1) := dk_0 (dk_k42 98) (dk_by (j := 2) rfl ck_X12_one_6_29mr rfl rfl rfl)
theorem dX12_one_99 : decode cX12_one 99 = .ok (.getfield 340, 3) := dk_2 (dk_k180 99) (dk_by (j := 3) rfl ck_X12_one_6_29mr rfl rfl rfl) (dk_by (j := 4) rfl ck_X12_one_6_29mr rfl rfl rfl) (dk_by (j := 5) rfl ck_X12_one_6_29mr rfl rfl rfl) (by decide)
theorem gX12_one_X12_isDigit : GoodIn wsX12_one (wsV RX12 346 RX12 yX12_isDigit wsX12_isDigit) := ru_gG (ru_gV tw_7_83 tw_7_85 tw_0_47 tw_1_12 mT_X12_isDigit)
theorem dX12_one_102 : decode cX12_one 102 = .ok (.invokevirtual 346, 3) := dk_2 (dk_k182 102) (dk_by (j := 6) rfl ck_X12_one_6_29mr rfl rfl rfl) (dk_by (j := 7) rfl ck_X12_one_6_29mr rfl rfl rfl) (dk_by (j := 8) rfl ck_X12_one_6_29mr rfl rfl rfl) (by decide)
theorem dX12_one_105 : decode cX12_one 105 = .ok (.ifCond .eq 62, 3) := dk_s (dk_k153 105) (dk_by (j := 9) rfl ck_X12_one_6_29mr rfl rfl rfl) (dk_by (j := 10) rfl ck_X12_one_6_29mr rfl rfl rfl) (dk_by (j := 11) rfl ck_X12_one_6_29mr rfl rfl rfl) (by decide)
theorem dX12_one_108 : decode cX12_one 108 = .ok (.aload_n 0, 1) := dk_0 (dk_k42 108) (dk_by (j := 12) rfl ck_X12_one_6_29mr rfl rfl rfl)
theorem dX12_one_109 : decode cX12_one 109 = .ok (.getfield 337, 3) := dk_2 (dk_k180 109) (dk_by (j := 13) rfl ck_X12_one_6_29mr rfl rfl rfl) (dk_by (j := 14) rfl ck_X12_one_6_29mr rfl rfl rfl) (dk_by (j := 15) rfl ck_X12_one_6_29mr rfl rfl rfl) (by decide)
theorem dX12_one_112 : decode cX12_one 112 = .ok (.aload_n 0, 1) := dk_0 (dk_k42 112) (dk_by (j := 0) rfl ck_X12_one_7_29mr rfl rfl rfl)
theorem dX12_one_113 : decode cX12_one 113 = .ok (.getfield 340, 3) := dk_2 (dk_k180 113) (dk_by (j := 1) rfl ck_X12_one_7_29mr rfl rfl rfl) (dk_by (j := 2) rfl ck_X12_one_7_29mr rfl rfl rfl) (dk_by (j := 3) rfl ck_X12_one_7_29mr rfl rfl rfl) (by decide)
theorem dX12_one_116 : decode cX12_one 116 = .ok (.isub, 1) := dk_0 (dk_k100 116) (dk_by (j := 4) rfl ck_X12_one_7_29mr rfl rfl rfl)
theorem dX12_one_117 : decode cX12_one 117 = .ok (.iconst 4, 1) := dk_0 (dk_k7 117) (dk_by (j := 5) rfl ck_X12_one_7_29mr rfl rfl rfl)
theorem dX12_one_118 : decode cX12_one 118 = .ok (.if_icmp .le 8, 3) := dk_s (dk_k164 118) (dk_by (j := 6) rfl ck_X12_one_7_29mr rfl rfl rfl) (dk_by (j := 7) rfl ck_X12_one_7_29mr rfl rfl rfl) (dk_by (j := 8) rfl ck_X12_one_7_29mr rfl rfl rfl) (by decide)
theorem dX12_one_126 : decode cX12_one 126 = .ok (.iconst 0, 1) := dk_0 (dk_k3 126) (dk_by (j := 14) rfl ck_X12_one_7_29mr rfl rfl rfl)
theorem dX12_one_127 : decode cX12_one 127 = .ok (.istore_n 1, 1) := dk_0 (dk_k60 127) (dk_by (j := 15) rfl ck_X12_one_7_29mr rfl rfl rfl)
theorem dX12_one_128 : decode cX12_one 128 = .ok (.aload_n 0, 1) := dk_0 (dk_k42 128) (dk_by (j := 0) rfl ck_X12_one_8_29mr rfl rfl rfl)
theorem dX12_one_129 : decode cX12_one 129 = .ok (.getfield 340, 3) := dk_2 (dk_k180 129) (dk_by (j := 1) rfl ck_X12_one_8_29mr rfl rfl rfl) (dk_by (j := 2) rfl ck_X12_one_8_29mr rfl rfl rfl) (dk_by (j := 3) rfl ck_X12_one_8_29mr rfl rfl rfl) (by decide)
theorem dX12_one_132 : decode cX12_one 132 = .ok (.istore_n 2, 1) := dk_0 (dk_k61 132) (dk_by (j := 4) rfl ck_X12_one_8_29mr rfl rfl rfl)
theorem dX12_one_133 : decode cX12_one 133 = .ok (.iload_n 2, 1) := dk_0 (dk_k28 133) (dk_by (j := 5) rfl ck_X12_one_8_29mr rfl rfl rfl)
theorem dX12_one_134 : decode cX12_one 134 = .ok (.aload_n 0, 1) := dk_0 (dk_k42 134) (dk_by (j := 6) rfl ck_X12_one_8_29mr rfl rfl rfl)
theorem dX12_one_135 : decode cX12_one 135 = .ok (.getfield 337, 3) := dk_2 (dk_k180 135) (dk_by (j := 7) rfl ck_X12_one_8_29mr rfl rfl rfl) (dk_by (j := 8) rfl ck_X12_one_8_29mr rfl rfl rfl) (dk_by (j := 9) rfl ck_X12_one_8_29mr rfl rfl rfl) (by decide)
theorem dX12_one_138 : decode cX12_one 138 = .ok (.if_icmp .ge 23, 3) := dk_s (dk_k162 138) (dk_by (j := 10) rfl ck_X12_one_8_29mr rfl rfl rfl) (dk_by (j := 11) rfl ck_X12_one_8_29mr rfl rfl rfl) (dk_by (j := 12) rfl ck_X12_one_8_29mr rfl rfl rfl) (by decide)
theorem dX12_one_161 : decode cX12_one 161 = .ok (.aload_n 0, 1) := dk_0 (dk_k42 161) (dk_by (j := 1) rfl ck_X12_one_10_29mr rfl rfl rfl)
theorem gX12_one_X12_next : GoodIn wsX12_one (wsV RX12 356 RX12 yX12_next wsX12_next) := ru_gG (ru_gV tw_7_71 tw_7_73 tw_0_44 tw_1_12 mT_X12_next)
theorem dX12_one_162 : decode cX12_one 162 = .ok (.invokevirtual 356, 3) := dk_2 (dk_k182 162) (dk_by (j := 2) rfl ck_X12_one_10_29mr rfl rfl rfl) (dk_by (j := 3) rfl ck_X12_one_10_29mr rfl rfl rfl) (dk_by (j := 4) rfl ck_X12_one_10_29mr rfl rfl rfl) (by decide)
theorem dX12_one_165 : decode cX12_one 165 = .ok (.iload_n 1, 1) := dk_0 (dk_k27 165) (dk_by (j := 5) rfl ck_X12_one_10_29mr rfl rfl rfl)
theorem dX12_one_166 : decode cX12_one 166 = .ok (.ireturn, 1) := dk_0 (dk_k172 166) (dk_by (j := 6) rfl ck_X12_one_10_29mr rfl rfl rfl)
theorem dX12_one_141 : decode cX12_one 141 = .ok (.bipush 10, 2) := dk_1 (dk_k16 141) (dk_by (j := 13) rfl ck_X12_one_8_29mr rfl rfl rfl) (dk_by (j := 14) rfl ck_X12_one_8_29mr rfl rfl rfl) (by decide)
theorem dX12_one_143 : decode cX12_one 143 = .ok (.iload_n 1, 1) := dk_0 (dk_k27 143) (dk_by (j := 15) rfl ck_X12_one_8_29mr rfl rfl rfl)
theorem dX12_one_145 : decode cX12_one 145 = .ok (.aload_n 0, 1) := dk_0 (dk_k42 145) (dk_by (j := 1) rfl ck_X12_one_9_29mr rfl rfl rfl)
theorem dX12_one_146 : decode cX12_one 146 = .ok (.iload_n 2, 1) := dk_0 (dk_k28 146) (dk_by (j := 2) rfl ck_X12_one_9_29mr rfl rfl rfl)
theorem gX12_one_X12_byteAt : GoodIn wsX12_one (wsV RX12 334 RX12 yX12_byteAt wsX12_byteAt) := ru_gG (ru_gV tw_7_75 tw_7_77 tw_0_45 tw_1_12 mT_X12_byteAt)
theorem dX12_one_147 : decode cX12_one 147 = .ok (.invokevirtual 334, 3) := dk_2 (dk_k182 147) (dk_by (j := 3) rfl ck_X12_one_9_29mr rfl rfl rfl) (dk_by (j := 4) rfl ck_X12_one_9_29mr rfl rfl rfl) (dk_by (j := 5) rfl ck_X12_one_9_29mr rfl rfl rfl) (by decide)
theorem dX12_one_150 : decode cX12_one 150 = .ok (.iadd, 1) := dk_0 (dk_k96 150) (dk_by (j := 6) rfl ck_X12_one_9_29mr rfl rfl rfl)
theorem dX12_one_151 : decode cX12_one 151 = .ok (.bipush 48, 2) := dk_1 (dk_k16 151) (dk_by (j := 7) rfl ck_X12_one_9_29mr rfl rfl rfl) (dk_by (j := 8) rfl ck_X12_one_9_29mr rfl rfl rfl) (by decide)
theorem dX12_one_153 : decode cX12_one 153 = .ok (.isub, 1) := dk_0 (dk_k100 153) (dk_by (j := 9) rfl ck_X12_one_9_29mr rfl rfl rfl)
theorem dX12_one_154 : decode cX12_one 154 = .ok (.istore_n 1, 1) := dk_0 (dk_k60 154) (dk_by (j := 10) rfl ck_X12_one_9_29mr rfl rfl rfl)
theorem dX12_one_158 : decode cX12_one 158 = .ok (.goto (-25), 3) := dk_s (dk_k167 158) (dk_by (j := 14) rfl ck_X12_one_9_29mr rfl rfl rfl) (dk_by (j := 15) rfl ck_X12_one_9_29mr rfl rfl rfl) (dk_by (j := 0) rfl ck_X12_one_10_29mr rfl rfl rfl) (by decide)
theorem dX12_one_121 : decode cX12_one 121 = .ok (.aload_n 0, 1) := dk_0 (dk_k42 121) (dk_by (j := 9) rfl ck_X12_one_7_29mr rfl rfl rfl)
theorem gX12_one_X12_wrong : GoodIn wsX12_one (wsV RX12 375 RX12 yX12_wrong wsX12_wrong) := ru_gG (ru_gV tw_7_113 tw_7_115 tw_0_54 tw_1_12 mT_X12_wrong)
theorem dX12_one_122 : decode cX12_one 122 = .ok (.invokevirtual 375, 3) := dk_2 (dk_k182 122) (dk_by (j := 10) rfl ck_X12_one_7_29mr rfl rfl rfl) (dk_by (j := 11) rfl ck_X12_one_7_29mr rfl rfl rfl) (dk_by (j := 12) rfl ck_X12_one_7_29mr rfl rfl rfl) (by decide)
theorem dX12_one_125 : decode cX12_one 125 = .ok (.ireturn, 1) := dk_0 (dk_k172 125) (dk_by (j := 13) rfl ck_X12_one_7_29mr rfl rfl rfl)
theorem dX12_one_253 : decode cX12_one 253 = .ok (.iload_n 1, 1) := dk_0 (dk_k27 253) (dk_by (j := 13) rfl ck_X12_one_15_29mr rfl rfl rfl)
theorem dX12_one_254 : decode cX12_one 254 = .ok (.ifCond .ge 8, 3) := dk_s (dk_k156 254) (dk_by (j := 14) rfl ck_X12_one_15_29mr rfl rfl rfl) (dk_by (j := 15) rfl ck_X12_one_15_29mr rfl rfl rfl) (dk_by (j := 0) rfl ck_X12_one_16_29mr rfl rfl rfl) (by decide)
theorem dX12_one_262 : decode cX12_one 262 = .ok (.aload_n 0, 1) := dk_0 (dk_k42 262) (dk_by (j := 6) rfl ck_X12_one_16_29mr rfl rfl rfl)
theorem dX12_one_263 : decode cX12_one 263 = .ok (.invokevirtual 356, 3) := dk_2 (dk_k182 263) (dk_by (j := 7) rfl ck_X12_one_16_29mr rfl rfl rfl) (dk_by (j := 8) rfl ck_X12_one_16_29mr rfl rfl rfl) (dk_by (j := 9) rfl ck_X12_one_16_29mr rfl rfl rfl) (by decide)
theorem dX12_one_266 : decode cX12_one 266 = .ok (.aload_n 0, 1) := dk_0 (dk_k42 266) (dk_by (j := 10) rfl ck_X12_one_16_29mr rfl rfl rfl)
theorem dX12_one_267 : decode cX12_one 267 = .ok (.getfield 143, 3) := dk_2 (dk_k180 267) (dk_by (j := 11) rfl ck_X12_one_16_29mr rfl rfl rfl) (dk_by (j := 12) rfl ck_X12_one_16_29mr rfl rfl rfl) (dk_by (j := 13) rfl ck_X12_one_16_29mr rfl rfl rfl) (by decide)
theorem dX12_one_270 : decode cX12_one 270 = .ok (.iload_n 1, 1) := dk_0 (dk_k27 270) (dk_by (j := 14) rfl ck_X12_one_16_29mr rfl rfl rfl)
theorem dX12_one_271 : decode cX12_one 271 = .ok (.iaload, 1) := dk_0 (dk_k46 271) (dk_by (j := 15) rfl ck_X12_one_16_29mr rfl rfl rfl)
theorem dX12_one_272 : decode cX12_one 272 = .ok (.ireturn, 1) := dk_0 (dk_k172 272) (dk_by (j := 0) rfl ck_X12_one_17_29mr rfl rfl rfl)
theorem dX12_one_257 : decode cX12_one 257 = .ok (.aload_n 0, 1) := dk_0 (dk_k42 257) (dk_by (j := 1) rfl ck_X12_one_16_29mr rfl rfl rfl)
theorem dX12_one_258 : decode cX12_one 258 = .ok (.invokevirtual 375, 3) := dk_2 (dk_k182 258) (dk_by (j := 2) rfl ck_X12_one_16_29mr rfl rfl rfl) (dk_by (j := 3) rfl ck_X12_one_16_29mr rfl rfl rfl) (dk_by (j := 4) rfl ck_X12_one_16_29mr rfl rfl rfl) (by decide)
theorem dX12_one_261 : decode cX12_one 261 = .ok (.ireturn, 1) := dk_0 (dk_k172 261) (dk_by (j := 5) rfl ck_X12_one_16_29mr rfl rfl rfl)
theorem dX12_one_167 : decode cX12_one 167 = .ok (.aload_n 0, 1) := dk_0 (dk_k42 167) (dk_by (j := 7) rfl ck_X12_one_10_29mr rfl rfl rfl)
theorem dX12_one_171 : decode cX12_one 171 = .ok (.invokevirtual 352, 3) := dk_2 (dk_k182 171) (dk_by (j := 11) rfl ck_X12_one_10_29mr rfl rfl rfl) (dk_by (j := 12) rfl ck_X12_one_10_29mr rfl rfl rfl) (dk_by (j := 13) rfl ck_X12_one_10_29mr rfl rfl rfl) (by decide)
theorem dX12_one_174 : decode cX12_one 174 = .ok (.ifCond .eq 7, 3) := dk_s (dk_k153 174) (dk_by (j := 14) rfl ck_X12_one_10_29mr rfl rfl rfl) (dk_by (j := 15) rfl ck_X12_one_10_29mr rfl rfl rfl) (dk_by (j := 0) rfl ck_X12_one_11_29mr rfl rfl rfl) (by decide)
theorem dX12_one_181 : decode cX12_one 181 = .ok (.aload_n 0, 1) := dk_0 (dk_k42 181) (dk_by (j := 5) rfl ck_X12_one_11_29mr rfl rfl rfl)
theorem dX12_one_185 : decode cX12_one 185 = .ok (.invokevirtual 352, 3) := dk_2 (dk_k182 185) (dk_by (j := 9) rfl ck_X12_one_11_29mr rfl rfl rfl) (dk_by (j := 10) rfl ck_X12_one_11_29mr rfl rfl rfl) (dk_by (j := 11) rfl ck_X12_one_11_29mr rfl rfl rfl) (by decide)
theorem dX12_one_188 : decode cX12_one 188 = .ok (.ifCond .eq 7, 3) := dk_s (dk_k153 188) (dk_by (j := 12) rfl ck_X12_one_11_29mr rfl rfl rfl) (dk_by (j := 13) rfl ck_X12_one_11_29mr rfl rfl rfl) (dk_by (j := 14) rfl ck_X12_one_11_29mr rfl rfl rfl) (by decide)
theorem dX12_one_195 : decode cX12_one 195 = .ok (.aload_n 0, 1) := dk_0 (dk_k42 195) (dk_by (j := 3) rfl ck_X12_one_12_29mr rfl rfl rfl)
theorem dX12_one_199 : decode cX12_one 199 = .ok (.invokevirtual 352, 3) := dk_2 (dk_k182 199) (dk_by (j := 7) rfl ck_X12_one_12_29mr rfl rfl rfl) (dk_by (j := 8) rfl ck_X12_one_12_29mr rfl rfl rfl) (dk_by (j := 9) rfl ck_X12_one_12_29mr rfl rfl rfl) (by decide)
theorem dX12_one_202 : decode cX12_one 202 = .ok (.ifCond .eq 7, 3) := dk_s (dk_k153 202) (dk_by (j := 10) rfl ck_X12_one_12_29mr rfl rfl rfl) (dk_by (j := 11) rfl ck_X12_one_12_29mr rfl rfl rfl) (dk_by (j := 12) rfl ck_X12_one_12_29mr rfl rfl rfl) (by decide)
theorem dX12_one_209 : decode cX12_one 209 = .ok (.aload_n 0, 1) := dk_0 (dk_k42 209) (dk_by (j := 1) rfl ck_X12_one_13_29mr rfl rfl rfl)
theorem dX12_one_213 : decode cX12_one 213 = .ok (.invokevirtual 352, 3) := dk_2 (dk_k182 213) (dk_by (j := 5) rfl ck_X12_one_13_29mr rfl rfl rfl) (dk_by (j := 6) rfl ck_X12_one_13_29mr rfl rfl rfl) (dk_by (j := 7) rfl ck_X12_one_13_29mr rfl rfl rfl) (by decide)
theorem dX12_one_216 : decode cX12_one 216 = .ok (.ifCond .eq 7, 3) := dk_s (dk_k153 216) (dk_by (j := 8) rfl ck_X12_one_13_29mr rfl rfl rfl) (dk_by (j := 9) rfl ck_X12_one_13_29mr rfl rfl rfl) (dk_by (j := 10) rfl ck_X12_one_13_29mr rfl rfl rfl) (by decide)
theorem dX12_one_223 : decode cX12_one 223 = .ok (.aload_n 0, 1) := dk_0 (dk_k42 223) (dk_by (j := 15) rfl ck_X12_one_13_29mr rfl rfl rfl)
theorem dX12_one_227 : decode cX12_one 227 = .ok (.invokevirtual 352, 3) := dk_2 (dk_k182 227) (dk_by (j := 3) rfl ck_X12_one_14_29mr rfl rfl rfl) (dk_by (j := 4) rfl ck_X12_one_14_29mr rfl rfl rfl) (dk_by (j := 5) rfl ck_X12_one_14_29mr rfl rfl rfl) (by decide)
theorem dX12_one_230 : decode cX12_one 230 = .ok (.ifCond .eq 7, 3) := dk_s (dk_k153 230) (dk_by (j := 6) rfl ck_X12_one_14_29mr rfl rfl rfl) (dk_by (j := 7) rfl ck_X12_one_14_29mr rfl rfl rfl) (dk_by (j := 8) rfl ck_X12_one_14_29mr rfl rfl rfl) (by decide)
theorem dX12_one_237 : decode cX12_one 237 = .ok (.aload_n 0, 1) := dk_0 (dk_k42 237) (dk_by (j := 13) rfl ck_X12_one_14_29mr rfl rfl rfl)
theorem dX12_one_241 : decode cX12_one 241 = .ok (.invokevirtual 352, 3) := dk_2 (dk_k182 241) (dk_by (j := 1) rfl ck_X12_one_15_29mr rfl rfl rfl) (dk_by (j := 2) rfl ck_X12_one_15_29mr rfl rfl rfl) (dk_by (j := 3) rfl ck_X12_one_15_29mr rfl rfl rfl) (by decide)
theorem dX12_one_244 : decode cX12_one 244 = .ok (.ifCond .eq 7, 3) := dk_s (dk_k153 244) (dk_by (j := 4) rfl ck_X12_one_15_29mr rfl rfl rfl) (dk_by (j := 5) rfl ck_X12_one_15_29mr rfl rfl rfl) (dk_by (j := 6) rfl ck_X12_one_15_29mr rfl rfl rfl) (by decide)
theorem dX12_one_251 : decode cX12_one 251 = .ok (.iconst (-1), 1) := dk_0 (dk_k2 251) (dk_by (j := 11) rfl ck_X12_one_15_29mr rfl rfl rfl)
theorem dX12_one_252 : decode cX12_one 252 = .ok (.istore_n 1, 1) := dk_0 (dk_k60 252) (dk_by (j := 12) rfl ck_X12_one_15_29mr rfl rfl rfl)
theorem dX12_one_247 : decode cX12_one 247 = .ok (.iconst 5, 1) := dk_0 (dk_k8 247) (dk_by (j := 7) rfl ck_X12_one_15_29mr rfl rfl rfl)
theorem dX12_one_248 : decode cX12_one 248 = .ok (.goto 4, 3) := dk_s (dk_k167 248) (dk_by (j := 8) rfl ck_X12_one_15_29mr rfl rfl rfl) (dk_by (j := 9) rfl ck_X12_one_15_29mr rfl rfl rfl) (dk_by (j := 10) rfl ck_X12_one_15_29mr rfl rfl rfl) (by decide)
theorem dX12_one_233 : decode cX12_one 233 = .ok (.iconst 4, 1) := dk_0 (dk_k7 233) (dk_by (j := 9) rfl ck_X12_one_14_29mr rfl rfl rfl)
theorem dX12_one_234 : decode cX12_one 234 = .ok (.goto 18, 3) := dk_s (dk_k167 234) (dk_by (j := 10) rfl ck_X12_one_14_29mr rfl rfl rfl) (dk_by (j := 11) rfl ck_X12_one_14_29mr rfl rfl rfl) (dk_by (j := 12) rfl ck_X12_one_14_29mr rfl rfl rfl) (by decide)
theorem dX12_one_219 : decode cX12_one 219 = .ok (.iconst 3, 1) := dk_0 (dk_k6 219) (dk_by (j := 11) rfl ck_X12_one_13_29mr rfl rfl rfl)
theorem dX12_one_220 : decode cX12_one 220 = .ok (.goto 32, 3) := dk_s (dk_k167 220) (dk_by (j := 12) rfl ck_X12_one_13_29mr rfl rfl rfl) (dk_by (j := 13) rfl ck_X12_one_13_29mr rfl rfl rfl) (dk_by (j := 14) rfl ck_X12_one_13_29mr rfl rfl rfl) (by decide)
theorem dX12_one_205 : decode cX12_one 205 = .ok (.iconst 2, 1) := dk_0 (dk_k5 205) (dk_by (j := 13) rfl ck_X12_one_12_29mr rfl rfl rfl)
theorem dX12_one_206 : decode cX12_one 206 = .ok (.goto 46, 3) := dk_s (dk_k167 206) (dk_by (j := 14) rfl ck_X12_one_12_29mr rfl rfl rfl) (dk_by (j := 15) rfl ck_X12_one_12_29mr rfl rfl rfl) (dk_by (j := 0) rfl ck_X12_one_13_29mr rfl rfl rfl) (by decide)
theorem dX12_one_191 : decode cX12_one 191 = .ok (.iconst 1, 1) := dk_0 (dk_k4 191) (dk_by (j := 15) rfl ck_X12_one_11_29mr rfl rfl rfl)
theorem dX12_one_192 : decode cX12_one 192 = .ok (.goto 60, 3) := dk_s (dk_k167 192) (dk_by (j := 0) rfl ck_X12_one_12_29mr rfl rfl rfl) (dk_by (j := 1) rfl ck_X12_one_12_29mr rfl rfl rfl) (dk_by (j := 2) rfl ck_X12_one_12_29mr rfl rfl rfl) (by decide)
theorem dX12_one_177 : decode cX12_one 177 = .ok (.iconst 0, 1) := dk_0 (dk_k3 177) (dk_by (j := 1) rfl ck_X12_one_11_29mr rfl rfl rfl)
theorem dX12_one_178 : decode cX12_one 178 = .ok (.goto 74, 3) := dk_s (dk_k167 178) (dk_by (j := 2) rfl ck_X12_one_11_29mr rfl rfl rfl) (dk_by (j := 3) rfl ck_X12_one_11_29mr rfl rfl rfl) (dk_by (j := 4) rfl ck_X12_one_11_29mr rfl rfl rfl) (by decide)
theorem dX12_one_56 : decode cX12_one 56 = .ok (.aload_n 0, 1) := dk_0 (dk_k42 56) (dk_by (j := 8) rfl ck_X12_one_3_29mr rfl rfl rfl)
theorem gX12_one_X12_opens : GoodIn wsX12_one (wsV RX12 380 RX12 yX12_opens wsX12_opens) := ru_gG (ru_gV tw_7_109 tw_7_111 tw_0_53 tw_1_12 mT_X12_opens)
theorem dX12_one_57 : decode cX12_one 57 = .ok (.invokevirtual 380, 3) := dk_2 (dk_k182 57) (dk_by (j := 9) rfl ck_X12_one_3_29mr rfl rfl rfl) (dk_by (j := 10) rfl ck_X12_one_3_29mr rfl rfl rfl) (dk_by (j := 11) rfl ck_X12_one_3_29mr rfl rfl rfl) (by decide)
theorem dX12_one_60 : decode cX12_one 60 = .ok (.ifCond .ne 5, 3) := dk_s (dk_k154 60) (dk_by (j := 12) rfl ck_X12_one_3_29mr rfl rfl rfl) (dk_by (j := 13) rfl ck_X12_one_3_29mr rfl rfl rfl) (dk_by (j := 14) rfl ck_X12_one_3_29mr rfl rfl rfl) (by decide)
theorem dX12_one_65 : decode cX12_one 65 = .ok (.aload_n 0, 1) := dk_0 (dk_k42 65) (dk_by (j := 1) rfl ck_X12_one_4_29mr rfl rfl rfl)
theorem dX12_one_63 : decode cX12_one 63 = .ok (.iconst 0, 1) := dk_0 (dk_k3 63) (dk_by (j := 15) rfl ck_X12_one_3_29mr rfl rfl rfl)
theorem dX12_one_64 : decode cX12_one 64 = .ok (.ireturn, 1) := dk_0 (dk_k172 64) (dk_by (j := 0) rfl ck_X12_one_4_29mr rfl rfl rfl)
theorem dX12_one_19 : decode cX12_one 19 = .ok (.aload_n 0, 1) := dk_0 (dk_k42 19) (dk_by (j := 3) rfl ck_X12_one_1_29mr rfl rfl rfl)
theorem dX12_one_20 : decode cX12_one 20 = .ok (.invokevirtual 380, 3) := dk_2 (dk_k182 20) (dk_by (j := 4) rfl ck_X12_one_1_29mr rfl rfl rfl) (dk_by (j := 5) rfl ck_X12_one_1_29mr rfl rfl rfl) (dk_by (j := 6) rfl ck_X12_one_1_29mr rfl rfl rfl) (by decide)
theorem dX12_one_23 : decode cX12_one 23 = .ok (.ifCond .ne 5, 3) := dk_s (dk_k154 23) (dk_by (j := 7) rfl ck_X12_one_1_29mr rfl rfl rfl) (dk_by (j := 8) rfl ck_X12_one_1_29mr rfl rfl rfl) (dk_by (j := 9) rfl ck_X12_one_1_29mr rfl rfl rfl) (by decide)
theorem dX12_one_28 : decode cX12_one 28 = .ok (.aload_n 0, 1) := dk_0 (dk_k42 28) (dk_by (j := 12) rfl ck_X12_one_1_29mr rfl rfl rfl)
theorem dX12_one_26 : decode cX12_one 26 = .ok (.iconst 0, 1) := dk_0 (dk_k3 26) (dk_by (j := 10) rfl ck_X12_one_1_29mr rfl rfl rfl)
theorem dX12_one_27 : decode cX12_one 27 = .ok (.ireturn, 1) := dk_0 (dk_k172 27) (dk_by (j := 11) rfl ck_X12_one_1_29mr rfl rfl rfl)
theorem dX12_one_7 : decode cX12_one 7 = .ok (.iconst 0, 1) := dk_0 (dk_k3 7) (dk_by (j := 7) rfl ck_X12_one_0_29mr rfl rfl rfl)
theorem dX12_one_8 : decode cX12_one 8 = .ok (.ireturn, 1) := dk_0 (dk_k172 8) (dk_by (j := 8) rfl ck_X12_one_0_29mr rfl rfl rfl)
theorem gX12_product_X12_one : GoodIn wsX12_product (wsV RX12 398 RX12 yX12_one wsX12_one) := ru_gG (ru_gV tw_7_125 tw_7_127 tw_0_57 tw_1_12 mT_X12_one)
theorem gX12_product_X12_take : GoodIn wsX12_product (wsV RX12 364 RX12 yX12_take wsX12_take) := ru_gG (ru_gV tw_7_88 tw_7_90 tw_0_48 tw_1_12 mT_X12_take)
theorem gX12_sum_X12_product : GoodIn wsX12_sum (wsV RX12 391 RX12 yX12_product wsX12_product) := ru_gG (ru_gV tw_7_121 tw_7_123 tw_0_56 tw_1_12 mT_X12_product)
theorem gX12_sum_X12_take : GoodIn wsX12_sum (wsV RX12 364 RX12 yX12_take wsX12_take) := ru_gG (ru_gV tw_7_88 tw_7_90 tw_0_48 tw_1_12 mT_X12_take)
theorem gX12_turned_X12_is : GoodIn wsX12_turned (wsV RX12 352 RX12 yX12_is wsX12_is) := ru_gG (ru_gV tw_7_92 tw_7_94 tw_0_49 tw_1_12 mT_X12_is)
theorem gX12_turned_X12_sum : GoodIn wsX12_turned (wsV RX12 384 RX12 yX12_sum wsX12_sum) := ru_gG (ru_gV tw_7_117 tw_7_119 tw_0_55 tw_1_12 mT_X12_sum)
theorem gX12_turned_X12_take : GoodIn wsX12_turned (wsV RX12 364 RX12 yX12_take wsX12_take) := ru_gG (ru_gV tw_7_88 tw_7_90 tw_0_48 tw_1_12 mT_X12_take)
theorem gX12_turned_X12_opens : GoodIn wsX12_turned (wsV RX12 380 RX12 yX12_opens wsX12_opens) := ru_gG (ru_gV tw_7_109 tw_7_111 tw_0_53 tw_1_12 mT_X12_opens)
theorem gX12_both_X12_turned : GoodIn wsX12_both (wsV RX12 367 RX12 yX12_turned wsX12_turned) := ru_gG (ru_gV tw_7_104 tw_7_106 tw_0_52 tw_1_12 mT_X12_turned)
theorem gX12_both_X12_take : GoodIn wsX12_both (wsV RX12 364 RX12 yX12_take wsX12_take) := ru_gG (ru_gV tw_7_88 tw_7_90 tw_0_48 tw_1_12 mT_X12_take)
theorem gX12_either_X12_both : GoodIn wsX12_either (wsV RX12 359 RX12 yX12_both wsX12_both) := ru_gG (ru_gV tw_7_100 tw_7_102 tw_0_51 tw_1_12 mT_X12_both)
theorem gX12_either_X12_take : GoodIn wsX12_either (wsV RX12 364 RX12 yX12_take wsX12_take) := ru_gG (ru_gV tw_7_88 tw_7_90 tw_0_48 tw_1_12 mT_X12_take)
theorem gX12_one_X12_either : GoodIn wsX12_one (wsV RX12 405 RX12 yX12_either wsX12_either) := ru_gG (ru_gV tw_7_96 tw_7_98 tw_0_50 tw_1_12 mT_X12_either)
theorem dX12_one_66 : decode cX12_one 66 = .ok (.invokevirtual 405, 3) := dk_2 (dk_k182 66) (dk_by (j := 2) rfl ck_X12_one_4_29mr rfl rfl rfl) (dk_by (j := 3) rfl ck_X12_one_4_29mr rfl rfl rfl) (dk_by (j := 4) rfl ck_X12_one_4_29mr rfl rfl rfl) (by decide)
theorem dX12_one_69 : decode cX12_one 69 = .ok (.istore_n 1, 1) := dk_0 (dk_k60 69) (dk_by (j := 5) rfl ck_X12_one_4_29mr rfl rfl rfl)
theorem dX12_one_70 : decode cX12_one 70 = .ok (.aload_n 0, 1) := dk_0 (dk_k42 70) (dk_by (j := 6) rfl ck_X12_one_4_29mr rfl rfl rfl)
theorem gX12_one_X12_take : GoodIn wsX12_one (wsV RX12 364 RX12 yX12_take wsX12_take) := ru_gG (ru_gV tw_7_88 tw_7_90 tw_0_48 tw_1_12 mT_X12_take)
theorem dX12_one_74 : decode cX12_one 74 = .ok (.invokevirtual 364, 3) := dk_2 (dk_k182 74) (dk_by (j := 10) rfl ck_X12_one_4_29mr rfl rfl rfl) (dk_by (j := 11) rfl ck_X12_one_4_29mr rfl rfl rfl) (dk_by (j := 12) rfl ck_X12_one_4_29mr rfl rfl rfl) (by decide)
theorem dX12_one_77 : decode cX12_one 77 = .ok (.ifCond .ne 8, 3) := dk_s (dk_k154 77) (dk_by (j := 13) rfl ck_X12_one_4_29mr rfl rfl rfl) (dk_by (j := 14) rfl ck_X12_one_4_29mr rfl rfl rfl) (dk_by (j := 15) rfl ck_X12_one_4_29mr rfl rfl rfl) (by decide)
theorem dX12_one_85 : decode cX12_one 85 = .ok (.aload_n 0, 1) := dk_0 (dk_k42 85) (dk_by (j := 5) rfl ck_X12_one_5_29mr rfl rfl rfl)
theorem dX12_one_86 : decode cX12_one 86 = .ok (.dup, 1) := dk_0 (dk_k89 86) (dk_by (j := 6) rfl ck_X12_one_5_29mr rfl rfl rfl)
theorem dX12_one_87 : decode cX12_one 87 = .ok (.getfield 372, 3) := dk_2 (dk_k180 87) (dk_by (j := 7) rfl ck_X12_one_5_29mr rfl rfl rfl) (dk_by (j := 8) rfl ck_X12_one_5_29mr rfl rfl rfl) (dk_by (j := 9) rfl ck_X12_one_5_29mr rfl rfl rfl) (by decide)
theorem dX12_one_90 : decode cX12_one 90 = .ok (.iconst 1, 1) := dk_0 (dk_k4 90) (dk_by (j := 10) rfl ck_X12_one_5_29mr rfl rfl rfl)
theorem dX12_one_91 : decode cX12_one 91 = .ok (.isub, 1) := dk_0 (dk_k100 91) (dk_by (j := 11) rfl ck_X12_one_5_29mr rfl rfl rfl)
theorem dX12_one_92 : decode cX12_one 92 = .ok (.putfield 372, 3) := dk_2 (dk_k181 92) (dk_by (j := 12) rfl ck_X12_one_5_29mr rfl rfl rfl) (dk_by (j := 13) rfl ck_X12_one_5_29mr rfl rfl rfl) (dk_by (j := 14) rfl ck_X12_one_5_29mr rfl rfl rfl) (by decide)
theorem dX12_one_95 : decode cX12_one 95 = .ok (.iload_n 1, 1) := dk_0 (dk_k27 95) (dk_by (j := 15) rfl ck_X12_one_5_29mr rfl rfl rfl)
theorem dX12_one_96 : decode cX12_one 96 = .ok (.ireturn, 1) := dk_0 (dk_k172 96) (dk_by (j := 0) rfl ck_X12_one_6_29mr rfl rfl rfl)
theorem dX12_one_80 : decode cX12_one 80 = .ok (.aload_n 0, 1) := dk_0 (dk_k42 80) (dk_by (j := 0) rfl ck_X12_one_5_29mr rfl rfl rfl)
theorem dX12_one_81 : decode cX12_one 81 = .ok (.invokevirtual 375, 3) := dk_2 (dk_k182 81) (dk_by (j := 1) rfl ck_X12_one_5_29mr rfl rfl rfl) (dk_by (j := 2) rfl ck_X12_one_5_29mr rfl rfl rfl) (dk_by (j := 3) rfl ck_X12_one_5_29mr rfl rfl rfl) (by decide)
theorem dX12_one_84 : decode cX12_one 84 = .ok (.ireturn, 1) := dk_0 (dk_k172 84) (dk_by (j := 4) rfl ck_X12_one_5_29mr rfl rfl rfl)
theorem gX12_one_X12_one : GoodIn wsX12_one (wsV RX12 398 RX12 yX12_one wsX12_one) := ru_gG (ru_gV tw_7_125 tw_7_127 tw_0_57 tw_1_12 mT_X12_one)
theorem dX12_one_29 : decode cX12_one 29 = .ok (.invokevirtual 398, 3) := dk_2 (dk_k182 29) (dk_by (j := 13) rfl ck_X12_one_1_29mr rfl rfl rfl) (dk_by (j := 14) rfl ck_X12_one_1_29mr rfl rfl rfl) (dk_by (j := 15) rfl ck_X12_one_1_29mr rfl rfl rfl) (by decide)
theorem dX12_one_32 : decode cX12_one 32 = .ok (.istore_n 1, 1) := dk_0 (dk_k60 32) (dk_by (j := 0) rfl ck_X12_one_2_29mr rfl rfl rfl)
theorem dX12_one_33 : decode cX12_one 33 = .ok (.aload_n 0, 1) := dk_0 (dk_k42 33) (dk_by (j := 1) rfl ck_X12_one_2_29mr rfl rfl rfl)
theorem dX12_one_34 : decode cX12_one 34 = .ok (.dup, 1) := dk_0 (dk_k89 34) (dk_by (j := 2) rfl ck_X12_one_2_29mr rfl rfl rfl)
theorem dX12_one_35 : decode cX12_one 35 = .ok (.getfield 372, 3) := dk_2 (dk_k180 35) (dk_by (j := 3) rfl ck_X12_one_2_29mr rfl rfl rfl) (dk_by (j := 4) rfl ck_X12_one_2_29mr rfl rfl rfl) (dk_by (j := 5) rfl ck_X12_one_2_29mr rfl rfl rfl) (by decide)
theorem dX12_one_38 : decode cX12_one 38 = .ok (.iconst 1, 1) := dk_0 (dk_k4 38) (dk_by (j := 6) rfl ck_X12_one_2_29mr rfl rfl rfl)
theorem dX12_one_39 : decode cX12_one 39 = .ok (.isub, 1) := dk_0 (dk_k100 39) (dk_by (j := 7) rfl ck_X12_one_2_29mr rfl rfl rfl)
theorem dX12_one_40 : decode cX12_one 40 = .ok (.putfield 372, 3) := dk_2 (dk_k181 40) (dk_by (j := 8) rfl ck_X12_one_2_29mr rfl rfl rfl) (dk_by (j := 9) rfl ck_X12_one_2_29mr rfl rfl rfl) (dk_by (j := 10) rfl ck_X12_one_2_29mr rfl rfl rfl) (by decide)
theorem dX12_one_43 : decode cX12_one 43 = .ok (.iload_n 1, 1) := dk_0 (dk_k27 43) (dk_by (j := 11) rfl ck_X12_one_2_29mr rfl rfl rfl)
theorem dX12_one_45 : decode cX12_one 45 = .ok (.ireturn, 1) := dk_0 (dk_k172 45) (dk_by (j := 13) rfl ck_X12_one_2_29mr rfl rfl rfl)
theorem gX12_turned_X12_turned : GoodIn wsX12_turned (wsV RX12 367 RX12 yX12_turned wsX12_turned) := ru_gG (ru_gV tw_7_104 tw_7_106 tw_0_52 tw_1_12 mT_X12_turned)
set_option maxHeartbeats 400000 in
set_option maxRecDepth 20000 in
theorem fc_X12_byteAt (l : Launch) (D : va_G) (ad : Nat → Nat → Nat) (C : Nat → Nat → ClassId) (nb : Nat) (M : fm_M) (hI : fm_I nb ad M) (p0 : Int32) (b_p0 : 0 ≤ p0.toInt ∧ p0.toInt ≤ 400) : Met l yX12_byteAt wsX12_byteAt ({ frames := 0, cells := 0, slots := 0, locals := 0 }) (va_Pc [.ref (ad 60 0), .int p0] (fm_P D ad C nb M)) (vp_Si (fun r : Int32 => True)) 0 0 (fun _ => False) := by
  refine Met.ofW (cc := cX12_byteAt) (maxL := 2) (ret := (some .int)) (by decide) rfl ?_
  intro p e s m args below meth c s₁ B hml hv
  obtain ⟨rfl, hw, hc⟩ := hv
  have hx := B.exec
  have hb := B.bytes
  have hr := B.returns
  have hts := atoms_spec (ws := wsX12_byteAt) B.pre
  have hown : s.vm.findClass RX12 = some m.cls := findClass_of_methodNamed B.named
  have hinX12 : ∀ w ∈ u_ws RX12 TX12 79, w ∈ wsX12_byteAt := fun w h => List.mem_cons_of_mem _ (iT_X12 w h)
  have hS : va_S (fm_A nb ad) s.heap s.heap [] := va_S.rf
  have hl := lv_entry ([.ref (ad 60 0), .int p0]) (n := 2) (Nat.le_of_ble_eq_true rfl)
  rw [lg_entry_eq]
  generalize (lg_sl ([.ref (ad 60 0), .int p0]) ++ List.replicate (2 - (lg_sl ([.ref (ad 60 0), .int p0])).length) Slot.unset).toArray = ls at hl ⊢
  have hl : lv_has ls 2 [(0, .ref (ad 60 0)), (1, .int p0)] := hl
  refine lv_iload_n hx hb dX12_byteAt_0 rfl (lv_at hl 1 rfl) ?_
  refine lv_aload_n hx hb dX12_byteAt_1 rfl (lv_at hl 0 rfl) ?_
  refine fm_getI (a := 60) (j := 63) (T := TX12) (N := 79) hx hb hts hinX12 hown hc hw hI kl_60 sh_60 rfl (by decide) rfl bd_60_63 (hts (.fieldLink RX12 328 "RedTentModel" "ends" "I") (List.mem_cons_of_mem _ tw_5_183)) (fun _ h9 => h9) dX12_byteAt_2 (fun x1 ex1 bx1 => ?_)
  refine fx_icmp_ge (tgt := 38) hx hb dX12_byteAt_5 (by decide) rfl rfl (fun c2 => ?_) (fun c2 => ?_)
  · refine lv_iconst (v := 0) hx hb dX12_byteAt_38 (by decide) ?_
    exact W.iret (v := 0) hx hb hr (fun t ht hW => ⟨0, rfl, trivial, ht⟩) (fun _ h => absurd h List.not_mem_nil) dX12_byteAt_39
  · refine lv_aload_n hx hb dX12_byteAt_8 rfl (lv_at hl 0 rfl) ?_
    refine fm_getI (a := 60) (j := 62) (T := TX12) (N := 79) hx hb hts hinX12 hown hc hw hI kl_60 sh_60 rfl (by decide) rfl bd_60_62 (hts (.fieldLink RX12 331 "RedTentModel" "base" "I") (List.mem_cons_of_mem _ tw_5_182)) (fun _ h9 => h9) dX12_byteAt_9 (fun x3 ex3 bx3 => ?_)
    refine fx_if_ge (tgt := 24) hx hb dX12_byteAt_12 (by decide) rfl (fun c4 => ?_) (fun c4 => ?_)
    · refine lv_aload_n hx hb dX12_byteAt_24 rfl (lv_at hl 0 rfl) ?_
      refine fm_getG (a := 60) (j := 53) (T := TX12) (N := 79) hx hb hts hinX12 hown hc hw kl_60 sh_60 rfl (by decide) rfl (hI.to kl_60 tg_60_53) (hts (.fieldLink RX12 128 "RedTentModel" "text" "[I") (List.mem_cons_of_mem _ tw_5_173)) (fun _ h9 => h9) dX12_byteAt_25 ?_
      refine lv_aload_n hx hb dX12_byteAt_28 rfl (lv_at hl 0 rfl) ?_
      refine fm_getI (a := 60) (j := 62) (T := TX12) (N := 79) hx hb hts hinX12 hown hc hw hI kl_60 sh_60 rfl (by decide) rfl bd_60_62 (hts (.fieldLink RX12 331 "RedTentModel" "base" "I") (List.mem_cons_of_mem _ tw_5_182)) (fun _ h9 => h9) dX12_byteAt_29 (fun x5 ex5 bx5 => ?_)
      obtain rfl : x3 = x5 := by rw [ex5]; exact ex3
      refine lv_iload_n hx hb dX12_byteAt_32 rfl (lv_at hl 1 rfl) ?_
      refine fx_iadd hx hb dX12_byteAt_33 rfl rfl (by omega) (fun y6 ey6 ty6 => ?_)
      refine fm_iald (a := 153) hx hb hc hw hI kl_153 sh_153 ty_153 bd_153 (by omega) dX12_byteAt_34 (fun x7 ex7 bx7 => ?_)
      refine lv_goto (tgt := 39) hx hb dX12_byteAt_35 (by decide) ?_
      exact W.iret (v := x7) hx hb hr (fun t ht hW => ⟨x7, rfl, trivial, ht⟩) (fun _ h => absurd h List.not_mem_nil) dX12_byteAt_39
    · refine lv_aload_n hx hb dX12_byteAt_15 rfl (lv_at hl 0 rfl) ?_
      refine fm_getG (a := 60) (j := 51) (T := TX12) (N := 79) hx hb hts hinX12 hown hc hw kl_60 sh_60 rfl (by decide) rfl (hI.to kl_60 tg_60_51) (hts (.fieldLink RX12 125 "RedTentModel" "tape" "[I") (List.mem_cons_of_mem _ tw_5_171)) (fun _ h9 => h9) dX12_byteAt_16 ?_
      refine lv_iload_n hx hb dX12_byteAt_19 rfl (lv_at hl 1 rfl) ?_
      refine fm_iald (a := 151) hx hb hc hw hI kl_151 sh_151 ty_151 bd_151 (by omega) dX12_byteAt_20 (fun x8 ex8 bx8 => ?_)
      refine lv_goto (tgt := 39) hx hb dX12_byteAt_21 (by decide) ?_
      exact W.iret (v := x8) hx hb hr (fun t ht hW => ⟨x8, rfl, trivial, ht⟩) (fun _ h => absurd h List.not_mem_nil) dX12_byteAt_39
set_option maxHeartbeats 400000 in
set_option maxRecDepth 20000 in
theorem fc_X12_isLetter (l : Launch) (D : va_G) (ad : Nat → Nat → Nat) (C : Nat → Nat → ClassId) (nb : Nat) (M : fm_M) (hI : fm_I nb ad M) (p0 : Int32) (b_p0 : 0 ≤ p0.toInt ∧ p0.toInt ≤ 400) : Met l yX12_isLetter wsX12_isLetter ({ frames := 1, cells := 0, slots := 0, locals := 22 }) (va_Pc [.ref (ad 60 0), .int p0] (fm_P D ad C nb M)) (vp_Si (fun r : Int32 => ((r = 1 ∧ (p0.toInt < (M.1 60 0 63).toInt)) ∨ (r = 0 ∧ True)))) 0 0 (fun _ => False) := by
  refine Met.ofW (cc := cX12_isLetter) (maxL := 2) (ret := (some .boolean)) (by decide) rfl ?_
  intro p e s m args below meth c s₁ B hml hv
  obtain ⟨rfl, hw, hc⟩ := hv
  have hx := B.exec
  have hb := B.bytes
  have hr := B.returns
  have hts := atoms_spec (ws := wsX12_isLetter) B.pre
  have hown : s.vm.findClass RX12 = some m.cls := findClass_of_methodNamed B.named
  have hinX12 : ∀ w ∈ u_ws RX12 TX12 79, w ∈ wsX12_isLetter := fun w h => List.mem_cons_of_mem _ (iT_X12 w h)
  have hS : va_S (fm_A nb ad) s.heap s.heap [] := va_S.rf
  have hl := lv_entry ([.ref (ad 60 0), .int p0]) (n := 2) (Nat.le_of_ble_eq_true rfl)
  rw [lg_entry_eq]
  generalize (lg_sl ([.ref (ad 60 0), .int p0]) ++ List.replicate (2 - (lg_sl ([.ref (ad 60 0), .int p0])).length) Slot.unset).toArray = ls at hl ⊢
  have hl : lv_has ls 2 [(0, .ref (ad 60 0)), (1, .int p0)] := hl
  refine lv_iload_n hx hb dX12_isLetter_0 rfl (lv_at hl 1 rfl) ?_
  refine lv_aload_n hx hb dX12_isLetter_1 rfl (lv_at hl 0 rfl) ?_
  refine fm_getI (a := 60) (j := 63) (T := TX12) (N := 79) hx hb hts hinX12 hown hc hw hI kl_60 sh_60 rfl (by decide) rfl bd_60_63 (hts (.fieldLink RX12 328 "RedTentModel" "ends" "I") (List.mem_cons_of_mem _ tw_5_183)) (fun _ h9 => h9) dX12_isLetter_2 (fun x1 ex1 bx1 => ?_)
  refine fx_icmp_ge (tgt := 27) hx hb dX12_isLetter_5 (by decide) rfl rfl (fun c2 => ?_) (fun c2 => ?_)
  · refine lv_iconst (v := 0) hx hb dX12_isLetter_27 (by decide) ?_
    have qx1 : x1.toInt = (M.1 60 0 63).toInt := by rw [ex1]
    exact W.zret (v := 0) hx hb hr rfl (fun t ht hW => ⟨0, rfl, Or.inr ⟨rfl, trivial⟩, ht⟩) (fun _ h => absurd h List.not_mem_nil) dX12_isLetter_28
  · refine lv_aload_n hx hb dX12_isLetter_8 rfl (lv_at hl 0 rfl) ?_
    refine lv_iload_n hx hb dX12_isLetter_9 rfl (lv_at hl 1 rfl) ?_
    refine vp_callSi (va_Run.run (va_runV (As := [.int p0]) (rest := []) ⟨hx, hb, hml, hown, hts⟩ (fc_X12_byteAt l D ad C nb M hI p0 (by omega)) (cwV 1 hts gX12_isLetter_X12_byteAt rfl rfl rfl (by decide +kernel) ⟨Nat.le_of_ble_eq_true rfl, Nat.le_of_ble_eq_true rfl⟩) (fm_preV hc hw hS kl_60 sh_60 rfl) rfl rfl hl.1 rfl (lv_room (Nat.le_of_ble_eq_true rfl)) dX12_isLetter_10 ⟨by decide +kernel, by decide +kernel⟩)) (fun r3 hr3 => ?_)
    refine lv_bipush (v := 97) hx hb dX12_isLetter_13 (by decide) ?_
    refine lv_bipush (v := 122) hx hb dX12_isLetter_15 (by decide) ?_
    have zz4 := zk_97
    have zz5 := zk_122
    refine vp_callSi (va_Run.run (va_runS (As := [.int r3, .int 97, .int 122]) (rest := []) ⟨hx, hb, hml, hown, hts⟩ (fc_X12_within l r3 97 122) (va_cwS 3 hts gX12_isLetter_X12_within rfl rfl rfl (by decide +kernel) ⟨Nat.le_of_ble_eq_true rfl, Nat.le_of_ble_eq_true rfl⟩) ⟨fun a U g mk q => q, fun U hU hW => ⟨rfl, trivial⟩⟩ rfl rfl hl.1 rfl (lv_room (Nat.le_of_ble_eq_true rfl)) dX12_isLetter_17 ⟨by decide +kernel, by decide +kernel⟩)) (fun r6 hr6 => ?_)
    rcases hr6 with ⟨rfl, c7⟩ | ⟨rfl, c7⟩
    · refine fx_if_eq (tgt := 27) hx hb dX12_isLetter_20 (by decide) zk_1 (fun c8 => by exfalso; omega) (fun c8 => ?_)
      refine lv_iconst (v := 1) hx hb dX12_isLetter_23 (by decide) ?_
      refine lv_goto (tgt := 28) hx hb dX12_isLetter_24 (by decide) ?_
      have qx1 : x1.toInt = (M.1 60 0 63).toInt := by rw [ex1]
      exact W.zret (v := 1) hx hb hr rfl (fun t ht hW => ⟨1, rfl, Or.inl ⟨rfl, (by omega)⟩, ht⟩) (fun _ h => absurd h List.not_mem_nil) dX12_isLetter_28
    · refine fx_if_eq (tgt := 27) hx hb dX12_isLetter_20 (by decide) zk_0 (fun c9 => ?_) (fun c9 => by exfalso; omega)
      refine lv_iconst (v := 0) hx hb dX12_isLetter_27 (by decide) ?_
      have qx1 : x1.toInt = (M.1 60 0 63).toInt := by rw [ex1]
      exact W.zret (v := 0) hx hb hr rfl (fun t ht hW => ⟨0, rfl, Or.inr ⟨rfl, trivial⟩, ht⟩) (fun _ h => absurd h List.not_mem_nil) dX12_isLetter_28
set_option maxHeartbeats 400000 in
set_option maxRecDepth 20000 in
theorem fc_X12_isDigit (l : Launch) (D : va_G) (ad : Nat → Nat → Nat) (C : Nat → Nat → ClassId) (nb : Nat) (M : fm_M) (hI : fm_I nb ad M) (p0 : Int32) (b_p0 : 0 ≤ p0.toInt ∧ p0.toInt ≤ 400) : Met l yX12_isDigit wsX12_isDigit ({ frames := 1, cells := 0, slots := 0, locals := 22 }) (va_Pc [.ref (ad 60 0), .int p0] (fm_P D ad C nb M)) (vp_Si (fun r : Int32 => ((r = 1 ∧ (p0.toInt < (M.1 60 0 63).toInt)) ∨ (r = 0 ∧ True)))) 0 0 (fun _ => False) := by
  refine Met.ofW (cc := cX12_isDigit) (maxL := 2) (ret := (some .boolean)) (by decide) rfl ?_
  intro p e s m args below meth c s₁ B hml hv
  obtain ⟨rfl, hw, hc⟩ := hv
  have hx := B.exec
  have hb := B.bytes
  have hr := B.returns
  have hts := atoms_spec (ws := wsX12_isDigit) B.pre
  have hown : s.vm.findClass RX12 = some m.cls := findClass_of_methodNamed B.named
  have hinX12 : ∀ w ∈ u_ws RX12 TX12 79, w ∈ wsX12_isDigit := fun w h => List.mem_cons_of_mem _ (iT_X12 w h)
  have hS : va_S (fm_A nb ad) s.heap s.heap [] := va_S.rf
  have hl := lv_entry ([.ref (ad 60 0), .int p0]) (n := 2) (Nat.le_of_ble_eq_true rfl)
  rw [lg_entry_eq]
  generalize (lg_sl ([.ref (ad 60 0), .int p0]) ++ List.replicate (2 - (lg_sl ([.ref (ad 60 0), .int p0])).length) Slot.unset).toArray = ls at hl ⊢
  have hl : lv_has ls 2 [(0, .ref (ad 60 0)), (1, .int p0)] := hl
  refine lv_iload_n hx hb dX12_isDigit_0 rfl (lv_at hl 1 rfl) ?_
  refine lv_aload_n hx hb dX12_isDigit_1 rfl (lv_at hl 0 rfl) ?_
  refine fm_getI (a := 60) (j := 63) (T := TX12) (N := 79) hx hb hts hinX12 hown hc hw hI kl_60 sh_60 rfl (by decide) rfl bd_60_63 (hts (.fieldLink RX12 328 "RedTentModel" "ends" "I") (List.mem_cons_of_mem _ tw_5_183)) (fun _ h9 => h9) dX12_isDigit_2 (fun x1 ex1 bx1 => ?_)
  refine fx_icmp_ge (tgt := 27) hx hb dX12_isDigit_5 (by decide) rfl rfl (fun c2 => ?_) (fun c2 => ?_)
  · refine lv_iconst (v := 0) hx hb dX12_isDigit_27 (by decide) ?_
    have qx1 : x1.toInt = (M.1 60 0 63).toInt := by rw [ex1]
    exact W.zret (v := 0) hx hb hr rfl (fun t ht hW => ⟨0, rfl, Or.inr ⟨rfl, trivial⟩, ht⟩) (fun _ h => absurd h List.not_mem_nil) dX12_isDigit_28
  · refine lv_aload_n hx hb dX12_isDigit_8 rfl (lv_at hl 0 rfl) ?_
    refine lv_iload_n hx hb dX12_isDigit_9 rfl (lv_at hl 1 rfl) ?_
    refine vp_callSi (va_Run.run (va_runV (As := [.int p0]) (rest := []) ⟨hx, hb, hml, hown, hts⟩ (fc_X12_byteAt l D ad C nb M hI p0 (by omega)) (cwV 1 hts gX12_isDigit_X12_byteAt rfl rfl rfl (by decide +kernel) ⟨Nat.le_of_ble_eq_true rfl, Nat.le_of_ble_eq_true rfl⟩) (fm_preV hc hw hS kl_60 sh_60 rfl) rfl rfl hl.1 rfl (lv_room (Nat.le_of_ble_eq_true rfl)) dX12_isDigit_10 ⟨by decide +kernel, by decide +kernel⟩)) (fun r3 hr3 => ?_)
    refine lv_bipush (v := 48) hx hb dX12_isDigit_13 (by decide) ?_
    refine lv_bipush (v := 57) hx hb dX12_isDigit_15 (by decide) ?_
    have zz4 := zk_48
    have zz5 := zk_57
    refine vp_callSi (va_Run.run (va_runS (As := [.int r3, .int 48, .int 57]) (rest := []) ⟨hx, hb, hml, hown, hts⟩ (fc_X12_within l r3 48 57) (va_cwS 3 hts gX12_isDigit_X12_within rfl rfl rfl (by decide +kernel) ⟨Nat.le_of_ble_eq_true rfl, Nat.le_of_ble_eq_true rfl⟩) ⟨fun a U g mk q => q, fun U hU hW => ⟨rfl, trivial⟩⟩ rfl rfl hl.1 rfl (lv_room (Nat.le_of_ble_eq_true rfl)) dX12_isDigit_17 ⟨by decide +kernel, by decide +kernel⟩)) (fun r6 hr6 => ?_)
    rcases hr6 with ⟨rfl, c7⟩ | ⟨rfl, c7⟩
    · refine fx_if_eq (tgt := 27) hx hb dX12_isDigit_20 (by decide) zk_1 (fun c8 => by exfalso; omega) (fun c8 => ?_)
      refine lv_iconst (v := 1) hx hb dX12_isDigit_23 (by decide) ?_
      refine lv_goto (tgt := 28) hx hb dX12_isDigit_24 (by decide) ?_
      have qx1 : x1.toInt = (M.1 60 0 63).toInt := by rw [ex1]
      exact W.zret (v := 1) hx hb hr rfl (fun t ht hW => ⟨1, rfl, Or.inl ⟨rfl, (by omega)⟩, ht⟩) (fun _ h => absurd h List.not_mem_nil) dX12_isDigit_28
    · refine fx_if_eq (tgt := 27) hx hb dX12_isDigit_20 (by decide) zk_0 (fun c9 => ?_) (fun c9 => by exfalso; omega)
      refine lv_iconst (v := 0) hx hb dX12_isDigit_27 (by decide) ?_
      have qx1 : x1.toInt = (M.1 60 0 63).toInt := by rw [ex1]
      exact W.zret (v := 0) hx hb hr rfl (fun t ht hW => ⟨0, rfl, Or.inr ⟨rfl, trivial⟩, ht⟩) (fun _ h => absurd h List.not_mem_nil) dX12_isDigit_28
set_option maxHeartbeats 400000 in
set_option maxRecDepth 20000 in
theorem fc_X12_is (l : Launch) (D : va_G) (ad : Nat → Nat → Nat) (C : Nat → Nat → ClassId) (nb : Nat) (M : fm_M) (hI : fm_I nb ad M) (q v N : Nat) (f : Nat → Int32) (hN : 1 ≤ N ∧ N ≤ 50) : Met l yX12_is wsX12_is ({ frames := 4, cells := 0, slots := 0, locals := 85 }) (va_Pc [.ref (ad 60 0), .ref q] (fun U => fm_P D ad C nb M U ∧ rt_Str q v N f (fm_A nb ad) U U.heap)) (vp_Si (fun r : Int32 => (0 ≤ r.toInt ∧ r.toInt ≤ 1) ∧ (r.toInt = 1 → ((M.1 60 0 64).toInt < (M.1 60 0 63).toInt ∧ (M.1 60 0 65).toInt - (M.1 60 0 64).toInt = N)))) 0 0 (fun _ => False) := by
  refine Met.ofW (cc := cX12_is) (maxL := 4) (ret := (some .boolean)) (by decide) rfl ?_
  intro p e s m args below meth c s₁ B hml hv
  obtain ⟨rfl, ⟨hw, hc⟩, hQq⟩ := hv
  have hx := B.exec
  have hb := B.bytes
  have hr := B.returns
  have hts := atoms_spec (ws := wsX12_is) B.pre
  have hown : s.vm.findClass RX12 = some m.cls := findClass_of_methodNamed B.named
  have hinX12 : ∀ w ∈ u_ws RX12 TX12 79, w ∈ wsX12_is := fun w h => List.mem_cons_of_mem _ (iT_X12 w h)
  have hS : va_S (fm_A nb ad) s.heap s.heap [] := va_S.rf
  have hl := lv_entry ([.ref (ad 60 0), .ref q]) (n := 4) (Nat.le_of_ble_eq_true rfl)
  rw [lg_entry_eq]
  generalize (lg_sl ([.ref (ad 60 0), .ref q]) ++ List.replicate (4 - (lg_sl ([.ref (ad 60 0), .ref q])).length) Slot.unset).toArray = ls at hl ⊢
  have hl : lv_has ls 4 [(0, .ref (ad 60 0)), (1, .ref q)] := hl
  have jt : ∀ (jt_2 : Int32), (0 ≤ jt_2.toInt ∧ jt_2.toInt ≤ 1) → (jt_2.toInt = 1 → ((M.1 60 0 64).toInt < (M.1 60 0 63).toInt ∧ (M.1 60 0 65).toInt - (M.1 60 0 64).toInt = N)) → ∀ (ls : Array Slot), lv_has ls 4 [(0, .ref (ad 60 0)), (1, .ref q), (2, .int jt_2)] → W p l e (headSpec wsX12_is ({ frames := 4, cells := 0, slots := 0, locals := 85 })).room s m ([.ref (ad 60 0), .ref q] : List Value).toArray below meth c s.heap [] 0 0 (MQ below (vp_Si (fun r : Int32 => (0 ≤ r.toInt ∧ r.toInt ≤ 1) ∧ (r.toInt = 1 → ((M.1 60 0 64).toInt < (M.1 60 0 63).toInt ∧ (M.1 60 0 65).toInt - (M.1 60 0 64).toInt = N)))) ([.ref (ad 60 0), .ref q] : List Value).toArray s 0 0 (fun _ => False)) (F0 m 33 ls []) := by
    intro jt_2 b_jt_2 hi ls hl
    refine lv_iconst (v := 0) hx hb dX12_is_33 (by decide) ?_
    refine lv_istore_n (lv' := [(3, .int 0), (0, .ref (ad 60 0)), (1, .ref q), (2, .int jt_2)]) hx hb dX12_is_34 rfl hl (by decide) rfl (fun ls hl => ?_)
    have lp : ∀ (n_lp : Nat) (lp_3 : Int32) (lp_2 : Int32), (50 - lp_3.toInt).toNat < n_lp → (0 ≤ lp_3.toInt ∧ lp_3.toInt ≤ 50) → (0 ≤ lp_2.toInt ∧ lp_2.toInt ≤ 1) → (lp_2.toInt = 1 → ((M.1 60 0 64).toInt < (M.1 60 0 63).toInt ∧ (M.1 60 0 65).toInt - (M.1 60 0 64).toInt = N)) → ∀ (ls : Array Slot), lv_has ls 4 [(3, .int lp_3), (0, .ref (ad 60 0)), (1, .ref q), (2, .int lp_2)] → W p l e (headSpec wsX12_is ({ frames := 4, cells := 0, slots := 0, locals := 85 })).room s m ([.ref (ad 60 0), .ref q] : List Value).toArray below meth c s.heap [] 0 0 (MQ below (vp_Si (fun r : Int32 => (0 ≤ r.toInt ∧ r.toInt ≤ 1) ∧ (r.toInt = 1 → ((M.1 60 0 64).toInt < (M.1 60 0 63).toInt ∧ (M.1 60 0 65).toInt - (M.1 60 0 64).toInt = N)))) ([.ref (ad 60 0), .ref q] : List Value).toArray s 0 0 (fun _ => False)) (F0 m 35 ls []) := by
      intro n_lp
      induction n_lp with
      | zero => intro lp_3 lp_2 hm_lp b_lp_3 b_lp_2 hi ls hl; exact absurd hm_lp (Nat.not_lt_zero _)
      | succ n_lp ih_lp =>
        intro lp_3 lp_2 hm_lp b_lp_3 b_lp_2 hi ls hl
        refine lv_iload_n hx hb dX12_is_35 rfl (lv_at hl 0 rfl) ?_
        refine lv_aload_n hx hb dX12_is_36 rfl (lv_at hl 2 rfl) ?_
        refine vp_callSi (va_Run.run (va_runV (As := []) (rest := [.int lp_3]) ⟨hx, hb, hml, hown, hts⟩ (rt_J0_length l D.1 D.2 q v N f) (cwV 0 hts gX12_is_J0_length_8abf5 rfl rfl rfl (by decide +kernel) ⟨Nat.le_of_ble_eq_true rfl, Nat.le_of_ble_eq_true rfl⟩) ⟨fun a U g mk q => by obtain ⟨q0, qP, qK, qe0⟩ := q; exact ⟨q0, qP, va_K.moved (u := U) (U := U.calling g mk a) (Vm.Alike.refl U.vm) qK, rt_Str.same qe0⟩, rt_recv hQq.1 hS, fun U hU hW => ⟨rfl, fun i z hz => by simp at hz, va_K.moved hW.alike hc.2.1.1, rt_Str.give hQq hS (fun _ h => h.elim) hU hW.alike⟩⟩ rfl rfl hl.1 rfl (lv_room (Nat.le_of_ble_eq_true rfl)) dX12_is_37 ⟨by decide +kernel, by decide +kernel⟩)) (fun r1 hr1 => ?_)
        have tr1 : r1.toInt = N := by rw [hr1]; exact zi_ofN (by omega)
        refine fx_icmp_ge (tgt := 77) hx hb dX12_is_40 (by decide) rfl rfl (fun c2 => ?_) (fun c2 => ?_)
        · refine lv_iload_n hx hb dX12_is_77 rfl (lv_at hl 3 rfl) ?_
          exact W.zret (v := lp_2) hx hb hr (zi_nar (by omega)) (fun t ht hW => ⟨lp_2, rfl, ⟨(by omega), (by omega)⟩, ht⟩) (fun _ h => absurd h List.not_mem_nil) dX12_is_78
        · refine lv_iload_n hx hb dX12_is_43 rfl (lv_at hl 3 rfl) ?_
          refine fx_if_eq (tgt := 77) hx hb dX12_is_44 (by decide) rfl (fun c3 => ?_) (fun c3 => ?_)
          · refine lv_iload_n hx hb dX12_is_77 rfl (lv_at hl 3 rfl) ?_
            exact W.zret (v := lp_2) hx hb hr (zi_nar (by omega)) (fun t ht hW => ⟨lp_2, rfl, ⟨(by omega), (by omega)⟩, ht⟩) (fun _ h => absurd h List.not_mem_nil) dX12_is_78
          · refine lv_aload_n hx hb dX12_is_47 rfl (lv_at hl 1 rfl) ?_
            refine lv_aload_n hx hb dX12_is_48 rfl (lv_at hl 1 rfl) ?_
            refine fm_getI (a := 60) (j := 64) (T := TX12) (N := 79) hx hb hts hinX12 hown hc hw hI kl_60 sh_60 rfl (by decide) rfl bd_60_64 (hts (.fieldLink RX12 340 "RedTentModel" "from" "I") (List.mem_cons_of_mem _ tw_5_184)) (fun _ h9 => h9) dX12_is_49 (fun x4 ex4 bx4 => ?_)
            have wx4 : x4.toInt = (M.1 60 0 64).toInt := by rw [ex4]
            refine lv_iload_n hx hb dX12_is_52 rfl (lv_at hl 0 rfl) ?_
            refine fx_iadd hx hb dX12_is_53 rfl rfl (by omega) (fun y5 ey5 ty5 => ?_)
            refine vp_callSi (va_Run.run (va_runV (As := [.int y5]) (rest := []) ⟨hx, hb, hml, hown, hts⟩ (fc_X12_byteAt l D ad C nb M hI y5 (by omega)) (cwV 1 hts gX12_is_X12_byteAt rfl rfl rfl (by decide +kernel) ⟨Nat.le_of_ble_eq_true rfl, Nat.le_of_ble_eq_true rfl⟩) (fm_preV hc hw hS kl_60 sh_60 rfl) rfl rfl hl.1 rfl (lv_room (Nat.le_of_ble_eq_true rfl)) dX12_is_54 ⟨by decide +kernel, by decide +kernel⟩)) (fun r6 hr6 => ?_)
            refine lv_aload_n hx hb dX12_is_57 rfl (lv_at hl 2 rfl) ?_
            refine lv_iload_n hx hb dX12_is_58 rfl (lv_at hl 0 rfl) ?_
            refine vp_callSi (va_Run.run (va_runV (As := [.int lp_3]) (rest := [.int r6]) ⟨hx, hb, hml, hown, hts⟩ (rt_J0_charAt l D.1 D.2 q v N f lp_3 (by omega) (by omega)) (cwV 1 hts gX12_is_J0_charAt_5068e rfl rfl rfl (by decide +kernel) ⟨Nat.le_of_ble_eq_true rfl, Nat.le_of_ble_eq_true rfl⟩) ⟨fun a U g mk q => by obtain ⟨q0, qP, qK, qe0⟩ := q; exact ⟨q0, qP, va_K.moved (u := U) (U := U.calling g mk a) (Vm.Alike.refl U.vm) qK, rt_Str.same qe0⟩, rt_recv hQq.1 hS, fun U hU hW => ⟨rfl, fun i z hz => by simp at hz, va_K.moved hW.alike hc.2.1.1, rt_Str.give hQq hS (fun _ h => h.elim) hU hW.alike⟩⟩ rfl rfl hl.1 rfl (lv_room (Nat.le_of_ble_eq_true rfl)) dX12_is_59 ⟨by decide +kernel, by decide +kernel⟩)) (fun r7 hr7 => ?_)
            refine fx_icmp_ne (tgt := 69) hx hb dX12_is_62 (by decide) rfl rfl (fun c8 => ?_) (fun c8 => ?_)
            · refine lv_iconst (v := 0) hx hb dX12_is_69 (by decide) ?_
              refine lv_istore_n (lv' := [(2, .int 0), (3, .int lp_3), (0, .ref (ad 60 0)), (1, .ref q)]) hx hb dX12_is_70 rfl hl (by decide) rfl (fun ls hl => ?_)
              obtain ⟨y9, ey9⟩ : ∃ y : Int32, y = lp_3 + 1 := ⟨_, rfl⟩
              have ty9 : y9.toInt = lp_3.toInt + 1 := by rw [ey9, zi_add _ _ (by rw [zk_1]; omega) (by rw [zk_1]; omega), zk_1]
              refine lv_iinc (v := y9) (lv' := [(3, .int y9), (2, .int 0), (0, .ref (ad 60 0)), (1, .ref q)]) hx hb dX12_is_71 hl (k := 1) rfl (by rw [ey9]; rfl) (by decide) rfl (fun ls hl => ?_)
              refine lv_goto (tgt := 35) hx hb dX12_is_74 (by decide) ?_
              exact ih_lp y9 0 (by omega) (by omega) (by decide) (by have zlp_2 := zk_0; omega) ls (lv_sub hl [0, 2, 3, 1] rfl)
            · refine lv_iconst (v := 1) hx hb dX12_is_65 (by decide) ?_
              refine lv_goto (tgt := 70) hx hb dX12_is_66 (by decide) ?_
              refine lv_istore_n (lv' := [(2, .int 1), (3, .int lp_3), (0, .ref (ad 60 0)), (1, .ref q)]) hx hb dX12_is_70 rfl hl (by decide) rfl (fun ls hl => ?_)
              obtain ⟨y10, ey10⟩ : ∃ y : Int32, y = lp_3 + 1 := ⟨_, rfl⟩
              have ty10 : y10.toInt = lp_3.toInt + 1 := by rw [ey10, zi_add _ _ (by rw [zk_1]; omega) (by rw [zk_1]; omega), zk_1]
              refine lv_iinc (v := y10) (lv' := [(3, .int y10), (2, .int 1), (0, .ref (ad 60 0)), (1, .ref q)]) hx hb dX12_is_71 hl (k := 1) rfl (by rw [ey10]; rfl) (by decide) rfl (fun ls hl => ?_)
              refine lv_goto (tgt := 35) hx hb dX12_is_74 (by decide) ?_
              exact ih_lp y10 1 (by omega) (by omega) (by decide) (by have zlp_2 := zk_1; omega) ls (lv_sub hl [0, 2, 3, 1] rfl)
    exact lp _ 0 jt_2 (Nat.lt_succ_self _) (by decide) (by omega) (by omega) ls (lv_sub hl [0, 1, 2, 3] rfl)
  refine lv_aload_n hx hb dX12_is_0 rfl (lv_at hl 0 rfl) ?_
  refine fm_getI (a := 60) (j := 64) (T := TX12) (N := 79) hx hb hts hinX12 hown hc hw hI kl_60 sh_60 rfl (by decide) rfl bd_60_64 (hts (.fieldLink RX12 340 "RedTentModel" "from" "I") (List.mem_cons_of_mem _ tw_5_184)) (fun _ h9 => h9) dX12_is_1 (fun x11 ex11 bx11 => ?_)
  have wx11 : x11.toInt = (M.1 60 0 64).toInt := by rw [ex11]
  refine lv_aload_n hx hb dX12_is_4 rfl (lv_at hl 0 rfl) ?_
  refine fm_getI (a := 60) (j := 63) (T := TX12) (N := 79) hx hb hts hinX12 hown hc hw hI kl_60 sh_60 rfl (by decide) rfl bd_60_63 (hts (.fieldLink RX12 328 "RedTentModel" "ends" "I") (List.mem_cons_of_mem _ tw_5_183)) (fun _ h9 => h9) dX12_is_5 (fun x12 ex12 bx12 => ?_)
  have wx12 : x12.toInt = (M.1 60 0 63).toInt := by rw [ex12]
  refine fx_icmp_ge (tgt := 31) hx hb dX12_is_8 (by decide) rfl rfl (fun c13 => ?_) (fun c13 => ?_)
  · refine lv_iconst (v := 0) hx hb dX12_is_31 (by decide) ?_
    refine lv_istore_n (lv' := [(2, .int 0), (0, .ref (ad 60 0)), (1, .ref q)]) hx hb dX12_is_32 rfl hl (by decide) rfl (fun ls hl => ?_)
    exact jt 0 (by decide) (by have zjt_2 := zk_0; omega) ls (lv_sub hl [1, 2, 0] rfl)
  · refine lv_aload_n hx hb dX12_is_11 rfl (lv_at hl 0 rfl) ?_
    refine fm_getI (a := 60) (j := 65) (T := TX12) (N := 79) hx hb hts hinX12 hown hc hw hI kl_60 sh_60 rfl (by decide) rfl bd_60_65 (hts (.fieldLink RX12 337 "RedTentModel" "to" "I") (List.mem_cons_of_mem _ tw_5_185)) (fun _ h9 => h9) dX12_is_12 (fun x14 ex14 bx14 => ?_)
    have wx14 : x14.toInt = (M.1 60 0 65).toInt := by rw [ex14]
    refine lv_aload_n hx hb dX12_is_15 rfl (lv_at hl 0 rfl) ?_
    refine fm_getI (a := 60) (j := 64) (T := TX12) (N := 79) hx hb hts hinX12 hown hc hw hI kl_60 sh_60 rfl (by decide) rfl bd_60_64 (hts (.fieldLink RX12 340 "RedTentModel" "from" "I") (List.mem_cons_of_mem _ tw_5_184)) (fun _ h9 => h9) dX12_is_16 (fun x15 ex15 bx15 => ?_)
    have wx15 : x15.toInt = (M.1 60 0 64).toInt := by rw [ex15]
    obtain rfl : x11 = x15 := by rw [ex15]; exact ex11
    refine fx_isub hx hb dX12_is_19 rfl rfl (by omega) (fun y16 ey16 ty16 => ?_)
    refine lv_aload_n hx hb dX12_is_20 rfl (lv_at hl 1 rfl) ?_
    refine vp_callSi (va_Run.run (va_runV (As := []) (rest := [.int y16]) ⟨hx, hb, hml, hown, hts⟩ (rt_J0_length l D.1 D.2 q v N f) (cwV 0 hts gX12_is_J0_length_8abf5 rfl rfl rfl (by decide +kernel) ⟨Nat.le_of_ble_eq_true rfl, Nat.le_of_ble_eq_true rfl⟩) ⟨fun a U g mk q => by obtain ⟨q0, qP, qK, qe0⟩ := q; exact ⟨q0, qP, va_K.moved (u := U) (U := U.calling g mk a) (Vm.Alike.refl U.vm) qK, rt_Str.same qe0⟩, rt_recv hQq.1 hS, fun U hU hW => ⟨rfl, fun i z hz => by simp at hz, va_K.moved hW.alike hc.2.1.1, rt_Str.give hQq hS (fun _ h => h.elim) hU hW.alike⟩⟩ rfl rfl hl.1 rfl (lv_room (Nat.le_of_ble_eq_true rfl)) dX12_is_21 ⟨by decide +kernel, by decide +kernel⟩)) (fun r17 hr17 => ?_)
    have tr17 : r17.toInt = N := by rw [hr17]; exact zi_ofN (by omega)
    refine fx_icmp_ne (tgt := 31) hx hb dX12_is_24 (by decide) rfl rfl (fun c18 => ?_) (fun c18 => ?_)
    · refine lv_iconst (v := 0) hx hb dX12_is_31 (by decide) ?_
      refine lv_istore_n (lv' := [(2, .int 0), (0, .ref (ad 60 0)), (1, .ref q)]) hx hb dX12_is_32 rfl hl (by decide) rfl (fun ls hl => ?_)
      exact jt 0 (by decide) (by have zjt_2 := zk_0; omega) ls (lv_sub hl [1, 2, 0] rfl)
    · refine lv_iconst (v := 1) hx hb dX12_is_27 (by decide) ?_
      refine lv_goto (tgt := 32) hx hb dX12_is_28 (by decide) ?_
      refine lv_istore_n (lv' := [(2, .int 1), (0, .ref (ad 60 0)), (1, .ref q)]) hx hb dX12_is_32 rfl hl (by decide) rfl (fun ls hl => ?_)
      exact jt 1 (by decide) (by have zjt_2 := zk_1; omega) ls (lv_sub hl [1, 2, 0] rfl)
set_option maxHeartbeats 400000 in
set_option maxRecDepth 20000 in
theorem fc_X12_next (l : Launch) (D : va_G) (ad : Nat → Nat → Nat) (C : Nat → Nat → ClassId) (nb : Nat) (M : fm_M) (hI : fm_I nb ad M) : Met l yX12_next wsX12_next ({ frames := 2, cells := 0, slots := 0, locals := 43 }) (va_Pc [.ref (ad 60 0)] (fm_P D ad C nb M)) (va_Qv (fun (u : fm_M) => fm_I nb ad u ∧ fm_same [60064, 60065] M u ∧ ((M.1 60 0 65).toInt ≤ (u.1 60 0 64).toInt ∧ (u.1 60 0 64).toInt ≤ (u.1 60 0 65).toInt)) (fun u t => fm_at D ad C nb u t.heap) (fm_A nb ad)) 0 0 (fm_A nb ad) := by
  refine Met.ofW (cc := cX12_next) (maxL := 1) (ret := none) (by decide) rfl ?_
  intro p e s m args below meth c s₁ B hml hv
  obtain ⟨rfl, hw, hc⟩ := hv
  have hx := B.exec
  have hb := B.bytes
  have hr := B.returns
  have hts := atoms_spec (ws := wsX12_next) B.pre
  have hown : s.vm.findClass RX12 = some m.cls := findClass_of_methodNamed B.named
  have hinX12 : ∀ w ∈ u_ws RX12 TX12 79, w ∈ wsX12_next := fun w h => List.mem_cons_of_mem _ (iT_X12 w h)
  have hS : va_S (fm_A nb ad) s.heap s.heap [] := va_S.rf
  have hE : fm_same [60064, 60065] M M := fm_same.rf
  have hl := lv_entry ([.ref (ad 60 0)]) (n := 1) (Nat.le_of_ble_eq_true rfl)
  rw [lg_entry_eq]
  generalize (lg_sl ([.ref (ad 60 0)]) ++ List.replicate (1 - (lg_sl ([.ref (ad 60 0)])).length) Slot.unset).toArray = ls at hl ⊢
  have hl : lv_has ls 1 [(0, .ref (ad 60 0))] := hl
  have l0 : ∀ (n_l0 : Nat)  (M_l0 : fm_M), ((M_l0.1 60 0 63).toInt - (M_l0.1 60 0 65).toInt).toNat < n_l0 → ((M.1 60 0 65).toInt ≤ (M_l0.1 60 0 65).toInt) → fm_I nb ad M_l0 → fm_same [60064, 60065] M M_l0 → ∀ (H : Heap) (locs : List Loc), fm_at D ad C nb M_l0 H → va_S (fm_A nb ad) s.heap H locs → ∀ (ls : Array Slot), lv_has ls 1 [(0, .ref (ad 60 0))] → W p l e (headSpec wsX12_next ({ frames := 2, cells := 0, slots := 0, locals := 43 })).room s m ([.ref (ad 60 0)] : List Value).toArray below meth c H locs 0 0 (MQ below (va_Qv (fun (u : fm_M) => fm_I nb ad u ∧ fm_same [60064, 60065] M u ∧ ((M.1 60 0 65).toInt ≤ (u.1 60 0 64).toInt ∧ (u.1 60 0 64).toInt ≤ (u.1 60 0 65).toInt)) (fun u t => fm_at D ad C nb u t.heap) (fm_A nb ad)) ([.ref (ad 60 0)] : List Value).toArray s 0 0 (fm_A nb ad)) (F0 m 0 ls []) := by
    intro n_l0
    induction n_l0 with
    | zero => intro  M_l0 hm_l0 h0 hI hE H locs hw hS ls hl; exact absurd hm_l0 (Nat.not_lt_zero _)
    | succ n_l0 ih_l0 =>
      intro  M_l0 hm_l0 h0 hI hE H locs hw hS ls hl
      refine lv_aload_n hx hb dX12_next_0 rfl (lv_at hl 0 rfl) ?_
      refine fm_getI (a := 60) (j := 65) (T := TX12) (N := 79) hx hb hts hinX12 hown hc hw hI kl_60 sh_60 rfl (by decide) rfl bd_60_65 (hts (.fieldLink RX12 337 "RedTentModel" "to" "I") (List.mem_cons_of_mem _ tw_5_185)) (fun _ h9 => h9) dX12_next_1 (fun x1 ex1 bx1 => ?_)
      have wx1 : x1.toInt = (M_l0.1 60 0 65).toInt := by rw [ex1]
      refine lv_aload_n hx hb dX12_next_4 rfl (lv_at hl 0 rfl) ?_
      refine fm_getI (a := 60) (j := 63) (T := TX12) (N := 79) hx hb hts hinX12 hown hc hw hI kl_60 sh_60 rfl (by decide) rfl bd_60_63 (hts (.fieldLink RX12 328 "RedTentModel" "ends" "I") (List.mem_cons_of_mem _ tw_5_183)) (fun _ h9 => h9) dX12_next_5 (fun x2 ex2 bx2 => ?_)
      have wx2 : x2.toInt = (M_l0.1 60 0 63).toInt := by rw [ex2]
      refine fx_icmp_ge (tgt := 50) hx hb dX12_next_8 (by decide) rfl rfl (fun c3 => ?_) (fun c3 => ?_)
      · refine lv_aload_n hx hb dX12_next_50 rfl (lv_at hl 0 rfl) ?_
        refine lv_aload_n hx hb dX12_next_51 rfl (lv_at hl 0 rfl) ?_
        refine fm_getI (a := 60) (j := 65) (T := TX12) (N := 79) hx hb hts hinX12 hown hc hw hI kl_60 sh_60 rfl (by decide) rfl bd_60_65 (hts (.fieldLink RX12 337 "RedTentModel" "to" "I") (List.mem_cons_of_mem _ tw_5_185)) (fun _ h9 => h9) dX12_next_52 (fun x4 ex4 bx4 => ?_)
        have wx4 : x4.toInt = (M_l0.1 60 0 65).toInt := by rw [ex4]
        obtain rfl : x1 = x4 := by rw [ex4]; exact ex1
        refine fm_putI (a := 60) (j := 64) (T := TX12) (N := 79) hx hb hts hinX12 tyX12 tyX12_ok nmX12 hown hc hw hI hE hS kl_60 sh_60 od_60 rfl (by decide) rfl bd_60_64 (hts (.fieldLink RX12 340 "RedTentModel" "from" "I") (List.mem_cons_of_mem _ tw_5_184)) (fun _ h9 => h9) rfl (by decide +kernel) (by omega) (by decide) (by decide) dX12_next_55 (fun M5 H locs eM5 hw hI hE hS => ?_)
        have mM5_60_63 : (M5.1 60 0 63).toInt = (M_l0.1 60 0 63).toInt := by rw [eM5, fm_wI_nj (fun z => absurd z.2.2 (by decide))]
        have mM5_60_64 : (M5.1 60 0 64).toInt = x1.toInt := by rw [eM5, fm_wI_at]
        have mM5_60_65 : (M5.1 60 0 65).toInt = (M_l0.1 60 0 65).toInt := by rw [eM5, fm_wI_nj (fun z => absurd z.2.2 (by decide))]
        refine lv_aload_n hx hb dX12_next_58 rfl (lv_at hl 0 rfl) ?_
        refine lv_aload_n hx hb dX12_next_59 rfl (lv_at hl 0 rfl) ?_
        refine fm_getI (a := 60) (j := 64) (T := TX12) (N := 79) hx hb hts hinX12 hown hc hw hI kl_60 sh_60 rfl (by decide) rfl bd_60_64 (hts (.fieldLink RX12 340 "RedTentModel" "from" "I") (List.mem_cons_of_mem _ tw_5_184)) (fun _ h9 => h9) dX12_next_60 (fun x6 ex6 bx6 => ?_)
        have wx6 : x6.toInt = (M5.1 60 0 64).toInt := by rw [ex6]
        obtain rfl : x1 = x6 := by rw [ex6, eM5, fm_wI_at]
        refine vp_callSi (va_Run.run (va_runV (As := [.int x1]) (rest := []) ⟨hx, hb, hml, hown, hts⟩ (fc_X12_isLetter l D ad C nb M5 hI x1 (by omega)) (cwV 1 hts gX12_next_X12_isLetter rfl rfl rfl (by decide +kernel) ⟨Nat.le_of_ble_eq_true rfl, Nat.le_of_ble_eq_true rfl⟩) (fm_preV hc hw hS kl_60 sh_60 rfl) rfl rfl hl.1 rfl (lv_room (Nat.le_of_ble_eq_true rfl)) dX12_next_63 ⟨by decide +kernel, by decide +kernel⟩)) (fun r7 hr7 => ?_)
        have bqq8 := hI.bd (k := 0) bd_60_63
        rcases hr7 with ⟨rfl, c9⟩ | ⟨rfl, c9⟩
        · refine fx_if_eq (tgt := 93) hx hb dX12_next_66 (by decide) zk_1 (fun c10 => by exfalso; omega) (fun c10 => ?_)
          have l1 : ∀ (n_l1 : Nat)  (M_l1 : fm_M), ((M_l1.1 60 0 63).toInt - (M_l1.1 60 0 65).toInt).toNat < n_l1 → ((M.1 60 0 65).toInt ≤ (M_l1.1 60 0 64).toInt ∧ (M_l1.1 60 0 64).toInt ≤ (M_l1.1 60 0 65).toInt) → fm_I nb ad M_l1 → fm_same [60064, 60065] M M_l1 → ∀ (H : Heap) (locs : List Loc), fm_at D ad C nb M_l1 H → va_S (fm_A nb ad) s.heap H locs → ∀ (ls : Array Slot), lv_has ls 1 [(0, .ref (ad 60 0))] → W p l e (headSpec wsX12_next ({ frames := 2, cells := 0, slots := 0, locals := 43 })).room s m ([.ref (ad 60 0)] : List Value).toArray below meth c H locs 0 0 (MQ below (va_Qv (fun (u : fm_M) => fm_I nb ad u ∧ fm_same [60064, 60065] M u ∧ ((M.1 60 0 65).toInt ≤ (u.1 60 0 64).toInt ∧ (u.1 60 0 64).toInt ≤ (u.1 60 0 65).toInt)) (fun u t => fm_at D ad C nb u t.heap) (fm_A nb ad)) ([.ref (ad 60 0)] : List Value).toArray s 0 0 (fm_A nb ad)) (F0 m 69 ls []) := by
            intro n_l1
            induction n_l1 with
            | zero => intro  M_l1 hm_l1 h1 hI hE H locs hw hS ls hl; exact absurd hm_l1 (Nat.not_lt_zero _)
            | succ n_l1 ih_l1 =>
              intro  M_l1 hm_l1 h1 hI hE H locs hw hS ls hl
              refine lv_aload_n hx hb dX12_next_69 rfl (lv_at hl 0 rfl) ?_
              refine lv_aload_n hx hb dX12_next_70 rfl (lv_at hl 0 rfl) ?_
              refine fm_getI (a := 60) (j := 65) (T := TX12) (N := 79) hx hb hts hinX12 hown hc hw hI kl_60 sh_60 rfl (by decide) rfl bd_60_65 (hts (.fieldLink RX12 337 "RedTentModel" "to" "I") (List.mem_cons_of_mem _ tw_5_185)) (fun _ h9 => h9) dX12_next_71 (fun x11 ex11 bx11 => ?_)
              have wx11 : x11.toInt = (M_l1.1 60 0 65).toInt := by rw [ex11]
              refine vp_callSi (va_Run.run (va_runV (As := [.int x11]) (rest := []) ⟨hx, hb, hml, hown, hts⟩ (fc_X12_isLetter l D ad C nb M_l1 hI x11 (by omega)) (cwV 1 hts gX12_next_X12_isLetter rfl rfl rfl (by decide +kernel) ⟨Nat.le_of_ble_eq_true rfl, Nat.le_of_ble_eq_true rfl⟩) (fm_preV hc hw hS kl_60 sh_60 rfl) rfl rfl hl.1 rfl (lv_room (Nat.le_of_ble_eq_true rfl)) dX12_next_74 ⟨by decide +kernel, by decide +kernel⟩)) (fun r12 hr12 => ?_)
              have bqq13 := hI.bd (k := 0) bd_60_63
              rcases hr12 with ⟨rfl, c14⟩ | ⟨rfl, c14⟩
              · refine fx_if_eq (tgt := 153) hx hb dX12_next_77 (by decide) zk_1 (fun c15 => by exfalso; omega) (fun c15 => ?_)
                refine lv_aload_n hx hb dX12_next_80 rfl (lv_at hl 0 rfl) ?_
                refine lv_dup hx hb dX12_next_81 rfl ?_
                refine fm_getI (a := 60) (j := 65) (T := TX12) (N := 79) hx hb hts hinX12 hown hc hw hI kl_60 sh_60 rfl (by decide) rfl bd_60_65 (hts (.fieldLink RX12 337 "RedTentModel" "to" "I") (List.mem_cons_of_mem _ tw_5_185)) (fun _ h9 => h9) dX12_next_82 (fun x16 ex16 bx16 => ?_)
                have wx16 : x16.toInt = (M_l1.1 60 0 65).toInt := by rw [ex16]
                obtain rfl : x11 = x16 := by rw [ex16]; exact ex11
                refine lv_iconst (v := 1) hx hb dX12_next_85 (by decide) ?_
                refine fx_iadd hx hb dX12_next_86 rfl zk_1 (by omega) (fun y17 ey17 ty17 => ?_)
                refine fm_putI (a := 60) (j := 65) (T := TX12) (N := 79) hx hb hts hinX12 tyX12 tyX12_ok nmX12 hown hc hw hI hE hS kl_60 sh_60 od_60 rfl (by decide) rfl bd_60_65 (hts (.fieldLink RX12 337 "RedTentModel" "to" "I") (List.mem_cons_of_mem _ tw_5_185)) (fun _ h9 => h9) rfl (by decide +kernel) (by omega) (by decide) (by decide) dX12_next_87 (fun M18 H locs eM18 hw hI hE hS => ?_)
                have mM18_60_63 : (M18.1 60 0 63).toInt = (M_l1.1 60 0 63).toInt := by rw [eM18, fm_wI_nj (fun z => absurd z.2.2 (by decide))]
                have mM18_60_64 : (M18.1 60 0 64).toInt = (M_l1.1 60 0 64).toInt := by rw [eM18, fm_wI_nj (fun z => absurd z.2.2 (by decide))]
                have mM18_60_65 : (M18.1 60 0 65).toInt = y17.toInt := by rw [eM18, fm_wI_at]
                refine lv_goto (tgt := 69) hx hb dX12_next_90 (by decide) ?_
                exact ih_l1 M18 (by omega) (by omega) hI hE _ _ hw hS ls (lv_sub hl [0] rfl)
              · refine fx_if_eq (tgt := 153) hx hb dX12_next_77 (by decide) zk_0 (fun c19 => ?_) (fun c19 => by exfalso; omega)
                exact W.vret hx hb hr (fun t ht hW => ⟨⟨M_l1, rfl, ⟨hI, hE, ⟨by omega, by omega⟩⟩, by show fm_at D ad C nb _ t.heap; rw [ht]; exact hw⟩, hS.F ht⟩) hS.2.2 dX12_next_153
          exact l1 _ M5 (Nat.lt_succ_self _) (by omega) hI hE _ _ hw hS ls (lv_sub hl [0] rfl)
        · refine fx_if_eq (tgt := 93) hx hb dX12_next_66 (by decide) zk_0 (fun c20 => ?_) (fun c20 => by exfalso; omega)
          refine lv_aload_n hx hb dX12_next_93 rfl (lv_at hl 0 rfl) ?_
          refine lv_aload_n hx hb dX12_next_94 rfl (lv_at hl 0 rfl) ?_
          refine fm_getI (a := 60) (j := 64) (T := TX12) (N := 79) hx hb hts hinX12 hown hc hw hI kl_60 sh_60 rfl (by decide) rfl bd_60_64 (hts (.fieldLink RX12 340 "RedTentModel" "from" "I") (List.mem_cons_of_mem _ tw_5_184)) (fun _ h9 => h9) dX12_next_95 (fun x21 ex21 bx21 => ?_)
          have wx21 : x21.toInt = (M5.1 60 0 64).toInt := by rw [ex21]
          obtain rfl : x1 = x21 := by rw [ex21, eM5, fm_wI_at]
          refine vp_callSi (va_Run.run (va_runV (As := [.int x1]) (rest := []) ⟨hx, hb, hml, hown, hts⟩ (fc_X12_isDigit l D ad C nb M5 hI x1 (by omega)) (cwV 1 hts gX12_next_X12_isDigit rfl rfl rfl (by decide +kernel) ⟨Nat.le_of_ble_eq_true rfl, Nat.le_of_ble_eq_true rfl⟩) (fm_preV hc hw hS kl_60 sh_60 rfl) rfl rfl hl.1 rfl (lv_room (Nat.le_of_ble_eq_true rfl)) dX12_next_98 ⟨by decide +kernel, by decide +kernel⟩)) (fun r22 hr22 => ?_)
          have bqq23 := hI.bd (k := 0) bd_60_63
          rcases hr22 with ⟨rfl, c24⟩ | ⟨rfl, c24⟩
          · refine fx_if_eq (tgt := 128) hx hb dX12_next_101 (by decide) zk_1 (fun c25 => by exfalso; omega) (fun c25 => ?_)
            have l2 : ∀ (n_l2 : Nat)  (M_l2 : fm_M), ((M_l2.1 60 0 63).toInt - (M_l2.1 60 0 65).toInt).toNat < n_l2 → ((M.1 60 0 65).toInt ≤ (M_l2.1 60 0 64).toInt ∧ (M_l2.1 60 0 64).toInt ≤ (M_l2.1 60 0 65).toInt) → fm_I nb ad M_l2 → fm_same [60064, 60065] M M_l2 → ∀ (H : Heap) (locs : List Loc), fm_at D ad C nb M_l2 H → va_S (fm_A nb ad) s.heap H locs → ∀ (ls : Array Slot), lv_has ls 1 [(0, .ref (ad 60 0))] → W p l e (headSpec wsX12_next ({ frames := 2, cells := 0, slots := 0, locals := 43 })).room s m ([.ref (ad 60 0)] : List Value).toArray below meth c H locs 0 0 (MQ below (va_Qv (fun (u : fm_M) => fm_I nb ad u ∧ fm_same [60064, 60065] M u ∧ ((M.1 60 0 65).toInt ≤ (u.1 60 0 64).toInt ∧ (u.1 60 0 64).toInt ≤ (u.1 60 0 65).toInt)) (fun u t => fm_at D ad C nb u t.heap) (fm_A nb ad)) ([.ref (ad 60 0)] : List Value).toArray s 0 0 (fm_A nb ad)) (F0 m 104 ls []) := by
              intro n_l2
              induction n_l2 with
              | zero => intro  M_l2 hm_l2 h2 hI hE H locs hw hS ls hl; exact absurd hm_l2 (Nat.not_lt_zero _)
              | succ n_l2 ih_l2 =>
                intro  M_l2 hm_l2 h2 hI hE H locs hw hS ls hl
                refine lv_aload_n hx hb dX12_next_104 rfl (lv_at hl 0 rfl) ?_
                refine lv_aload_n hx hb dX12_next_105 rfl (lv_at hl 0 rfl) ?_
                refine fm_getI (a := 60) (j := 65) (T := TX12) (N := 79) hx hb hts hinX12 hown hc hw hI kl_60 sh_60 rfl (by decide) rfl bd_60_65 (hts (.fieldLink RX12 337 "RedTentModel" "to" "I") (List.mem_cons_of_mem _ tw_5_185)) (fun _ h9 => h9) dX12_next_106 (fun x26 ex26 bx26 => ?_)
                have wx26 : x26.toInt = (M_l2.1 60 0 65).toInt := by rw [ex26]
                refine vp_callSi (va_Run.run (va_runV (As := [.int x26]) (rest := []) ⟨hx, hb, hml, hown, hts⟩ (fc_X12_isDigit l D ad C nb M_l2 hI x26 (by omega)) (cwV 1 hts gX12_next_X12_isDigit rfl rfl rfl (by decide +kernel) ⟨Nat.le_of_ble_eq_true rfl, Nat.le_of_ble_eq_true rfl⟩) (fm_preV hc hw hS kl_60 sh_60 rfl) rfl rfl hl.1 rfl (lv_room (Nat.le_of_ble_eq_true rfl)) dX12_next_109 ⟨by decide +kernel, by decide +kernel⟩)) (fun r27 hr27 => ?_)
                have bqq28 := hI.bd (k := 0) bd_60_63
                rcases hr27 with ⟨rfl, c29⟩ | ⟨rfl, c29⟩
                · refine fx_if_eq (tgt := 153) hx hb dX12_next_112 (by decide) zk_1 (fun c30 => by exfalso; omega) (fun c30 => ?_)
                  refine lv_aload_n hx hb dX12_next_115 rfl (lv_at hl 0 rfl) ?_
                  refine lv_dup hx hb dX12_next_116 rfl ?_
                  refine fm_getI (a := 60) (j := 65) (T := TX12) (N := 79) hx hb hts hinX12 hown hc hw hI kl_60 sh_60 rfl (by decide) rfl bd_60_65 (hts (.fieldLink RX12 337 "RedTentModel" "to" "I") (List.mem_cons_of_mem _ tw_5_185)) (fun _ h9 => h9) dX12_next_117 (fun x31 ex31 bx31 => ?_)
                  have wx31 : x31.toInt = (M_l2.1 60 0 65).toInt := by rw [ex31]
                  obtain rfl : x26 = x31 := by rw [ex31]; exact ex26
                  refine lv_iconst (v := 1) hx hb dX12_next_120 (by decide) ?_
                  refine fx_iadd hx hb dX12_next_121 rfl zk_1 (by omega) (fun y32 ey32 ty32 => ?_)
                  refine fm_putI (a := 60) (j := 65) (T := TX12) (N := 79) hx hb hts hinX12 tyX12 tyX12_ok nmX12 hown hc hw hI hE hS kl_60 sh_60 od_60 rfl (by decide) rfl bd_60_65 (hts (.fieldLink RX12 337 "RedTentModel" "to" "I") (List.mem_cons_of_mem _ tw_5_185)) (fun _ h9 => h9) rfl (by decide +kernel) (by omega) (by decide) (by decide) dX12_next_122 (fun M33 H locs eM33 hw hI hE hS => ?_)
                  have mM33_60_63 : (M33.1 60 0 63).toInt = (M_l2.1 60 0 63).toInt := by rw [eM33, fm_wI_nj (fun z => absurd z.2.2 (by decide))]
                  have mM33_60_64 : (M33.1 60 0 64).toInt = (M_l2.1 60 0 64).toInt := by rw [eM33, fm_wI_nj (fun z => absurd z.2.2 (by decide))]
                  have mM33_60_65 : (M33.1 60 0 65).toInt = y32.toInt := by rw [eM33, fm_wI_at]
                  refine lv_goto (tgt := 104) hx hb dX12_next_125 (by decide) ?_
                  exact ih_l2 M33 (by omega) (by omega) hI hE _ _ hw hS ls (lv_sub hl [0] rfl)
                · refine fx_if_eq (tgt := 153) hx hb dX12_next_112 (by decide) zk_0 (fun c34 => ?_) (fun c34 => by exfalso; omega)
                  exact W.vret hx hb hr (fun t ht hW => ⟨⟨M_l2, rfl, ⟨hI, hE, ⟨by omega, by omega⟩⟩, by show fm_at D ad C nb _ t.heap; rw [ht]; exact hw⟩, hS.F ht⟩) hS.2.2 dX12_next_153
            exact l2 _ M5 (Nat.lt_succ_self _) (by omega) hI hE _ _ hw hS ls (lv_sub hl [0] rfl)
          · refine fx_if_eq (tgt := 128) hx hb dX12_next_101 (by decide) zk_0 (fun c35 => ?_) (fun c35 => by exfalso; omega)
            refine lv_aload_n hx hb dX12_next_128 rfl (lv_at hl 0 rfl) ?_
            refine lv_dup hx hb dX12_next_129 rfl ?_
            refine fm_getI (a := 60) (j := 65) (T := TX12) (N := 79) hx hb hts hinX12 hown hc hw hI kl_60 sh_60 rfl (by decide) rfl bd_60_65 (hts (.fieldLink RX12 337 "RedTentModel" "to" "I") (List.mem_cons_of_mem _ tw_5_185)) (fun _ h9 => h9) dX12_next_130 (fun x36 ex36 bx36 => ?_)
            have wx36 : x36.toInt = (M5.1 60 0 65).toInt := by rw [ex36]
            obtain rfl : x1 = x36 := by rw [ex36, eM5, fm_wI_nj (fun z => absurd z.2.2 (by decide))]; exact ex1
            refine lv_aload_n hx hb dX12_next_133 rfl (lv_at hl 0 rfl) ?_
            refine fm_getI (a := 60) (j := 64) (T := TX12) (N := 79) hx hb hts hinX12 hown hc hw hI kl_60 sh_60 rfl (by decide) rfl bd_60_64 (hts (.fieldLink RX12 340 "RedTentModel" "from" "I") (List.mem_cons_of_mem _ tw_5_184)) (fun _ h9 => h9) dX12_next_134 (fun x37 ex37 bx37 => ?_)
            have wx37 : x37.toInt = (M5.1 60 0 64).toInt := by rw [ex37]
            obtain rfl : x1 = x37 := by rw [ex37, eM5, fm_wI_at]
            refine lv_aload_n hx hb dX12_next_137 rfl (lv_at hl 0 rfl) ?_
            refine fm_getI (a := 60) (j := 63) (T := TX12) (N := 79) hx hb hts hinX12 hown hc hw hI kl_60 sh_60 rfl (by decide) rfl bd_60_63 (hts (.fieldLink RX12 328 "RedTentModel" "ends" "I") (List.mem_cons_of_mem _ tw_5_183)) (fun _ h9 => h9) dX12_next_138 (fun x38 ex38 bx38 => ?_)
            have wx38 : x38.toInt = (M5.1 60 0 63).toInt := by rw [ex38]
            obtain rfl : x2 = x38 := by rw [ex38, eM5, fm_wI_nj (fun z => absurd z.2.2 (by decide))]; exact ex2
            refine fx_icmp_ge (tgt := 148) hx hb dX12_next_141 (by decide) rfl rfl (fun c39 => ?_) (fun c39 => ?_)
            · refine lv_iconst (v := 0) hx hb dX12_next_148 (by decide) ?_
              refine fx_iadd hx hb dX12_next_149 rfl zk_0 (by omega) (fun y40 ey40 ty40 => ?_)
              refine fm_putI (a := 60) (j := 65) (T := TX12) (N := 79) hx hb hts hinX12 tyX12 tyX12_ok nmX12 hown hc hw hI hE hS kl_60 sh_60 od_60 rfl (by decide) rfl bd_60_65 (hts (.fieldLink RX12 337 "RedTentModel" "to" "I") (List.mem_cons_of_mem _ tw_5_185)) (fun _ h9 => h9) rfl (by decide +kernel) (by omega) (by decide) (by decide) dX12_next_150 (fun M41 H locs eM41 hw hI hE hS => ?_)
              have mM41_60_63 : (M41.1 60 0 63).toInt = (M5.1 60 0 63).toInt := by rw [eM41, fm_wI_nj (fun z => absurd z.2.2 (by decide))]
              have mM41_60_64 : (M41.1 60 0 64).toInt = (M5.1 60 0 64).toInt := by rw [eM41, fm_wI_nj (fun z => absurd z.2.2 (by decide))]
              have mM41_60_65 : (M41.1 60 0 65).toInt = y40.toInt := by rw [eM41, fm_wI_at]
              exact W.vret hx hb hr (fun t ht hW => ⟨⟨M41, rfl, ⟨hI, hE, ⟨by omega, by omega⟩⟩, by show fm_at D ad C nb _ t.heap; rw [ht]; exact hw⟩, hS.F ht⟩) hS.2.2 dX12_next_153
            · refine lv_iconst (v := 1) hx hb dX12_next_144 (by decide) ?_
              refine lv_goto (tgt := 149) hx hb dX12_next_145 (by decide) ?_
              refine fx_iadd hx hb dX12_next_149 rfl zk_1 (by omega) (fun y42 ey42 ty42 => ?_)
              refine fm_putI (a := 60) (j := 65) (T := TX12) (N := 79) hx hb hts hinX12 tyX12 tyX12_ok nmX12 hown hc hw hI hE hS kl_60 sh_60 od_60 rfl (by decide) rfl bd_60_65 (hts (.fieldLink RX12 337 "RedTentModel" "to" "I") (List.mem_cons_of_mem _ tw_5_185)) (fun _ h9 => h9) rfl (by decide +kernel) (by omega) (by decide) (by decide) dX12_next_150 (fun M43 H locs eM43 hw hI hE hS => ?_)
              have mM43_60_63 : (M43.1 60 0 63).toInt = (M5.1 60 0 63).toInt := by rw [eM43, fm_wI_nj (fun z => absurd z.2.2 (by decide))]
              have mM43_60_64 : (M43.1 60 0 64).toInt = (M5.1 60 0 64).toInt := by rw [eM43, fm_wI_nj (fun z => absurd z.2.2 (by decide))]
              have mM43_60_65 : (M43.1 60 0 65).toInt = y42.toInt := by rw [eM43, fm_wI_at]
              exact W.vret hx hb hr (fun t ht hW => ⟨⟨M43, rfl, ⟨hI, hE, ⟨by omega, by omega⟩⟩, by show fm_at D ad C nb _ t.heap; rw [ht]; exact hw⟩, hS.F ht⟩) hS.2.2 dX12_next_153
      · refine lv_aload_n hx hb dX12_next_11 rfl (lv_at hl 0 rfl) ?_
        refine lv_aload_n hx hb dX12_next_12 rfl (lv_at hl 0 rfl) ?_
        refine fm_getI (a := 60) (j := 65) (T := TX12) (N := 79) hx hb hts hinX12 hown hc hw hI kl_60 sh_60 rfl (by decide) rfl bd_60_65 (hts (.fieldLink RX12 337 "RedTentModel" "to" "I") (List.mem_cons_of_mem _ tw_5_185)) (fun _ h9 => h9) dX12_next_13 (fun x44 ex44 bx44 => ?_)
        have wx44 : x44.toInt = (M_l0.1 60 0 65).toInt := by rw [ex44]
        obtain rfl : x1 = x44 := by rw [ex44]; exact ex1
        refine vp_callSi (va_Run.run (va_runV (As := [.int x1]) (rest := []) ⟨hx, hb, hml, hown, hts⟩ (fc_X12_byteAt l D ad C nb M_l0 hI x1 (by omega)) (cwV 1 hts gX12_next_X12_byteAt rfl rfl rfl (by decide +kernel) ⟨Nat.le_of_ble_eq_true rfl, Nat.le_of_ble_eq_true rfl⟩) (fm_preV hc hw hS kl_60 sh_60 rfl) rfl rfl hl.1 rfl (lv_room (Nat.le_of_ble_eq_true rfl)) dX12_next_16 ⟨by decide +kernel, by decide +kernel⟩)) (fun r45 hr45 => ?_)
        refine lv_bipush (v := 32) hx hb dX12_next_19 (by decide) ?_
        refine fx_icmp_eq (tgt := 37) hx hb dX12_next_21 (by decide) rfl zk_32 (fun c46 => ?_) (fun c46 => ?_)
        · refine lv_aload_n hx hb dX12_next_37 rfl (lv_at hl 0 rfl) ?_
          refine lv_dup hx hb dX12_next_38 rfl ?_
          refine fm_getI (a := 60) (j := 65) (T := TX12) (N := 79) hx hb hts hinX12 hown hc hw hI kl_60 sh_60 rfl (by decide) rfl bd_60_65 (hts (.fieldLink RX12 337 "RedTentModel" "to" "I") (List.mem_cons_of_mem _ tw_5_185)) (fun _ h9 => h9) dX12_next_39 (fun x47 ex47 bx47 => ?_)
          have wx47 : x47.toInt = (M_l0.1 60 0 65).toInt := by rw [ex47]
          obtain rfl : x1 = x47 := by rw [ex47]; exact ex1
          refine lv_iconst (v := 1) hx hb dX12_next_42 (by decide) ?_
          refine fx_iadd hx hb dX12_next_43 rfl zk_1 (by omega) (fun y48 ey48 ty48 => ?_)
          refine fm_putI (a := 60) (j := 65) (T := TX12) (N := 79) hx hb hts hinX12 tyX12 tyX12_ok nmX12 hown hc hw hI hE hS kl_60 sh_60 od_60 rfl (by decide) rfl bd_60_65 (hts (.fieldLink RX12 337 "RedTentModel" "to" "I") (List.mem_cons_of_mem _ tw_5_185)) (fun _ h9 => h9) rfl (by decide +kernel) (by omega) (by decide) (by decide) dX12_next_44 (fun M49 H locs eM49 hw hI hE hS => ?_)
          have mM49_60_63 : (M49.1 60 0 63).toInt = (M_l0.1 60 0 63).toInt := by rw [eM49, fm_wI_nj (fun z => absurd z.2.2 (by decide))]
          have mM49_60_64 : (M49.1 60 0 64).toInt = (M_l0.1 60 0 64).toInt := by rw [eM49, fm_wI_nj (fun z => absurd z.2.2 (by decide))]
          have mM49_60_65 : (M49.1 60 0 65).toInt = y48.toInt := by rw [eM49, fm_wI_at]
          refine lv_goto (tgt := 0) hx hb dX12_next_47 (by decide) ?_
          exact ih_l0 M49 (by omega) (by omega) hI hE _ _ hw hS ls (lv_sub hl [0] rfl)
        · refine lv_aload_n hx hb dX12_next_24 rfl (lv_at hl 0 rfl) ?_
          refine lv_aload_n hx hb dX12_next_25 rfl (lv_at hl 0 rfl) ?_
          refine fm_getI (a := 60) (j := 65) (T := TX12) (N := 79) hx hb hts hinX12 hown hc hw hI kl_60 sh_60 rfl (by decide) rfl bd_60_65 (hts (.fieldLink RX12 337 "RedTentModel" "to" "I") (List.mem_cons_of_mem _ tw_5_185)) (fun _ h9 => h9) dX12_next_26 (fun x50 ex50 bx50 => ?_)
          have wx50 : x50.toInt = (M_l0.1 60 0 65).toInt := by rw [ex50]
          obtain rfl : x1 = x50 := by rw [ex50]; exact ex1
          refine vp_callSi (va_Run.run (va_runV (As := [.int x1]) (rest := []) ⟨hx, hb, hml, hown, hts⟩ (fc_X12_byteAt l D ad C nb M_l0 hI x1 (by omega)) (cwV 1 hts gX12_next_X12_byteAt rfl rfl rfl (by decide +kernel) ⟨Nat.le_of_ble_eq_true rfl, Nat.le_of_ble_eq_true rfl⟩) (fm_preV hc hw hS kl_60 sh_60 rfl) rfl rfl hl.1 rfl (lv_room (Nat.le_of_ble_eq_true rfl)) dX12_next_29 ⟨by decide +kernel, by decide +kernel⟩)) (fun r51 hr51 => ?_)
          refine lv_bipush (v := 10) hx hb dX12_next_32 (by decide) ?_
          refine fx_icmp_ne (tgt := 50) hx hb dX12_next_34 (by decide) rfl zk_10 (fun c52 => ?_) (fun c52 => ?_)
          · refine lv_aload_n hx hb dX12_next_50 rfl (lv_at hl 0 rfl) ?_
            refine lv_aload_n hx hb dX12_next_51 rfl (lv_at hl 0 rfl) ?_
            refine fm_getI (a := 60) (j := 65) (T := TX12) (N := 79) hx hb hts hinX12 hown hc hw hI kl_60 sh_60 rfl (by decide) rfl bd_60_65 (hts (.fieldLink RX12 337 "RedTentModel" "to" "I") (List.mem_cons_of_mem _ tw_5_185)) (fun _ h9 => h9) dX12_next_52 (fun x53 ex53 bx53 => ?_)
            have wx53 : x53.toInt = (M_l0.1 60 0 65).toInt := by rw [ex53]
            obtain rfl : x1 = x53 := by rw [ex53]; exact ex1
            refine fm_putI (a := 60) (j := 64) (T := TX12) (N := 79) hx hb hts hinX12 tyX12 tyX12_ok nmX12 hown hc hw hI hE hS kl_60 sh_60 od_60 rfl (by decide) rfl bd_60_64 (hts (.fieldLink RX12 340 "RedTentModel" "from" "I") (List.mem_cons_of_mem _ tw_5_184)) (fun _ h9 => h9) rfl (by decide +kernel) (by omega) (by decide) (by decide) dX12_next_55 (fun M54 H locs eM54 hw hI hE hS => ?_)
            have mM54_60_63 : (M54.1 60 0 63).toInt = (M_l0.1 60 0 63).toInt := by rw [eM54, fm_wI_nj (fun z => absurd z.2.2 (by decide))]
            have mM54_60_64 : (M54.1 60 0 64).toInt = x1.toInt := by rw [eM54, fm_wI_at]
            have mM54_60_65 : (M54.1 60 0 65).toInt = (M_l0.1 60 0 65).toInt := by rw [eM54, fm_wI_nj (fun z => absurd z.2.2 (by decide))]
            refine lv_aload_n hx hb dX12_next_58 rfl (lv_at hl 0 rfl) ?_
            refine lv_aload_n hx hb dX12_next_59 rfl (lv_at hl 0 rfl) ?_
            refine fm_getI (a := 60) (j := 64) (T := TX12) (N := 79) hx hb hts hinX12 hown hc hw hI kl_60 sh_60 rfl (by decide) rfl bd_60_64 (hts (.fieldLink RX12 340 "RedTentModel" "from" "I") (List.mem_cons_of_mem _ tw_5_184)) (fun _ h9 => h9) dX12_next_60 (fun x55 ex55 bx55 => ?_)
            have wx55 : x55.toInt = (M54.1 60 0 64).toInt := by rw [ex55]
            obtain rfl : x1 = x55 := by rw [ex55, eM54, fm_wI_at]
            refine vp_callSi (va_Run.run (va_runV (As := [.int x1]) (rest := []) ⟨hx, hb, hml, hown, hts⟩ (fc_X12_isLetter l D ad C nb M54 hI x1 (by omega)) (cwV 1 hts gX12_next_X12_isLetter rfl rfl rfl (by decide +kernel) ⟨Nat.le_of_ble_eq_true rfl, Nat.le_of_ble_eq_true rfl⟩) (fm_preV hc hw hS kl_60 sh_60 rfl) rfl rfl hl.1 rfl (lv_room (Nat.le_of_ble_eq_true rfl)) dX12_next_63 ⟨by decide +kernel, by decide +kernel⟩)) (fun r56 hr56 => ?_)
            have bqq57 := hI.bd (k := 0) bd_60_63
            rcases hr56 with ⟨rfl, c58⟩ | ⟨rfl, c58⟩
            · refine fx_if_eq (tgt := 93) hx hb dX12_next_66 (by decide) zk_1 (fun c59 => by exfalso; omega) (fun c59 => ?_)
              have l1 : ∀ (n_l1 : Nat)  (M_l1 : fm_M), ((M_l1.1 60 0 63).toInt - (M_l1.1 60 0 65).toInt).toNat < n_l1 → ((M.1 60 0 65).toInt ≤ (M_l1.1 60 0 64).toInt ∧ (M_l1.1 60 0 64).toInt ≤ (M_l1.1 60 0 65).toInt) → fm_I nb ad M_l1 → fm_same [60064, 60065] M M_l1 → ∀ (H : Heap) (locs : List Loc), fm_at D ad C nb M_l1 H → va_S (fm_A nb ad) s.heap H locs → ∀ (ls : Array Slot), lv_has ls 1 [(0, .ref (ad 60 0))] → W p l e (headSpec wsX12_next ({ frames := 2, cells := 0, slots := 0, locals := 43 })).room s m ([.ref (ad 60 0)] : List Value).toArray below meth c H locs 0 0 (MQ below (va_Qv (fun (u : fm_M) => fm_I nb ad u ∧ fm_same [60064, 60065] M u ∧ ((M.1 60 0 65).toInt ≤ (u.1 60 0 64).toInt ∧ (u.1 60 0 64).toInt ≤ (u.1 60 0 65).toInt)) (fun u t => fm_at D ad C nb u t.heap) (fm_A nb ad)) ([.ref (ad 60 0)] : List Value).toArray s 0 0 (fm_A nb ad)) (F0 m 69 ls []) := by
                intro n_l1
                induction n_l1 with
                | zero => intro  M_l1 hm_l1 h1 hI hE H locs hw hS ls hl; exact absurd hm_l1 (Nat.not_lt_zero _)
                | succ n_l1 ih_l1 =>
                  intro  M_l1 hm_l1 h1 hI hE H locs hw hS ls hl
                  refine lv_aload_n hx hb dX12_next_69 rfl (lv_at hl 0 rfl) ?_
                  refine lv_aload_n hx hb dX12_next_70 rfl (lv_at hl 0 rfl) ?_
                  refine fm_getI (a := 60) (j := 65) (T := TX12) (N := 79) hx hb hts hinX12 hown hc hw hI kl_60 sh_60 rfl (by decide) rfl bd_60_65 (hts (.fieldLink RX12 337 "RedTentModel" "to" "I") (List.mem_cons_of_mem _ tw_5_185)) (fun _ h9 => h9) dX12_next_71 (fun x60 ex60 bx60 => ?_)
                  have wx60 : x60.toInt = (M_l1.1 60 0 65).toInt := by rw [ex60]
                  refine vp_callSi (va_Run.run (va_runV (As := [.int x60]) (rest := []) ⟨hx, hb, hml, hown, hts⟩ (fc_X12_isLetter l D ad C nb M_l1 hI x60 (by omega)) (cwV 1 hts gX12_next_X12_isLetter rfl rfl rfl (by decide +kernel) ⟨Nat.le_of_ble_eq_true rfl, Nat.le_of_ble_eq_true rfl⟩) (fm_preV hc hw hS kl_60 sh_60 rfl) rfl rfl hl.1 rfl (lv_room (Nat.le_of_ble_eq_true rfl)) dX12_next_74 ⟨by decide +kernel, by decide +kernel⟩)) (fun r61 hr61 => ?_)
                  have bqq62 := hI.bd (k := 0) bd_60_63
                  rcases hr61 with ⟨rfl, c63⟩ | ⟨rfl, c63⟩
                  · refine fx_if_eq (tgt := 153) hx hb dX12_next_77 (by decide) zk_1 (fun c64 => by exfalso; omega) (fun c64 => ?_)
                    refine lv_aload_n hx hb dX12_next_80 rfl (lv_at hl 0 rfl) ?_
                    refine lv_dup hx hb dX12_next_81 rfl ?_
                    refine fm_getI (a := 60) (j := 65) (T := TX12) (N := 79) hx hb hts hinX12 hown hc hw hI kl_60 sh_60 rfl (by decide) rfl bd_60_65 (hts (.fieldLink RX12 337 "RedTentModel" "to" "I") (List.mem_cons_of_mem _ tw_5_185)) (fun _ h9 => h9) dX12_next_82 (fun x65 ex65 bx65 => ?_)
                    have wx65 : x65.toInt = (M_l1.1 60 0 65).toInt := by rw [ex65]
                    obtain rfl : x60 = x65 := by rw [ex65]; exact ex60
                    refine lv_iconst (v := 1) hx hb dX12_next_85 (by decide) ?_
                    refine fx_iadd hx hb dX12_next_86 rfl zk_1 (by omega) (fun y66 ey66 ty66 => ?_)
                    refine fm_putI (a := 60) (j := 65) (T := TX12) (N := 79) hx hb hts hinX12 tyX12 tyX12_ok nmX12 hown hc hw hI hE hS kl_60 sh_60 od_60 rfl (by decide) rfl bd_60_65 (hts (.fieldLink RX12 337 "RedTentModel" "to" "I") (List.mem_cons_of_mem _ tw_5_185)) (fun _ h9 => h9) rfl (by decide +kernel) (by omega) (by decide) (by decide) dX12_next_87 (fun M67 H locs eM67 hw hI hE hS => ?_)
                    have mM67_60_63 : (M67.1 60 0 63).toInt = (M_l1.1 60 0 63).toInt := by rw [eM67, fm_wI_nj (fun z => absurd z.2.2 (by decide))]
                    have mM67_60_64 : (M67.1 60 0 64).toInt = (M_l1.1 60 0 64).toInt := by rw [eM67, fm_wI_nj (fun z => absurd z.2.2 (by decide))]
                    have mM67_60_65 : (M67.1 60 0 65).toInt = y66.toInt := by rw [eM67, fm_wI_at]
                    refine lv_goto (tgt := 69) hx hb dX12_next_90 (by decide) ?_
                    exact ih_l1 M67 (by omega) (by omega) hI hE _ _ hw hS ls (lv_sub hl [0] rfl)
                  · refine fx_if_eq (tgt := 153) hx hb dX12_next_77 (by decide) zk_0 (fun c68 => ?_) (fun c68 => by exfalso; omega)
                    exact W.vret hx hb hr (fun t ht hW => ⟨⟨M_l1, rfl, ⟨hI, hE, ⟨by omega, by omega⟩⟩, by show fm_at D ad C nb _ t.heap; rw [ht]; exact hw⟩, hS.F ht⟩) hS.2.2 dX12_next_153
              exact l1 _ M54 (Nat.lt_succ_self _) (by omega) hI hE _ _ hw hS ls (lv_sub hl [0] rfl)
            · refine fx_if_eq (tgt := 93) hx hb dX12_next_66 (by decide) zk_0 (fun c69 => ?_) (fun c69 => by exfalso; omega)
              refine lv_aload_n hx hb dX12_next_93 rfl (lv_at hl 0 rfl) ?_
              refine lv_aload_n hx hb dX12_next_94 rfl (lv_at hl 0 rfl) ?_
              refine fm_getI (a := 60) (j := 64) (T := TX12) (N := 79) hx hb hts hinX12 hown hc hw hI kl_60 sh_60 rfl (by decide) rfl bd_60_64 (hts (.fieldLink RX12 340 "RedTentModel" "from" "I") (List.mem_cons_of_mem _ tw_5_184)) (fun _ h9 => h9) dX12_next_95 (fun x70 ex70 bx70 => ?_)
              have wx70 : x70.toInt = (M54.1 60 0 64).toInt := by rw [ex70]
              obtain rfl : x1 = x70 := by rw [ex70, eM54, fm_wI_at]
              refine vp_callSi (va_Run.run (va_runV (As := [.int x1]) (rest := []) ⟨hx, hb, hml, hown, hts⟩ (fc_X12_isDigit l D ad C nb M54 hI x1 (by omega)) (cwV 1 hts gX12_next_X12_isDigit rfl rfl rfl (by decide +kernel) ⟨Nat.le_of_ble_eq_true rfl, Nat.le_of_ble_eq_true rfl⟩) (fm_preV hc hw hS kl_60 sh_60 rfl) rfl rfl hl.1 rfl (lv_room (Nat.le_of_ble_eq_true rfl)) dX12_next_98 ⟨by decide +kernel, by decide +kernel⟩)) (fun r71 hr71 => ?_)
              have bqq72 := hI.bd (k := 0) bd_60_63
              rcases hr71 with ⟨rfl, c73⟩ | ⟨rfl, c73⟩
              · refine fx_if_eq (tgt := 128) hx hb dX12_next_101 (by decide) zk_1 (fun c74 => by exfalso; omega) (fun c74 => ?_)
                have l2 : ∀ (n_l2 : Nat)  (M_l2 : fm_M), ((M_l2.1 60 0 63).toInt - (M_l2.1 60 0 65).toInt).toNat < n_l2 → ((M.1 60 0 65).toInt ≤ (M_l2.1 60 0 64).toInt ∧ (M_l2.1 60 0 64).toInt ≤ (M_l2.1 60 0 65).toInt) → fm_I nb ad M_l2 → fm_same [60064, 60065] M M_l2 → ∀ (H : Heap) (locs : List Loc), fm_at D ad C nb M_l2 H → va_S (fm_A nb ad) s.heap H locs → ∀ (ls : Array Slot), lv_has ls 1 [(0, .ref (ad 60 0))] → W p l e (headSpec wsX12_next ({ frames := 2, cells := 0, slots := 0, locals := 43 })).room s m ([.ref (ad 60 0)] : List Value).toArray below meth c H locs 0 0 (MQ below (va_Qv (fun (u : fm_M) => fm_I nb ad u ∧ fm_same [60064, 60065] M u ∧ ((M.1 60 0 65).toInt ≤ (u.1 60 0 64).toInt ∧ (u.1 60 0 64).toInt ≤ (u.1 60 0 65).toInt)) (fun u t => fm_at D ad C nb u t.heap) (fm_A nb ad)) ([.ref (ad 60 0)] : List Value).toArray s 0 0 (fm_A nb ad)) (F0 m 104 ls []) := by
                  intro n_l2
                  induction n_l2 with
                  | zero => intro  M_l2 hm_l2 h2 hI hE H locs hw hS ls hl; exact absurd hm_l2 (Nat.not_lt_zero _)
                  | succ n_l2 ih_l2 =>
                    intro  M_l2 hm_l2 h2 hI hE H locs hw hS ls hl
                    refine lv_aload_n hx hb dX12_next_104 rfl (lv_at hl 0 rfl) ?_
                    refine lv_aload_n hx hb dX12_next_105 rfl (lv_at hl 0 rfl) ?_
                    refine fm_getI (a := 60) (j := 65) (T := TX12) (N := 79) hx hb hts hinX12 hown hc hw hI kl_60 sh_60 rfl (by decide) rfl bd_60_65 (hts (.fieldLink RX12 337 "RedTentModel" "to" "I") (List.mem_cons_of_mem _ tw_5_185)) (fun _ h9 => h9) dX12_next_106 (fun x75 ex75 bx75 => ?_)
                    have wx75 : x75.toInt = (M_l2.1 60 0 65).toInt := by rw [ex75]
                    refine vp_callSi (va_Run.run (va_runV (As := [.int x75]) (rest := []) ⟨hx, hb, hml, hown, hts⟩ (fc_X12_isDigit l D ad C nb M_l2 hI x75 (by omega)) (cwV 1 hts gX12_next_X12_isDigit rfl rfl rfl (by decide +kernel) ⟨Nat.le_of_ble_eq_true rfl, Nat.le_of_ble_eq_true rfl⟩) (fm_preV hc hw hS kl_60 sh_60 rfl) rfl rfl hl.1 rfl (lv_room (Nat.le_of_ble_eq_true rfl)) dX12_next_109 ⟨by decide +kernel, by decide +kernel⟩)) (fun r76 hr76 => ?_)
                    have bqq77 := hI.bd (k := 0) bd_60_63
                    rcases hr76 with ⟨rfl, c78⟩ | ⟨rfl, c78⟩
                    · refine fx_if_eq (tgt := 153) hx hb dX12_next_112 (by decide) zk_1 (fun c79 => by exfalso; omega) (fun c79 => ?_)
                      refine lv_aload_n hx hb dX12_next_115 rfl (lv_at hl 0 rfl) ?_
                      refine lv_dup hx hb dX12_next_116 rfl ?_
                      refine fm_getI (a := 60) (j := 65) (T := TX12) (N := 79) hx hb hts hinX12 hown hc hw hI kl_60 sh_60 rfl (by decide) rfl bd_60_65 (hts (.fieldLink RX12 337 "RedTentModel" "to" "I") (List.mem_cons_of_mem _ tw_5_185)) (fun _ h9 => h9) dX12_next_117 (fun x80 ex80 bx80 => ?_)
                      have wx80 : x80.toInt = (M_l2.1 60 0 65).toInt := by rw [ex80]
                      obtain rfl : x75 = x80 := by rw [ex80]; exact ex75
                      refine lv_iconst (v := 1) hx hb dX12_next_120 (by decide) ?_
                      refine fx_iadd hx hb dX12_next_121 rfl zk_1 (by omega) (fun y81 ey81 ty81 => ?_)
                      refine fm_putI (a := 60) (j := 65) (T := TX12) (N := 79) hx hb hts hinX12 tyX12 tyX12_ok nmX12 hown hc hw hI hE hS kl_60 sh_60 od_60 rfl (by decide) rfl bd_60_65 (hts (.fieldLink RX12 337 "RedTentModel" "to" "I") (List.mem_cons_of_mem _ tw_5_185)) (fun _ h9 => h9) rfl (by decide +kernel) (by omega) (by decide) (by decide) dX12_next_122 (fun M82 H locs eM82 hw hI hE hS => ?_)
                      have mM82_60_63 : (M82.1 60 0 63).toInt = (M_l2.1 60 0 63).toInt := by rw [eM82, fm_wI_nj (fun z => absurd z.2.2 (by decide))]
                      have mM82_60_64 : (M82.1 60 0 64).toInt = (M_l2.1 60 0 64).toInt := by rw [eM82, fm_wI_nj (fun z => absurd z.2.2 (by decide))]
                      have mM82_60_65 : (M82.1 60 0 65).toInt = y81.toInt := by rw [eM82, fm_wI_at]
                      refine lv_goto (tgt := 104) hx hb dX12_next_125 (by decide) ?_
                      exact ih_l2 M82 (by omega) (by omega) hI hE _ _ hw hS ls (lv_sub hl [0] rfl)
                    · refine fx_if_eq (tgt := 153) hx hb dX12_next_112 (by decide) zk_0 (fun c83 => ?_) (fun c83 => by exfalso; omega)
                      exact W.vret hx hb hr (fun t ht hW => ⟨⟨M_l2, rfl, ⟨hI, hE, ⟨by omega, by omega⟩⟩, by show fm_at D ad C nb _ t.heap; rw [ht]; exact hw⟩, hS.F ht⟩) hS.2.2 dX12_next_153
                exact l2 _ M54 (Nat.lt_succ_self _) (by omega) hI hE _ _ hw hS ls (lv_sub hl [0] rfl)
              · refine fx_if_eq (tgt := 128) hx hb dX12_next_101 (by decide) zk_0 (fun c84 => ?_) (fun c84 => by exfalso; omega)
                refine lv_aload_n hx hb dX12_next_128 rfl (lv_at hl 0 rfl) ?_
                refine lv_dup hx hb dX12_next_129 rfl ?_
                refine fm_getI (a := 60) (j := 65) (T := TX12) (N := 79) hx hb hts hinX12 hown hc hw hI kl_60 sh_60 rfl (by decide) rfl bd_60_65 (hts (.fieldLink RX12 337 "RedTentModel" "to" "I") (List.mem_cons_of_mem _ tw_5_185)) (fun _ h9 => h9) dX12_next_130 (fun x85 ex85 bx85 => ?_)
                have wx85 : x85.toInt = (M54.1 60 0 65).toInt := by rw [ex85]
                obtain rfl : x1 = x85 := by rw [ex85, eM54, fm_wI_nj (fun z => absurd z.2.2 (by decide))]; exact ex1
                refine lv_aload_n hx hb dX12_next_133 rfl (lv_at hl 0 rfl) ?_
                refine fm_getI (a := 60) (j := 64) (T := TX12) (N := 79) hx hb hts hinX12 hown hc hw hI kl_60 sh_60 rfl (by decide) rfl bd_60_64 (hts (.fieldLink RX12 340 "RedTentModel" "from" "I") (List.mem_cons_of_mem _ tw_5_184)) (fun _ h9 => h9) dX12_next_134 (fun x86 ex86 bx86 => ?_)
                have wx86 : x86.toInt = (M54.1 60 0 64).toInt := by rw [ex86]
                obtain rfl : x1 = x86 := by rw [ex86, eM54, fm_wI_at]
                refine lv_aload_n hx hb dX12_next_137 rfl (lv_at hl 0 rfl) ?_
                refine fm_getI (a := 60) (j := 63) (T := TX12) (N := 79) hx hb hts hinX12 hown hc hw hI kl_60 sh_60 rfl (by decide) rfl bd_60_63 (hts (.fieldLink RX12 328 "RedTentModel" "ends" "I") (List.mem_cons_of_mem _ tw_5_183)) (fun _ h9 => h9) dX12_next_138 (fun x87 ex87 bx87 => ?_)
                have wx87 : x87.toInt = (M54.1 60 0 63).toInt := by rw [ex87]
                obtain rfl : x2 = x87 := by rw [ex87, eM54, fm_wI_nj (fun z => absurd z.2.2 (by decide))]; exact ex2
                refine fx_icmp_ge (tgt := 148) hx hb dX12_next_141 (by decide) rfl rfl (fun c88 => ?_) (fun c88 => ?_)
                · refine lv_iconst (v := 0) hx hb dX12_next_148 (by decide) ?_
                  refine fx_iadd hx hb dX12_next_149 rfl zk_0 (by omega) (fun y89 ey89 ty89 => ?_)
                  refine fm_putI (a := 60) (j := 65) (T := TX12) (N := 79) hx hb hts hinX12 tyX12 tyX12_ok nmX12 hown hc hw hI hE hS kl_60 sh_60 od_60 rfl (by decide) rfl bd_60_65 (hts (.fieldLink RX12 337 "RedTentModel" "to" "I") (List.mem_cons_of_mem _ tw_5_185)) (fun _ h9 => h9) rfl (by decide +kernel) (by omega) (by decide) (by decide) dX12_next_150 (fun M90 H locs eM90 hw hI hE hS => ?_)
                  have mM90_60_63 : (M90.1 60 0 63).toInt = (M54.1 60 0 63).toInt := by rw [eM90, fm_wI_nj (fun z => absurd z.2.2 (by decide))]
                  have mM90_60_64 : (M90.1 60 0 64).toInt = (M54.1 60 0 64).toInt := by rw [eM90, fm_wI_nj (fun z => absurd z.2.2 (by decide))]
                  have mM90_60_65 : (M90.1 60 0 65).toInt = y89.toInt := by rw [eM90, fm_wI_at]
                  exact W.vret hx hb hr (fun t ht hW => ⟨⟨M90, rfl, ⟨hI, hE, ⟨by omega, by omega⟩⟩, by show fm_at D ad C nb _ t.heap; rw [ht]; exact hw⟩, hS.F ht⟩) hS.2.2 dX12_next_153
                · refine lv_iconst (v := 1) hx hb dX12_next_144 (by decide) ?_
                  refine lv_goto (tgt := 149) hx hb dX12_next_145 (by decide) ?_
                  refine fx_iadd hx hb dX12_next_149 rfl zk_1 (by omega) (fun y91 ey91 ty91 => ?_)
                  refine fm_putI (a := 60) (j := 65) (T := TX12) (N := 79) hx hb hts hinX12 tyX12 tyX12_ok nmX12 hown hc hw hI hE hS kl_60 sh_60 od_60 rfl (by decide) rfl bd_60_65 (hts (.fieldLink RX12 337 "RedTentModel" "to" "I") (List.mem_cons_of_mem _ tw_5_185)) (fun _ h9 => h9) rfl (by decide +kernel) (by omega) (by decide) (by decide) dX12_next_150 (fun M92 H locs eM92 hw hI hE hS => ?_)
                  have mM92_60_63 : (M92.1 60 0 63).toInt = (M54.1 60 0 63).toInt := by rw [eM92, fm_wI_nj (fun z => absurd z.2.2 (by decide))]
                  have mM92_60_64 : (M92.1 60 0 64).toInt = (M54.1 60 0 64).toInt := by rw [eM92, fm_wI_nj (fun z => absurd z.2.2 (by decide))]
                  have mM92_60_65 : (M92.1 60 0 65).toInt = y91.toInt := by rw [eM92, fm_wI_at]
                  exact W.vret hx hb hr (fun t ht hW => ⟨⟨M92, rfl, ⟨hI, hE, ⟨by omega, by omega⟩⟩, by show fm_at D ad C nb _ t.heap; rw [ht]; exact hw⟩, hS.F ht⟩) hS.2.2 dX12_next_153
          · refine lv_aload_n hx hb dX12_next_37 rfl (lv_at hl 0 rfl) ?_
            refine lv_dup hx hb dX12_next_38 rfl ?_
            refine fm_getI (a := 60) (j := 65) (T := TX12) (N := 79) hx hb hts hinX12 hown hc hw hI kl_60 sh_60 rfl (by decide) rfl bd_60_65 (hts (.fieldLink RX12 337 "RedTentModel" "to" "I") (List.mem_cons_of_mem _ tw_5_185)) (fun _ h9 => h9) dX12_next_39 (fun x93 ex93 bx93 => ?_)
            have wx93 : x93.toInt = (M_l0.1 60 0 65).toInt := by rw [ex93]
            obtain rfl : x1 = x93 := by rw [ex93]; exact ex1
            refine lv_iconst (v := 1) hx hb dX12_next_42 (by decide) ?_
            refine fx_iadd hx hb dX12_next_43 rfl zk_1 (by omega) (fun y94 ey94 ty94 => ?_)
            refine fm_putI (a := 60) (j := 65) (T := TX12) (N := 79) hx hb hts hinX12 tyX12 tyX12_ok nmX12 hown hc hw hI hE hS kl_60 sh_60 od_60 rfl (by decide) rfl bd_60_65 (hts (.fieldLink RX12 337 "RedTentModel" "to" "I") (List.mem_cons_of_mem _ tw_5_185)) (fun _ h9 => h9) rfl (by decide +kernel) (by omega) (by decide) (by decide) dX12_next_44 (fun M95 H locs eM95 hw hI hE hS => ?_)
            have mM95_60_63 : (M95.1 60 0 63).toInt = (M_l0.1 60 0 63).toInt := by rw [eM95, fm_wI_nj (fun z => absurd z.2.2 (by decide))]
            have mM95_60_64 : (M95.1 60 0 64).toInt = (M_l0.1 60 0 64).toInt := by rw [eM95, fm_wI_nj (fun z => absurd z.2.2 (by decide))]
            have mM95_60_65 : (M95.1 60 0 65).toInt = y94.toInt := by rw [eM95, fm_wI_at]
            refine lv_goto (tgt := 0) hx hb dX12_next_47 (by decide) ?_
            exact ih_l0 M95 (by omega) (by omega) hI hE _ _ hw hS ls (lv_sub hl [0] rfl)
  exact l0 _ M (Nat.lt_succ_self _) (by omega) hI hE _ _ hw hS ls (lv_sub hl [0] rfl)
set_option maxHeartbeats 400000 in
set_option maxRecDepth 20000 in
theorem fc_X12_wrong (l : Launch) (D : va_G) (ad : Nat → Nat → Nat) (C : Nat → Nat → ClassId) (nb : Nat) (M : fm_M) (hI : fm_I nb ad M) : Met l yX12_wrong wsX12_wrong ({ frames := 0, cells := 0, slots := 0, locals := 0 }) (va_Pc [.ref (ad 60 0)] (fm_P D ad C nb M)) (va_Qi (fun (r : Int32) (u : fm_M) => fm_I nb ad u ∧ fm_same [60067] M u ∧ (0 ≤ r.toInt ∧ r.toInt ≤ 0)) (fun u t => fm_at D ad C nb u t.heap) (fm_A nb ad)) 0 0 (fm_A nb ad) := by
  refine Met.ofW (cc := cX12_wrong) (maxL := 1) (ret := (some .int)) (by decide) rfl ?_
  intro p e s m args below meth c s₁ B hml hv
  obtain ⟨rfl, hw, hc⟩ := hv
  have hx := B.exec
  have hb := B.bytes
  have hr := B.returns
  have hts := atoms_spec (ws := wsX12_wrong) B.pre
  have hown : s.vm.findClass RX12 = some m.cls := findClass_of_methodNamed B.named
  have hinX12 : ∀ w ∈ u_ws RX12 TX12 79, w ∈ wsX12_wrong := fun w h => List.mem_cons_of_mem _ (iT_X12 w h)
  have hS : va_S (fm_A nb ad) s.heap s.heap [] := va_S.rf
  have hE : fm_same [60067] M M := fm_same.rf
  have hl := lv_entry ([.ref (ad 60 0)]) (n := 1) (Nat.le_of_ble_eq_true rfl)
  rw [lg_entry_eq]
  generalize (lg_sl ([.ref (ad 60 0)]) ++ List.replicate (1 - (lg_sl ([.ref (ad 60 0)])).length) Slot.unset).toArray = ls at hl ⊢
  have hl : lv_has ls 1 [(0, .ref (ad 60 0))] := hl
  refine lv_aload_n hx hb dX12_wrong_0 rfl (lv_at hl 0 rfl) ?_
  refine lv_aload_n hx hb dX12_wrong_1 rfl (lv_at hl 0 rfl) ?_
  refine fm_getI (a := 60) (j := 67) (T := TX12) (N := 79) hx hb hts hinX12 hown hc hw hI kl_60 sh_60 rfl (by decide) rfl bd_60_67 (hts (.fieldLink RX12 349 "RedTentModel" "fault" "I") (List.mem_cons_of_mem _ tw_5_187)) (fun _ h9 => h9) dX12_wrong_2 (fun x1 ex1 bx1 => ?_)
  refine fx_if_ge (tgt := 15) hx hb dX12_wrong_5 (by decide) rfl (fun c2 => ?_) (fun c2 => ?_)
  · refine lv_aload_n hx hb dX12_wrong_15 rfl (lv_at hl 0 rfl) ?_
    refine fm_getI (a := 60) (j := 67) (T := TX12) (N := 79) hx hb hts hinX12 hown hc hw hI kl_60 sh_60 rfl (by decide) rfl bd_60_67 (hts (.fieldLink RX12 349 "RedTentModel" "fault" "I") (List.mem_cons_of_mem _ tw_5_187)) (fun _ h9 => h9) dX12_wrong_16 (fun x3 ex3 bx3 => ?_)
    obtain rfl : x1 = x3 := by rw [ex3]; exact ex1
    refine fm_putI (a := 60) (j := 67) (T := TX12) (N := 79) hx hb hts hinX12 tyX12 tyX12_ok nmX12 hown hc hw hI hE hS kl_60 sh_60 od_60 rfl (by decide) rfl bd_60_67 (hts (.fieldLink RX12 349 "RedTentModel" "fault" "I") (List.mem_cons_of_mem _ tw_5_187)) (fun _ h9 => h9) rfl (by decide +kernel) (by omega) (by decide) (by decide) dX12_wrong_19 (fun M4 H locs eM4 hw hI hE hS => ?_)
    refine lv_iconst (v := 0) hx hb dX12_wrong_22 (by decide) ?_
    exact W.iret (v := 0) hx hb hr (fun t ht hW => ⟨⟨0, M4, rfl, ⟨hI, hE, (by decide)⟩, by show fm_at D ad C nb _ t.heap; rw [ht]; exact hw⟩, hS.F ht⟩) hS.2.2 dX12_wrong_23
  · refine lv_aload_n hx hb dX12_wrong_8 rfl (lv_at hl 0 rfl) ?_
    refine fm_getI (a := 60) (j := 64) (T := TX12) (N := 79) hx hb hts hinX12 hown hc hw hI kl_60 sh_60 rfl (by decide) rfl bd_60_64 (hts (.fieldLink RX12 340 "RedTentModel" "from" "I") (List.mem_cons_of_mem _ tw_5_184)) (fun _ h9 => h9) dX12_wrong_9 (fun x5 ex5 bx5 => ?_)
    refine lv_goto (tgt := 19) hx hb dX12_wrong_12 (by decide) ?_
    refine fm_putI (a := 60) (j := 67) (T := TX12) (N := 79) hx hb hts hinX12 tyX12 tyX12_ok nmX12 hown hc hw hI hE hS kl_60 sh_60 od_60 rfl (by decide) rfl bd_60_67 (hts (.fieldLink RX12 349 "RedTentModel" "fault" "I") (List.mem_cons_of_mem _ tw_5_187)) (fun _ h9 => h9) rfl (by decide +kernel) (by omega) (by decide) (by decide) dX12_wrong_19 (fun M6 H locs eM6 hw hI hE hS => ?_)
    refine lv_iconst (v := 0) hx hb dX12_wrong_22 (by decide) ?_
    exact W.iret (v := 0) hx hb hr (fun t ht hW => ⟨⟨0, M6, rfl, ⟨hI, hE, (by decide)⟩, by show fm_at D ad C nb _ t.heap; rw [ht]; exact hw⟩, hS.F ht⟩) hS.2.2 dX12_wrong_23
set_option maxHeartbeats 400000 in
set_option maxRecDepth 20000 in
theorem fc_X12_take (l : Launch) (D : va_G) (ad : Nat → Nat → Nat) (C : Nat → Nat → ClassId) (nb : Nat) (M : fm_M) (hI : fm_I nb ad M) (q v N : Nat) (f : Nat → Int32) (hN : 1 ≤ N ∧ N ≤ 50) (hft : (M.1 60 0 64).toInt ≤ (M.1 60 0 65).toInt) : Met l yX12_take wsX12_take ({ frames := 5, cells := 0, slots := 0, locals := 108 }) (va_Pc [.ref (ad 60 0), .ref q] (fun U => fm_P D ad C nb M U ∧ rt_Str q v N f (fm_A nb ad) U U.heap)) (va_Qi (fun (r : Int32) (u : fm_M) => fm_I nb ad u ∧ fm_same [60064, 60065] M u ∧ (((r = 1 ∧ (M.1 60 0 64).toInt < (u.1 60 0 64).toInt ∧ (u.1 60 0 64).toInt ≤ (u.1 60 0 65).toInt) ∨ (r = 0 ∧ (u.1 60 0 64).toInt = (M.1 60 0 64).toInt ∧ (u.1 60 0 65).toInt = (M.1 60 0 65).toInt)))) (fun u t => fm_at D ad C nb u t.heap) (fm_A nb ad)) 0 0 (fm_A nb ad) := by
  refine Met.ofW (cc := cX12_take) (maxL := 2) (ret := (some .boolean)) (by decide) rfl ?_
  intro p e s m args below meth c s₁ B hml hv
  obtain ⟨rfl, ⟨hw, hc⟩, hQq⟩ := hv
  have hx := B.exec
  have hb := B.bytes
  have hr := B.returns
  have hts := atoms_spec (ws := wsX12_take) B.pre
  have hown : s.vm.findClass RX12 = some m.cls := findClass_of_methodNamed B.named
  have hinX12 : ∀ w ∈ u_ws RX12 TX12 79, w ∈ wsX12_take := fun w h => List.mem_cons_of_mem _ (iT_X12 w h)
  have hS : va_S (fm_A nb ad) s.heap s.heap [] := va_S.rf
  have hE : fm_same [60064, 60065] M M := fm_same.rf
  have hl := lv_entry ([.ref (ad 60 0), .ref q]) (n := 2) (Nat.le_of_ble_eq_true rfl)
  rw [lg_entry_eq]
  generalize (lg_sl ([.ref (ad 60 0), .ref q]) ++ List.replicate (2 - (lg_sl ([.ref (ad 60 0), .ref q])).length) Slot.unset).toArray = ls at hl ⊢
  have hl : lv_has ls 2 [(0, .ref (ad 60 0)), (1, .ref q)] := hl
  refine lv_aload_n hx hb dX12_take_0 rfl (lv_at hl 0 rfl) ?_
  refine fm_getI (a := 60) (j := 67) (T := TX12) (N := 79) hx hb hts hinX12 hown hc hw hI kl_60 sh_60 rfl (by decide) rfl bd_60_67 (hts (.fieldLink RX12 349 "RedTentModel" "fault" "I") (List.mem_cons_of_mem _ tw_5_187)) (fun _ h9 => h9) dX12_take_1 (fun x1 ex1 bx1 => ?_)
  refine fx_if_ge (tgt := 15) hx hb dX12_take_4 (by decide) rfl (fun c2 => ?_) (fun c2 => ?_)
  · refine lv_iconst (v := 0) hx hb dX12_take_15 (by decide) ?_
    exact W.zret (v := 0) hx hb hr rfl (fun t ht hW => ⟨⟨0, M, rfl, ⟨hI, hE, Or.inr ⟨rfl, by omega, by omega⟩⟩, by show fm_at D ad C nb _ t.heap; rw [ht]; exact hw⟩, hS.F ht⟩) hS.2.2 dX12_take_16
  · refine lv_aload_n hx hb dX12_take_7 rfl (lv_at hl 0 rfl) ?_
    refine lv_aload_n hx hb dX12_take_8 rfl (lv_at hl 1 rfl) ?_
    refine vp_callSi (va_Run.run (va_runV (As := [.ref q]) (rest := []) ⟨hx, hb, hml, hown, hts⟩ (fc_X12_is l D ad C nb M hI q v N f hN) (cwV 1 hts gX12_take_X12_is rfl rfl rfl (by decide +kernel) ⟨Nat.le_of_ble_eq_true rfl, Nat.le_of_ble_eq_true rfl⟩) (fm_preVS hc hw hS hQq kl_60 sh_60 rfl) rfl rfl hl.1 rfl (lv_room (Nat.le_of_ble_eq_true rfl)) dX12_take_9 ⟨by decide +kernel, by decide +kernel⟩)) (fun r3 hr3 => ?_)
    have ir3 := hr3.2
    have jr3 := hr3.1
    refine fx_if_ne (tgt := 17) hx hb dX12_take_12 (by decide) rfl (fun c4 => ?_) (fun c4 => ?_)
    · refine lv_aload_n hx hb dX12_take_17 rfl (lv_at hl 0 rfl) ?_
      refine fm_cv (va_runV (As := []) (rest := []) ⟨hx, hb, hml, hown, hts⟩ (fc_X12_next l D ad C nb M hI) (cwV 0 hts gX12_take_X12_next rfl rfl rfl (by decide +kernel) ⟨Nat.le_of_ble_eq_true rfl, Nat.le_of_ble_eq_true rfl⟩) (fm_preV hc hw hS kl_60 sh_60 rfl) rfl rfl hl.1 rfl (lv_room (Nat.le_of_ble_eq_true rfl)) dX12_take_18 ⟨by decide +kernel, by decide +kernel⟩) hS hc (fun M6 H locs hr5 hw hS => ?_)
      obtain ⟨hI, hEM6, hr5⟩ := hr5
      have hE := hE.tr hEM6 (by decide)
      have mM6_60_63 : (M6.1 60 0 63).toInt = (M.1 60 0 63).toInt := by rw [(hEM6 60 0 63 (by decide)).1]
      have mM6_60_66 : (M6.1 60 0 66).toInt = (M.1 60 0 66).toInt := by rw [(hEM6 60 0 66 (by decide)).1]
      refine lv_iconst (v := 1) hx hb dX12_take_21 (by decide) ?_
      exact W.zret (v := 1) hx hb hr rfl (fun t ht hW => ⟨⟨1, M6, rfl, ⟨hI, hE, Or.inl ⟨rfl, by omega, by omega⟩⟩, by show fm_at D ad C nb _ t.heap; rw [ht]; exact hw⟩, hS.F ht⟩) hS.2.2 dX12_take_22
    · refine lv_iconst (v := 0) hx hb dX12_take_15 (by decide) ?_
      exact W.zret (v := 0) hx hb hr rfl (fun t ht hW => ⟨⟨0, M, rfl, ⟨hI, hE, Or.inr ⟨rfl, by omega, by omega⟩⟩, by show fm_at D ad C nb _ t.heap; rw [ht]; exact hw⟩, hS.F ht⟩) hS.2.2 dX12_take_16
set_option maxHeartbeats 400000 in
set_option maxRecDepth 20000 in
theorem fc_X12_opens (l : Launch) (D : va_G) (ad : Nat → Nat → Nat) (C : Nat → Nat → ClassId) (nb : Nat) (M : fm_M) (hI : fm_I nb ad M) : Met l yX12_opens wsX12_opens ({ frames := 3, cells := 0, slots := 0, locals := 63 }) (va_Pc [.ref (ad 60 0)] (fm_P D ad C nb M)) (va_Qi (fun (r : Int32) (u : fm_M) => fm_I nb ad u ∧ fm_same [60064, 60065, 60066, 60067] M u ∧ (((r = 1 ∧ (u.1 60 0 66).toInt = (M.1 60 0 66).toInt + 1 ∧ (M.1 60 0 65).toInt ≤ (u.1 60 0 64).toInt ∧ (u.1 60 0 64).toInt ≤ (u.1 60 0 65).toInt) ∨ (r = 0 ∧ (u.1 60 0 66).toInt = (M.1 60 0 66).toInt ∧ (u.1 60 0 64).toInt = (M.1 60 0 64).toInt ∧ (u.1 60 0 65).toInt = (M.1 60 0 65).toInt)))) (fun u t => fm_at D ad C nb u t.heap) (fm_A nb ad)) 0 0 (fm_A nb ad) := by
  refine Met.ofW (cc := cX12_opens) (maxL := 2) (ret := (some .boolean)) (by decide) rfl ?_
  intro p e s m args below meth c s₁ B hml hv
  obtain ⟨rfl, hw, hc⟩ := hv
  have hx := B.exec
  have hb := B.bytes
  have hr := B.returns
  have hts := atoms_spec (ws := wsX12_opens) B.pre
  have hown : s.vm.findClass RX12 = some m.cls := findClass_of_methodNamed B.named
  have hinX12 : ∀ w ∈ u_ws RX12 TX12 79, w ∈ wsX12_opens := fun w h => List.mem_cons_of_mem _ (iT_X12 w h)
  have hS : va_S (fm_A nb ad) s.heap s.heap [] := va_S.rf
  have hE : fm_same [60064, 60065, 60066, 60067] M M := fm_same.rf
  have hl := lv_entry ([.ref (ad 60 0)]) (n := 2) (Nat.le_of_ble_eq_true rfl)
  rw [lg_entry_eq]
  generalize (lg_sl ([.ref (ad 60 0)]) ++ List.replicate (2 - (lg_sl ([.ref (ad 60 0)])).length) Slot.unset).toArray = ls at hl ⊢
  have hl : lv_has ls 2 [(0, .ref (ad 60 0))] := hl
  refine lv_aload_n hx hb dX12_opens_0 rfl (lv_at hl 0 rfl) ?_
  refine fm_getI (a := 60) (j := 66) (T := TX12) (N := 79) hx hb hts hinX12 hown hc hw hI kl_60 sh_60 rfl (by decide) rfl bd_60_66 (hts (.fieldLink RX12 372 "RedTentModel" "open" "I") (List.mem_cons_of_mem _ tw_5_186)) (fun _ h9 => h9) dX12_opens_1 (fun x1 ex1 bx1 => ?_)
  have wx1 : x1.toInt = (M.1 60 0 66).toInt := by rw [ex1]
  refine lv_iconst (v := 5) hx hb dX12_opens_4 (by decide) ?_
  refine fx_icmp_ne (tgt := 15) hx hb dX12_opens_5 (by decide) rfl zk_5 (fun c2 => ?_) (fun c2 => ?_)
  · refine lv_aload_n hx hb dX12_opens_15 rfl (lv_at hl 0 rfl) ?_
    refine lv_dup hx hb dX12_opens_16 rfl ?_
    refine fm_getI (a := 60) (j := 66) (T := TX12) (N := 79) hx hb hts hinX12 hown hc hw hI kl_60 sh_60 rfl (by decide) rfl bd_60_66 (hts (.fieldLink RX12 372 "RedTentModel" "open" "I") (List.mem_cons_of_mem _ tw_5_186)) (fun _ h9 => h9) dX12_opens_17 (fun x3 ex3 bx3 => ?_)
    have wx3 : x3.toInt = (M.1 60 0 66).toInt := by rw [ex3]
    obtain rfl : x1 = x3 := by rw [ex3]; exact ex1
    refine lv_iconst (v := 1) hx hb dX12_opens_20 (by decide) ?_
    refine fx_iadd hx hb dX12_opens_21 rfl zk_1 (by omega) (fun y4 ey4 ty4 => ?_)
    refine fm_putI (a := 60) (j := 66) (T := TX12) (N := 79) hx hb hts hinX12 tyX12 tyX12_ok nmX12 hown hc hw hI hE hS kl_60 sh_60 od_60 rfl (by decide) rfl bd_60_66 (hts (.fieldLink RX12 372 "RedTentModel" "open" "I") (List.mem_cons_of_mem _ tw_5_186)) (fun _ h9 => h9) rfl (by decide +kernel) (by omega) (by decide) (by decide) dX12_opens_22 (fun M5 H locs eM5 hw hI hE hS => ?_)
    have mM5_60_63 : (M5.1 60 0 63).toInt = (M.1 60 0 63).toInt := by rw [eM5, fm_wI_nj (fun z => absurd z.2.2 (by decide))]
    have mM5_60_64 : (M5.1 60 0 64).toInt = (M.1 60 0 64).toInt := by rw [eM5, fm_wI_nj (fun z => absurd z.2.2 (by decide))]
    have mM5_60_65 : (M5.1 60 0 65).toInt = (M.1 60 0 65).toInt := by rw [eM5, fm_wI_nj (fun z => absurd z.2.2 (by decide))]
    have mM5_60_66 : (M5.1 60 0 66).toInt = y4.toInt := by rw [eM5, fm_wI_at]
    refine lv_aload_n hx hb dX12_opens_25 rfl (lv_at hl 0 rfl) ?_
    refine fm_cv (va_runV (As := []) (rest := []) ⟨hx, hb, hml, hown, hts⟩ (fc_X12_next l D ad C nb M5 hI) (cwV 0 hts gX12_opens_X12_next rfl rfl rfl (by decide +kernel) ⟨Nat.le_of_ble_eq_true rfl, Nat.le_of_ble_eq_true rfl⟩) (fm_preV hc hw hS kl_60 sh_60 rfl) rfl rfl hl.1 rfl (lv_room (Nat.le_of_ble_eq_true rfl)) dX12_opens_26 ⟨by decide +kernel, by decide +kernel⟩) hS hc (fun M7 H locs hr6 hw hS => ?_)
    obtain ⟨hI, hEM7, hr6⟩ := hr6
    have hE := hE.tr hEM7 (by decide)
    have mM7_60_63 : (M7.1 60 0 63).toInt = (M5.1 60 0 63).toInt := by rw [(hEM7 60 0 63 (by decide)).1]
    have mM7_60_66 : (M7.1 60 0 66).toInt = (M5.1 60 0 66).toInt := by rw [(hEM7 60 0 66 (by decide)).1]
    refine lv_iconst (v := 1) hx hb dX12_opens_29 (by decide) ?_
    have qx1 : x1.toInt = (M.1 60 0 66).toInt := by rw [ex1]
    exact W.zret (v := 1) hx hb hr rfl (fun t ht hW => ⟨⟨1, M7, rfl, ⟨hI, hE, Or.inl ⟨rfl, by omega, by omega, by omega⟩⟩, by show fm_at D ad C nb _ t.heap; rw [ht]; exact hw⟩, hS.F ht⟩) hS.2.2 dX12_opens_30
  · refine lv_aload_n hx hb dX12_opens_8 rfl (lv_at hl 0 rfl) ?_
    refine fm_ci (va_runV (As := []) (rest := []) ⟨hx, hb, hml, hown, hts⟩ (fc_X12_wrong l D ad C nb M hI) (cwV 0 hts gX12_opens_X12_wrong rfl rfl rfl (by decide +kernel) ⟨Nat.le_of_ble_eq_true rfl, Nat.le_of_ble_eq_true rfl⟩) (fm_preV hc hw hS kl_60 sh_60 rfl) rfl rfl hl.1 rfl (lv_room (Nat.le_of_ble_eq_true rfl)) dX12_opens_9 ⟨by decide +kernel, by decide +kernel⟩) hS hc (fun r8 M9 H locs hr8 hw hS => ?_)
    obtain ⟨hI, hEM9, hr8⟩ := hr8
    have hE := hE.tr hEM9 (by decide)
    have mM9_60_63 : (M9.1 60 0 63).toInt = (M.1 60 0 63).toInt := by rw [(hEM9 60 0 63 (by decide)).1]
    have mM9_60_64 : (M9.1 60 0 64).toInt = (M.1 60 0 64).toInt := by rw [(hEM9 60 0 64 (by decide)).1]
    have mM9_60_65 : (M9.1 60 0 65).toInt = (M.1 60 0 65).toInt := by rw [(hEM9 60 0 65 (by decide)).1]
    have mM9_60_66 : (M9.1 60 0 66).toInt = (M.1 60 0 66).toInt := by rw [(hEM9 60 0 66 (by decide)).1]
    refine lv_istore_n (lv' := [(1, .int r8), (0, .ref (ad 60 0))]) hx hb dX12_opens_12 rfl hl (by decide) rfl (fun ls hl => ?_)
    refine lv_iconst (v := 0) hx hb dX12_opens_13 (by decide) ?_
    have qx1 : x1.toInt = (M.1 60 0 66).toInt := by rw [ex1]
    exact W.zret (v := 0) hx hb hr rfl (fun t ht hW => ⟨⟨0, M9, rfl, ⟨hI, hE, Or.inr ⟨rfl, by omega, by omega, by omega⟩⟩, by show fm_at D ad C nb _ t.heap; rw [ht]; exact hw⟩, hS.F ht⟩) hS.2.2 dX12_opens_14
set_option maxHeartbeats 400000 in
set_option maxRecDepth 20000 in
theorem fc_X12_one_5 (l : Launch) (D : va_G) (ad : Nat → Nat → Nat) (C : Nat → Nat → ClassId) (nb : Nat) (M : fm_M) (hI : fm_I nb ad M) (hft : (M.1 60 0 64).toInt ≤ (M.1 60 0 65).toInt) (hop : 5 ≤ (M.1 60 0 66).toInt) : Met l yX12_one wsX12_one ({ frames := 5, cells := 0, slots := 0, locals := 108 }) (va_Pc [.ref (ad 60 0)] (fm_P D ad C nb M)) (va_Qi (fun (r : Int32) (u : fm_M) => fm_I nb ad u ∧ fm_same [60064, 60065, 60066, 60067] M u ∧ ((M.1 60 0 64).toInt ≤ (u.1 60 0 64).toInt ∧ (M.1 60 0 66).toInt ≤ (u.1 60 0 66).toInt ∧ (u.1 60 0 64).toInt ≤ (u.1 60 0 65).toInt)) (fun u t => fm_at D ad C nb u t.heap) (fm_A nb ad)) 0 0 (fm_A nb ad) := by
  refine Met.ofW (cc := cX12_one) (maxL := 3) (ret := (some .int)) (by decide) rfl ?_
  intro p e s m args below meth c s₁ B hml hv
  obtain ⟨rfl, hw, hc⟩ := hv
  have hx := B.exec
  have hb := B.bytes
  have hr := B.returns
  have hts := atoms_spec (ws := wsX12_one) B.pre
  have hown : s.vm.findClass RX12 = some m.cls := findClass_of_methodNamed B.named
  have hinX12 : ∀ w ∈ u_ws RX12 TX12 79, w ∈ wsX12_one := fun w h => List.mem_cons_of_mem _ (iT_X12 w h)
  have hS : va_S (fm_A nb ad) s.heap s.heap [] := va_S.rf
  have hE : fm_same [60064, 60065, 60066, 60067] M M := fm_same.rf
  have hl := lv_entry ([.ref (ad 60 0)]) (n := 3) (Nat.le_of_ble_eq_true rfl)
  rw [lg_entry_eq]
  generalize (lg_sl ([.ref (ad 60 0)]) ++ List.replicate (3 - (lg_sl ([.ref (ad 60 0)])).length) Slot.unset).toArray = ls at hl ⊢
  have hl : lv_has ls 3 [(0, .ref (ad 60 0))] := hl
  refine lv_aload_n hx hb dX12_one_0 rfl (lv_at hl 0 rfl) ?_
  refine fm_getI (a := 60) (j := 67) (T := TX12) (N := 79) hx hb hts hinX12 hown hc hw hI kl_60 sh_60 rfl (by decide) rfl bd_60_67 (hts (.fieldLink RX12 349 "RedTentModel" "fault" "I") (List.mem_cons_of_mem _ tw_5_187)) (fun _ h9 => h9) dX12_one_1 (fun x1 ex1 bx1 => ?_)
  refine fx_if_lt (tgt := 9) hx hb dX12_one_4 (by decide) rfl (fun c2 => ?_) (fun c2 => ?_)
  · refine lv_aload_n hx hb dX12_one_9 rfl (lv_at hl 0 rfl) ?_
    obtain ⟨q3, vq3, hQq3, hRq3⟩ := hc.2.2.2.2.1 (RX12, 396, "-", [45]) (by decide)
    refine va_ldcwS hx hb hown hRq3 dX12_one_10 ?_
    refine vp_callSi (va_Run.run (va_runV (As := [.ref q3]) (rest := []) ⟨hx, hb, hml, hown, hts⟩ (fc_X12_is l D ad C nb M hI q3 vq3 1 (fun j => ([45] : List Int32).getD j 0) (by decide)) (cwV 1 hts gX12_one_X12_is rfl rfl rfl (by decide +kernel) ⟨Nat.le_of_ble_eq_true rfl, Nat.le_of_ble_eq_true rfl⟩) (fm_preVS hc hw hS hQq3 kl_60 sh_60 rfl) rfl rfl hl.1 rfl (lv_room (Nat.le_of_ble_eq_true rfl)) dX12_one_13 ⟨by decide +kernel, by decide +kernel⟩)) (fun r4 hr4 => ?_)
    have ir4 := hr4.2
    have jr4 := hr4.1
    refine fx_if_eq (tgt := 46) hx hb dX12_one_16 (by decide) rfl (fun c5 => ?_) (fun c5 => ?_)
    · refine lv_aload_n hx hb dX12_one_46 rfl (lv_at hl 0 rfl) ?_
      obtain ⟨q6, vq6, hQq6, hRq6⟩ := hc.2.2.2.2.1 (RX12, 403, "(", [40]) (by decide)
      refine va_ldcwS hx hb hown hRq6 dX12_one_47 ?_
      refine vp_callSi (va_Run.run (va_runV (As := [.ref q6]) (rest := []) ⟨hx, hb, hml, hown, hts⟩ (fc_X12_is l D ad C nb M hI q6 vq6 1 (fun j => ([40] : List Int32).getD j 0) (by decide)) (cwV 1 hts gX12_one_X12_is rfl rfl rfl (by decide +kernel) ⟨Nat.le_of_ble_eq_true rfl, Nat.le_of_ble_eq_true rfl⟩) (fm_preVS hc hw hS hQq6 kl_60 sh_60 rfl) rfl rfl hl.1 rfl (lv_room (Nat.le_of_ble_eq_true rfl)) dX12_one_50 ⟨by decide +kernel, by decide +kernel⟩)) (fun r7 hr7 => ?_)
      have ir7 := hr7.2
      have jr7 := hr7.1
      refine fx_if_eq (tgt := 97) hx hb dX12_one_53 (by decide) rfl (fun c8 => ?_) (fun c8 => ?_)
      · refine lv_aload_n hx hb dX12_one_97 rfl (lv_at hl 0 rfl) ?_
        refine lv_aload_n hx hb dX12_one_98 rfl (lv_at hl 0 rfl) ?_
        refine fm_getI (a := 60) (j := 64) (T := TX12) (N := 79) hx hb hts hinX12 hown hc hw hI kl_60 sh_60 rfl (by decide) rfl bd_60_64 (hts (.fieldLink RX12 340 "RedTentModel" "from" "I") (List.mem_cons_of_mem _ tw_5_184)) (fun _ h9 => h9) dX12_one_99 (fun x9 ex9 bx9 => ?_)
        have wx9 : x9.toInt = (M.1 60 0 64).toInt := by rw [ex9]
        refine vp_callSi (va_Run.run (va_runV (As := [.int x9]) (rest := []) ⟨hx, hb, hml, hown, hts⟩ (fc_X12_isDigit l D ad C nb M hI x9 (by omega)) (cwV 1 hts gX12_one_X12_isDigit rfl rfl rfl (by decide +kernel) ⟨Nat.le_of_ble_eq_true rfl, Nat.le_of_ble_eq_true rfl⟩) (fm_preV hc hw hS kl_60 sh_60 rfl) rfl rfl hl.1 rfl (lv_room (Nat.le_of_ble_eq_true rfl)) dX12_one_102 ⟨by decide +kernel, by decide +kernel⟩)) (fun r10 hr10 => ?_)
        have bqq11 := hI.bd (k := 0) bd_60_63
        rcases hr10 with ⟨rfl, c12⟩ | ⟨rfl, c12⟩
        · refine fx_if_eq (tgt := 167) hx hb dX12_one_105 (by decide) zk_1 (fun c13 => by exfalso; omega) (fun c13 => ?_)
          refine lv_aload_n hx hb dX12_one_108 rfl (lv_at hl 0 rfl) ?_
          refine fm_getI (a := 60) (j := 65) (T := TX12) (N := 79) hx hb hts hinX12 hown hc hw hI kl_60 sh_60 rfl (by decide) rfl bd_60_65 (hts (.fieldLink RX12 337 "RedTentModel" "to" "I") (List.mem_cons_of_mem _ tw_5_185)) (fun _ h9 => h9) dX12_one_109 (fun x14 ex14 bx14 => ?_)
          have wx14 : x14.toInt = (M.1 60 0 65).toInt := by rw [ex14]
          refine lv_aload_n hx hb dX12_one_112 rfl (lv_at hl 0 rfl) ?_
          refine fm_getI (a := 60) (j := 64) (T := TX12) (N := 79) hx hb hts hinX12 hown hc hw hI kl_60 sh_60 rfl (by decide) rfl bd_60_64 (hts (.fieldLink RX12 340 "RedTentModel" "from" "I") (List.mem_cons_of_mem _ tw_5_184)) (fun _ h9 => h9) dX12_one_113 (fun x15 ex15 bx15 => ?_)
          have wx15 : x15.toInt = (M.1 60 0 64).toInt := by rw [ex15]
          obtain rfl : x9 = x15 := by rw [ex15]; exact ex9
          refine fx_isub hx hb dX12_one_116 rfl rfl (by omega) (fun y16 ey16 ty16 => ?_)
          refine lv_iconst (v := 4) hx hb dX12_one_117 (by decide) ?_
          refine fx_icmp_le (tgt := 126) hx hb dX12_one_118 (by decide) rfl zk_4 (fun c17 => ?_) (fun c17 => ?_)
          · refine lv_iconst (v := 0) hx hb dX12_one_126 (by decide) ?_
            refine lv_istore_n (lv' := [(1, .int 0), (0, .ref (ad 60 0))]) hx hb dX12_one_127 rfl hl (by decide) rfl (fun ls hl => ?_)
            refine lv_aload_n hx hb dX12_one_128 rfl (lv_at hl 1 rfl) ?_
            refine fm_getI (a := 60) (j := 64) (T := TX12) (N := 79) hx hb hts hinX12 hown hc hw hI kl_60 sh_60 rfl (by decide) rfl bd_60_64 (hts (.fieldLink RX12 340 "RedTentModel" "from" "I") (List.mem_cons_of_mem _ tw_5_184)) (fun _ h9 => h9) dX12_one_129 (fun x18 ex18 bx18 => ?_)
            have wx18 : x18.toInt = (M.1 60 0 64).toInt := by rw [ex18]
            obtain rfl : x9 = x18 := by rw [ex18]; exact ex9
            refine lv_istore_n (lv' := [(2, .int x9), (1, .int 0), (0, .ref (ad 60 0))]) hx hb dX12_one_132 rfl hl (by decide) rfl (fun ls hl => ?_)
            have lp : ∀ (n_lp : Nat) (lp_2 : Int32) (lp_1 : Int32), (160 - lp_2.toInt).toNat < n_lp → (0 ≤ lp_2.toInt ∧ lp_2.toInt ≤ 160) → ∀ (ls : Array Slot), lv_has ls 3 [(2, .int lp_2), (1, .int lp_1), (0, .ref (ad 60 0))] → W p l e (headSpec wsX12_one ({ frames := 5, cells := 0, slots := 0, locals := 108 })).room s m ([.ref (ad 60 0)] : List Value).toArray below meth c s.heap [] 0 0 (MQ below (va_Qi (fun (r : Int32) (u : fm_M) => fm_I nb ad u ∧ fm_same [60064, 60065, 60066, 60067] M u ∧ ((M.1 60 0 64).toInt ≤ (u.1 60 0 64).toInt ∧ (M.1 60 0 66).toInt ≤ (u.1 60 0 66).toInt ∧ (u.1 60 0 64).toInt ≤ (u.1 60 0 65).toInt)) (fun u t => fm_at D ad C nb u t.heap) (fm_A nb ad)) ([.ref (ad 60 0)] : List Value).toArray s 0 0 (fm_A nb ad)) (F0 m 133 ls []) := by
              intro n_lp
              induction n_lp with
              | zero => intro lp_2 lp_1 hm_lp b_lp_2 ls hl; exact absurd hm_lp (Nat.not_lt_zero _)
              | succ n_lp ih_lp =>
                intro lp_2 lp_1 hm_lp b_lp_2 ls hl
                refine lv_iload_n hx hb dX12_one_133 rfl (lv_at hl 0 rfl) ?_
                refine lv_aload_n hx hb dX12_one_134 rfl (lv_at hl 2 rfl) ?_
                refine fm_getI (a := 60) (j := 65) (T := TX12) (N := 79) hx hb hts hinX12 hown hc hw hI kl_60 sh_60 rfl (by decide) rfl bd_60_65 (hts (.fieldLink RX12 337 "RedTentModel" "to" "I") (List.mem_cons_of_mem _ tw_5_185)) (fun _ h9 => h9) dX12_one_135 (fun x19 ex19 bx19 => ?_)
                have wx19 : x19.toInt = (M.1 60 0 65).toInt := by rw [ex19]
                obtain rfl : x14 = x19 := by rw [ex19]; exact ex14
                refine fx_icmp_ge (tgt := 161) hx hb dX12_one_138 (by decide) rfl rfl (fun c20 => ?_) (fun c20 => ?_)
                · refine lv_aload_n hx hb dX12_one_161 rfl (lv_at hl 2 rfl) ?_
                  refine fm_cv (va_runV (As := []) (rest := []) ⟨hx, hb, hml, hown, hts⟩ (fc_X12_next l D ad C nb M hI) (cwV 0 hts gX12_one_X12_next rfl rfl rfl (by decide +kernel) ⟨Nat.le_of_ble_eq_true rfl, Nat.le_of_ble_eq_true rfl⟩) (fm_preV hc hw hS kl_60 sh_60 rfl) rfl rfl hl.1 rfl (lv_room (Nat.le_of_ble_eq_true rfl)) dX12_one_162 ⟨by decide +kernel, by decide +kernel⟩) hS hc (fun M22 H locs hr21 hw hS => ?_)
                  obtain ⟨hI, hEM22, hr21⟩ := hr21
                  have hE := hE.tr hEM22 (by decide)
                  have mM22_60_63 : (M22.1 60 0 63).toInt = (M.1 60 0 63).toInt := by rw [(hEM22 60 0 63 (by decide)).1]
                  have mM22_60_66 : (M22.1 60 0 66).toInt = (M.1 60 0 66).toInt := by rw [(hEM22 60 0 66 (by decide)).1]
                  refine lv_iload_n hx hb dX12_one_165 rfl (lv_at hl 1 rfl) ?_
                  have qx9 : x9.toInt = (M.1 60 0 64).toInt := by rw [ex9]
                  exact W.iret (v := lp_1) hx hb hr (fun t ht hW => ⟨⟨lp_1, M22, rfl, ⟨hI, hE, ⟨by omega, by omega, by omega⟩⟩, by show fm_at D ad C nb _ t.heap; rw [ht]; exact hw⟩, hS.F ht⟩) hS.2.2 dX12_one_166
                · refine lv_bipush (v := 10) hx hb dX12_one_141 (by decide) ?_
                  refine lv_iload_n hx hb dX12_one_143 rfl (lv_at hl 1 rfl) ?_
                  refine fx_imulU hx hb dX12_one_144 (fun y23 ey23 => ?_)
                  refine lv_aload_n hx hb dX12_one_145 rfl (lv_at hl 2 rfl) ?_
                  refine lv_iload_n hx hb dX12_one_146 rfl (lv_at hl 0 rfl) ?_
                  refine vp_callSi (va_Run.run (va_runV (As := [.int lp_2]) (rest := [.int y23]) ⟨hx, hb, hml, hown, hts⟩ (fc_X12_byteAt l D ad C nb M hI lp_2 (by omega)) (cwV 1 hts gX12_one_X12_byteAt rfl rfl rfl (by decide +kernel) ⟨Nat.le_of_ble_eq_true rfl, Nat.le_of_ble_eq_true rfl⟩) (fm_preV hc hw hS kl_60 sh_60 rfl) rfl rfl hl.1 rfl (lv_room (Nat.le_of_ble_eq_true rfl)) dX12_one_147 ⟨by decide +kernel, by decide +kernel⟩)) (fun r24 hr24 => ?_)
                  refine fx_iaddU hx hb dX12_one_150 (fun y25 ey25 => ?_)
                  refine lv_bipush (v := 48) hx hb dX12_one_151 (by decide) ?_
                  refine fx_isubU hx hb dX12_one_153 (fun y26 ey26 => ?_)
                  refine lv_istore_n (lv' := [(1, .int y26), (2, .int lp_2), (0, .ref (ad 60 0))]) hx hb dX12_one_154 rfl hl (by decide) rfl (fun ls hl => ?_)
                  obtain ⟨y27, ey27⟩ : ∃ y : Int32, y = lp_2 + 1 := ⟨_, rfl⟩
                  have ty27 : y27.toInt = lp_2.toInt + 1 := by rw [ey27, zi_add _ _ (by rw [zk_1]; omega) (by rw [zk_1]; omega), zk_1]
                  refine lv_iinc (v := y27) (lv' := [(2, .int y27), (1, .int y26), (0, .ref (ad 60 0))]) hx hb dX12_one_155 hl (k := 1) rfl (by rw [ey27]; rfl) (by decide) rfl (fun ls hl => ?_)
                  refine lv_goto (tgt := 133) hx hb dX12_one_158 (by decide) ?_
                  exact ih_lp y27 y26 (by omega) (by omega) ls (lv_sub hl [0, 1, 2] rfl)
            exact lp _ x9 0 (Nat.lt_succ_self _) (by omega) ls (lv_sub hl [0, 1, 2] rfl)
          · refine lv_aload_n hx hb dX12_one_121 rfl (lv_at hl 0 rfl) ?_
            refine fm_ci (va_runV (As := []) (rest := []) ⟨hx, hb, hml, hown, hts⟩ (fc_X12_wrong l D ad C nb M hI) (cwV 0 hts gX12_one_X12_wrong rfl rfl rfl (by decide +kernel) ⟨Nat.le_of_ble_eq_true rfl, Nat.le_of_ble_eq_true rfl⟩) (fm_preV hc hw hS kl_60 sh_60 rfl) rfl rfl hl.1 rfl (lv_room (Nat.le_of_ble_eq_true rfl)) dX12_one_122 ⟨by decide +kernel, by decide +kernel⟩) hS hc (fun r28 M29 H locs hr28 hw hS => ?_)
            obtain ⟨hI, hEM29, hr28⟩ := hr28
            have hE := hE.tr hEM29 (by decide)
            have mM29_60_63 : (M29.1 60 0 63).toInt = (M.1 60 0 63).toInt := by rw [(hEM29 60 0 63 (by decide)).1]
            have mM29_60_64 : (M29.1 60 0 64).toInt = (M.1 60 0 64).toInt := by rw [(hEM29 60 0 64 (by decide)).1]
            have mM29_60_65 : (M29.1 60 0 65).toInt = (M.1 60 0 65).toInt := by rw [(hEM29 60 0 65 (by decide)).1]
            have mM29_60_66 : (M29.1 60 0 66).toInt = (M.1 60 0 66).toInt := by rw [(hEM29 60 0 66 (by decide)).1]
            have qx9 : x9.toInt = (M.1 60 0 64).toInt := by rw [ex9]
            exact W.iret (v := r28) hx hb hr (fun t ht hW => ⟨⟨r28, M29, rfl, ⟨hI, hE, ⟨by omega, by omega, by omega⟩⟩, by show fm_at D ad C nb _ t.heap; rw [ht]; exact hw⟩, hS.F ht⟩) hS.2.2 dX12_one_125
        · refine fx_if_eq (tgt := 167) hx hb dX12_one_105 (by decide) zk_0 (fun c30 => ?_) (fun c30 => by exfalso; omega)
          have jt : ∀ (jt_1 : Int32), ((-1) ≤ jt_1.toInt ∧ jt_1.toInt ≤ 5) → ∀ (ls : Array Slot), lv_has ls 3 [(0, .ref (ad 60 0)), (1, .int jt_1)] → W p l e (headSpec wsX12_one ({ frames := 5, cells := 0, slots := 0, locals := 108 })).room s m ([.ref (ad 60 0)] : List Value).toArray below meth c s.heap [] 0 0 (MQ below (va_Qi (fun (r : Int32) (u : fm_M) => fm_I nb ad u ∧ fm_same [60064, 60065, 60066, 60067] M u ∧ ((M.1 60 0 64).toInt ≤ (u.1 60 0 64).toInt ∧ (M.1 60 0 66).toInt ≤ (u.1 60 0 66).toInt ∧ (u.1 60 0 64).toInt ≤ (u.1 60 0 65).toInt)) (fun u t => fm_at D ad C nb u t.heap) (fm_A nb ad)) ([.ref (ad 60 0)] : List Value).toArray s 0 0 (fm_A nb ad)) (F0 m 253 ls []) := by
            intro jt_1 b_jt_1 ls hl
            refine lv_iload_n hx hb dX12_one_253 rfl (lv_at hl 1 rfl) ?_
            refine fx_if_ge (tgt := 262) hx hb dX12_one_254 (by decide) rfl (fun c31 => ?_) (fun c31 => ?_)
            · refine lv_aload_n hx hb dX12_one_262 rfl (lv_at hl 0 rfl) ?_
              refine fm_cv (va_runV (As := []) (rest := []) ⟨hx, hb, hml, hown, hts⟩ (fc_X12_next l D ad C nb M hI) (cwV 0 hts gX12_one_X12_next rfl rfl rfl (by decide +kernel) ⟨Nat.le_of_ble_eq_true rfl, Nat.le_of_ble_eq_true rfl⟩) (fm_preV hc hw hS kl_60 sh_60 rfl) rfl rfl hl.1 rfl (lv_room (Nat.le_of_ble_eq_true rfl)) dX12_one_263 ⟨by decide +kernel, by decide +kernel⟩) hS hc (fun M33 H locs hr32 hw hS => ?_)
              obtain ⟨hI, hEM33, hr32⟩ := hr32
              have hE := hE.tr hEM33 (by decide)
              have mM33_60_63 : (M33.1 60 0 63).toInt = (M.1 60 0 63).toInt := by rw [(hEM33 60 0 63 (by decide)).1]
              have mM33_60_66 : (M33.1 60 0 66).toInt = (M.1 60 0 66).toInt := by rw [(hEM33 60 0 66 (by decide)).1]
              refine lv_aload_n hx hb dX12_one_266 rfl (lv_at hl 0 rfl) ?_
              refine fm_getG (a := 60) (j := 68) (T := TX12) (N := 79) hx hb hts hinX12 hown hc hw kl_60 sh_60 rfl (by decide) rfl (hI.to kl_60 tg_60_68) (hts (.fieldLink RX12 143 "RedTentModel" "names" "[I") (List.mem_cons_of_mem _ tw_5_188)) (fun _ h9 => h9) dX12_one_267 ?_
              refine lv_iload_n hx hb dX12_one_270 rfl (lv_at hl 1 rfl) ?_
              refine fm_iald (a := 168) hx hb hc hw hI kl_168 sh_168 ty_168 bd_168 (by omega) dX12_one_271 (fun x34 ex34 bx34 => ?_)
              have qx9 : x9.toInt = (M.1 60 0 64).toInt := by rw [ex9]
              exact W.iret (v := x34) hx hb hr (fun t ht hW => ⟨⟨x34, M33, rfl, ⟨hI, hE, ⟨by omega, by omega, by omega⟩⟩, by show fm_at D ad C nb _ t.heap; rw [ht]; exact hw⟩, hS.F ht⟩) hS.2.2 dX12_one_272
            · refine lv_aload_n hx hb dX12_one_257 rfl (lv_at hl 0 rfl) ?_
              refine fm_ci (va_runV (As := []) (rest := []) ⟨hx, hb, hml, hown, hts⟩ (fc_X12_wrong l D ad C nb M hI) (cwV 0 hts gX12_one_X12_wrong rfl rfl rfl (by decide +kernel) ⟨Nat.le_of_ble_eq_true rfl, Nat.le_of_ble_eq_true rfl⟩) (fm_preV hc hw hS kl_60 sh_60 rfl) rfl rfl hl.1 rfl (lv_room (Nat.le_of_ble_eq_true rfl)) dX12_one_258 ⟨by decide +kernel, by decide +kernel⟩) hS hc (fun r35 M36 H locs hr35 hw hS => ?_)
              obtain ⟨hI, hEM36, hr35⟩ := hr35
              have hE := hE.tr hEM36 (by decide)
              have mM36_60_63 : (M36.1 60 0 63).toInt = (M.1 60 0 63).toInt := by rw [(hEM36 60 0 63 (by decide)).1]
              have mM36_60_64 : (M36.1 60 0 64).toInt = (M.1 60 0 64).toInt := by rw [(hEM36 60 0 64 (by decide)).1]
              have mM36_60_65 : (M36.1 60 0 65).toInt = (M.1 60 0 65).toInt := by rw [(hEM36 60 0 65 (by decide)).1]
              have mM36_60_66 : (M36.1 60 0 66).toInt = (M.1 60 0 66).toInt := by rw [(hEM36 60 0 66 (by decide)).1]
              have qx9 : x9.toInt = (M.1 60 0 64).toInt := by rw [ex9]
              exact W.iret (v := r35) hx hb hr (fun t ht hW => ⟨⟨r35, M36, rfl, ⟨hI, hE, ⟨by omega, by omega, by omega⟩⟩, by show fm_at D ad C nb _ t.heap; rw [ht]; exact hw⟩, hS.F ht⟩) hS.2.2 dX12_one_261
          refine lv_aload_n hx hb dX12_one_167 rfl (lv_at hl 0 rfl) ?_
          obtain ⟨q37, vq37, hQq37, hRq37⟩ := hc.2.2.2.2.1 (RX12, 410, "strength", [115, 116, 114, 101, 110, 103, 116, 104]) (by decide)
          refine va_ldcwS hx hb hown hRq37 dX12_one_168 ?_
          refine vp_callSi (va_Run.run (va_runV (As := [.ref q37]) (rest := []) ⟨hx, hb, hml, hown, hts⟩ (fc_X12_is l D ad C nb M hI q37 vq37 8 (fun j => ([115, 116, 114, 101, 110, 103, 116, 104] : List Int32).getD j 0) (by decide)) (cwV 1 hts gX12_one_X12_is rfl rfl rfl (by decide +kernel) ⟨Nat.le_of_ble_eq_true rfl, Nat.le_of_ble_eq_true rfl⟩) (fm_preVS hc hw hS hQq37 kl_60 sh_60 rfl) rfl rfl hl.1 rfl (lv_room (Nat.le_of_ble_eq_true rfl)) dX12_one_171 ⟨by decide +kernel, by decide +kernel⟩)) (fun r38 hr38 => ?_)
          have ir38 := hr38.2
          have jr38 := hr38.1
          refine fx_if_eq (tgt := 181) hx hb dX12_one_174 (by decide) rfl (fun c39 => ?_) (fun c39 => ?_)
          · refine lv_aload_n hx hb dX12_one_181 rfl (lv_at hl 0 rfl) ?_
            obtain ⟨q40, vq40, hQq40, hRq40⟩ := hc.2.2.2.2.1 (RX12, 411, "hurt", [104, 117, 114, 116]) (by decide)
            refine va_ldcwS hx hb hown hRq40 dX12_one_182 ?_
            refine vp_callSi (va_Run.run (va_runV (As := [.ref q40]) (rest := []) ⟨hx, hb, hml, hown, hts⟩ (fc_X12_is l D ad C nb M hI q40 vq40 4 (fun j => ([104, 117, 114, 116] : List Int32).getD j 0) (by decide)) (cwV 1 hts gX12_one_X12_is rfl rfl rfl (by decide +kernel) ⟨Nat.le_of_ble_eq_true rfl, Nat.le_of_ble_eq_true rfl⟩) (fm_preVS hc hw hS hQq40 kl_60 sh_60 rfl) rfl rfl hl.1 rfl (lv_room (Nat.le_of_ble_eq_true rfl)) dX12_one_185 ⟨by decide +kernel, by decide +kernel⟩)) (fun r41 hr41 => ?_)
            have ir41 := hr41.2
            have jr41 := hr41.1
            refine fx_if_eq (tgt := 195) hx hb dX12_one_188 (by decide) rfl (fun c42 => ?_) (fun c42 => ?_)
            · refine lv_aload_n hx hb dX12_one_195 rfl (lv_at hl 0 rfl) ?_
              obtain ⟨q43, vq43, hQq43, hRq43⟩ := hc.2.2.2.2.1 (RX12, 412, "skill", [115, 107, 105, 108, 108]) (by decide)
              refine va_ldcwS hx hb hown hRq43 dX12_one_196 ?_
              refine vp_callSi (va_Run.run (va_runV (As := [.ref q43]) (rest := []) ⟨hx, hb, hml, hown, hts⟩ (fc_X12_is l D ad C nb M hI q43 vq43 5 (fun j => ([115, 107, 105, 108, 108] : List Int32).getD j 0) (by decide)) (cwV 1 hts gX12_one_X12_is rfl rfl rfl (by decide +kernel) ⟨Nat.le_of_ble_eq_true rfl, Nat.le_of_ble_eq_true rfl⟩) (fm_preVS hc hw hS hQq43 kl_60 sh_60 rfl) rfl rfl hl.1 rfl (lv_room (Nat.le_of_ble_eq_true rfl)) dX12_one_199 ⟨by decide +kernel, by decide +kernel⟩)) (fun r44 hr44 => ?_)
              have ir44 := hr44.2
              have jr44 := hr44.1
              refine fx_if_eq (tgt := 209) hx hb dX12_one_202 (by decide) rfl (fun c45 => ?_) (fun c45 => ?_)
              · refine lv_aload_n hx hb dX12_one_209 rfl (lv_at hl 0 rfl) ?_
                obtain ⟨q46, vq46, hQq46, hRq46⟩ := hc.2.2.2.2.1 (RX12, 413, "hour", [104, 111, 117, 114]) (by decide)
                refine va_ldcwS hx hb hown hRq46 dX12_one_210 ?_
                refine vp_callSi (va_Run.run (va_runV (As := [.ref q46]) (rest := []) ⟨hx, hb, hml, hown, hts⟩ (fc_X12_is l D ad C nb M hI q46 vq46 4 (fun j => ([104, 111, 117, 114] : List Int32).getD j 0) (by decide)) (cwV 1 hts gX12_one_X12_is rfl rfl rfl (by decide +kernel) ⟨Nat.le_of_ble_eq_true rfl, Nat.le_of_ble_eq_true rfl⟩) (fm_preVS hc hw hS hQq46 kl_60 sh_60 rfl) rfl rfl hl.1 rfl (lv_room (Nat.le_of_ble_eq_true rfl)) dX12_one_213 ⟨by decide +kernel, by decide +kernel⟩)) (fun r47 hr47 => ?_)
                have ir47 := hr47.2
                have jr47 := hr47.1
                refine fx_if_eq (tgt := 223) hx hb dX12_one_216 (by decide) rfl (fun c48 => ?_) (fun c48 => ?_)
                · refine lv_aload_n hx hb dX12_one_223 rfl (lv_at hl 0 rfl) ?_
                  obtain ⟨q49, vq49, hQq49, hRq49⟩ := hc.2.2.2.2.1 (RX12, 414, "fuel", [102, 117, 101, 108]) (by decide)
                  refine va_ldcwS hx hb hown hRq49 dX12_one_224 ?_
                  refine vp_callSi (va_Run.run (va_runV (As := [.ref q49]) (rest := []) ⟨hx, hb, hml, hown, hts⟩ (fc_X12_is l D ad C nb M hI q49 vq49 4 (fun j => ([102, 117, 101, 108] : List Int32).getD j 0) (by decide)) (cwV 1 hts gX12_one_X12_is rfl rfl rfl (by decide +kernel) ⟨Nat.le_of_ble_eq_true rfl, Nat.le_of_ble_eq_true rfl⟩) (fm_preVS hc hw hS hQq49 kl_60 sh_60 rfl) rfl rfl hl.1 rfl (lv_room (Nat.le_of_ble_eq_true rfl)) dX12_one_227 ⟨by decide +kernel, by decide +kernel⟩)) (fun r50 hr50 => ?_)
                  have ir50 := hr50.2
                  have jr50 := hr50.1
                  refine fx_if_eq (tgt := 237) hx hb dX12_one_230 (by decide) rfl (fun c51 => ?_) (fun c51 => ?_)
                  · refine lv_aload_n hx hb dX12_one_237 rfl (lv_at hl 0 rfl) ?_
                    obtain ⟨q52, vq52, hQq52, hRq52⟩ := hc.2.2.2.2.1 (RX12, 415, "far", [102, 97, 114]) (by decide)
                    refine va_ldcwS hx hb hown hRq52 dX12_one_238 ?_
                    refine vp_callSi (va_Run.run (va_runV (As := [.ref q52]) (rest := []) ⟨hx, hb, hml, hown, hts⟩ (fc_X12_is l D ad C nb M hI q52 vq52 3 (fun j => ([102, 97, 114] : List Int32).getD j 0) (by decide)) (cwV 1 hts gX12_one_X12_is rfl rfl rfl (by decide +kernel) ⟨Nat.le_of_ble_eq_true rfl, Nat.le_of_ble_eq_true rfl⟩) (fm_preVS hc hw hS hQq52 kl_60 sh_60 rfl) rfl rfl hl.1 rfl (lv_room (Nat.le_of_ble_eq_true rfl)) dX12_one_241 ⟨by decide +kernel, by decide +kernel⟩)) (fun r53 hr53 => ?_)
                    have ir53 := hr53.2
                    have jr53 := hr53.1
                    refine fx_if_eq (tgt := 251) hx hb dX12_one_244 (by decide) rfl (fun c54 => ?_) (fun c54 => ?_)
                    · refine lv_iconst (v := (-1)) hx hb dX12_one_251 (by decide) ?_
                      refine lv_istore_n (lv' := [(1, .int (-1)), (0, .ref (ad 60 0))]) hx hb dX12_one_252 rfl hl (by decide) rfl (fun ls hl => ?_)
                      exact jt (-1) (by decide) ls (lv_sub hl [1, 0] rfl)
                    · refine lv_iconst (v := 5) hx hb dX12_one_247 (by decide) ?_
                      refine lv_goto (tgt := 252) hx hb dX12_one_248 (by decide) ?_
                      refine lv_istore_n (lv' := [(1, .int 5), (0, .ref (ad 60 0))]) hx hb dX12_one_252 rfl hl (by decide) rfl (fun ls hl => ?_)
                      exact jt 5 (by decide) ls (lv_sub hl [1, 0] rfl)
                  · refine lv_iconst (v := 4) hx hb dX12_one_233 (by decide) ?_
                    refine lv_goto (tgt := 252) hx hb dX12_one_234 (by decide) ?_
                    refine lv_istore_n (lv' := [(1, .int 4), (0, .ref (ad 60 0))]) hx hb dX12_one_252 rfl hl (by decide) rfl (fun ls hl => ?_)
                    exact jt 4 (by decide) ls (lv_sub hl [1, 0] rfl)
                · refine lv_iconst (v := 3) hx hb dX12_one_219 (by decide) ?_
                  refine lv_goto (tgt := 252) hx hb dX12_one_220 (by decide) ?_
                  refine lv_istore_n (lv' := [(1, .int 3), (0, .ref (ad 60 0))]) hx hb dX12_one_252 rfl hl (by decide) rfl (fun ls hl => ?_)
                  exact jt 3 (by decide) ls (lv_sub hl [1, 0] rfl)
              · refine lv_iconst (v := 2) hx hb dX12_one_205 (by decide) ?_
                refine lv_goto (tgt := 252) hx hb dX12_one_206 (by decide) ?_
                refine lv_istore_n (lv' := [(1, .int 2), (0, .ref (ad 60 0))]) hx hb dX12_one_252 rfl hl (by decide) rfl (fun ls hl => ?_)
                exact jt 2 (by decide) ls (lv_sub hl [1, 0] rfl)
            · refine lv_iconst (v := 1) hx hb dX12_one_191 (by decide) ?_
              refine lv_goto (tgt := 252) hx hb dX12_one_192 (by decide) ?_
              refine lv_istore_n (lv' := [(1, .int 1), (0, .ref (ad 60 0))]) hx hb dX12_one_252 rfl hl (by decide) rfl (fun ls hl => ?_)
              exact jt 1 (by decide) ls (lv_sub hl [1, 0] rfl)
          · refine lv_iconst (v := 0) hx hb dX12_one_177 (by decide) ?_
            refine lv_goto (tgt := 252) hx hb dX12_one_178 (by decide) ?_
            refine lv_istore_n (lv' := [(1, .int 0), (0, .ref (ad 60 0))]) hx hb dX12_one_252 rfl hl (by decide) rfl (fun ls hl => ?_)
            exact jt 0 (by decide) ls (lv_sub hl [1, 0] rfl)
      · refine lv_aload_n hx hb dX12_one_56 rfl (lv_at hl 0 rfl) ?_
        refine fm_ci (va_runV (As := []) (rest := []) ⟨hx, hb, hml, hown, hts⟩ (fc_X12_opens l D ad C nb M hI) (cwV 0 hts gX12_one_X12_opens rfl rfl rfl (by decide +kernel) ⟨Nat.le_of_ble_eq_true rfl, Nat.le_of_ble_eq_true rfl⟩) (fm_preV hc hw hS kl_60 sh_60 rfl) rfl rfl hl.1 rfl (lv_room (Nat.le_of_ble_eq_true rfl)) dX12_one_57 ⟨by decide +kernel, by decide +kernel⟩) hS hc (fun r55 M56 H locs hr55 hw hS => ?_)
        obtain ⟨hI, hEM56, hr55⟩ := hr55
        have hE := hE.tr hEM56 (by decide)
        have mM56_60_63 : (M56.1 60 0 63).toInt = (M.1 60 0 63).toInt := by rw [(hEM56 60 0 63 (by decide)).1]
        rcases hr55 with ⟨rfl, ahr55, bhr55, dhr55⟩ | ⟨rfl, ahr55, bhr55, dhr55⟩
        · refine fx_if_ne (tgt := 65) hx hb dX12_one_60 (by decide) zk_1 (fun c57 => ?_) (fun c57 => by exfalso; omega)
          refine lv_aload_n hx hb dX12_one_65 rfl (lv_at hl 0 rfl) ?_
          have dd58 := hI.bd (k := 0) bd_60_63
          have dd59 := hI.bd (k := 0) bd_60_64
          have dd60 := hI.bd (k := 0) bd_60_65
          have dd61 := hI.bd (k := 0) bd_60_66
          exfalso; omega
        · refine fx_if_ne (tgt := 65) hx hb dX12_one_60 (by decide) zk_0 (fun c62 => by exfalso; omega) (fun c62 => ?_)
          refine lv_iconst (v := 0) hx hb dX12_one_63 (by decide) ?_
          exact W.iret (v := 0) hx hb hr (fun t ht hW => ⟨⟨0, M56, rfl, ⟨hI, hE, ⟨by omega, by omega, by omega⟩⟩, by show fm_at D ad C nb _ t.heap; rw [ht]; exact hw⟩, hS.F ht⟩) hS.2.2 dX12_one_64
    · refine lv_aload_n hx hb dX12_one_19 rfl (lv_at hl 0 rfl) ?_
      refine fm_ci (va_runV (As := []) (rest := []) ⟨hx, hb, hml, hown, hts⟩ (fc_X12_opens l D ad C nb M hI) (cwV 0 hts gX12_one_X12_opens rfl rfl rfl (by decide +kernel) ⟨Nat.le_of_ble_eq_true rfl, Nat.le_of_ble_eq_true rfl⟩) (fm_preV hc hw hS kl_60 sh_60 rfl) rfl rfl hl.1 rfl (lv_room (Nat.le_of_ble_eq_true rfl)) dX12_one_20 ⟨by decide +kernel, by decide +kernel⟩) hS hc (fun r63 M64 H locs hr63 hw hS => ?_)
      obtain ⟨hI, hEM64, hr63⟩ := hr63
      have hE := hE.tr hEM64 (by decide)
      have mM64_60_63 : (M64.1 60 0 63).toInt = (M.1 60 0 63).toInt := by rw [(hEM64 60 0 63 (by decide)).1]
      rcases hr63 with ⟨rfl, ahr63, bhr63, dhr63⟩ | ⟨rfl, ahr63, bhr63, dhr63⟩
      · refine fx_if_ne (tgt := 28) hx hb dX12_one_23 (by decide) zk_1 (fun c65 => ?_) (fun c65 => by exfalso; omega)
        refine lv_aload_n hx hb dX12_one_28 rfl (lv_at hl 0 rfl) ?_
        have dd66 := hI.bd (k := 0) bd_60_63
        have dd67 := hI.bd (k := 0) bd_60_64
        have dd68 := hI.bd (k := 0) bd_60_65
        have dd69 := hI.bd (k := 0) bd_60_66
        exfalso; omega
      · refine fx_if_ne (tgt := 28) hx hb dX12_one_23 (by decide) zk_0 (fun c70 => by exfalso; omega) (fun c70 => ?_)
        refine lv_iconst (v := 0) hx hb dX12_one_26 (by decide) ?_
        exact W.iret (v := 0) hx hb hr (fun t ht hW => ⟨⟨0, M64, rfl, ⟨hI, hE, ⟨by omega, by omega, by omega⟩⟩, by show fm_at D ad C nb _ t.heap; rw [ht]; exact hw⟩, hS.F ht⟩) hS.2.2 dX12_one_27
  · refine lv_iconst (v := 0) hx hb dX12_one_7 (by decide) ?_
    exact W.iret (v := 0) hx hb hr (fun t ht hW => ⟨⟨0, M, rfl, ⟨hI, hE, ⟨by omega, by omega, by omega⟩⟩, by show fm_at D ad C nb _ t.heap; rw [ht]; exact hw⟩, hS.F ht⟩) hS.2.2 dX12_one_8
set_option maxHeartbeats 400000 in
set_option maxRecDepth 20000 in
theorem fc_X12_product_5 (l : Launch) (D : va_G) (ad : Nat → Nat → Nat) (C : Nat → Nat → ClassId) (nb : Nat) (M : fm_M) (hI : fm_I nb ad M) (hft : (M.1 60 0 64).toInt ≤ (M.1 60 0 65).toInt) (hop : 5 ≤ (M.1 60 0 66).toInt) : Met l yX12_product wsX12_product ({ frames := 6, cells := 0, slots := 0, locals := 130 }) (va_Pc [.ref (ad 60 0)] (fm_P D ad C nb M)) (va_Qi (fun (r : Int32) (u : fm_M) => fm_I nb ad u ∧ fm_same [60064, 60065, 60066, 60067] M u ∧ ((M.1 60 0 64).toInt ≤ (u.1 60 0 64).toInt ∧ (M.1 60 0 66).toInt ≤ (u.1 60 0 66).toInt ∧ (u.1 60 0 64).toInt ≤ (u.1 60 0 65).toInt)) (fun u t => fm_at D ad C nb u t.heap) (fm_A nb ad)) 0 0 (fm_A nb ad) := by
  refine Met.ofW (cc := cX12_product) (maxL := 2) (ret := (some .int)) (by decide) rfl ?_
  intro p e s m args below meth c s₁ B hml hv
  obtain ⟨rfl, hw, hc⟩ := hv
  have hx := B.exec
  have hb := B.bytes
  have hr := B.returns
  have hts := atoms_spec (ws := wsX12_product) B.pre
  have hown : s.vm.findClass RX12 = some m.cls := findClass_of_methodNamed B.named
  have hS : va_S (fm_A nb ad) s.heap s.heap [] := va_S.rf
  have hE : fm_same [60064, 60065, 60066, 60067] M M := fm_same.rf
  have hl := lv_entry ([.ref (ad 60 0)]) (n := 2) (Nat.le_of_ble_eq_true rfl)
  rw [lg_entry_eq]
  generalize (lg_sl ([.ref (ad 60 0)]) ++ List.replicate (2 - (lg_sl ([.ref (ad 60 0)])).length) Slot.unset).toArray = ls at hl ⊢
  have hl : lv_has ls 2 [(0, .ref (ad 60 0))] := hl
  refine lv_aload_n hx hb dX12_product_0 rfl (lv_at hl 0 rfl) ?_
  have d1_63 := hI.bd (k := 0) bd_60_63
  have d1_64 := hI.bd (k := 0) bd_60_64
  have d1_65 := hI.bd (k := 0) bd_60_65
  have d1_66 := hI.bd (k := 0) bd_60_66
  refine fm_ci (va_runV (As := []) (rest := []) ⟨hx, hb, hml, hown, hts⟩ (fc_X12_one_5 l D ad C nb M hI (by omega) (by omega)) (cwV 0 hts gX12_product_X12_one rfl rfl rfl (by decide +kernel) ⟨Nat.le_of_ble_eq_true rfl, Nat.le_of_ble_eq_true rfl⟩) (fm_preV hc hw hS kl_60 sh_60 rfl) rfl rfl hl.1 rfl (lv_room (Nat.le_of_ble_eq_true rfl)) dX12_product_1 ⟨by decide +kernel, by decide +kernel⟩) hS hc (fun r2 M3 H locs hr2 hw hS => ?_)
  obtain ⟨hI, hEM3, hr2⟩ := hr2
  have hE := hE.tr hEM3 (by decide)
  have mM3_60_63 : (M3.1 60 0 63).toInt = (M.1 60 0 63).toInt := by rw [(hEM3 60 0 63 (by decide)).1]
  obtain ⟨ahr2, bhr2, dhr2⟩ := hr2
  refine lv_istore_n (lv' := [(1, .int r2), (0, .ref (ad 60 0))]) hx hb dX12_product_4 rfl hl (by decide) rfl (fun ls hl => ?_)
  have lp : ∀ (n_lp : Nat) (lp_1 : Int32) (M_lp : fm_M), (161 - (M_lp.1 60 0 64).toInt).toNat < n_lp → ((M.1 60 0 64).toInt ≤ (M_lp.1 60 0 64).toInt ∧ (M.1 60 0 66).toInt ≤ (M_lp.1 60 0 66).toInt ∧ (M_lp.1 60 0 64).toInt ≤ (M_lp.1 60 0 65).toInt) → fm_I nb ad M_lp → fm_same [60064, 60065, 60066, 60067] M M_lp → ∀ (H : Heap) (locs : List Loc), fm_at D ad C nb M_lp H → va_S (fm_A nb ad) s.heap H locs → ∀ (ls : Array Slot), lv_has ls 2 [(1, .int lp_1), (0, .ref (ad 60 0))] → W p l e (headSpec wsX12_product ({ frames := 6, cells := 0, slots := 0, locals := 130 })).room s m ([.ref (ad 60 0)] : List Value).toArray below meth c H locs 0 0 (MQ below (va_Qi (fun (r : Int32) (u : fm_M) => fm_I nb ad u ∧ fm_same [60064, 60065, 60066, 60067] M u ∧ ((M.1 60 0 64).toInt ≤ (u.1 60 0 64).toInt ∧ (M.1 60 0 66).toInt ≤ (u.1 60 0 66).toInt ∧ (u.1 60 0 64).toInt ≤ (u.1 60 0 65).toInt)) (fun u t => fm_at D ad C nb u t.heap) (fm_A nb ad)) ([.ref (ad 60 0)] : List Value).toArray s 0 0 (fm_A nb ad)) (F0 m 5 ls []) := by
    intro n_lp
    induction n_lp with
    | zero => intro lp_1 M_lp hm_lp hv hI hE H locs hw hS ls hl; exact absurd hm_lp (Nat.not_lt_zero _)
    | succ n_lp ih_lp =>
      intro lp_1 M_lp hm_lp hv hI hE H locs hw hS ls hl
      refine lv_aload_n hx hb dX12_product_5 rfl (lv_at hl 1 rfl) ?_
      obtain ⟨q4, vq4, hQq4, hRq4⟩ := hc.2.2.2.2.1 (RX12, 401, "*", [42]) (by decide)
      refine va_ldcwS hx hb hown hRq4 dX12_product_6 ?_
      refine fm_ci (va_runV (As := [.ref q4]) (rest := []) ⟨hx, hb, hml, hown, hts⟩ (fc_X12_take l D ad C nb M_lp hI q4 vq4 1 (fun j => ([42] : List Int32).getD j 0) (by decide) (by omega)) (cwV 1 hts gX12_product_X12_take rfl rfl rfl (by decide +kernel) ⟨Nat.le_of_ble_eq_true rfl, Nat.le_of_ble_eq_true rfl⟩) (fm_preVS hc hw hS hQq4 kl_60 sh_60 rfl) rfl rfl hl.1 rfl (lv_room (Nat.le_of_ble_eq_true rfl)) dX12_product_9 ⟨by decide +kernel, by decide +kernel⟩) hS hc (fun r5 M6 H locs hr5 hw hS => ?_)
      obtain ⟨hI, hEM6, hr5⟩ := hr5
      have hE := hE.tr hEM6 (by decide)
      have mM6_60_63 : (M6.1 60 0 63).toInt = (M_lp.1 60 0 63).toInt := by rw [(hEM6 60 0 63 (by decide)).1]
      have mM6_60_66 : (M6.1 60 0 66).toInt = (M_lp.1 60 0 66).toInt := by rw [(hEM6 60 0 66 (by decide)).1]
      rcases hr5 with ⟨rfl, ahr5, bhr5⟩ | ⟨rfl, ahr5, bhr5⟩
      · refine fx_if_eq (tgt := 25) hx hb dX12_product_12 (by decide) zk_1 (fun c7 => by exfalso; omega) (fun c7 => ?_)
        refine lv_iload_n hx hb dX12_product_15 rfl (lv_at hl 0 rfl) ?_
        refine lv_aload_n hx hb dX12_product_16 rfl (lv_at hl 1 rfl) ?_
        have d8_63 := hI.bd (k := 0) bd_60_63
        have d8_64 := hI.bd (k := 0) bd_60_64
        have d8_65 := hI.bd (k := 0) bd_60_65
        have d8_66 := hI.bd (k := 0) bd_60_66
        refine fm_ci (va_runV (As := []) (rest := [.int lp_1]) ⟨hx, hb, hml, hown, hts⟩ (fc_X12_one_5 l D ad C nb M6 hI (by omega) (by omega)) (cwV 0 hts gX12_product_X12_one rfl rfl rfl (by decide +kernel) ⟨Nat.le_of_ble_eq_true rfl, Nat.le_of_ble_eq_true rfl⟩) (fm_preV hc hw hS kl_60 sh_60 rfl) rfl rfl hl.1 rfl (lv_room (Nat.le_of_ble_eq_true rfl)) dX12_product_17 ⟨by decide +kernel, by decide +kernel⟩) hS hc (fun r9 M10 H locs hr9 hw hS => ?_)
        obtain ⟨hI, hEM10, hr9⟩ := hr9
        have hE := hE.tr hEM10 (by decide)
        have mM10_60_63 : (M10.1 60 0 63).toInt = (M6.1 60 0 63).toInt := by rw [(hEM10 60 0 63 (by decide)).1]
        obtain ⟨ahr9, bhr9, dhr9⟩ := hr9
        refine fx_imulU hx hb dX12_product_20 (fun y11 ey11 => ?_)
        refine lv_istore_n (lv' := [(1, .int y11), (0, .ref (ad 60 0))]) hx hb dX12_product_21 rfl hl (by decide) rfl (fun ls hl => ?_)
        refine lv_goto (tgt := 5) hx hb dX12_product_22 (by decide) ?_
        exact ih_lp y11 M10 (by omega) (by omega) hI hE _ _ hw hS ls (lv_sub hl [0, 1] rfl)
      · refine fx_if_eq (tgt := 25) hx hb dX12_product_12 (by decide) zk_0 (fun c12 => ?_) (fun c12 => by exfalso; omega)
        refine lv_iload_n hx hb dX12_product_25 rfl (lv_at hl 0 rfl) ?_
        exact W.iret (v := lp_1) hx hb hr (fun t ht hW => ⟨⟨lp_1, M6, rfl, ⟨hI, hE, ⟨by omega, by omega, by omega⟩⟩, by show fm_at D ad C nb _ t.heap; rw [ht]; exact hw⟩, hS.F ht⟩) hS.2.2 dX12_product_26
  exact lp _ r2 M3 (Nat.lt_succ_self _) (by omega) hI hE _ _ hw hS ls (lv_sub hl [0, 1] rfl)
set_option maxHeartbeats 400000 in
set_option maxRecDepth 20000 in
theorem fc_X12_sum_5 (l : Launch) (D : va_G) (ad : Nat → Nat → Nat) (C : Nat → Nat → ClassId) (nb : Nat) (M : fm_M) (hI : fm_I nb ad M) (hft : (M.1 60 0 64).toInt ≤ (M.1 60 0 65).toInt) (hop : 5 ≤ (M.1 60 0 66).toInt) : Met l yX12_sum wsX12_sum ({ frames := 7, cells := 0, slots := 0, locals := 151 }) (va_Pc [.ref (ad 60 0)] (fm_P D ad C nb M)) (va_Qi (fun (r : Int32) (u : fm_M) => fm_I nb ad u ∧ fm_same [60064, 60065, 60066, 60067] M u ∧ ((M.1 60 0 64).toInt ≤ (u.1 60 0 64).toInt ∧ (M.1 60 0 66).toInt ≤ (u.1 60 0 66).toInt ∧ (u.1 60 0 64).toInt ≤ (u.1 60 0 65).toInt)) (fun u t => fm_at D ad C nb u t.heap) (fm_A nb ad)) 0 0 (fm_A nb ad) := by
  refine Met.ofW (cc := cX12_sum) (maxL := 3) (ret := (some .int)) (by decide) rfl ?_
  intro p e s m args below meth c s₁ B hml hv
  obtain ⟨rfl, hw, hc⟩ := hv
  have hx := B.exec
  have hb := B.bytes
  have hr := B.returns
  have hts := atoms_spec (ws := wsX12_sum) B.pre
  have hown : s.vm.findClass RX12 = some m.cls := findClass_of_methodNamed B.named
  have hS : va_S (fm_A nb ad) s.heap s.heap [] := va_S.rf
  have hE : fm_same [60064, 60065, 60066, 60067] M M := fm_same.rf
  have hl := lv_entry ([.ref (ad 60 0)]) (n := 3) (Nat.le_of_ble_eq_true rfl)
  rw [lg_entry_eq]
  generalize (lg_sl ([.ref (ad 60 0)]) ++ List.replicate (3 - (lg_sl ([.ref (ad 60 0)])).length) Slot.unset).toArray = ls at hl ⊢
  have hl : lv_has ls 3 [(0, .ref (ad 60 0))] := hl
  refine lv_aload_n hx hb dX12_sum_0 rfl (lv_at hl 0 rfl) ?_
  have d1_63 := hI.bd (k := 0) bd_60_63
  have d1_64 := hI.bd (k := 0) bd_60_64
  have d1_65 := hI.bd (k := 0) bd_60_65
  have d1_66 := hI.bd (k := 0) bd_60_66
  refine fm_ci (va_runV (As := []) (rest := []) ⟨hx, hb, hml, hown, hts⟩ (fc_X12_product_5 l D ad C nb M hI (by omega) (by omega)) (cwV 0 hts gX12_sum_X12_product rfl rfl rfl (by decide +kernel) ⟨Nat.le_of_ble_eq_true rfl, Nat.le_of_ble_eq_true rfl⟩) (fm_preV hc hw hS kl_60 sh_60 rfl) rfl rfl hl.1 rfl (lv_room (Nat.le_of_ble_eq_true rfl)) dX12_sum_1 ⟨by decide +kernel, by decide +kernel⟩) hS hc (fun r2 M3 H locs hr2 hw hS => ?_)
  obtain ⟨hI, hEM3, hr2⟩ := hr2
  have hE := hE.tr hEM3 (by decide)
  have mM3_60_63 : (M3.1 60 0 63).toInt = (M.1 60 0 63).toInt := by rw [(hEM3 60 0 63 (by decide)).1]
  obtain ⟨ahr2, bhr2, dhr2⟩ := hr2
  refine lv_istore_n (lv' := [(1, .int r2), (0, .ref (ad 60 0))]) hx hb dX12_sum_4 rfl hl (by decide) rfl (fun ls hl => ?_)
  refine lv_iconst (v := 1) hx hb dX12_sum_5 (by decide) ?_
  refine lv_istore_n (lv' := [(2, .int 1), (1, .int r2), (0, .ref (ad 60 0))]) hx hb dX12_sum_6 rfl hl (by decide) rfl (fun ls hl => ?_)
  have lp : ∀ (n_lp : Nat) (lp_2 : Int32) (lp_1 : Int32) (M_lp : fm_M), 2 * (161 - (M_lp.1 60 0 64).toInt).toNat + lp_2.toInt.toNat < n_lp → (0 ≤ lp_2.toInt ∧ lp_2.toInt ≤ 1) → ((M.1 60 0 64).toInt ≤ (M_lp.1 60 0 64).toInt ∧ (M.1 60 0 66).toInt ≤ (M_lp.1 60 0 66).toInt ∧ (M_lp.1 60 0 64).toInt ≤ (M_lp.1 60 0 65).toInt) → fm_I nb ad M_lp → fm_same [60064, 60065, 60066, 60067] M M_lp → ∀ (H : Heap) (locs : List Loc), fm_at D ad C nb M_lp H → va_S (fm_A nb ad) s.heap H locs → ∀ (ls : Array Slot), lv_has ls 3 [(2, .int lp_2), (1, .int lp_1), (0, .ref (ad 60 0))] → W p l e (headSpec wsX12_sum ({ frames := 7, cells := 0, slots := 0, locals := 151 })).room s m ([.ref (ad 60 0)] : List Value).toArray below meth c H locs 0 0 (MQ below (va_Qi (fun (r : Int32) (u : fm_M) => fm_I nb ad u ∧ fm_same [60064, 60065, 60066, 60067] M u ∧ ((M.1 60 0 64).toInt ≤ (u.1 60 0 64).toInt ∧ (M.1 60 0 66).toInt ≤ (u.1 60 0 66).toInt ∧ (u.1 60 0 64).toInt ≤ (u.1 60 0 65).toInt)) (fun u t => fm_at D ad C nb u t.heap) (fm_A nb ad)) ([.ref (ad 60 0)] : List Value).toArray s 0 0 (fm_A nb ad)) (F0 m 7 ls []) := by
    intro n_lp
    induction n_lp with
    | zero => intro lp_2 lp_1 M_lp hm_lp b_lp_2 hv hI hE H locs hw hS ls hl; exact absurd hm_lp (Nat.not_lt_zero _)
    | succ n_lp ih_lp =>
      intro lp_2 lp_1 M_lp hm_lp b_lp_2 hv hI hE H locs hw hS ls hl
      refine lv_iload_n hx hb dX12_sum_7 rfl (lv_at hl 0 rfl) ?_
      refine fx_if_eq (tgt := 56) hx hb dX12_sum_8 (by decide) rfl (fun c4 => ?_) (fun c4 => ?_)
      · refine lv_iload_n hx hb dX12_sum_56 rfl (lv_at hl 1 rfl) ?_
        exact W.iret (v := lp_1) hx hb hr (fun t ht hW => ⟨⟨lp_1, M_lp, rfl, ⟨hI, hE, ⟨by omega, by omega, by omega⟩⟩, by show fm_at D ad C nb _ t.heap; rw [ht]; exact hw⟩, hS.F ht⟩) hS.2.2 dX12_sum_57
      · refine lv_aload_n hx hb dX12_sum_11 rfl (lv_at hl 2 rfl) ?_
        obtain ⟨q5, vq5, hQq5, hRq5⟩ := hc.2.2.2.2.1 (RX12, 394, "+", [43]) (by decide)
        refine va_ldcwS hx hb hown hRq5 dX12_sum_12 ?_
        refine fm_ci (va_runV (As := [.ref q5]) (rest := []) ⟨hx, hb, hml, hown, hts⟩ (fc_X12_take l D ad C nb M_lp hI q5 vq5 1 (fun j => ([43] : List Int32).getD j 0) (by decide) (by omega)) (cwV 1 hts gX12_sum_X12_take rfl rfl rfl (by decide +kernel) ⟨Nat.le_of_ble_eq_true rfl, Nat.le_of_ble_eq_true rfl⟩) (fm_preVS hc hw hS hQq5 kl_60 sh_60 rfl) rfl rfl hl.1 rfl (lv_room (Nat.le_of_ble_eq_true rfl)) dX12_sum_15 ⟨by decide +kernel, by decide +kernel⟩) hS hc (fun r6 M7 H locs hr6 hw hS => ?_)
        obtain ⟨hI, hEM7, hr6⟩ := hr6
        have hE := hE.tr hEM7 (by decide)
        have mM7_60_63 : (M7.1 60 0 63).toInt = (M_lp.1 60 0 63).toInt := by rw [(hEM7 60 0 63 (by decide)).1]
        have mM7_60_66 : (M7.1 60 0 66).toInt = (M_lp.1 60 0 66).toInt := by rw [(hEM7 60 0 66 (by decide)).1]
        rcases hr6 with ⟨rfl, ahr6, bhr6⟩ | ⟨rfl, ahr6, bhr6⟩
        · refine fx_if_eq (tgt := 31) hx hb dX12_sum_18 (by decide) zk_1 (fun c8 => by exfalso; omega) (fun c8 => ?_)
          refine lv_iload_n hx hb dX12_sum_21 rfl (lv_at hl 1 rfl) ?_
          refine lv_aload_n hx hb dX12_sum_22 rfl (lv_at hl 2 rfl) ?_
          have d9_63 := hI.bd (k := 0) bd_60_63
          have d9_64 := hI.bd (k := 0) bd_60_64
          have d9_65 := hI.bd (k := 0) bd_60_65
          have d9_66 := hI.bd (k := 0) bd_60_66
          refine fm_ci (va_runV (As := []) (rest := [.int lp_1]) ⟨hx, hb, hml, hown, hts⟩ (fc_X12_product_5 l D ad C nb M7 hI (by omega) (by omega)) (cwV 0 hts gX12_sum_X12_product rfl rfl rfl (by decide +kernel) ⟨Nat.le_of_ble_eq_true rfl, Nat.le_of_ble_eq_true rfl⟩) (fm_preV hc hw hS kl_60 sh_60 rfl) rfl rfl hl.1 rfl (lv_room (Nat.le_of_ble_eq_true rfl)) dX12_sum_23 ⟨by decide +kernel, by decide +kernel⟩) hS hc (fun r10 M11 H locs hr10 hw hS => ?_)
          obtain ⟨hI, hEM11, hr10⟩ := hr10
          have hE := hE.tr hEM11 (by decide)
          have mM11_60_63 : (M11.1 60 0 63).toInt = (M7.1 60 0 63).toInt := by rw [(hEM11 60 0 63 (by decide)).1]
          obtain ⟨ahr10, bhr10, dhr10⟩ := hr10
          refine fx_iaddU hx hb dX12_sum_26 (fun y12 ey12 => ?_)
          refine lv_istore_n (lv' := [(1, .int y12), (2, .int lp_2), (0, .ref (ad 60 0))]) hx hb dX12_sum_27 rfl hl (by decide) rfl (fun ls hl => ?_)
          refine lv_goto (tgt := 7) hx hb dX12_sum_28 (by decide) ?_
          exact ih_lp lp_2 y12 M11 (by omega) (by omega) (by omega) hI hE _ _ hw hS ls (lv_sub hl [1, 0, 2] rfl)
        · refine fx_if_eq (tgt := 31) hx hb dX12_sum_18 (by decide) zk_0 (fun c13 => ?_) (fun c13 => by exfalso; omega)
          refine lv_aload_n hx hb dX12_sum_31 rfl (lv_at hl 2 rfl) ?_
          obtain ⟨q14, vq14, hQq14, hRq14⟩ := hc.2.2.2.2.1 (RX12, 396, "-", [45]) (by decide)
          refine va_ldcwS hx hb hown hRq14 dX12_sum_32 ?_
          refine fm_ci (va_runV (As := [.ref q14]) (rest := []) ⟨hx, hb, hml, hown, hts⟩ (fc_X12_take l D ad C nb M7 hI q14 vq14 1 (fun j => ([45] : List Int32).getD j 0) (by decide) (by omega)) (cwV 1 hts gX12_sum_X12_take rfl rfl rfl (by decide +kernel) ⟨Nat.le_of_ble_eq_true rfl, Nat.le_of_ble_eq_true rfl⟩) (fm_preVS hc hw hS hQq14 kl_60 sh_60 rfl) rfl rfl hl.1 rfl (lv_room (Nat.le_of_ble_eq_true rfl)) dX12_sum_35 ⟨by decide +kernel, by decide +kernel⟩) hS hc (fun r15 M16 H locs hr15 hw hS => ?_)
          obtain ⟨hI, hEM16, hr15⟩ := hr15
          have hE := hE.tr hEM16 (by decide)
          have mM16_60_63 : (M16.1 60 0 63).toInt = (M7.1 60 0 63).toInt := by rw [(hEM16 60 0 63 (by decide)).1]
          have mM16_60_66 : (M16.1 60 0 66).toInt = (M7.1 60 0 66).toInt := by rw [(hEM16 60 0 66 (by decide)).1]
          rcases hr15 with ⟨rfl, ahr15, bhr15⟩ | ⟨rfl, ahr15, bhr15⟩
          · refine fx_if_eq (tgt := 51) hx hb dX12_sum_38 (by decide) zk_1 (fun c17 => by exfalso; omega) (fun c17 => ?_)
            refine lv_iload_n hx hb dX12_sum_41 rfl (lv_at hl 1 rfl) ?_
            refine lv_aload_n hx hb dX12_sum_42 rfl (lv_at hl 2 rfl) ?_
            have d18_63 := hI.bd (k := 0) bd_60_63
            have d18_64 := hI.bd (k := 0) bd_60_64
            have d18_65 := hI.bd (k := 0) bd_60_65
            have d18_66 := hI.bd (k := 0) bd_60_66
            refine fm_ci (va_runV (As := []) (rest := [.int lp_1]) ⟨hx, hb, hml, hown, hts⟩ (fc_X12_product_5 l D ad C nb M16 hI (by omega) (by omega)) (cwV 0 hts gX12_sum_X12_product rfl rfl rfl (by decide +kernel) ⟨Nat.le_of_ble_eq_true rfl, Nat.le_of_ble_eq_true rfl⟩) (fm_preV hc hw hS kl_60 sh_60 rfl) rfl rfl hl.1 rfl (lv_room (Nat.le_of_ble_eq_true rfl)) dX12_sum_43 ⟨by decide +kernel, by decide +kernel⟩) hS hc (fun r19 M20 H locs hr19 hw hS => ?_)
            obtain ⟨hI, hEM20, hr19⟩ := hr19
            have hE := hE.tr hEM20 (by decide)
            have mM20_60_63 : (M20.1 60 0 63).toInt = (M16.1 60 0 63).toInt := by rw [(hEM20 60 0 63 (by decide)).1]
            obtain ⟨ahr19, bhr19, dhr19⟩ := hr19
            refine fx_isubU hx hb dX12_sum_46 (fun y21 ey21 => ?_)
            refine lv_istore_n (lv' := [(1, .int y21), (2, .int lp_2), (0, .ref (ad 60 0))]) hx hb dX12_sum_47 rfl hl (by decide) rfl (fun ls hl => ?_)
            refine lv_goto (tgt := 7) hx hb dX12_sum_48 (by decide) ?_
            exact ih_lp lp_2 y21 M20 (by omega) (by omega) (by omega) hI hE _ _ hw hS ls (lv_sub hl [1, 0, 2] rfl)
          · refine fx_if_eq (tgt := 51) hx hb dX12_sum_38 (by decide) zk_0 (fun c22 => ?_) (fun c22 => by exfalso; omega)
            refine lv_iconst (v := 0) hx hb dX12_sum_51 (by decide) ?_
            refine lv_istore_n (lv' := [(2, .int 0), (1, .int lp_1), (0, .ref (ad 60 0))]) hx hb dX12_sum_52 rfl hl (by decide) rfl (fun ls hl => ?_)
            refine lv_goto (tgt := 7) hx hb dX12_sum_53 (by decide) ?_
            exact ih_lp 0 lp_1 M16 (by have zlp_2 := zk_0; omega) (by decide) (by omega) hI hE _ _ hw hS ls (lv_sub hl [0, 1, 2] rfl)
  exact lp _ 1 r2 M3 (Nat.lt_succ_self _) (by decide) (by omega) hI hE _ _ hw hS ls (lv_sub hl [0, 1, 2] rfl)
set_option maxHeartbeats 400000 in
set_option maxRecDepth 20000 in
theorem fc_X12_turned_5 (l : Launch) (D : va_G) (ad : Nat → Nat → Nat) (C : Nat → Nat → ClassId) (nb : Nat) (M : fm_M) (hI : fm_I nb ad M) (hft : (M.1 60 0 64).toInt ≤ (M.1 60 0 65).toInt) (hop : 5 ≤ (M.1 60 0 66).toInt) : Met l yX12_turned wsX12_turned ({ frames := 8, cells := 0, slots := 0, locals := 173 }) (va_Pc [.ref (ad 60 0)] (fm_P D ad C nb M)) (va_Qi (fun (r : Int32) (u : fm_M) => fm_I nb ad u ∧ fm_same [60064, 60065, 60066, 60067] M u ∧ ((M.1 60 0 64).toInt ≤ (u.1 60 0 64).toInt ∧ (M.1 60 0 66).toInt ≤ (u.1 60 0 66).toInt ∧ (u.1 60 0 64).toInt ≤ (u.1 60 0 65).toInt)) (fun u t => fm_at D ad C nb u t.heap) (fm_A nb ad)) 0 0 (fm_A nb ad) := by
  refine Met.ofW (cc := cX12_turned) (maxL := 2) (ret := (some .int)) (by decide) rfl ?_
  intro p e s m args below meth c s₁ B hml hv
  obtain ⟨rfl, hw, hc⟩ := hv
  have hx := B.exec
  have hb := B.bytes
  have hr := B.returns
  have hts := atoms_spec (ws := wsX12_turned) B.pre
  have hown : s.vm.findClass RX12 = some m.cls := findClass_of_methodNamed B.named
  have hinX12 : ∀ w ∈ u_ws RX12 TX12 79, w ∈ wsX12_turned := fun w h => List.mem_cons_of_mem _ (iT_X12 w h)
  have hS : va_S (fm_A nb ad) s.heap s.heap [] := va_S.rf
  have hE : fm_same [60064, 60065, 60066, 60067] M M := fm_same.rf
  have hl := lv_entry ([.ref (ad 60 0)]) (n := 2) (Nat.le_of_ble_eq_true rfl)
  rw [lg_entry_eq]
  generalize (lg_sl ([.ref (ad 60 0)]) ++ List.replicate (2 - (lg_sl ([.ref (ad 60 0)])).length) Slot.unset).toArray = ls at hl ⊢
  have hl : lv_has ls 2 [(0, .ref (ad 60 0))] := hl
  refine lv_aload_n hx hb dX12_turned_0 rfl (lv_at hl 0 rfl) ?_
  refine fm_getI (a := 60) (j := 67) (T := TX12) (N := 79) hx hb hts hinX12 hown hc hw hI kl_60 sh_60 rfl (by decide) rfl bd_60_67 (hts (.fieldLink RX12 349 "RedTentModel" "fault" "I") (List.mem_cons_of_mem _ tw_5_187)) (fun _ h9 => h9) dX12_turned_1 (fun x1 ex1 bx1 => ?_)
  refine fx_if_lt (tgt := 9) hx hb dX12_turned_4 (by decide) rfl (fun c2 => ?_) (fun c2 => ?_)
  · refine lv_aload_n hx hb dX12_turned_9 rfl (lv_at hl 0 rfl) ?_
    obtain ⟨q3, vq3, hQq3, hRq3⟩ := hc.2.2.2.2.1 (RX12, 378, "not", [110, 111, 116]) (by decide)
    refine va_ldcwS hx hb hown hRq3 dX12_turned_10 ?_
    refine vp_callSi (va_Run.run (va_runV (As := [.ref q3]) (rest := []) ⟨hx, hb, hml, hown, hts⟩ (fc_X12_is l D ad C nb M hI q3 vq3 3 (fun j => ([110, 111, 116] : List Int32).getD j 0) (by decide)) (cwV 1 hts gX12_turned_X12_is rfl rfl rfl (by decide +kernel) ⟨Nat.le_of_ble_eq_true rfl, Nat.le_of_ble_eq_true rfl⟩) (fm_preVS hc hw hS hQq3 kl_60 sh_60 rfl) rfl rfl hl.1 rfl (lv_room (Nat.le_of_ble_eq_true rfl)) dX12_turned_13 ⟨by decide +kernel, by decide +kernel⟩)) (fun r4 hr4 => ?_)
    have ir4 := hr4.2
    have jr4 := hr4.1
    refine fx_if_eq (tgt := 53) hx hb dX12_turned_16 (by decide) rfl (fun c5 => ?_) (fun c5 => ?_)
    · refine lv_aload_n hx hb dX12_turned_53 rfl (lv_at hl 0 rfl) ?_
      have d6_63 := hI.bd (k := 0) bd_60_63
      have d6_64 := hI.bd (k := 0) bd_60_64
      have d6_65 := hI.bd (k := 0) bd_60_65
      have d6_66 := hI.bd (k := 0) bd_60_66
      refine fm_ci (va_runV (As := []) (rest := []) ⟨hx, hb, hml, hown, hts⟩ (fc_X12_sum_5 l D ad C nb M hI (by omega) (by omega)) (cwV 0 hts gX12_turned_X12_sum rfl rfl rfl (by decide +kernel) ⟨Nat.le_of_ble_eq_true rfl, Nat.le_of_ble_eq_true rfl⟩) (fm_preV hc hw hS kl_60 sh_60 rfl) rfl rfl hl.1 rfl (lv_room (Nat.le_of_ble_eq_true rfl)) dX12_turned_54 ⟨by decide +kernel, by decide +kernel⟩) hS hc (fun r7 M8 H locs hr7 hw hS => ?_)
      obtain ⟨hI, hEM8, hr7⟩ := hr7
      have hE := hE.tr hEM8 (by decide)
      have mM8_60_63 : (M8.1 60 0 63).toInt = (M.1 60 0 63).toInt := by rw [(hEM8 60 0 63 (by decide)).1]
      obtain ⟨ahr7, bhr7, dhr7⟩ := hr7
      refine lv_istore_n (lv' := [(1, .int r7), (0, .ref (ad 60 0))]) hx hb dX12_turned_57 rfl hl (by decide) rfl (fun ls hl => ?_)
      refine lv_aload_n hx hb dX12_turned_58 rfl (lv_at hl 1 rfl) ?_
      obtain ⟨q9, vq9, hQq9, hRq9⟩ := hc.2.2.2.2.1 (RX12, 387, "<", [60]) (by decide)
      refine va_ldcwS hx hb hown hRq9 dX12_turned_59 ?_
      refine fm_ci (va_runV (As := [.ref q9]) (rest := []) ⟨hx, hb, hml, hown, hts⟩ (fc_X12_take l D ad C nb M8 hI q9 vq9 1 (fun j => ([60] : List Int32).getD j 0) (by decide) (by omega)) (cwV 1 hts gX12_turned_X12_take rfl rfl rfl (by decide +kernel) ⟨Nat.le_of_ble_eq_true rfl, Nat.le_of_ble_eq_true rfl⟩) (fm_preVS hc hw hS hQq9 kl_60 sh_60 rfl) rfl rfl hl.1 rfl (lv_room (Nat.le_of_ble_eq_true rfl)) dX12_turned_62 ⟨by decide +kernel, by decide +kernel⟩) hS hc (fun r10 M11 H locs hr10 hw hS => ?_)
      obtain ⟨hI, hEM11, hr10⟩ := hr10
      have hE := hE.tr hEM11 (by decide)
      have mM11_60_63 : (M11.1 60 0 63).toInt = (M8.1 60 0 63).toInt := by rw [(hEM11 60 0 63 (by decide)).1]
      have mM11_60_66 : (M11.1 60 0 66).toInt = (M8.1 60 0 66).toInt := by rw [(hEM11 60 0 66 (by decide)).1]
      rcases hr10 with ⟨rfl, ahr10, bhr10⟩ | ⟨rfl, ahr10, bhr10⟩
      · refine fx_if_eq (tgt := 82) hx hb dX12_turned_65 (by decide) zk_1 (fun c12 => by exfalso; omega) (fun c12 => ?_)
        refine lv_iload_n hx hb dX12_turned_68 rfl (lv_at hl 0 rfl) ?_
        refine lv_aload_n hx hb dX12_turned_69 rfl (lv_at hl 1 rfl) ?_
        have d13_63 := hI.bd (k := 0) bd_60_63
        have d13_64 := hI.bd (k := 0) bd_60_64
        have d13_65 := hI.bd (k := 0) bd_60_65
        have d13_66 := hI.bd (k := 0) bd_60_66
        refine fm_ci (va_runV (As := []) (rest := [.int r7]) ⟨hx, hb, hml, hown, hts⟩ (fc_X12_sum_5 l D ad C nb M11 hI (by omega) (by omega)) (cwV 0 hts gX12_turned_X12_sum rfl rfl rfl (by decide +kernel) ⟨Nat.le_of_ble_eq_true rfl, Nat.le_of_ble_eq_true rfl⟩) (fm_preV hc hw hS kl_60 sh_60 rfl) rfl rfl hl.1 rfl (lv_room (Nat.le_of_ble_eq_true rfl)) dX12_turned_70 ⟨by decide +kernel, by decide +kernel⟩) hS hc (fun r14 M15 H locs hr14 hw hS => ?_)
        obtain ⟨hI, hEM15, hr14⟩ := hr14
        have hE := hE.tr hEM15 (by decide)
        have mM15_60_63 : (M15.1 60 0 63).toInt = (M11.1 60 0 63).toInt := by rw [(hEM15 60 0 63 (by decide)).1]
        obtain ⟨ahr14, bhr14, dhr14⟩ := hr14
        refine fx_icmp_ge (tgt := 80) hx hb dX12_turned_73 (by decide) rfl rfl (fun c16 => ?_) (fun c16 => ?_)
        · refine lv_iconst (v := 0) hx hb dX12_turned_80 (by decide) ?_
          exact W.iret (v := 0) hx hb hr (fun t ht hW => ⟨⟨0, M15, rfl, ⟨hI, hE, ⟨by omega, by omega, by omega⟩⟩, by show fm_at D ad C nb _ t.heap; rw [ht]; exact hw⟩, hS.F ht⟩) hS.2.2 dX12_turned_81
        · refine lv_iconst (v := 1) hx hb dX12_turned_76 (by decide) ?_
          refine lv_goto (tgt := 81) hx hb dX12_turned_77 (by decide) ?_
          exact W.iret (v := 1) hx hb hr (fun t ht hW => ⟨⟨1, M15, rfl, ⟨hI, hE, ⟨by omega, by omega, by omega⟩⟩, by show fm_at D ad C nb _ t.heap; rw [ht]; exact hw⟩, hS.F ht⟩) hS.2.2 dX12_turned_81
      · refine fx_if_eq (tgt := 82) hx hb dX12_turned_65 (by decide) zk_0 (fun c17 => ?_) (fun c17 => by exfalso; omega)
        refine lv_aload_n hx hb dX12_turned_82 rfl (lv_at hl 1 rfl) ?_
        obtain ⟨q18, vq18, hQq18, hRq18⟩ := hc.2.2.2.2.1 (RX12, 389, "=", [61]) (by decide)
        refine va_ldcwS hx hb hown hRq18 dX12_turned_83 ?_
        refine fm_ci (va_runV (As := [.ref q18]) (rest := []) ⟨hx, hb, hml, hown, hts⟩ (fc_X12_take l D ad C nb M11 hI q18 vq18 1 (fun j => ([61] : List Int32).getD j 0) (by decide) (by omega)) (cwV 1 hts gX12_turned_X12_take rfl rfl rfl (by decide +kernel) ⟨Nat.le_of_ble_eq_true rfl, Nat.le_of_ble_eq_true rfl⟩) (fm_preVS hc hw hS hQq18 kl_60 sh_60 rfl) rfl rfl hl.1 rfl (lv_room (Nat.le_of_ble_eq_true rfl)) dX12_turned_86 ⟨by decide +kernel, by decide +kernel⟩) hS hc (fun r19 M20 H locs hr19 hw hS => ?_)
        obtain ⟨hI, hEM20, hr19⟩ := hr19
        have hE := hE.tr hEM20 (by decide)
        have mM20_60_63 : (M20.1 60 0 63).toInt = (M11.1 60 0 63).toInt := by rw [(hEM20 60 0 63 (by decide)).1]
        have mM20_60_66 : (M20.1 60 0 66).toInt = (M11.1 60 0 66).toInt := by rw [(hEM20 60 0 66 (by decide)).1]
        rcases hr19 with ⟨rfl, ahr19, bhr19⟩ | ⟨rfl, ahr19, bhr19⟩
        · refine fx_if_eq (tgt := 106) hx hb dX12_turned_89 (by decide) zk_1 (fun c21 => by exfalso; omega) (fun c21 => ?_)
          refine lv_iload_n hx hb dX12_turned_92 rfl (lv_at hl 0 rfl) ?_
          refine lv_aload_n hx hb dX12_turned_93 rfl (lv_at hl 1 rfl) ?_
          have d22_63 := hI.bd (k := 0) bd_60_63
          have d22_64 := hI.bd (k := 0) bd_60_64
          have d22_65 := hI.bd (k := 0) bd_60_65
          have d22_66 := hI.bd (k := 0) bd_60_66
          refine fm_ci (va_runV (As := []) (rest := [.int r7]) ⟨hx, hb, hml, hown, hts⟩ (fc_X12_sum_5 l D ad C nb M20 hI (by omega) (by omega)) (cwV 0 hts gX12_turned_X12_sum rfl rfl rfl (by decide +kernel) ⟨Nat.le_of_ble_eq_true rfl, Nat.le_of_ble_eq_true rfl⟩) (fm_preV hc hw hS kl_60 sh_60 rfl) rfl rfl hl.1 rfl (lv_room (Nat.le_of_ble_eq_true rfl)) dX12_turned_94 ⟨by decide +kernel, by decide +kernel⟩) hS hc (fun r23 M24 H locs hr23 hw hS => ?_)
          obtain ⟨hI, hEM24, hr23⟩ := hr23
          have hE := hE.tr hEM24 (by decide)
          have mM24_60_63 : (M24.1 60 0 63).toInt = (M20.1 60 0 63).toInt := by rw [(hEM24 60 0 63 (by decide)).1]
          obtain ⟨ahr23, bhr23, dhr23⟩ := hr23
          refine fx_icmp_ne (tgt := 104) hx hb dX12_turned_97 (by decide) rfl rfl (fun c25 => ?_) (fun c25 => ?_)
          · refine lv_iconst (v := 0) hx hb dX12_turned_104 (by decide) ?_
            exact W.iret (v := 0) hx hb hr (fun t ht hW => ⟨⟨0, M24, rfl, ⟨hI, hE, ⟨by omega, by omega, by omega⟩⟩, by show fm_at D ad C nb _ t.heap; rw [ht]; exact hw⟩, hS.F ht⟩) hS.2.2 dX12_turned_105
          · refine lv_iconst (v := 1) hx hb dX12_turned_100 (by decide) ?_
            refine lv_goto (tgt := 105) hx hb dX12_turned_101 (by decide) ?_
            exact W.iret (v := 1) hx hb hr (fun t ht hW => ⟨⟨1, M24, rfl, ⟨hI, hE, ⟨by omega, by omega, by omega⟩⟩, by show fm_at D ad C nb _ t.heap; rw [ht]; exact hw⟩, hS.F ht⟩) hS.2.2 dX12_turned_105
        · refine fx_if_eq (tgt := 106) hx hb dX12_turned_89 (by decide) zk_0 (fun c26 => ?_) (fun c26 => by exfalso; omega)
          refine lv_iload_n hx hb dX12_turned_106 rfl (lv_at hl 0 rfl) ?_
          exact W.iret (v := r7) hx hb hr (fun t ht hW => ⟨⟨r7, M20, rfl, ⟨hI, hE, ⟨by omega, by omega, by omega⟩⟩, by show fm_at D ad C nb _ t.heap; rw [ht]; exact hw⟩, hS.F ht⟩) hS.2.2 dX12_turned_107
    · refine lv_aload_n hx hb dX12_turned_19 rfl (lv_at hl 0 rfl) ?_
      refine fm_ci (va_runV (As := []) (rest := []) ⟨hx, hb, hml, hown, hts⟩ (fc_X12_opens l D ad C nb M hI) (cwV 0 hts gX12_turned_X12_opens rfl rfl rfl (by decide +kernel) ⟨Nat.le_of_ble_eq_true rfl, Nat.le_of_ble_eq_true rfl⟩) (fm_preV hc hw hS kl_60 sh_60 rfl) rfl rfl hl.1 rfl (lv_room (Nat.le_of_ble_eq_true rfl)) dX12_turned_20 ⟨by decide +kernel, by decide +kernel⟩) hS hc (fun r27 M28 H locs hr27 hw hS => ?_)
      obtain ⟨hI, hEM28, hr27⟩ := hr27
      have hE := hE.tr hEM28 (by decide)
      have mM28_60_63 : (M28.1 60 0 63).toInt = (M.1 60 0 63).toInt := by rw [(hEM28 60 0 63 (by decide)).1]
      rcases hr27 with ⟨rfl, ahr27, bhr27, dhr27⟩ | ⟨rfl, ahr27, bhr27, dhr27⟩
      · refine fx_if_ne (tgt := 28) hx hb dX12_turned_23 (by decide) zk_1 (fun c29 => ?_) (fun c29 => by exfalso; omega)
        refine lv_aload_n hx hb dX12_turned_28 rfl (lv_at hl 0 rfl) ?_
        have dd30 := hI.bd (k := 0) bd_60_63
        have dd31 := hI.bd (k := 0) bd_60_64
        have dd32 := hI.bd (k := 0) bd_60_65
        have dd33 := hI.bd (k := 0) bd_60_66
        exfalso; omega
      · refine fx_if_ne (tgt := 28) hx hb dX12_turned_23 (by decide) zk_0 (fun c34 => by exfalso; omega) (fun c34 => ?_)
        refine lv_iconst (v := 0) hx hb dX12_turned_26 (by decide) ?_
        exact W.iret (v := 0) hx hb hr (fun t ht hW => ⟨⟨0, M28, rfl, ⟨hI, hE, ⟨by omega, by omega, by omega⟩⟩, by show fm_at D ad C nb _ t.heap; rw [ht]; exact hw⟩, hS.F ht⟩) hS.2.2 dX12_turned_27
  · refine lv_iconst (v := 0) hx hb dX12_turned_7 (by decide) ?_
    exact W.iret (v := 0) hx hb hr (fun t ht hW => ⟨⟨0, M, rfl, ⟨hI, hE, ⟨by omega, by omega, by omega⟩⟩, by show fm_at D ad C nb _ t.heap; rw [ht]; exact hw⟩, hS.F ht⟩) hS.2.2 dX12_turned_8
set_option maxHeartbeats 400000 in
set_option maxRecDepth 20000 in
theorem fc_X12_both_5 (l : Launch) (D : va_G) (ad : Nat → Nat → Nat) (C : Nat → Nat → ClassId) (nb : Nat) (M : fm_M) (hI : fm_I nb ad M) (hft : (M.1 60 0 64).toInt ≤ (M.1 60 0 65).toInt) (hop : 5 ≤ (M.1 60 0 66).toInt) : Met l yX12_both wsX12_both ({ frames := 9, cells := 0, slots := 0, locals := 194 }) (va_Pc [.ref (ad 60 0)] (fm_P D ad C nb M)) (va_Qi (fun (r : Int32) (u : fm_M) => fm_I nb ad u ∧ fm_same [60064, 60065, 60066, 60067] M u ∧ ((M.1 60 0 64).toInt ≤ (u.1 60 0 64).toInt ∧ (M.1 60 0 66).toInt ≤ (u.1 60 0 66).toInt ∧ (u.1 60 0 64).toInt ≤ (u.1 60 0 65).toInt)) (fun u t => fm_at D ad C nb u t.heap) (fm_A nb ad)) 0 0 (fm_A nb ad) := by
  refine Met.ofW (cc := cX12_both) (maxL := 3) (ret := (some .int)) (by decide) rfl ?_
  intro p e s m args below meth c s₁ B hml hv
  obtain ⟨rfl, hw, hc⟩ := hv
  have hx := B.exec
  have hb := B.bytes
  have hr := B.returns
  have hts := atoms_spec (ws := wsX12_both) B.pre
  have hown : s.vm.findClass RX12 = some m.cls := findClass_of_methodNamed B.named
  have hS : va_S (fm_A nb ad) s.heap s.heap [] := va_S.rf
  have hE : fm_same [60064, 60065, 60066, 60067] M M := fm_same.rf
  have hl := lv_entry ([.ref (ad 60 0)]) (n := 3) (Nat.le_of_ble_eq_true rfl)
  rw [lg_entry_eq]
  generalize (lg_sl ([.ref (ad 60 0)]) ++ List.replicate (3 - (lg_sl ([.ref (ad 60 0)])).length) Slot.unset).toArray = ls at hl ⊢
  have hl : lv_has ls 3 [(0, .ref (ad 60 0))] := hl
  refine lv_aload_n hx hb dX12_both_0 rfl (lv_at hl 0 rfl) ?_
  have d1_63 := hI.bd (k := 0) bd_60_63
  have d1_64 := hI.bd (k := 0) bd_60_64
  have d1_65 := hI.bd (k := 0) bd_60_65
  have d1_66 := hI.bd (k := 0) bd_60_66
  refine fm_ci (va_runV (As := []) (rest := []) ⟨hx, hb, hml, hown, hts⟩ (fc_X12_turned_5 l D ad C nb M hI (by omega) (by omega)) (cwV 0 hts gX12_both_X12_turned rfl rfl rfl (by decide +kernel) ⟨Nat.le_of_ble_eq_true rfl, Nat.le_of_ble_eq_true rfl⟩) (fm_preV hc hw hS kl_60 sh_60 rfl) rfl rfl hl.1 rfl (lv_room (Nat.le_of_ble_eq_true rfl)) dX12_both_1 ⟨by decide +kernel, by decide +kernel⟩) hS hc (fun r2 M3 H locs hr2 hw hS => ?_)
  obtain ⟨hI, hEM3, hr2⟩ := hr2
  have hE := hE.tr hEM3 (by decide)
  have mM3_60_63 : (M3.1 60 0 63).toInt = (M.1 60 0 63).toInt := by rw [(hEM3 60 0 63 (by decide)).1]
  obtain ⟨ahr2, bhr2, dhr2⟩ := hr2
  refine lv_istore_n (lv' := [(1, .int r2), (0, .ref (ad 60 0))]) hx hb dX12_both_4 rfl hl (by decide) rfl (fun ls hl => ?_)
  have lp : ∀ (n_lp : Nat) (lp_1 : Int32) (M_lp : fm_M), (161 - (M_lp.1 60 0 64).toInt).toNat < n_lp → ((M.1 60 0 64).toInt ≤ (M_lp.1 60 0 64).toInt ∧ (M.1 60 0 66).toInt ≤ (M_lp.1 60 0 66).toInt ∧ (M_lp.1 60 0 64).toInt ≤ (M_lp.1 60 0 65).toInt) → fm_I nb ad M_lp → fm_same [60064, 60065, 60066, 60067] M M_lp → ∀ (H : Heap) (locs : List Loc), fm_at D ad C nb M_lp H → va_S (fm_A nb ad) s.heap H locs → ∀ (ls : Array Slot), lv_has ls 3 [(1, .int lp_1), (0, .ref (ad 60 0))] → W p l e (headSpec wsX12_both ({ frames := 9, cells := 0, slots := 0, locals := 194 })).room s m ([.ref (ad 60 0)] : List Value).toArray below meth c H locs 0 0 (MQ below (va_Qi (fun (r : Int32) (u : fm_M) => fm_I nb ad u ∧ fm_same [60064, 60065, 60066, 60067] M u ∧ ((M.1 60 0 64).toInt ≤ (u.1 60 0 64).toInt ∧ (M.1 60 0 66).toInt ≤ (u.1 60 0 66).toInt ∧ (u.1 60 0 64).toInt ≤ (u.1 60 0 65).toInt)) (fun u t => fm_at D ad C nb u t.heap) (fm_A nb ad)) ([.ref (ad 60 0)] : List Value).toArray s 0 0 (fm_A nb ad)) (F0 m 5 ls []) := by
    intro n_lp
    induction n_lp with
    | zero => intro lp_1 M_lp hm_lp hv hI hE H locs hw hS ls hl; exact absurd hm_lp (Nat.not_lt_zero _)
    | succ n_lp ih_lp =>
      intro lp_1 M_lp hm_lp hv hI hE H locs hw hS ls hl
      refine lv_aload_n hx hb dX12_both_5 rfl (lv_at hl 1 rfl) ?_
      obtain ⟨q4, vq4, hQq4, hRq4⟩ := hc.2.2.2.2.1 (RX12, 370, "and", [97, 110, 100]) (by decide)
      refine va_ldcwS hx hb hown hRq4 dX12_both_6 ?_
      refine fm_ci (va_runV (As := [.ref q4]) (rest := []) ⟨hx, hb, hml, hown, hts⟩ (fc_X12_take l D ad C nb M_lp hI q4 vq4 3 (fun j => ([97, 110, 100] : List Int32).getD j 0) (by decide) (by omega)) (cwV 1 hts gX12_both_X12_take rfl rfl rfl (by decide +kernel) ⟨Nat.le_of_ble_eq_true rfl, Nat.le_of_ble_eq_true rfl⟩) (fm_preVS hc hw hS hQq4 kl_60 sh_60 rfl) rfl rfl hl.1 rfl (lv_room (Nat.le_of_ble_eq_true rfl)) dX12_both_9 ⟨by decide +kernel, by decide +kernel⟩) hS hc (fun r5 M6 H locs hr5 hw hS => ?_)
      obtain ⟨hI, hEM6, hr5⟩ := hr5
      have hE := hE.tr hEM6 (by decide)
      have mM6_60_63 : (M6.1 60 0 63).toInt = (M_lp.1 60 0 63).toInt := by rw [(hEM6 60 0 63 (by decide)).1]
      have mM6_60_66 : (M6.1 60 0 66).toInt = (M_lp.1 60 0 66).toInt := by rw [(hEM6 60 0 66 (by decide)).1]
      rcases hr5 with ⟨rfl, ahr5, bhr5⟩ | ⟨rfl, ahr5, bhr5⟩
      · refine fx_if_eq (tgt := 37) hx hb dX12_both_12 (by decide) zk_1 (fun c7 => by exfalso; omega) (fun c7 => ?_)
        refine lv_aload_n hx hb dX12_both_15 rfl (lv_at hl 1 rfl) ?_
        have d8_63 := hI.bd (k := 0) bd_60_63
        have d8_64 := hI.bd (k := 0) bd_60_64
        have d8_65 := hI.bd (k := 0) bd_60_65
        have d8_66 := hI.bd (k := 0) bd_60_66
        refine fm_ci (va_runV (As := []) (rest := []) ⟨hx, hb, hml, hown, hts⟩ (fc_X12_turned_5 l D ad C nb M6 hI (by omega) (by omega)) (cwV 0 hts gX12_both_X12_turned rfl rfl rfl (by decide +kernel) ⟨Nat.le_of_ble_eq_true rfl, Nat.le_of_ble_eq_true rfl⟩) (fm_preV hc hw hS kl_60 sh_60 rfl) rfl rfl hl.1 rfl (lv_room (Nat.le_of_ble_eq_true rfl)) dX12_both_16 ⟨by decide +kernel, by decide +kernel⟩) hS hc (fun r9 M10 H locs hr9 hw hS => ?_)
        obtain ⟨hI, hEM10, hr9⟩ := hr9
        have hE := hE.tr hEM10 (by decide)
        have mM10_60_63 : (M10.1 60 0 63).toInt = (M6.1 60 0 63).toInt := by rw [(hEM10 60 0 63 (by decide)).1]
        obtain ⟨ahr9, bhr9, dhr9⟩ := hr9
        refine lv_istore_n (lv' := [(2, .int r9), (1, .int lp_1), (0, .ref (ad 60 0))]) hx hb dX12_both_19 rfl hl (by decide) rfl (fun ls hl => ?_)
        refine lv_iload_n hx hb dX12_both_20 rfl (lv_at hl 1 rfl) ?_
        refine fx_if_eq (tgt := 32) hx hb dX12_both_21 (by decide) rfl (fun c11 => ?_) (fun c11 => ?_)
        · refine lv_iconst (v := 0) hx hb dX12_both_32 (by decide) ?_
          refine lv_istore_n (lv' := [(1, .int 0), (2, .int r9), (0, .ref (ad 60 0))]) hx hb dX12_both_33 rfl hl (by decide) rfl (fun ls hl => ?_)
          refine lv_goto (tgt := 5) hx hb dX12_both_34 (by decide) ?_
          exact ih_lp 0 M10 (by omega) (by omega) hI hE _ _ hw hS ls (lv_sub hl [0, 2] rfl)
        · refine lv_iload_n hx hb dX12_both_24 rfl (lv_at hl 0 rfl) ?_
          refine fx_if_eq (tgt := 32) hx hb dX12_both_25 (by decide) rfl (fun c12 => ?_) (fun c12 => ?_)
          · refine lv_iconst (v := 0) hx hb dX12_both_32 (by decide) ?_
            refine lv_istore_n (lv' := [(1, .int 0), (2, .int r9), (0, .ref (ad 60 0))]) hx hb dX12_both_33 rfl hl (by decide) rfl (fun ls hl => ?_)
            refine lv_goto (tgt := 5) hx hb dX12_both_34 (by decide) ?_
            exact ih_lp 0 M10 (by omega) (by omega) hI hE _ _ hw hS ls (lv_sub hl [0, 2] rfl)
          · refine lv_iconst (v := 1) hx hb dX12_both_28 (by decide) ?_
            refine lv_goto (tgt := 33) hx hb dX12_both_29 (by decide) ?_
            refine lv_istore_n (lv' := [(1, .int 1), (2, .int r9), (0, .ref (ad 60 0))]) hx hb dX12_both_33 rfl hl (by decide) rfl (fun ls hl => ?_)
            refine lv_goto (tgt := 5) hx hb dX12_both_34 (by decide) ?_
            exact ih_lp 1 M10 (by omega) (by omega) hI hE _ _ hw hS ls (lv_sub hl [0, 2] rfl)
      · refine fx_if_eq (tgt := 37) hx hb dX12_both_12 (by decide) zk_0 (fun c13 => ?_) (fun c13 => by exfalso; omega)
        refine lv_iload_n hx hb dX12_both_37 rfl (lv_at hl 0 rfl) ?_
        exact W.iret (v := lp_1) hx hb hr (fun t ht hW => ⟨⟨lp_1, M6, rfl, ⟨hI, hE, ⟨by omega, by omega, by omega⟩⟩, by show fm_at D ad C nb _ t.heap; rw [ht]; exact hw⟩, hS.F ht⟩) hS.2.2 dX12_both_38
  exact lp _ r2 M3 (Nat.lt_succ_self _) (by omega) hI hE _ _ hw hS ls (lv_sub hl [0, 1] rfl)
set_option maxHeartbeats 400000 in
set_option maxRecDepth 20000 in
theorem fc_X12_either_5 (l : Launch) (D : va_G) (ad : Nat → Nat → Nat) (C : Nat → Nat → ClassId) (nb : Nat) (M : fm_M) (hI : fm_I nb ad M) (hft : (M.1 60 0 64).toInt ≤ (M.1 60 0 65).toInt) (hop : 5 ≤ (M.1 60 0 66).toInt) : Met l yX12_either wsX12_either ({ frames := 10, cells := 0, slots := 0, locals := 216 }) (va_Pc [.ref (ad 60 0)] (fm_P D ad C nb M)) (va_Qi (fun (r : Int32) (u : fm_M) => fm_I nb ad u ∧ fm_same [60064, 60065, 60066, 60067] M u ∧ ((M.1 60 0 64).toInt ≤ (u.1 60 0 64).toInt ∧ (M.1 60 0 66).toInt ≤ (u.1 60 0 66).toInt ∧ (u.1 60 0 64).toInt ≤ (u.1 60 0 65).toInt)) (fun u t => fm_at D ad C nb u t.heap) (fm_A nb ad)) 0 0 (fm_A nb ad) := by
  refine Met.ofW (cc := cX12_either) (maxL := 3) (ret := (some .int)) (by decide) rfl ?_
  intro p e s m args below meth c s₁ B hml hv
  obtain ⟨rfl, hw, hc⟩ := hv
  have hx := B.exec
  have hb := B.bytes
  have hr := B.returns
  have hts := atoms_spec (ws := wsX12_either) B.pre
  have hown : s.vm.findClass RX12 = some m.cls := findClass_of_methodNamed B.named
  have hS : va_S (fm_A nb ad) s.heap s.heap [] := va_S.rf
  have hE : fm_same [60064, 60065, 60066, 60067] M M := fm_same.rf
  have hl := lv_entry ([.ref (ad 60 0)]) (n := 3) (Nat.le_of_ble_eq_true rfl)
  rw [lg_entry_eq]
  generalize (lg_sl ([.ref (ad 60 0)]) ++ List.replicate (3 - (lg_sl ([.ref (ad 60 0)])).length) Slot.unset).toArray = ls at hl ⊢
  have hl : lv_has ls 3 [(0, .ref (ad 60 0))] := hl
  refine lv_aload_n hx hb dX12_either_0 rfl (lv_at hl 0 rfl) ?_
  have d1_63 := hI.bd (k := 0) bd_60_63
  have d1_64 := hI.bd (k := 0) bd_60_64
  have d1_65 := hI.bd (k := 0) bd_60_65
  have d1_66 := hI.bd (k := 0) bd_60_66
  refine fm_ci (va_runV (As := []) (rest := []) ⟨hx, hb, hml, hown, hts⟩ (fc_X12_both_5 l D ad C nb M hI (by omega) (by omega)) (cwV 0 hts gX12_either_X12_both rfl rfl rfl (by decide +kernel) ⟨Nat.le_of_ble_eq_true rfl, Nat.le_of_ble_eq_true rfl⟩) (fm_preV hc hw hS kl_60 sh_60 rfl) rfl rfl hl.1 rfl (lv_room (Nat.le_of_ble_eq_true rfl)) dX12_either_1 ⟨by decide +kernel, by decide +kernel⟩) hS hc (fun r2 M3 H locs hr2 hw hS => ?_)
  obtain ⟨hI, hEM3, hr2⟩ := hr2
  have hE := hE.tr hEM3 (by decide)
  have mM3_60_63 : (M3.1 60 0 63).toInt = (M.1 60 0 63).toInt := by rw [(hEM3 60 0 63 (by decide)).1]
  obtain ⟨ahr2, bhr2, dhr2⟩ := hr2
  refine lv_istore_n (lv' := [(1, .int r2), (0, .ref (ad 60 0))]) hx hb dX12_either_4 rfl hl (by decide) rfl (fun ls hl => ?_)
  have lp : ∀ (n_lp : Nat) (lp_1 : Int32) (M_lp : fm_M), (161 - (M_lp.1 60 0 64).toInt).toNat < n_lp → ((M.1 60 0 64).toInt ≤ (M_lp.1 60 0 64).toInt ∧ (M.1 60 0 66).toInt ≤ (M_lp.1 60 0 66).toInt ∧ (M_lp.1 60 0 64).toInt ≤ (M_lp.1 60 0 65).toInt) → fm_I nb ad M_lp → fm_same [60064, 60065, 60066, 60067] M M_lp → ∀ (H : Heap) (locs : List Loc), fm_at D ad C nb M_lp H → va_S (fm_A nb ad) s.heap H locs → ∀ (ls : Array Slot), lv_has ls 3 [(1, .int lp_1), (0, .ref (ad 60 0))] → W p l e (headSpec wsX12_either ({ frames := 10, cells := 0, slots := 0, locals := 216 })).room s m ([.ref (ad 60 0)] : List Value).toArray below meth c H locs 0 0 (MQ below (va_Qi (fun (r : Int32) (u : fm_M) => fm_I nb ad u ∧ fm_same [60064, 60065, 60066, 60067] M u ∧ ((M.1 60 0 64).toInt ≤ (u.1 60 0 64).toInt ∧ (M.1 60 0 66).toInt ≤ (u.1 60 0 66).toInt ∧ (u.1 60 0 64).toInt ≤ (u.1 60 0 65).toInt)) (fun u t => fm_at D ad C nb u t.heap) (fm_A nb ad)) ([.ref (ad 60 0)] : List Value).toArray s 0 0 (fm_A nb ad)) (F0 m 5 ls []) := by
    intro n_lp
    induction n_lp with
    | zero => intro lp_1 M_lp hm_lp hv hI hE H locs hw hS ls hl; exact absurd hm_lp (Nat.not_lt_zero _)
    | succ n_lp ih_lp =>
      intro lp_1 M_lp hm_lp hv hI hE H locs hw hS ls hl
      refine lv_aload_n hx hb dX12_either_5 rfl (lv_at hl 1 rfl) ?_
      obtain ⟨q4, vq4, hQq4, hRq4⟩ := hc.2.2.2.2.1 (RX12, 362, "or", [111, 114]) (by decide)
      refine va_ldcwS hx hb hown hRq4 dX12_either_6 ?_
      refine fm_ci (va_runV (As := [.ref q4]) (rest := []) ⟨hx, hb, hml, hown, hts⟩ (fc_X12_take l D ad C nb M_lp hI q4 vq4 2 (fun j => ([111, 114] : List Int32).getD j 0) (by decide) (by omega)) (cwV 1 hts gX12_either_X12_take rfl rfl rfl (by decide +kernel) ⟨Nat.le_of_ble_eq_true rfl, Nat.le_of_ble_eq_true rfl⟩) (fm_preVS hc hw hS hQq4 kl_60 sh_60 rfl) rfl rfl hl.1 rfl (lv_room (Nat.le_of_ble_eq_true rfl)) dX12_either_9 ⟨by decide +kernel, by decide +kernel⟩) hS hc (fun r5 M6 H locs hr5 hw hS => ?_)
      obtain ⟨hI, hEM6, hr5⟩ := hr5
      have hE := hE.tr hEM6 (by decide)
      have mM6_60_63 : (M6.1 60 0 63).toInt = (M_lp.1 60 0 63).toInt := by rw [(hEM6 60 0 63 (by decide)).1]
      have mM6_60_66 : (M6.1 60 0 66).toInt = (M_lp.1 60 0 66).toInt := by rw [(hEM6 60 0 66 (by decide)).1]
      rcases hr5 with ⟨rfl, ahr5, bhr5⟩ | ⟨rfl, ahr5, bhr5⟩
      · refine fx_if_eq (tgt := 37) hx hb dX12_either_12 (by decide) zk_1 (fun c7 => by exfalso; omega) (fun c7 => ?_)
        refine lv_aload_n hx hb dX12_either_15 rfl (lv_at hl 1 rfl) ?_
        have d8_63 := hI.bd (k := 0) bd_60_63
        have d8_64 := hI.bd (k := 0) bd_60_64
        have d8_65 := hI.bd (k := 0) bd_60_65
        have d8_66 := hI.bd (k := 0) bd_60_66
        refine fm_ci (va_runV (As := []) (rest := []) ⟨hx, hb, hml, hown, hts⟩ (fc_X12_both_5 l D ad C nb M6 hI (by omega) (by omega)) (cwV 0 hts gX12_either_X12_both rfl rfl rfl (by decide +kernel) ⟨Nat.le_of_ble_eq_true rfl, Nat.le_of_ble_eq_true rfl⟩) (fm_preV hc hw hS kl_60 sh_60 rfl) rfl rfl hl.1 rfl (lv_room (Nat.le_of_ble_eq_true rfl)) dX12_either_16 ⟨by decide +kernel, by decide +kernel⟩) hS hc (fun r9 M10 H locs hr9 hw hS => ?_)
        obtain ⟨hI, hEM10, hr9⟩ := hr9
        have hE := hE.tr hEM10 (by decide)
        have mM10_60_63 : (M10.1 60 0 63).toInt = (M6.1 60 0 63).toInt := by rw [(hEM10 60 0 63 (by decide)).1]
        obtain ⟨ahr9, bhr9, dhr9⟩ := hr9
        refine lv_istore_n (lv' := [(2, .int r9), (1, .int lp_1), (0, .ref (ad 60 0))]) hx hb dX12_either_19 rfl hl (by decide) rfl (fun ls hl => ?_)
        refine lv_iload_n hx hb dX12_either_20 rfl (lv_at hl 1 rfl) ?_
        refine fx_if_ne (tgt := 28) hx hb dX12_either_21 (by decide) rfl (fun c11 => ?_) (fun c11 => ?_)
        · refine lv_iconst (v := 1) hx hb dX12_either_28 (by decide) ?_
          refine lv_goto (tgt := 33) hx hb dX12_either_29 (by decide) ?_
          refine lv_istore_n (lv' := [(1, .int 1), (2, .int r9), (0, .ref (ad 60 0))]) hx hb dX12_either_33 rfl hl (by decide) rfl (fun ls hl => ?_)
          refine lv_goto (tgt := 5) hx hb dX12_either_34 (by decide) ?_
          exact ih_lp 1 M10 (by omega) (by omega) hI hE _ _ hw hS ls (lv_sub hl [0, 2] rfl)
        · refine lv_iload_n hx hb dX12_either_24 rfl (lv_at hl 0 rfl) ?_
          refine fx_if_eq (tgt := 32) hx hb dX12_either_25 (by decide) rfl (fun c12 => ?_) (fun c12 => ?_)
          · refine lv_iconst (v := 0) hx hb dX12_either_32 (by decide) ?_
            refine lv_istore_n (lv' := [(1, .int 0), (2, .int r9), (0, .ref (ad 60 0))]) hx hb dX12_either_33 rfl hl (by decide) rfl (fun ls hl => ?_)
            refine lv_goto (tgt := 5) hx hb dX12_either_34 (by decide) ?_
            exact ih_lp 0 M10 (by omega) (by omega) hI hE _ _ hw hS ls (lv_sub hl [0, 2] rfl)
          · refine lv_iconst (v := 1) hx hb dX12_either_28 (by decide) ?_
            refine lv_goto (tgt := 33) hx hb dX12_either_29 (by decide) ?_
            refine lv_istore_n (lv' := [(1, .int 1), (2, .int r9), (0, .ref (ad 60 0))]) hx hb dX12_either_33 rfl hl (by decide) rfl (fun ls hl => ?_)
            refine lv_goto (tgt := 5) hx hb dX12_either_34 (by decide) ?_
            exact ih_lp 1 M10 (by omega) (by omega) hI hE _ _ hw hS ls (lv_sub hl [0, 2] rfl)
      · refine fx_if_eq (tgt := 37) hx hb dX12_either_12 (by decide) zk_0 (fun c13 => ?_) (fun c13 => by exfalso; omega)
        refine lv_iload_n hx hb dX12_either_37 rfl (lv_at hl 0 rfl) ?_
        exact W.iret (v := lp_1) hx hb hr (fun t ht hW => ⟨⟨lp_1, M6, rfl, ⟨hI, hE, ⟨by omega, by omega, by omega⟩⟩, by show fm_at D ad C nb _ t.heap; rw [ht]; exact hw⟩, hS.F ht⟩) hS.2.2 dX12_either_38
  exact lp _ r2 M3 (Nat.lt_succ_self _) (by omega) hI hE _ _ hw hS ls (lv_sub hl [0, 1] rfl)
set_option maxHeartbeats 400000 in
set_option maxRecDepth 20000 in
theorem fc_X12_one_4 (l : Launch) (D : va_G) (ad : Nat → Nat → Nat) (C : Nat → Nat → ClassId) (nb : Nat) (M : fm_M) (hI : fm_I nb ad M) (hft : (M.1 60 0 64).toInt ≤ (M.1 60 0 65).toInt) (hop : 4 ≤ (M.1 60 0 66).toInt) : Met l yX12_one wsX12_one ({ frames := 11, cells := 0, slots := 0, locals := 238 }) (va_Pc [.ref (ad 60 0)] (fm_P D ad C nb M)) (va_Qi (fun (r : Int32) (u : fm_M) => fm_I nb ad u ∧ fm_same [60064, 60065, 60066, 60067] M u ∧ ((M.1 60 0 64).toInt ≤ (u.1 60 0 64).toInt ∧ (M.1 60 0 66).toInt ≤ (u.1 60 0 66).toInt ∧ (u.1 60 0 64).toInt ≤ (u.1 60 0 65).toInt)) (fun u t => fm_at D ad C nb u t.heap) (fm_A nb ad)) 0 0 (fm_A nb ad) := by
  refine Met.ofW (cc := cX12_one) (maxL := 3) (ret := (some .int)) (by decide) rfl ?_
  intro p e s m args below meth c s₁ B hml hv
  obtain ⟨rfl, hw, hc⟩ := hv
  have hx := B.exec
  have hb := B.bytes
  have hr := B.returns
  have hts := atoms_spec (ws := wsX12_one) B.pre
  have hown : s.vm.findClass RX12 = some m.cls := findClass_of_methodNamed B.named
  have hinX12 : ∀ w ∈ u_ws RX12 TX12 79, w ∈ wsX12_one := fun w h => List.mem_cons_of_mem _ (iT_X12 w h)
  have hS : va_S (fm_A nb ad) s.heap s.heap [] := va_S.rf
  have hE : fm_same [60064, 60065, 60066, 60067] M M := fm_same.rf
  have hl := lv_entry ([.ref (ad 60 0)]) (n := 3) (Nat.le_of_ble_eq_true rfl)
  rw [lg_entry_eq]
  generalize (lg_sl ([.ref (ad 60 0)]) ++ List.replicate (3 - (lg_sl ([.ref (ad 60 0)])).length) Slot.unset).toArray = ls at hl ⊢
  have hl : lv_has ls 3 [(0, .ref (ad 60 0))] := hl
  refine lv_aload_n hx hb dX12_one_0 rfl (lv_at hl 0 rfl) ?_
  refine fm_getI (a := 60) (j := 67) (T := TX12) (N := 79) hx hb hts hinX12 hown hc hw hI kl_60 sh_60 rfl (by decide) rfl bd_60_67 (hts (.fieldLink RX12 349 "RedTentModel" "fault" "I") (List.mem_cons_of_mem _ tw_5_187)) (fun _ h9 => h9) dX12_one_1 (fun x1 ex1 bx1 => ?_)
  refine fx_if_lt (tgt := 9) hx hb dX12_one_4 (by decide) rfl (fun c2 => ?_) (fun c2 => ?_)
  · refine lv_aload_n hx hb dX12_one_9 rfl (lv_at hl 0 rfl) ?_
    obtain ⟨q3, vq3, hQq3, hRq3⟩ := hc.2.2.2.2.1 (RX12, 396, "-", [45]) (by decide)
    refine va_ldcwS hx hb hown hRq3 dX12_one_10 ?_
    refine vp_callSi (va_Run.run (va_runV (As := [.ref q3]) (rest := []) ⟨hx, hb, hml, hown, hts⟩ (fc_X12_is l D ad C nb M hI q3 vq3 1 (fun j => ([45] : List Int32).getD j 0) (by decide)) (cwV 1 hts gX12_one_X12_is rfl rfl rfl (by decide +kernel) ⟨Nat.le_of_ble_eq_true rfl, Nat.le_of_ble_eq_true rfl⟩) (fm_preVS hc hw hS hQq3 kl_60 sh_60 rfl) rfl rfl hl.1 rfl (lv_room (Nat.le_of_ble_eq_true rfl)) dX12_one_13 ⟨by decide +kernel, by decide +kernel⟩)) (fun r4 hr4 => ?_)
    have ir4 := hr4.2
    have jr4 := hr4.1
    refine fx_if_eq (tgt := 46) hx hb dX12_one_16 (by decide) rfl (fun c5 => ?_) (fun c5 => ?_)
    · refine lv_aload_n hx hb dX12_one_46 rfl (lv_at hl 0 rfl) ?_
      obtain ⟨q6, vq6, hQq6, hRq6⟩ := hc.2.2.2.2.1 (RX12, 403, "(", [40]) (by decide)
      refine va_ldcwS hx hb hown hRq6 dX12_one_47 ?_
      refine vp_callSi (va_Run.run (va_runV (As := [.ref q6]) (rest := []) ⟨hx, hb, hml, hown, hts⟩ (fc_X12_is l D ad C nb M hI q6 vq6 1 (fun j => ([40] : List Int32).getD j 0) (by decide)) (cwV 1 hts gX12_one_X12_is rfl rfl rfl (by decide +kernel) ⟨Nat.le_of_ble_eq_true rfl, Nat.le_of_ble_eq_true rfl⟩) (fm_preVS hc hw hS hQq6 kl_60 sh_60 rfl) rfl rfl hl.1 rfl (lv_room (Nat.le_of_ble_eq_true rfl)) dX12_one_50 ⟨by decide +kernel, by decide +kernel⟩)) (fun r7 hr7 => ?_)
      have ir7 := hr7.2
      have jr7 := hr7.1
      refine fx_if_eq (tgt := 97) hx hb dX12_one_53 (by decide) rfl (fun c8 => ?_) (fun c8 => ?_)
      · refine lv_aload_n hx hb dX12_one_97 rfl (lv_at hl 0 rfl) ?_
        refine lv_aload_n hx hb dX12_one_98 rfl (lv_at hl 0 rfl) ?_
        refine fm_getI (a := 60) (j := 64) (T := TX12) (N := 79) hx hb hts hinX12 hown hc hw hI kl_60 sh_60 rfl (by decide) rfl bd_60_64 (hts (.fieldLink RX12 340 "RedTentModel" "from" "I") (List.mem_cons_of_mem _ tw_5_184)) (fun _ h9 => h9) dX12_one_99 (fun x9 ex9 bx9 => ?_)
        have wx9 : x9.toInt = (M.1 60 0 64).toInt := by rw [ex9]
        refine vp_callSi (va_Run.run (va_runV (As := [.int x9]) (rest := []) ⟨hx, hb, hml, hown, hts⟩ (fc_X12_isDigit l D ad C nb M hI x9 (by omega)) (cwV 1 hts gX12_one_X12_isDigit rfl rfl rfl (by decide +kernel) ⟨Nat.le_of_ble_eq_true rfl, Nat.le_of_ble_eq_true rfl⟩) (fm_preV hc hw hS kl_60 sh_60 rfl) rfl rfl hl.1 rfl (lv_room (Nat.le_of_ble_eq_true rfl)) dX12_one_102 ⟨by decide +kernel, by decide +kernel⟩)) (fun r10 hr10 => ?_)
        have bqq11 := hI.bd (k := 0) bd_60_63
        rcases hr10 with ⟨rfl, c12⟩ | ⟨rfl, c12⟩
        · refine fx_if_eq (tgt := 167) hx hb dX12_one_105 (by decide) zk_1 (fun c13 => by exfalso; omega) (fun c13 => ?_)
          refine lv_aload_n hx hb dX12_one_108 rfl (lv_at hl 0 rfl) ?_
          refine fm_getI (a := 60) (j := 65) (T := TX12) (N := 79) hx hb hts hinX12 hown hc hw hI kl_60 sh_60 rfl (by decide) rfl bd_60_65 (hts (.fieldLink RX12 337 "RedTentModel" "to" "I") (List.mem_cons_of_mem _ tw_5_185)) (fun _ h9 => h9) dX12_one_109 (fun x14 ex14 bx14 => ?_)
          have wx14 : x14.toInt = (M.1 60 0 65).toInt := by rw [ex14]
          refine lv_aload_n hx hb dX12_one_112 rfl (lv_at hl 0 rfl) ?_
          refine fm_getI (a := 60) (j := 64) (T := TX12) (N := 79) hx hb hts hinX12 hown hc hw hI kl_60 sh_60 rfl (by decide) rfl bd_60_64 (hts (.fieldLink RX12 340 "RedTentModel" "from" "I") (List.mem_cons_of_mem _ tw_5_184)) (fun _ h9 => h9) dX12_one_113 (fun x15 ex15 bx15 => ?_)
          have wx15 : x15.toInt = (M.1 60 0 64).toInt := by rw [ex15]
          obtain rfl : x9 = x15 := by rw [ex15]; exact ex9
          refine fx_isub hx hb dX12_one_116 rfl rfl (by omega) (fun y16 ey16 ty16 => ?_)
          refine lv_iconst (v := 4) hx hb dX12_one_117 (by decide) ?_
          refine fx_icmp_le (tgt := 126) hx hb dX12_one_118 (by decide) rfl zk_4 (fun c17 => ?_) (fun c17 => ?_)
          · refine lv_iconst (v := 0) hx hb dX12_one_126 (by decide) ?_
            refine lv_istore_n (lv' := [(1, .int 0), (0, .ref (ad 60 0))]) hx hb dX12_one_127 rfl hl (by decide) rfl (fun ls hl => ?_)
            refine lv_aload_n hx hb dX12_one_128 rfl (lv_at hl 1 rfl) ?_
            refine fm_getI (a := 60) (j := 64) (T := TX12) (N := 79) hx hb hts hinX12 hown hc hw hI kl_60 sh_60 rfl (by decide) rfl bd_60_64 (hts (.fieldLink RX12 340 "RedTentModel" "from" "I") (List.mem_cons_of_mem _ tw_5_184)) (fun _ h9 => h9) dX12_one_129 (fun x18 ex18 bx18 => ?_)
            have wx18 : x18.toInt = (M.1 60 0 64).toInt := by rw [ex18]
            obtain rfl : x9 = x18 := by rw [ex18]; exact ex9
            refine lv_istore_n (lv' := [(2, .int x9), (1, .int 0), (0, .ref (ad 60 0))]) hx hb dX12_one_132 rfl hl (by decide) rfl (fun ls hl => ?_)
            have lp : ∀ (n_lp : Nat) (lp_2 : Int32) (lp_1 : Int32), (160 - lp_2.toInt).toNat < n_lp → (0 ≤ lp_2.toInt ∧ lp_2.toInt ≤ 160) → ∀ (ls : Array Slot), lv_has ls 3 [(2, .int lp_2), (1, .int lp_1), (0, .ref (ad 60 0))] → W p l e (headSpec wsX12_one ({ frames := 11, cells := 0, slots := 0, locals := 238 })).room s m ([.ref (ad 60 0)] : List Value).toArray below meth c s.heap [] 0 0 (MQ below (va_Qi (fun (r : Int32) (u : fm_M) => fm_I nb ad u ∧ fm_same [60064, 60065, 60066, 60067] M u ∧ ((M.1 60 0 64).toInt ≤ (u.1 60 0 64).toInt ∧ (M.1 60 0 66).toInt ≤ (u.1 60 0 66).toInt ∧ (u.1 60 0 64).toInt ≤ (u.1 60 0 65).toInt)) (fun u t => fm_at D ad C nb u t.heap) (fm_A nb ad)) ([.ref (ad 60 0)] : List Value).toArray s 0 0 (fm_A nb ad)) (F0 m 133 ls []) := by
              intro n_lp
              induction n_lp with
              | zero => intro lp_2 lp_1 hm_lp b_lp_2 ls hl; exact absurd hm_lp (Nat.not_lt_zero _)
              | succ n_lp ih_lp =>
                intro lp_2 lp_1 hm_lp b_lp_2 ls hl
                refine lv_iload_n hx hb dX12_one_133 rfl (lv_at hl 0 rfl) ?_
                refine lv_aload_n hx hb dX12_one_134 rfl (lv_at hl 2 rfl) ?_
                refine fm_getI (a := 60) (j := 65) (T := TX12) (N := 79) hx hb hts hinX12 hown hc hw hI kl_60 sh_60 rfl (by decide) rfl bd_60_65 (hts (.fieldLink RX12 337 "RedTentModel" "to" "I") (List.mem_cons_of_mem _ tw_5_185)) (fun _ h9 => h9) dX12_one_135 (fun x19 ex19 bx19 => ?_)
                have wx19 : x19.toInt = (M.1 60 0 65).toInt := by rw [ex19]
                obtain rfl : x14 = x19 := by rw [ex19]; exact ex14
                refine fx_icmp_ge (tgt := 161) hx hb dX12_one_138 (by decide) rfl rfl (fun c20 => ?_) (fun c20 => ?_)
                · refine lv_aload_n hx hb dX12_one_161 rfl (lv_at hl 2 rfl) ?_
                  refine fm_cv (va_runV (As := []) (rest := []) ⟨hx, hb, hml, hown, hts⟩ (fc_X12_next l D ad C nb M hI) (cwV 0 hts gX12_one_X12_next rfl rfl rfl (by decide +kernel) ⟨Nat.le_of_ble_eq_true rfl, Nat.le_of_ble_eq_true rfl⟩) (fm_preV hc hw hS kl_60 sh_60 rfl) rfl rfl hl.1 rfl (lv_room (Nat.le_of_ble_eq_true rfl)) dX12_one_162 ⟨by decide +kernel, by decide +kernel⟩) hS hc (fun M22 H locs hr21 hw hS => ?_)
                  obtain ⟨hI, hEM22, hr21⟩ := hr21
                  have hE := hE.tr hEM22 (by decide)
                  have mM22_60_63 : (M22.1 60 0 63).toInt = (M.1 60 0 63).toInt := by rw [(hEM22 60 0 63 (by decide)).1]
                  have mM22_60_66 : (M22.1 60 0 66).toInt = (M.1 60 0 66).toInt := by rw [(hEM22 60 0 66 (by decide)).1]
                  refine lv_iload_n hx hb dX12_one_165 rfl (lv_at hl 1 rfl) ?_
                  have qx9 : x9.toInt = (M.1 60 0 64).toInt := by rw [ex9]
                  exact W.iret (v := lp_1) hx hb hr (fun t ht hW => ⟨⟨lp_1, M22, rfl, ⟨hI, hE, ⟨by omega, by omega, by omega⟩⟩, by show fm_at D ad C nb _ t.heap; rw [ht]; exact hw⟩, hS.F ht⟩) hS.2.2 dX12_one_166
                · refine lv_bipush (v := 10) hx hb dX12_one_141 (by decide) ?_
                  refine lv_iload_n hx hb dX12_one_143 rfl (lv_at hl 1 rfl) ?_
                  refine fx_imulU hx hb dX12_one_144 (fun y23 ey23 => ?_)
                  refine lv_aload_n hx hb dX12_one_145 rfl (lv_at hl 2 rfl) ?_
                  refine lv_iload_n hx hb dX12_one_146 rfl (lv_at hl 0 rfl) ?_
                  refine vp_callSi (va_Run.run (va_runV (As := [.int lp_2]) (rest := [.int y23]) ⟨hx, hb, hml, hown, hts⟩ (fc_X12_byteAt l D ad C nb M hI lp_2 (by omega)) (cwV 1 hts gX12_one_X12_byteAt rfl rfl rfl (by decide +kernel) ⟨Nat.le_of_ble_eq_true rfl, Nat.le_of_ble_eq_true rfl⟩) (fm_preV hc hw hS kl_60 sh_60 rfl) rfl rfl hl.1 rfl (lv_room (Nat.le_of_ble_eq_true rfl)) dX12_one_147 ⟨by decide +kernel, by decide +kernel⟩)) (fun r24 hr24 => ?_)
                  refine fx_iaddU hx hb dX12_one_150 (fun y25 ey25 => ?_)
                  refine lv_bipush (v := 48) hx hb dX12_one_151 (by decide) ?_
                  refine fx_isubU hx hb dX12_one_153 (fun y26 ey26 => ?_)
                  refine lv_istore_n (lv' := [(1, .int y26), (2, .int lp_2), (0, .ref (ad 60 0))]) hx hb dX12_one_154 rfl hl (by decide) rfl (fun ls hl => ?_)
                  obtain ⟨y27, ey27⟩ : ∃ y : Int32, y = lp_2 + 1 := ⟨_, rfl⟩
                  have ty27 : y27.toInt = lp_2.toInt + 1 := by rw [ey27, zi_add _ _ (by rw [zk_1]; omega) (by rw [zk_1]; omega), zk_1]
                  refine lv_iinc (v := y27) (lv' := [(2, .int y27), (1, .int y26), (0, .ref (ad 60 0))]) hx hb dX12_one_155 hl (k := 1) rfl (by rw [ey27]; rfl) (by decide) rfl (fun ls hl => ?_)
                  refine lv_goto (tgt := 133) hx hb dX12_one_158 (by decide) ?_
                  exact ih_lp y27 y26 (by omega) (by omega) ls (lv_sub hl [0, 1, 2] rfl)
            exact lp _ x9 0 (Nat.lt_succ_self _) (by omega) ls (lv_sub hl [0, 1, 2] rfl)
          · refine lv_aload_n hx hb dX12_one_121 rfl (lv_at hl 0 rfl) ?_
            refine fm_ci (va_runV (As := []) (rest := []) ⟨hx, hb, hml, hown, hts⟩ (fc_X12_wrong l D ad C nb M hI) (cwV 0 hts gX12_one_X12_wrong rfl rfl rfl (by decide +kernel) ⟨Nat.le_of_ble_eq_true rfl, Nat.le_of_ble_eq_true rfl⟩) (fm_preV hc hw hS kl_60 sh_60 rfl) rfl rfl hl.1 rfl (lv_room (Nat.le_of_ble_eq_true rfl)) dX12_one_122 ⟨by decide +kernel, by decide +kernel⟩) hS hc (fun r28 M29 H locs hr28 hw hS => ?_)
            obtain ⟨hI, hEM29, hr28⟩ := hr28
            have hE := hE.tr hEM29 (by decide)
            have mM29_60_63 : (M29.1 60 0 63).toInt = (M.1 60 0 63).toInt := by rw [(hEM29 60 0 63 (by decide)).1]
            have mM29_60_64 : (M29.1 60 0 64).toInt = (M.1 60 0 64).toInt := by rw [(hEM29 60 0 64 (by decide)).1]
            have mM29_60_65 : (M29.1 60 0 65).toInt = (M.1 60 0 65).toInt := by rw [(hEM29 60 0 65 (by decide)).1]
            have mM29_60_66 : (M29.1 60 0 66).toInt = (M.1 60 0 66).toInt := by rw [(hEM29 60 0 66 (by decide)).1]
            have qx9 : x9.toInt = (M.1 60 0 64).toInt := by rw [ex9]
            exact W.iret (v := r28) hx hb hr (fun t ht hW => ⟨⟨r28, M29, rfl, ⟨hI, hE, ⟨by omega, by omega, by omega⟩⟩, by show fm_at D ad C nb _ t.heap; rw [ht]; exact hw⟩, hS.F ht⟩) hS.2.2 dX12_one_125
        · refine fx_if_eq (tgt := 167) hx hb dX12_one_105 (by decide) zk_0 (fun c30 => ?_) (fun c30 => by exfalso; omega)
          have jt : ∀ (jt_1 : Int32), ((-1) ≤ jt_1.toInt ∧ jt_1.toInt ≤ 5) → ∀ (ls : Array Slot), lv_has ls 3 [(0, .ref (ad 60 0)), (1, .int jt_1)] → W p l e (headSpec wsX12_one ({ frames := 11, cells := 0, slots := 0, locals := 238 })).room s m ([.ref (ad 60 0)] : List Value).toArray below meth c s.heap [] 0 0 (MQ below (va_Qi (fun (r : Int32) (u : fm_M) => fm_I nb ad u ∧ fm_same [60064, 60065, 60066, 60067] M u ∧ ((M.1 60 0 64).toInt ≤ (u.1 60 0 64).toInt ∧ (M.1 60 0 66).toInt ≤ (u.1 60 0 66).toInt ∧ (u.1 60 0 64).toInt ≤ (u.1 60 0 65).toInt)) (fun u t => fm_at D ad C nb u t.heap) (fm_A nb ad)) ([.ref (ad 60 0)] : List Value).toArray s 0 0 (fm_A nb ad)) (F0 m 253 ls []) := by
            intro jt_1 b_jt_1 ls hl
            refine lv_iload_n hx hb dX12_one_253 rfl (lv_at hl 1 rfl) ?_
            refine fx_if_ge (tgt := 262) hx hb dX12_one_254 (by decide) rfl (fun c31 => ?_) (fun c31 => ?_)
            · refine lv_aload_n hx hb dX12_one_262 rfl (lv_at hl 0 rfl) ?_
              refine fm_cv (va_runV (As := []) (rest := []) ⟨hx, hb, hml, hown, hts⟩ (fc_X12_next l D ad C nb M hI) (cwV 0 hts gX12_one_X12_next rfl rfl rfl (by decide +kernel) ⟨Nat.le_of_ble_eq_true rfl, Nat.le_of_ble_eq_true rfl⟩) (fm_preV hc hw hS kl_60 sh_60 rfl) rfl rfl hl.1 rfl (lv_room (Nat.le_of_ble_eq_true rfl)) dX12_one_263 ⟨by decide +kernel, by decide +kernel⟩) hS hc (fun M33 H locs hr32 hw hS => ?_)
              obtain ⟨hI, hEM33, hr32⟩ := hr32
              have hE := hE.tr hEM33 (by decide)
              have mM33_60_63 : (M33.1 60 0 63).toInt = (M.1 60 0 63).toInt := by rw [(hEM33 60 0 63 (by decide)).1]
              have mM33_60_66 : (M33.1 60 0 66).toInt = (M.1 60 0 66).toInt := by rw [(hEM33 60 0 66 (by decide)).1]
              refine lv_aload_n hx hb dX12_one_266 rfl (lv_at hl 0 rfl) ?_
              refine fm_getG (a := 60) (j := 68) (T := TX12) (N := 79) hx hb hts hinX12 hown hc hw kl_60 sh_60 rfl (by decide) rfl (hI.to kl_60 tg_60_68) (hts (.fieldLink RX12 143 "RedTentModel" "names" "[I") (List.mem_cons_of_mem _ tw_5_188)) (fun _ h9 => h9) dX12_one_267 ?_
              refine lv_iload_n hx hb dX12_one_270 rfl (lv_at hl 1 rfl) ?_
              refine fm_iald (a := 168) hx hb hc hw hI kl_168 sh_168 ty_168 bd_168 (by omega) dX12_one_271 (fun x34 ex34 bx34 => ?_)
              have qx9 : x9.toInt = (M.1 60 0 64).toInt := by rw [ex9]
              exact W.iret (v := x34) hx hb hr (fun t ht hW => ⟨⟨x34, M33, rfl, ⟨hI, hE, ⟨by omega, by omega, by omega⟩⟩, by show fm_at D ad C nb _ t.heap; rw [ht]; exact hw⟩, hS.F ht⟩) hS.2.2 dX12_one_272
            · refine lv_aload_n hx hb dX12_one_257 rfl (lv_at hl 0 rfl) ?_
              refine fm_ci (va_runV (As := []) (rest := []) ⟨hx, hb, hml, hown, hts⟩ (fc_X12_wrong l D ad C nb M hI) (cwV 0 hts gX12_one_X12_wrong rfl rfl rfl (by decide +kernel) ⟨Nat.le_of_ble_eq_true rfl, Nat.le_of_ble_eq_true rfl⟩) (fm_preV hc hw hS kl_60 sh_60 rfl) rfl rfl hl.1 rfl (lv_room (Nat.le_of_ble_eq_true rfl)) dX12_one_258 ⟨by decide +kernel, by decide +kernel⟩) hS hc (fun r35 M36 H locs hr35 hw hS => ?_)
              obtain ⟨hI, hEM36, hr35⟩ := hr35
              have hE := hE.tr hEM36 (by decide)
              have mM36_60_63 : (M36.1 60 0 63).toInt = (M.1 60 0 63).toInt := by rw [(hEM36 60 0 63 (by decide)).1]
              have mM36_60_64 : (M36.1 60 0 64).toInt = (M.1 60 0 64).toInt := by rw [(hEM36 60 0 64 (by decide)).1]
              have mM36_60_65 : (M36.1 60 0 65).toInt = (M.1 60 0 65).toInt := by rw [(hEM36 60 0 65 (by decide)).1]
              have mM36_60_66 : (M36.1 60 0 66).toInt = (M.1 60 0 66).toInt := by rw [(hEM36 60 0 66 (by decide)).1]
              have qx9 : x9.toInt = (M.1 60 0 64).toInt := by rw [ex9]
              exact W.iret (v := r35) hx hb hr (fun t ht hW => ⟨⟨r35, M36, rfl, ⟨hI, hE, ⟨by omega, by omega, by omega⟩⟩, by show fm_at D ad C nb _ t.heap; rw [ht]; exact hw⟩, hS.F ht⟩) hS.2.2 dX12_one_261
          refine lv_aload_n hx hb dX12_one_167 rfl (lv_at hl 0 rfl) ?_
          obtain ⟨q37, vq37, hQq37, hRq37⟩ := hc.2.2.2.2.1 (RX12, 410, "strength", [115, 116, 114, 101, 110, 103, 116, 104]) (by decide)
          refine va_ldcwS hx hb hown hRq37 dX12_one_168 ?_
          refine vp_callSi (va_Run.run (va_runV (As := [.ref q37]) (rest := []) ⟨hx, hb, hml, hown, hts⟩ (fc_X12_is l D ad C nb M hI q37 vq37 8 (fun j => ([115, 116, 114, 101, 110, 103, 116, 104] : List Int32).getD j 0) (by decide)) (cwV 1 hts gX12_one_X12_is rfl rfl rfl (by decide +kernel) ⟨Nat.le_of_ble_eq_true rfl, Nat.le_of_ble_eq_true rfl⟩) (fm_preVS hc hw hS hQq37 kl_60 sh_60 rfl) rfl rfl hl.1 rfl (lv_room (Nat.le_of_ble_eq_true rfl)) dX12_one_171 ⟨by decide +kernel, by decide +kernel⟩)) (fun r38 hr38 => ?_)
          have ir38 := hr38.2
          have jr38 := hr38.1
          refine fx_if_eq (tgt := 181) hx hb dX12_one_174 (by decide) rfl (fun c39 => ?_) (fun c39 => ?_)
          · refine lv_aload_n hx hb dX12_one_181 rfl (lv_at hl 0 rfl) ?_
            obtain ⟨q40, vq40, hQq40, hRq40⟩ := hc.2.2.2.2.1 (RX12, 411, "hurt", [104, 117, 114, 116]) (by decide)
            refine va_ldcwS hx hb hown hRq40 dX12_one_182 ?_
            refine vp_callSi (va_Run.run (va_runV (As := [.ref q40]) (rest := []) ⟨hx, hb, hml, hown, hts⟩ (fc_X12_is l D ad C nb M hI q40 vq40 4 (fun j => ([104, 117, 114, 116] : List Int32).getD j 0) (by decide)) (cwV 1 hts gX12_one_X12_is rfl rfl rfl (by decide +kernel) ⟨Nat.le_of_ble_eq_true rfl, Nat.le_of_ble_eq_true rfl⟩) (fm_preVS hc hw hS hQq40 kl_60 sh_60 rfl) rfl rfl hl.1 rfl (lv_room (Nat.le_of_ble_eq_true rfl)) dX12_one_185 ⟨by decide +kernel, by decide +kernel⟩)) (fun r41 hr41 => ?_)
            have ir41 := hr41.2
            have jr41 := hr41.1
            refine fx_if_eq (tgt := 195) hx hb dX12_one_188 (by decide) rfl (fun c42 => ?_) (fun c42 => ?_)
            · refine lv_aload_n hx hb dX12_one_195 rfl (lv_at hl 0 rfl) ?_
              obtain ⟨q43, vq43, hQq43, hRq43⟩ := hc.2.2.2.2.1 (RX12, 412, "skill", [115, 107, 105, 108, 108]) (by decide)
              refine va_ldcwS hx hb hown hRq43 dX12_one_196 ?_
              refine vp_callSi (va_Run.run (va_runV (As := [.ref q43]) (rest := []) ⟨hx, hb, hml, hown, hts⟩ (fc_X12_is l D ad C nb M hI q43 vq43 5 (fun j => ([115, 107, 105, 108, 108] : List Int32).getD j 0) (by decide)) (cwV 1 hts gX12_one_X12_is rfl rfl rfl (by decide +kernel) ⟨Nat.le_of_ble_eq_true rfl, Nat.le_of_ble_eq_true rfl⟩) (fm_preVS hc hw hS hQq43 kl_60 sh_60 rfl) rfl rfl hl.1 rfl (lv_room (Nat.le_of_ble_eq_true rfl)) dX12_one_199 ⟨by decide +kernel, by decide +kernel⟩)) (fun r44 hr44 => ?_)
              have ir44 := hr44.2
              have jr44 := hr44.1
              refine fx_if_eq (tgt := 209) hx hb dX12_one_202 (by decide) rfl (fun c45 => ?_) (fun c45 => ?_)
              · refine lv_aload_n hx hb dX12_one_209 rfl (lv_at hl 0 rfl) ?_
                obtain ⟨q46, vq46, hQq46, hRq46⟩ := hc.2.2.2.2.1 (RX12, 413, "hour", [104, 111, 117, 114]) (by decide)
                refine va_ldcwS hx hb hown hRq46 dX12_one_210 ?_
                refine vp_callSi (va_Run.run (va_runV (As := [.ref q46]) (rest := []) ⟨hx, hb, hml, hown, hts⟩ (fc_X12_is l D ad C nb M hI q46 vq46 4 (fun j => ([104, 111, 117, 114] : List Int32).getD j 0) (by decide)) (cwV 1 hts gX12_one_X12_is rfl rfl rfl (by decide +kernel) ⟨Nat.le_of_ble_eq_true rfl, Nat.le_of_ble_eq_true rfl⟩) (fm_preVS hc hw hS hQq46 kl_60 sh_60 rfl) rfl rfl hl.1 rfl (lv_room (Nat.le_of_ble_eq_true rfl)) dX12_one_213 ⟨by decide +kernel, by decide +kernel⟩)) (fun r47 hr47 => ?_)
                have ir47 := hr47.2
                have jr47 := hr47.1
                refine fx_if_eq (tgt := 223) hx hb dX12_one_216 (by decide) rfl (fun c48 => ?_) (fun c48 => ?_)
                · refine lv_aload_n hx hb dX12_one_223 rfl (lv_at hl 0 rfl) ?_
                  obtain ⟨q49, vq49, hQq49, hRq49⟩ := hc.2.2.2.2.1 (RX12, 414, "fuel", [102, 117, 101, 108]) (by decide)
                  refine va_ldcwS hx hb hown hRq49 dX12_one_224 ?_
                  refine vp_callSi (va_Run.run (va_runV (As := [.ref q49]) (rest := []) ⟨hx, hb, hml, hown, hts⟩ (fc_X12_is l D ad C nb M hI q49 vq49 4 (fun j => ([102, 117, 101, 108] : List Int32).getD j 0) (by decide)) (cwV 1 hts gX12_one_X12_is rfl rfl rfl (by decide +kernel) ⟨Nat.le_of_ble_eq_true rfl, Nat.le_of_ble_eq_true rfl⟩) (fm_preVS hc hw hS hQq49 kl_60 sh_60 rfl) rfl rfl hl.1 rfl (lv_room (Nat.le_of_ble_eq_true rfl)) dX12_one_227 ⟨by decide +kernel, by decide +kernel⟩)) (fun r50 hr50 => ?_)
                  have ir50 := hr50.2
                  have jr50 := hr50.1
                  refine fx_if_eq (tgt := 237) hx hb dX12_one_230 (by decide) rfl (fun c51 => ?_) (fun c51 => ?_)
                  · refine lv_aload_n hx hb dX12_one_237 rfl (lv_at hl 0 rfl) ?_
                    obtain ⟨q52, vq52, hQq52, hRq52⟩ := hc.2.2.2.2.1 (RX12, 415, "far", [102, 97, 114]) (by decide)
                    refine va_ldcwS hx hb hown hRq52 dX12_one_238 ?_
                    refine vp_callSi (va_Run.run (va_runV (As := [.ref q52]) (rest := []) ⟨hx, hb, hml, hown, hts⟩ (fc_X12_is l D ad C nb M hI q52 vq52 3 (fun j => ([102, 97, 114] : List Int32).getD j 0) (by decide)) (cwV 1 hts gX12_one_X12_is rfl rfl rfl (by decide +kernel) ⟨Nat.le_of_ble_eq_true rfl, Nat.le_of_ble_eq_true rfl⟩) (fm_preVS hc hw hS hQq52 kl_60 sh_60 rfl) rfl rfl hl.1 rfl (lv_room (Nat.le_of_ble_eq_true rfl)) dX12_one_241 ⟨by decide +kernel, by decide +kernel⟩)) (fun r53 hr53 => ?_)
                    have ir53 := hr53.2
                    have jr53 := hr53.1
                    refine fx_if_eq (tgt := 251) hx hb dX12_one_244 (by decide) rfl (fun c54 => ?_) (fun c54 => ?_)
                    · refine lv_iconst (v := (-1)) hx hb dX12_one_251 (by decide) ?_
                      refine lv_istore_n (lv' := [(1, .int (-1)), (0, .ref (ad 60 0))]) hx hb dX12_one_252 rfl hl (by decide) rfl (fun ls hl => ?_)
                      exact jt (-1) (by decide) ls (lv_sub hl [1, 0] rfl)
                    · refine lv_iconst (v := 5) hx hb dX12_one_247 (by decide) ?_
                      refine lv_goto (tgt := 252) hx hb dX12_one_248 (by decide) ?_
                      refine lv_istore_n (lv' := [(1, .int 5), (0, .ref (ad 60 0))]) hx hb dX12_one_252 rfl hl (by decide) rfl (fun ls hl => ?_)
                      exact jt 5 (by decide) ls (lv_sub hl [1, 0] rfl)
                  · refine lv_iconst (v := 4) hx hb dX12_one_233 (by decide) ?_
                    refine lv_goto (tgt := 252) hx hb dX12_one_234 (by decide) ?_
                    refine lv_istore_n (lv' := [(1, .int 4), (0, .ref (ad 60 0))]) hx hb dX12_one_252 rfl hl (by decide) rfl (fun ls hl => ?_)
                    exact jt 4 (by decide) ls (lv_sub hl [1, 0] rfl)
                · refine lv_iconst (v := 3) hx hb dX12_one_219 (by decide) ?_
                  refine lv_goto (tgt := 252) hx hb dX12_one_220 (by decide) ?_
                  refine lv_istore_n (lv' := [(1, .int 3), (0, .ref (ad 60 0))]) hx hb dX12_one_252 rfl hl (by decide) rfl (fun ls hl => ?_)
                  exact jt 3 (by decide) ls (lv_sub hl [1, 0] rfl)
              · refine lv_iconst (v := 2) hx hb dX12_one_205 (by decide) ?_
                refine lv_goto (tgt := 252) hx hb dX12_one_206 (by decide) ?_
                refine lv_istore_n (lv' := [(1, .int 2), (0, .ref (ad 60 0))]) hx hb dX12_one_252 rfl hl (by decide) rfl (fun ls hl => ?_)
                exact jt 2 (by decide) ls (lv_sub hl [1, 0] rfl)
            · refine lv_iconst (v := 1) hx hb dX12_one_191 (by decide) ?_
              refine lv_goto (tgt := 252) hx hb dX12_one_192 (by decide) ?_
              refine lv_istore_n (lv' := [(1, .int 1), (0, .ref (ad 60 0))]) hx hb dX12_one_252 rfl hl (by decide) rfl (fun ls hl => ?_)
              exact jt 1 (by decide) ls (lv_sub hl [1, 0] rfl)
          · refine lv_iconst (v := 0) hx hb dX12_one_177 (by decide) ?_
            refine lv_goto (tgt := 252) hx hb dX12_one_178 (by decide) ?_
            refine lv_istore_n (lv' := [(1, .int 0), (0, .ref (ad 60 0))]) hx hb dX12_one_252 rfl hl (by decide) rfl (fun ls hl => ?_)
            exact jt 0 (by decide) ls (lv_sub hl [1, 0] rfl)
      · refine lv_aload_n hx hb dX12_one_56 rfl (lv_at hl 0 rfl) ?_
        refine fm_ci (va_runV (As := []) (rest := []) ⟨hx, hb, hml, hown, hts⟩ (fc_X12_opens l D ad C nb M hI) (cwV 0 hts gX12_one_X12_opens rfl rfl rfl (by decide +kernel) ⟨Nat.le_of_ble_eq_true rfl, Nat.le_of_ble_eq_true rfl⟩) (fm_preV hc hw hS kl_60 sh_60 rfl) rfl rfl hl.1 rfl (lv_room (Nat.le_of_ble_eq_true rfl)) dX12_one_57 ⟨by decide +kernel, by decide +kernel⟩) hS hc (fun r55 M56 H locs hr55 hw hS => ?_)
        obtain ⟨hI, hEM56, hr55⟩ := hr55
        have hE := hE.tr hEM56 (by decide)
        have mM56_60_63 : (M56.1 60 0 63).toInt = (M.1 60 0 63).toInt := by rw [(hEM56 60 0 63 (by decide)).1]
        rcases hr55 with ⟨rfl, ahr55, bhr55, dhr55⟩ | ⟨rfl, ahr55, bhr55, dhr55⟩
        · refine fx_if_ne (tgt := 65) hx hb dX12_one_60 (by decide) zk_1 (fun c57 => ?_) (fun c57 => by exfalso; omega)
          refine lv_aload_n hx hb dX12_one_65 rfl (lv_at hl 0 rfl) ?_
          have d58_63 := hI.bd (k := 0) bd_60_63
          have d58_64 := hI.bd (k := 0) bd_60_64
          have d58_65 := hI.bd (k := 0) bd_60_65
          have d58_66 := hI.bd (k := 0) bd_60_66
          refine fm_ci (va_runV (As := []) (rest := []) ⟨hx, hb, hml, hown, hts⟩ (fc_X12_either_5 l D ad C nb M56 hI (by omega) (by omega)) (cwV 0 hts gX12_one_X12_either rfl rfl rfl (by decide +kernel) ⟨Nat.le_of_ble_eq_true rfl, Nat.le_of_ble_eq_true rfl⟩) (fm_preV hc hw hS kl_60 sh_60 rfl) rfl rfl hl.1 rfl (lv_room (Nat.le_of_ble_eq_true rfl)) dX12_one_66 ⟨by decide +kernel, by decide +kernel⟩) hS hc (fun r59 M60 H locs hr59 hw hS => ?_)
          obtain ⟨hI, hEM60, hr59⟩ := hr59
          have hE := hE.tr hEM60 (by decide)
          have mM60_60_63 : (M60.1 60 0 63).toInt = (M56.1 60 0 63).toInt := by rw [(hEM60 60 0 63 (by decide)).1]
          obtain ⟨ahr59, bhr59, dhr59⟩ := hr59
          refine lv_istore_n (lv' := [(1, .int r59), (0, .ref (ad 60 0))]) hx hb dX12_one_69 rfl hl (by decide) rfl (fun ls hl => ?_)
          refine lv_aload_n hx hb dX12_one_70 rfl (lv_at hl 1 rfl) ?_
          obtain ⟨q61, vq61, hQq61, hRq61⟩ := hc.2.2.2.2.1 (RX12, 408, ")", [41]) (by decide)
          refine va_ldcwS hx hb hown hRq61 dX12_one_71 ?_
          refine fm_ci (va_runV (As := [.ref q61]) (rest := []) ⟨hx, hb, hml, hown, hts⟩ (fc_X12_take l D ad C nb M60 hI q61 vq61 1 (fun j => ([41] : List Int32).getD j 0) (by decide) (by omega)) (cwV 1 hts gX12_one_X12_take rfl rfl rfl (by decide +kernel) ⟨Nat.le_of_ble_eq_true rfl, Nat.le_of_ble_eq_true rfl⟩) (fm_preVS hc hw hS hQq61 kl_60 sh_60 rfl) rfl rfl hl.1 rfl (lv_room (Nat.le_of_ble_eq_true rfl)) dX12_one_74 ⟨by decide +kernel, by decide +kernel⟩) hS hc (fun r62 M63 H locs hr62 hw hS => ?_)
          obtain ⟨hI, hEM63, hr62⟩ := hr62
          have hE := hE.tr hEM63 (by decide)
          have mM63_60_63 : (M63.1 60 0 63).toInt = (M60.1 60 0 63).toInt := by rw [(hEM63 60 0 63 (by decide)).1]
          have mM63_60_66 : (M63.1 60 0 66).toInt = (M60.1 60 0 66).toInt := by rw [(hEM63 60 0 66 (by decide)).1]
          rcases hr62 with ⟨rfl, ahr62, bhr62⟩ | ⟨rfl, ahr62, bhr62⟩
          · refine fx_if_ne (tgt := 85) hx hb dX12_one_77 (by decide) zk_1 (fun c64 => ?_) (fun c64 => by exfalso; omega)
            refine lv_aload_n hx hb dX12_one_85 rfl (lv_at hl 1 rfl) ?_
            refine lv_dup hx hb dX12_one_86 rfl ?_
            refine fm_getI (a := 60) (j := 66) (T := TX12) (N := 79) hx hb hts hinX12 hown hc hw hI kl_60 sh_60 rfl (by decide) rfl bd_60_66 (hts (.fieldLink RX12 372 "RedTentModel" "open" "I") (List.mem_cons_of_mem _ tw_5_186)) (fun _ h9 => h9) dX12_one_87 (fun x65 ex65 bx65 => ?_)
            have wx65 : x65.toInt = (M63.1 60 0 66).toInt := by rw [ex65]
            refine lv_iconst (v := 1) hx hb dX12_one_90 (by decide) ?_
            refine fx_isub hx hb dX12_one_91 rfl zk_1 (by omega) (fun y66 ey66 ty66 => ?_)
            refine fm_putI (a := 60) (j := 66) (T := TX12) (N := 79) hx hb hts hinX12 tyX12 tyX12_ok nmX12 hown hc hw hI hE hS kl_60 sh_60 od_60 rfl (by decide) rfl bd_60_66 (hts (.fieldLink RX12 372 "RedTentModel" "open" "I") (List.mem_cons_of_mem _ tw_5_186)) (fun _ h9 => h9) rfl (by decide +kernel) (by omega) (by decide) (by decide) dX12_one_92 (fun M67 H locs eM67 hw hI hE hS => ?_)
            have mM67_60_63 : (M67.1 60 0 63).toInt = (M63.1 60 0 63).toInt := by rw [eM67, fm_wI_nj (fun z => absurd z.2.2 (by decide))]
            have mM67_60_64 : (M67.1 60 0 64).toInt = (M63.1 60 0 64).toInt := by rw [eM67, fm_wI_nj (fun z => absurd z.2.2 (by decide))]
            have mM67_60_65 : (M67.1 60 0 65).toInt = (M63.1 60 0 65).toInt := by rw [eM67, fm_wI_nj (fun z => absurd z.2.2 (by decide))]
            have mM67_60_66 : (M67.1 60 0 66).toInt = y66.toInt := by rw [eM67, fm_wI_at]
            refine lv_iload_n hx hb dX12_one_95 rfl (lv_at hl 0 rfl) ?_
            exact W.iret (v := r59) hx hb hr (fun t ht hW => ⟨⟨r59, M67, rfl, ⟨hI, hE, ⟨by omega, by omega, by omega⟩⟩, by show fm_at D ad C nb _ t.heap; rw [ht]; exact hw⟩, hS.F ht⟩) hS.2.2 dX12_one_96
          · refine fx_if_ne (tgt := 85) hx hb dX12_one_77 (by decide) zk_0 (fun c68 => by exfalso; omega) (fun c68 => ?_)
            refine lv_aload_n hx hb dX12_one_80 rfl (lv_at hl 1 rfl) ?_
            refine fm_ci (va_runV (As := []) (rest := []) ⟨hx, hb, hml, hown, hts⟩ (fc_X12_wrong l D ad C nb M63 hI) (cwV 0 hts gX12_one_X12_wrong rfl rfl rfl (by decide +kernel) ⟨Nat.le_of_ble_eq_true rfl, Nat.le_of_ble_eq_true rfl⟩) (fm_preV hc hw hS kl_60 sh_60 rfl) rfl rfl hl.1 rfl (lv_room (Nat.le_of_ble_eq_true rfl)) dX12_one_81 ⟨by decide +kernel, by decide +kernel⟩) hS hc (fun r69 M70 H locs hr69 hw hS => ?_)
            obtain ⟨hI, hEM70, hr69⟩ := hr69
            have hE := hE.tr hEM70 (by decide)
            have mM70_60_63 : (M70.1 60 0 63).toInt = (M63.1 60 0 63).toInt := by rw [(hEM70 60 0 63 (by decide)).1]
            have mM70_60_64 : (M70.1 60 0 64).toInt = (M63.1 60 0 64).toInt := by rw [(hEM70 60 0 64 (by decide)).1]
            have mM70_60_65 : (M70.1 60 0 65).toInt = (M63.1 60 0 65).toInt := by rw [(hEM70 60 0 65 (by decide)).1]
            have mM70_60_66 : (M70.1 60 0 66).toInt = (M63.1 60 0 66).toInt := by rw [(hEM70 60 0 66 (by decide)).1]
            exact W.iret (v := r69) hx hb hr (fun t ht hW => ⟨⟨r69, M70, rfl, ⟨hI, hE, ⟨by omega, by omega, by omega⟩⟩, by show fm_at D ad C nb _ t.heap; rw [ht]; exact hw⟩, hS.F ht⟩) hS.2.2 dX12_one_84
        · refine fx_if_ne (tgt := 65) hx hb dX12_one_60 (by decide) zk_0 (fun c71 => by exfalso; omega) (fun c71 => ?_)
          refine lv_iconst (v := 0) hx hb dX12_one_63 (by decide) ?_
          exact W.iret (v := 0) hx hb hr (fun t ht hW => ⟨⟨0, M56, rfl, ⟨hI, hE, ⟨by omega, by omega, by omega⟩⟩, by show fm_at D ad C nb _ t.heap; rw [ht]; exact hw⟩, hS.F ht⟩) hS.2.2 dX12_one_64
    · refine lv_aload_n hx hb dX12_one_19 rfl (lv_at hl 0 rfl) ?_
      refine fm_ci (va_runV (As := []) (rest := []) ⟨hx, hb, hml, hown, hts⟩ (fc_X12_opens l D ad C nb M hI) (cwV 0 hts gX12_one_X12_opens rfl rfl rfl (by decide +kernel) ⟨Nat.le_of_ble_eq_true rfl, Nat.le_of_ble_eq_true rfl⟩) (fm_preV hc hw hS kl_60 sh_60 rfl) rfl rfl hl.1 rfl (lv_room (Nat.le_of_ble_eq_true rfl)) dX12_one_20 ⟨by decide +kernel, by decide +kernel⟩) hS hc (fun r72 M73 H locs hr72 hw hS => ?_)
      obtain ⟨hI, hEM73, hr72⟩ := hr72
      have hE := hE.tr hEM73 (by decide)
      have mM73_60_63 : (M73.1 60 0 63).toInt = (M.1 60 0 63).toInt := by rw [(hEM73 60 0 63 (by decide)).1]
      rcases hr72 with ⟨rfl, ahr72, bhr72, dhr72⟩ | ⟨rfl, ahr72, bhr72, dhr72⟩
      · refine fx_if_ne (tgt := 28) hx hb dX12_one_23 (by decide) zk_1 (fun c74 => ?_) (fun c74 => by exfalso; omega)
        refine lv_aload_n hx hb dX12_one_28 rfl (lv_at hl 0 rfl) ?_
        have d75_63 := hI.bd (k := 0) bd_60_63
        have d75_64 := hI.bd (k := 0) bd_60_64
        have d75_65 := hI.bd (k := 0) bd_60_65
        have d75_66 := hI.bd (k := 0) bd_60_66
        refine fm_ci (va_runV (As := []) (rest := []) ⟨hx, hb, hml, hown, hts⟩ (fc_X12_one_5 l D ad C nb M73 hI (by omega) (by omega)) (cwV 0 hts gX12_one_X12_one rfl rfl rfl (by decide +kernel) ⟨Nat.le_of_ble_eq_true rfl, Nat.le_of_ble_eq_true rfl⟩) (fm_preV hc hw hS kl_60 sh_60 rfl) rfl rfl hl.1 rfl (lv_room (Nat.le_of_ble_eq_true rfl)) dX12_one_29 ⟨by decide +kernel, by decide +kernel⟩) hS hc (fun r76 M77 H locs hr76 hw hS => ?_)
        obtain ⟨hI, hEM77, hr76⟩ := hr76
        have hE := hE.tr hEM77 (by decide)
        have mM77_60_63 : (M77.1 60 0 63).toInt = (M73.1 60 0 63).toInt := by rw [(hEM77 60 0 63 (by decide)).1]
        obtain ⟨ahr76, bhr76, dhr76⟩ := hr76
        refine lv_istore_n (lv' := [(1, .int r76), (0, .ref (ad 60 0))]) hx hb dX12_one_32 rfl hl (by decide) rfl (fun ls hl => ?_)
        refine lv_aload_n hx hb dX12_one_33 rfl (lv_at hl 1 rfl) ?_
        refine lv_dup hx hb dX12_one_34 rfl ?_
        refine fm_getI (a := 60) (j := 66) (T := TX12) (N := 79) hx hb hts hinX12 hown hc hw hI kl_60 sh_60 rfl (by decide) rfl bd_60_66 (hts (.fieldLink RX12 372 "RedTentModel" "open" "I") (List.mem_cons_of_mem _ tw_5_186)) (fun _ h9 => h9) dX12_one_35 (fun x78 ex78 bx78 => ?_)
        have wx78 : x78.toInt = (M77.1 60 0 66).toInt := by rw [ex78]
        refine lv_iconst (v := 1) hx hb dX12_one_38 (by decide) ?_
        refine fx_isub hx hb dX12_one_39 rfl zk_1 (by omega) (fun y79 ey79 ty79 => ?_)
        refine fm_putI (a := 60) (j := 66) (T := TX12) (N := 79) hx hb hts hinX12 tyX12 tyX12_ok nmX12 hown hc hw hI hE hS kl_60 sh_60 od_60 rfl (by decide) rfl bd_60_66 (hts (.fieldLink RX12 372 "RedTentModel" "open" "I") (List.mem_cons_of_mem _ tw_5_186)) (fun _ h9 => h9) rfl (by decide +kernel) (by omega) (by decide) (by decide) dX12_one_40 (fun M80 H locs eM80 hw hI hE hS => ?_)
        have mM80_60_63 : (M80.1 60 0 63).toInt = (M77.1 60 0 63).toInt := by rw [eM80, fm_wI_nj (fun z => absurd z.2.2 (by decide))]
        have mM80_60_64 : (M80.1 60 0 64).toInt = (M77.1 60 0 64).toInt := by rw [eM80, fm_wI_nj (fun z => absurd z.2.2 (by decide))]
        have mM80_60_65 : (M80.1 60 0 65).toInt = (M77.1 60 0 65).toInt := by rw [eM80, fm_wI_nj (fun z => absurd z.2.2 (by decide))]
        have mM80_60_66 : (M80.1 60 0 66).toInt = y79.toInt := by rw [eM80, fm_wI_at]
        refine lv_iload_n hx hb dX12_one_43 rfl (lv_at hl 0 rfl) ?_
        refine lv_ineg hx hb dX12_one_44 ?_
        refine lv_topi (fun y81 ey81 => ?_)
        exact W.iret (v := y81) hx hb hr (fun t ht hW => ⟨⟨y81, M80, rfl, ⟨hI, hE, ⟨by omega, by omega, by omega⟩⟩, by show fm_at D ad C nb _ t.heap; rw [ht]; exact hw⟩, hS.F ht⟩) hS.2.2 dX12_one_45
      · refine fx_if_ne (tgt := 28) hx hb dX12_one_23 (by decide) zk_0 (fun c82 => by exfalso; omega) (fun c82 => ?_)
        refine lv_iconst (v := 0) hx hb dX12_one_26 (by decide) ?_
        exact W.iret (v := 0) hx hb hr (fun t ht hW => ⟨⟨0, M73, rfl, ⟨hI, hE, ⟨by omega, by omega, by omega⟩⟩, by show fm_at D ad C nb _ t.heap; rw [ht]; exact hw⟩, hS.F ht⟩) hS.2.2 dX12_one_27
  · refine lv_iconst (v := 0) hx hb dX12_one_7 (by decide) ?_
    exact W.iret (v := 0) hx hb hr (fun t ht hW => ⟨⟨0, M, rfl, ⟨hI, hE, ⟨by omega, by omega, by omega⟩⟩, by show fm_at D ad C nb _ t.heap; rw [ht]; exact hw⟩, hS.F ht⟩) hS.2.2 dX12_one_8
set_option maxHeartbeats 400000 in
set_option maxRecDepth 20000 in
theorem fc_X12_product_4 (l : Launch) (D : va_G) (ad : Nat → Nat → Nat) (C : Nat → Nat → ClassId) (nb : Nat) (M : fm_M) (hI : fm_I nb ad M) (hft : (M.1 60 0 64).toInt ≤ (M.1 60 0 65).toInt) (hop : 4 ≤ (M.1 60 0 66).toInt) : Met l yX12_product wsX12_product ({ frames := 12, cells := 0, slots := 0, locals := 260 }) (va_Pc [.ref (ad 60 0)] (fm_P D ad C nb M)) (va_Qi (fun (r : Int32) (u : fm_M) => fm_I nb ad u ∧ fm_same [60064, 60065, 60066, 60067] M u ∧ ((M.1 60 0 64).toInt ≤ (u.1 60 0 64).toInt ∧ (M.1 60 0 66).toInt ≤ (u.1 60 0 66).toInt ∧ (u.1 60 0 64).toInt ≤ (u.1 60 0 65).toInt)) (fun u t => fm_at D ad C nb u t.heap) (fm_A nb ad)) 0 0 (fm_A nb ad) := by
  refine Met.ofW (cc := cX12_product) (maxL := 2) (ret := (some .int)) (by decide) rfl ?_
  intro p e s m args below meth c s₁ B hml hv
  obtain ⟨rfl, hw, hc⟩ := hv
  have hx := B.exec
  have hb := B.bytes
  have hr := B.returns
  have hts := atoms_spec (ws := wsX12_product) B.pre
  have hown : s.vm.findClass RX12 = some m.cls := findClass_of_methodNamed B.named
  have hS : va_S (fm_A nb ad) s.heap s.heap [] := va_S.rf
  have hE : fm_same [60064, 60065, 60066, 60067] M M := fm_same.rf
  have hl := lv_entry ([.ref (ad 60 0)]) (n := 2) (Nat.le_of_ble_eq_true rfl)
  rw [lg_entry_eq]
  generalize (lg_sl ([.ref (ad 60 0)]) ++ List.replicate (2 - (lg_sl ([.ref (ad 60 0)])).length) Slot.unset).toArray = ls at hl ⊢
  have hl : lv_has ls 2 [(0, .ref (ad 60 0))] := hl
  refine lv_aload_n hx hb dX12_product_0 rfl (lv_at hl 0 rfl) ?_
  have d1_63 := hI.bd (k := 0) bd_60_63
  have d1_64 := hI.bd (k := 0) bd_60_64
  have d1_65 := hI.bd (k := 0) bd_60_65
  have d1_66 := hI.bd (k := 0) bd_60_66
  refine fm_ci (va_runV (As := []) (rest := []) ⟨hx, hb, hml, hown, hts⟩ (fc_X12_one_4 l D ad C nb M hI (by omega) (by omega)) (cwV 0 hts gX12_product_X12_one rfl rfl rfl (by decide +kernel) ⟨Nat.le_of_ble_eq_true rfl, Nat.le_of_ble_eq_true rfl⟩) (fm_preV hc hw hS kl_60 sh_60 rfl) rfl rfl hl.1 rfl (lv_room (Nat.le_of_ble_eq_true rfl)) dX12_product_1 ⟨by decide +kernel, by decide +kernel⟩) hS hc (fun r2 M3 H locs hr2 hw hS => ?_)
  obtain ⟨hI, hEM3, hr2⟩ := hr2
  have hE := hE.tr hEM3 (by decide)
  have mM3_60_63 : (M3.1 60 0 63).toInt = (M.1 60 0 63).toInt := by rw [(hEM3 60 0 63 (by decide)).1]
  obtain ⟨ahr2, bhr2, dhr2⟩ := hr2
  refine lv_istore_n (lv' := [(1, .int r2), (0, .ref (ad 60 0))]) hx hb dX12_product_4 rfl hl (by decide) rfl (fun ls hl => ?_)
  have lp : ∀ (n_lp : Nat) (lp_1 : Int32) (M_lp : fm_M), (161 - (M_lp.1 60 0 64).toInt).toNat < n_lp → ((M.1 60 0 64).toInt ≤ (M_lp.1 60 0 64).toInt ∧ (M.1 60 0 66).toInt ≤ (M_lp.1 60 0 66).toInt ∧ (M_lp.1 60 0 64).toInt ≤ (M_lp.1 60 0 65).toInt) → fm_I nb ad M_lp → fm_same [60064, 60065, 60066, 60067] M M_lp → ∀ (H : Heap) (locs : List Loc), fm_at D ad C nb M_lp H → va_S (fm_A nb ad) s.heap H locs → ∀ (ls : Array Slot), lv_has ls 2 [(1, .int lp_1), (0, .ref (ad 60 0))] → W p l e (headSpec wsX12_product ({ frames := 12, cells := 0, slots := 0, locals := 260 })).room s m ([.ref (ad 60 0)] : List Value).toArray below meth c H locs 0 0 (MQ below (va_Qi (fun (r : Int32) (u : fm_M) => fm_I nb ad u ∧ fm_same [60064, 60065, 60066, 60067] M u ∧ ((M.1 60 0 64).toInt ≤ (u.1 60 0 64).toInt ∧ (M.1 60 0 66).toInt ≤ (u.1 60 0 66).toInt ∧ (u.1 60 0 64).toInt ≤ (u.1 60 0 65).toInt)) (fun u t => fm_at D ad C nb u t.heap) (fm_A nb ad)) ([.ref (ad 60 0)] : List Value).toArray s 0 0 (fm_A nb ad)) (F0 m 5 ls []) := by
    intro n_lp
    induction n_lp with
    | zero => intro lp_1 M_lp hm_lp hv hI hE H locs hw hS ls hl; exact absurd hm_lp (Nat.not_lt_zero _)
    | succ n_lp ih_lp =>
      intro lp_1 M_lp hm_lp hv hI hE H locs hw hS ls hl
      refine lv_aload_n hx hb dX12_product_5 rfl (lv_at hl 1 rfl) ?_
      obtain ⟨q4, vq4, hQq4, hRq4⟩ := hc.2.2.2.2.1 (RX12, 401, "*", [42]) (by decide)
      refine va_ldcwS hx hb hown hRq4 dX12_product_6 ?_
      refine fm_ci (va_runV (As := [.ref q4]) (rest := []) ⟨hx, hb, hml, hown, hts⟩ (fc_X12_take l D ad C nb M_lp hI q4 vq4 1 (fun j => ([42] : List Int32).getD j 0) (by decide) (by omega)) (cwV 1 hts gX12_product_X12_take rfl rfl rfl (by decide +kernel) ⟨Nat.le_of_ble_eq_true rfl, Nat.le_of_ble_eq_true rfl⟩) (fm_preVS hc hw hS hQq4 kl_60 sh_60 rfl) rfl rfl hl.1 rfl (lv_room (Nat.le_of_ble_eq_true rfl)) dX12_product_9 ⟨by decide +kernel, by decide +kernel⟩) hS hc (fun r5 M6 H locs hr5 hw hS => ?_)
      obtain ⟨hI, hEM6, hr5⟩ := hr5
      have hE := hE.tr hEM6 (by decide)
      have mM6_60_63 : (M6.1 60 0 63).toInt = (M_lp.1 60 0 63).toInt := by rw [(hEM6 60 0 63 (by decide)).1]
      have mM6_60_66 : (M6.1 60 0 66).toInt = (M_lp.1 60 0 66).toInt := by rw [(hEM6 60 0 66 (by decide)).1]
      rcases hr5 with ⟨rfl, ahr5, bhr5⟩ | ⟨rfl, ahr5, bhr5⟩
      · refine fx_if_eq (tgt := 25) hx hb dX12_product_12 (by decide) zk_1 (fun c7 => by exfalso; omega) (fun c7 => ?_)
        refine lv_iload_n hx hb dX12_product_15 rfl (lv_at hl 0 rfl) ?_
        refine lv_aload_n hx hb dX12_product_16 rfl (lv_at hl 1 rfl) ?_
        have d8_63 := hI.bd (k := 0) bd_60_63
        have d8_64 := hI.bd (k := 0) bd_60_64
        have d8_65 := hI.bd (k := 0) bd_60_65
        have d8_66 := hI.bd (k := 0) bd_60_66
        refine fm_ci (va_runV (As := []) (rest := [.int lp_1]) ⟨hx, hb, hml, hown, hts⟩ (fc_X12_one_4 l D ad C nb M6 hI (by omega) (by omega)) (cwV 0 hts gX12_product_X12_one rfl rfl rfl (by decide +kernel) ⟨Nat.le_of_ble_eq_true rfl, Nat.le_of_ble_eq_true rfl⟩) (fm_preV hc hw hS kl_60 sh_60 rfl) rfl rfl hl.1 rfl (lv_room (Nat.le_of_ble_eq_true rfl)) dX12_product_17 ⟨by decide +kernel, by decide +kernel⟩) hS hc (fun r9 M10 H locs hr9 hw hS => ?_)
        obtain ⟨hI, hEM10, hr9⟩ := hr9
        have hE := hE.tr hEM10 (by decide)
        have mM10_60_63 : (M10.1 60 0 63).toInt = (M6.1 60 0 63).toInt := by rw [(hEM10 60 0 63 (by decide)).1]
        obtain ⟨ahr9, bhr9, dhr9⟩ := hr9
        refine fx_imulU hx hb dX12_product_20 (fun y11 ey11 => ?_)
        refine lv_istore_n (lv' := [(1, .int y11), (0, .ref (ad 60 0))]) hx hb dX12_product_21 rfl hl (by decide) rfl (fun ls hl => ?_)
        refine lv_goto (tgt := 5) hx hb dX12_product_22 (by decide) ?_
        exact ih_lp y11 M10 (by omega) (by omega) hI hE _ _ hw hS ls (lv_sub hl [0, 1] rfl)
      · refine fx_if_eq (tgt := 25) hx hb dX12_product_12 (by decide) zk_0 (fun c12 => ?_) (fun c12 => by exfalso; omega)
        refine lv_iload_n hx hb dX12_product_25 rfl (lv_at hl 0 rfl) ?_
        exact W.iret (v := lp_1) hx hb hr (fun t ht hW => ⟨⟨lp_1, M6, rfl, ⟨hI, hE, ⟨by omega, by omega, by omega⟩⟩, by show fm_at D ad C nb _ t.heap; rw [ht]; exact hw⟩, hS.F ht⟩) hS.2.2 dX12_product_26
  exact lp _ r2 M3 (Nat.lt_succ_self _) (by omega) hI hE _ _ hw hS ls (lv_sub hl [0, 1] rfl)
set_option maxHeartbeats 400000 in
set_option maxRecDepth 20000 in
theorem fc_X12_sum_4 (l : Launch) (D : va_G) (ad : Nat → Nat → Nat) (C : Nat → Nat → ClassId) (nb : Nat) (M : fm_M) (hI : fm_I nb ad M) (hft : (M.1 60 0 64).toInt ≤ (M.1 60 0 65).toInt) (hop : 4 ≤ (M.1 60 0 66).toInt) : Met l yX12_sum wsX12_sum ({ frames := 13, cells := 0, slots := 0, locals := 281 }) (va_Pc [.ref (ad 60 0)] (fm_P D ad C nb M)) (va_Qi (fun (r : Int32) (u : fm_M) => fm_I nb ad u ∧ fm_same [60064, 60065, 60066, 60067] M u ∧ ((M.1 60 0 64).toInt ≤ (u.1 60 0 64).toInt ∧ (M.1 60 0 66).toInt ≤ (u.1 60 0 66).toInt ∧ (u.1 60 0 64).toInt ≤ (u.1 60 0 65).toInt)) (fun u t => fm_at D ad C nb u t.heap) (fm_A nb ad)) 0 0 (fm_A nb ad) := by
  refine Met.ofW (cc := cX12_sum) (maxL := 3) (ret := (some .int)) (by decide) rfl ?_
  intro p e s m args below meth c s₁ B hml hv
  obtain ⟨rfl, hw, hc⟩ := hv
  have hx := B.exec
  have hb := B.bytes
  have hr := B.returns
  have hts := atoms_spec (ws := wsX12_sum) B.pre
  have hown : s.vm.findClass RX12 = some m.cls := findClass_of_methodNamed B.named
  have hS : va_S (fm_A nb ad) s.heap s.heap [] := va_S.rf
  have hE : fm_same [60064, 60065, 60066, 60067] M M := fm_same.rf
  have hl := lv_entry ([.ref (ad 60 0)]) (n := 3) (Nat.le_of_ble_eq_true rfl)
  rw [lg_entry_eq]
  generalize (lg_sl ([.ref (ad 60 0)]) ++ List.replicate (3 - (lg_sl ([.ref (ad 60 0)])).length) Slot.unset).toArray = ls at hl ⊢
  have hl : lv_has ls 3 [(0, .ref (ad 60 0))] := hl
  refine lv_aload_n hx hb dX12_sum_0 rfl (lv_at hl 0 rfl) ?_
  have d1_63 := hI.bd (k := 0) bd_60_63
  have d1_64 := hI.bd (k := 0) bd_60_64
  have d1_65 := hI.bd (k := 0) bd_60_65
  have d1_66 := hI.bd (k := 0) bd_60_66
  refine fm_ci (va_runV (As := []) (rest := []) ⟨hx, hb, hml, hown, hts⟩ (fc_X12_product_4 l D ad C nb M hI (by omega) (by omega)) (cwV 0 hts gX12_sum_X12_product rfl rfl rfl (by decide +kernel) ⟨Nat.le_of_ble_eq_true rfl, Nat.le_of_ble_eq_true rfl⟩) (fm_preV hc hw hS kl_60 sh_60 rfl) rfl rfl hl.1 rfl (lv_room (Nat.le_of_ble_eq_true rfl)) dX12_sum_1 ⟨by decide +kernel, by decide +kernel⟩) hS hc (fun r2 M3 H locs hr2 hw hS => ?_)
  obtain ⟨hI, hEM3, hr2⟩ := hr2
  have hE := hE.tr hEM3 (by decide)
  have mM3_60_63 : (M3.1 60 0 63).toInt = (M.1 60 0 63).toInt := by rw [(hEM3 60 0 63 (by decide)).1]
  obtain ⟨ahr2, bhr2, dhr2⟩ := hr2
  refine lv_istore_n (lv' := [(1, .int r2), (0, .ref (ad 60 0))]) hx hb dX12_sum_4 rfl hl (by decide) rfl (fun ls hl => ?_)
  refine lv_iconst (v := 1) hx hb dX12_sum_5 (by decide) ?_
  refine lv_istore_n (lv' := [(2, .int 1), (1, .int r2), (0, .ref (ad 60 0))]) hx hb dX12_sum_6 rfl hl (by decide) rfl (fun ls hl => ?_)
  have lp : ∀ (n_lp : Nat) (lp_2 : Int32) (lp_1 : Int32) (M_lp : fm_M), 2 * (161 - (M_lp.1 60 0 64).toInt).toNat + lp_2.toInt.toNat < n_lp → (0 ≤ lp_2.toInt ∧ lp_2.toInt ≤ 1) → ((M.1 60 0 64).toInt ≤ (M_lp.1 60 0 64).toInt ∧ (M.1 60 0 66).toInt ≤ (M_lp.1 60 0 66).toInt ∧ (M_lp.1 60 0 64).toInt ≤ (M_lp.1 60 0 65).toInt) → fm_I nb ad M_lp → fm_same [60064, 60065, 60066, 60067] M M_lp → ∀ (H : Heap) (locs : List Loc), fm_at D ad C nb M_lp H → va_S (fm_A nb ad) s.heap H locs → ∀ (ls : Array Slot), lv_has ls 3 [(2, .int lp_2), (1, .int lp_1), (0, .ref (ad 60 0))] → W p l e (headSpec wsX12_sum ({ frames := 13, cells := 0, slots := 0, locals := 281 })).room s m ([.ref (ad 60 0)] : List Value).toArray below meth c H locs 0 0 (MQ below (va_Qi (fun (r : Int32) (u : fm_M) => fm_I nb ad u ∧ fm_same [60064, 60065, 60066, 60067] M u ∧ ((M.1 60 0 64).toInt ≤ (u.1 60 0 64).toInt ∧ (M.1 60 0 66).toInt ≤ (u.1 60 0 66).toInt ∧ (u.1 60 0 64).toInt ≤ (u.1 60 0 65).toInt)) (fun u t => fm_at D ad C nb u t.heap) (fm_A nb ad)) ([.ref (ad 60 0)] : List Value).toArray s 0 0 (fm_A nb ad)) (F0 m 7 ls []) := by
    intro n_lp
    induction n_lp with
    | zero => intro lp_2 lp_1 M_lp hm_lp b_lp_2 hv hI hE H locs hw hS ls hl; exact absurd hm_lp (Nat.not_lt_zero _)
    | succ n_lp ih_lp =>
      intro lp_2 lp_1 M_lp hm_lp b_lp_2 hv hI hE H locs hw hS ls hl
      refine lv_iload_n hx hb dX12_sum_7 rfl (lv_at hl 0 rfl) ?_
      refine fx_if_eq (tgt := 56) hx hb dX12_sum_8 (by decide) rfl (fun c4 => ?_) (fun c4 => ?_)
      · refine lv_iload_n hx hb dX12_sum_56 rfl (lv_at hl 1 rfl) ?_
        exact W.iret (v := lp_1) hx hb hr (fun t ht hW => ⟨⟨lp_1, M_lp, rfl, ⟨hI, hE, ⟨by omega, by omega, by omega⟩⟩, by show fm_at D ad C nb _ t.heap; rw [ht]; exact hw⟩, hS.F ht⟩) hS.2.2 dX12_sum_57
      · refine lv_aload_n hx hb dX12_sum_11 rfl (lv_at hl 2 rfl) ?_
        obtain ⟨q5, vq5, hQq5, hRq5⟩ := hc.2.2.2.2.1 (RX12, 394, "+", [43]) (by decide)
        refine va_ldcwS hx hb hown hRq5 dX12_sum_12 ?_
        refine fm_ci (va_runV (As := [.ref q5]) (rest := []) ⟨hx, hb, hml, hown, hts⟩ (fc_X12_take l D ad C nb M_lp hI q5 vq5 1 (fun j => ([43] : List Int32).getD j 0) (by decide) (by omega)) (cwV 1 hts gX12_sum_X12_take rfl rfl rfl (by decide +kernel) ⟨Nat.le_of_ble_eq_true rfl, Nat.le_of_ble_eq_true rfl⟩) (fm_preVS hc hw hS hQq5 kl_60 sh_60 rfl) rfl rfl hl.1 rfl (lv_room (Nat.le_of_ble_eq_true rfl)) dX12_sum_15 ⟨by decide +kernel, by decide +kernel⟩) hS hc (fun r6 M7 H locs hr6 hw hS => ?_)
        obtain ⟨hI, hEM7, hr6⟩ := hr6
        have hE := hE.tr hEM7 (by decide)
        have mM7_60_63 : (M7.1 60 0 63).toInt = (M_lp.1 60 0 63).toInt := by rw [(hEM7 60 0 63 (by decide)).1]
        have mM7_60_66 : (M7.1 60 0 66).toInt = (M_lp.1 60 0 66).toInt := by rw [(hEM7 60 0 66 (by decide)).1]
        rcases hr6 with ⟨rfl, ahr6, bhr6⟩ | ⟨rfl, ahr6, bhr6⟩
        · refine fx_if_eq (tgt := 31) hx hb dX12_sum_18 (by decide) zk_1 (fun c8 => by exfalso; omega) (fun c8 => ?_)
          refine lv_iload_n hx hb dX12_sum_21 rfl (lv_at hl 1 rfl) ?_
          refine lv_aload_n hx hb dX12_sum_22 rfl (lv_at hl 2 rfl) ?_
          have d9_63 := hI.bd (k := 0) bd_60_63
          have d9_64 := hI.bd (k := 0) bd_60_64
          have d9_65 := hI.bd (k := 0) bd_60_65
          have d9_66 := hI.bd (k := 0) bd_60_66
          refine fm_ci (va_runV (As := []) (rest := [.int lp_1]) ⟨hx, hb, hml, hown, hts⟩ (fc_X12_product_4 l D ad C nb M7 hI (by omega) (by omega)) (cwV 0 hts gX12_sum_X12_product rfl rfl rfl (by decide +kernel) ⟨Nat.le_of_ble_eq_true rfl, Nat.le_of_ble_eq_true rfl⟩) (fm_preV hc hw hS kl_60 sh_60 rfl) rfl rfl hl.1 rfl (lv_room (Nat.le_of_ble_eq_true rfl)) dX12_sum_23 ⟨by decide +kernel, by decide +kernel⟩) hS hc (fun r10 M11 H locs hr10 hw hS => ?_)
          obtain ⟨hI, hEM11, hr10⟩ := hr10
          have hE := hE.tr hEM11 (by decide)
          have mM11_60_63 : (M11.1 60 0 63).toInt = (M7.1 60 0 63).toInt := by rw [(hEM11 60 0 63 (by decide)).1]
          obtain ⟨ahr10, bhr10, dhr10⟩ := hr10
          refine fx_iaddU hx hb dX12_sum_26 (fun y12 ey12 => ?_)
          refine lv_istore_n (lv' := [(1, .int y12), (2, .int lp_2), (0, .ref (ad 60 0))]) hx hb dX12_sum_27 rfl hl (by decide) rfl (fun ls hl => ?_)
          refine lv_goto (tgt := 7) hx hb dX12_sum_28 (by decide) ?_
          exact ih_lp lp_2 y12 M11 (by omega) (by omega) (by omega) hI hE _ _ hw hS ls (lv_sub hl [1, 0, 2] rfl)
        · refine fx_if_eq (tgt := 31) hx hb dX12_sum_18 (by decide) zk_0 (fun c13 => ?_) (fun c13 => by exfalso; omega)
          refine lv_aload_n hx hb dX12_sum_31 rfl (lv_at hl 2 rfl) ?_
          obtain ⟨q14, vq14, hQq14, hRq14⟩ := hc.2.2.2.2.1 (RX12, 396, "-", [45]) (by decide)
          refine va_ldcwS hx hb hown hRq14 dX12_sum_32 ?_
          refine fm_ci (va_runV (As := [.ref q14]) (rest := []) ⟨hx, hb, hml, hown, hts⟩ (fc_X12_take l D ad C nb M7 hI q14 vq14 1 (fun j => ([45] : List Int32).getD j 0) (by decide) (by omega)) (cwV 1 hts gX12_sum_X12_take rfl rfl rfl (by decide +kernel) ⟨Nat.le_of_ble_eq_true rfl, Nat.le_of_ble_eq_true rfl⟩) (fm_preVS hc hw hS hQq14 kl_60 sh_60 rfl) rfl rfl hl.1 rfl (lv_room (Nat.le_of_ble_eq_true rfl)) dX12_sum_35 ⟨by decide +kernel, by decide +kernel⟩) hS hc (fun r15 M16 H locs hr15 hw hS => ?_)
          obtain ⟨hI, hEM16, hr15⟩ := hr15
          have hE := hE.tr hEM16 (by decide)
          have mM16_60_63 : (M16.1 60 0 63).toInt = (M7.1 60 0 63).toInt := by rw [(hEM16 60 0 63 (by decide)).1]
          have mM16_60_66 : (M16.1 60 0 66).toInt = (M7.1 60 0 66).toInt := by rw [(hEM16 60 0 66 (by decide)).1]
          rcases hr15 with ⟨rfl, ahr15, bhr15⟩ | ⟨rfl, ahr15, bhr15⟩
          · refine fx_if_eq (tgt := 51) hx hb dX12_sum_38 (by decide) zk_1 (fun c17 => by exfalso; omega) (fun c17 => ?_)
            refine lv_iload_n hx hb dX12_sum_41 rfl (lv_at hl 1 rfl) ?_
            refine lv_aload_n hx hb dX12_sum_42 rfl (lv_at hl 2 rfl) ?_
            have d18_63 := hI.bd (k := 0) bd_60_63
            have d18_64 := hI.bd (k := 0) bd_60_64
            have d18_65 := hI.bd (k := 0) bd_60_65
            have d18_66 := hI.bd (k := 0) bd_60_66
            refine fm_ci (va_runV (As := []) (rest := [.int lp_1]) ⟨hx, hb, hml, hown, hts⟩ (fc_X12_product_4 l D ad C nb M16 hI (by omega) (by omega)) (cwV 0 hts gX12_sum_X12_product rfl rfl rfl (by decide +kernel) ⟨Nat.le_of_ble_eq_true rfl, Nat.le_of_ble_eq_true rfl⟩) (fm_preV hc hw hS kl_60 sh_60 rfl) rfl rfl hl.1 rfl (lv_room (Nat.le_of_ble_eq_true rfl)) dX12_sum_43 ⟨by decide +kernel, by decide +kernel⟩) hS hc (fun r19 M20 H locs hr19 hw hS => ?_)
            obtain ⟨hI, hEM20, hr19⟩ := hr19
            have hE := hE.tr hEM20 (by decide)
            have mM20_60_63 : (M20.1 60 0 63).toInt = (M16.1 60 0 63).toInt := by rw [(hEM20 60 0 63 (by decide)).1]
            obtain ⟨ahr19, bhr19, dhr19⟩ := hr19
            refine fx_isubU hx hb dX12_sum_46 (fun y21 ey21 => ?_)
            refine lv_istore_n (lv' := [(1, .int y21), (2, .int lp_2), (0, .ref (ad 60 0))]) hx hb dX12_sum_47 rfl hl (by decide) rfl (fun ls hl => ?_)
            refine lv_goto (tgt := 7) hx hb dX12_sum_48 (by decide) ?_
            exact ih_lp lp_2 y21 M20 (by omega) (by omega) (by omega) hI hE _ _ hw hS ls (lv_sub hl [1, 0, 2] rfl)
          · refine fx_if_eq (tgt := 51) hx hb dX12_sum_38 (by decide) zk_0 (fun c22 => ?_) (fun c22 => by exfalso; omega)
            refine lv_iconst (v := 0) hx hb dX12_sum_51 (by decide) ?_
            refine lv_istore_n (lv' := [(2, .int 0), (1, .int lp_1), (0, .ref (ad 60 0))]) hx hb dX12_sum_52 rfl hl (by decide) rfl (fun ls hl => ?_)
            refine lv_goto (tgt := 7) hx hb dX12_sum_53 (by decide) ?_
            exact ih_lp 0 lp_1 M16 (by have zlp_2 := zk_0; omega) (by decide) (by omega) hI hE _ _ hw hS ls (lv_sub hl [0, 1, 2] rfl)
  exact lp _ 1 r2 M3 (Nat.lt_succ_self _) (by decide) (by omega) hI hE _ _ hw hS ls (lv_sub hl [0, 1, 2] rfl)
set_option maxHeartbeats 400000 in
set_option maxRecDepth 20000 in
theorem fc_X12_turned_4 (l : Launch) (D : va_G) (ad : Nat → Nat → Nat) (C : Nat → Nat → ClassId) (nb : Nat) (M : fm_M) (hI : fm_I nb ad M) (hft : (M.1 60 0 64).toInt ≤ (M.1 60 0 65).toInt) (hop : 4 ≤ (M.1 60 0 66).toInt) : Met l yX12_turned wsX12_turned ({ frames := 14, cells := 0, slots := 0, locals := 303 }) (va_Pc [.ref (ad 60 0)] (fm_P D ad C nb M)) (va_Qi (fun (r : Int32) (u : fm_M) => fm_I nb ad u ∧ fm_same [60064, 60065, 60066, 60067] M u ∧ ((M.1 60 0 64).toInt ≤ (u.1 60 0 64).toInt ∧ (M.1 60 0 66).toInt ≤ (u.1 60 0 66).toInt ∧ (u.1 60 0 64).toInt ≤ (u.1 60 0 65).toInt)) (fun u t => fm_at D ad C nb u t.heap) (fm_A nb ad)) 0 0 (fm_A nb ad) := by
  refine Met.ofW (cc := cX12_turned) (maxL := 2) (ret := (some .int)) (by decide) rfl ?_
  intro p e s m args below meth c s₁ B hml hv
  obtain ⟨rfl, hw, hc⟩ := hv
  have hx := B.exec
  have hb := B.bytes
  have hr := B.returns
  have hts := atoms_spec (ws := wsX12_turned) B.pre
  have hown : s.vm.findClass RX12 = some m.cls := findClass_of_methodNamed B.named
  have hinX12 : ∀ w ∈ u_ws RX12 TX12 79, w ∈ wsX12_turned := fun w h => List.mem_cons_of_mem _ (iT_X12 w h)
  have hS : va_S (fm_A nb ad) s.heap s.heap [] := va_S.rf
  have hE : fm_same [60064, 60065, 60066, 60067] M M := fm_same.rf
  have hl := lv_entry ([.ref (ad 60 0)]) (n := 2) (Nat.le_of_ble_eq_true rfl)
  rw [lg_entry_eq]
  generalize (lg_sl ([.ref (ad 60 0)]) ++ List.replicate (2 - (lg_sl ([.ref (ad 60 0)])).length) Slot.unset).toArray = ls at hl ⊢
  have hl : lv_has ls 2 [(0, .ref (ad 60 0))] := hl
  refine lv_aload_n hx hb dX12_turned_0 rfl (lv_at hl 0 rfl) ?_
  refine fm_getI (a := 60) (j := 67) (T := TX12) (N := 79) hx hb hts hinX12 hown hc hw hI kl_60 sh_60 rfl (by decide) rfl bd_60_67 (hts (.fieldLink RX12 349 "RedTentModel" "fault" "I") (List.mem_cons_of_mem _ tw_5_187)) (fun _ h9 => h9) dX12_turned_1 (fun x1 ex1 bx1 => ?_)
  refine fx_if_lt (tgt := 9) hx hb dX12_turned_4 (by decide) rfl (fun c2 => ?_) (fun c2 => ?_)
  · refine lv_aload_n hx hb dX12_turned_9 rfl (lv_at hl 0 rfl) ?_
    obtain ⟨q3, vq3, hQq3, hRq3⟩ := hc.2.2.2.2.1 (RX12, 378, "not", [110, 111, 116]) (by decide)
    refine va_ldcwS hx hb hown hRq3 dX12_turned_10 ?_
    refine vp_callSi (va_Run.run (va_runV (As := [.ref q3]) (rest := []) ⟨hx, hb, hml, hown, hts⟩ (fc_X12_is l D ad C nb M hI q3 vq3 3 (fun j => ([110, 111, 116] : List Int32).getD j 0) (by decide)) (cwV 1 hts gX12_turned_X12_is rfl rfl rfl (by decide +kernel) ⟨Nat.le_of_ble_eq_true rfl, Nat.le_of_ble_eq_true rfl⟩) (fm_preVS hc hw hS hQq3 kl_60 sh_60 rfl) rfl rfl hl.1 rfl (lv_room (Nat.le_of_ble_eq_true rfl)) dX12_turned_13 ⟨by decide +kernel, by decide +kernel⟩)) (fun r4 hr4 => ?_)
    have ir4 := hr4.2
    have jr4 := hr4.1
    refine fx_if_eq (tgt := 53) hx hb dX12_turned_16 (by decide) rfl (fun c5 => ?_) (fun c5 => ?_)
    · refine lv_aload_n hx hb dX12_turned_53 rfl (lv_at hl 0 rfl) ?_
      have d6_63 := hI.bd (k := 0) bd_60_63
      have d6_64 := hI.bd (k := 0) bd_60_64
      have d6_65 := hI.bd (k := 0) bd_60_65
      have d6_66 := hI.bd (k := 0) bd_60_66
      refine fm_ci (va_runV (As := []) (rest := []) ⟨hx, hb, hml, hown, hts⟩ (fc_X12_sum_4 l D ad C nb M hI (by omega) (by omega)) (cwV 0 hts gX12_turned_X12_sum rfl rfl rfl (by decide +kernel) ⟨Nat.le_of_ble_eq_true rfl, Nat.le_of_ble_eq_true rfl⟩) (fm_preV hc hw hS kl_60 sh_60 rfl) rfl rfl hl.1 rfl (lv_room (Nat.le_of_ble_eq_true rfl)) dX12_turned_54 ⟨by decide +kernel, by decide +kernel⟩) hS hc (fun r7 M8 H locs hr7 hw hS => ?_)
      obtain ⟨hI, hEM8, hr7⟩ := hr7
      have hE := hE.tr hEM8 (by decide)
      have mM8_60_63 : (M8.1 60 0 63).toInt = (M.1 60 0 63).toInt := by rw [(hEM8 60 0 63 (by decide)).1]
      obtain ⟨ahr7, bhr7, dhr7⟩ := hr7
      refine lv_istore_n (lv' := [(1, .int r7), (0, .ref (ad 60 0))]) hx hb dX12_turned_57 rfl hl (by decide) rfl (fun ls hl => ?_)
      refine lv_aload_n hx hb dX12_turned_58 rfl (lv_at hl 1 rfl) ?_
      obtain ⟨q9, vq9, hQq9, hRq9⟩ := hc.2.2.2.2.1 (RX12, 387, "<", [60]) (by decide)
      refine va_ldcwS hx hb hown hRq9 dX12_turned_59 ?_
      refine fm_ci (va_runV (As := [.ref q9]) (rest := []) ⟨hx, hb, hml, hown, hts⟩ (fc_X12_take l D ad C nb M8 hI q9 vq9 1 (fun j => ([60] : List Int32).getD j 0) (by decide) (by omega)) (cwV 1 hts gX12_turned_X12_take rfl rfl rfl (by decide +kernel) ⟨Nat.le_of_ble_eq_true rfl, Nat.le_of_ble_eq_true rfl⟩) (fm_preVS hc hw hS hQq9 kl_60 sh_60 rfl) rfl rfl hl.1 rfl (lv_room (Nat.le_of_ble_eq_true rfl)) dX12_turned_62 ⟨by decide +kernel, by decide +kernel⟩) hS hc (fun r10 M11 H locs hr10 hw hS => ?_)
      obtain ⟨hI, hEM11, hr10⟩ := hr10
      have hE := hE.tr hEM11 (by decide)
      have mM11_60_63 : (M11.1 60 0 63).toInt = (M8.1 60 0 63).toInt := by rw [(hEM11 60 0 63 (by decide)).1]
      have mM11_60_66 : (M11.1 60 0 66).toInt = (M8.1 60 0 66).toInt := by rw [(hEM11 60 0 66 (by decide)).1]
      rcases hr10 with ⟨rfl, ahr10, bhr10⟩ | ⟨rfl, ahr10, bhr10⟩
      · refine fx_if_eq (tgt := 82) hx hb dX12_turned_65 (by decide) zk_1 (fun c12 => by exfalso; omega) (fun c12 => ?_)
        refine lv_iload_n hx hb dX12_turned_68 rfl (lv_at hl 0 rfl) ?_
        refine lv_aload_n hx hb dX12_turned_69 rfl (lv_at hl 1 rfl) ?_
        have d13_63 := hI.bd (k := 0) bd_60_63
        have d13_64 := hI.bd (k := 0) bd_60_64
        have d13_65 := hI.bd (k := 0) bd_60_65
        have d13_66 := hI.bd (k := 0) bd_60_66
        refine fm_ci (va_runV (As := []) (rest := [.int r7]) ⟨hx, hb, hml, hown, hts⟩ (fc_X12_sum_4 l D ad C nb M11 hI (by omega) (by omega)) (cwV 0 hts gX12_turned_X12_sum rfl rfl rfl (by decide +kernel) ⟨Nat.le_of_ble_eq_true rfl, Nat.le_of_ble_eq_true rfl⟩) (fm_preV hc hw hS kl_60 sh_60 rfl) rfl rfl hl.1 rfl (lv_room (Nat.le_of_ble_eq_true rfl)) dX12_turned_70 ⟨by decide +kernel, by decide +kernel⟩) hS hc (fun r14 M15 H locs hr14 hw hS => ?_)
        obtain ⟨hI, hEM15, hr14⟩ := hr14
        have hE := hE.tr hEM15 (by decide)
        have mM15_60_63 : (M15.1 60 0 63).toInt = (M11.1 60 0 63).toInt := by rw [(hEM15 60 0 63 (by decide)).1]
        obtain ⟨ahr14, bhr14, dhr14⟩ := hr14
        refine fx_icmp_ge (tgt := 80) hx hb dX12_turned_73 (by decide) rfl rfl (fun c16 => ?_) (fun c16 => ?_)
        · refine lv_iconst (v := 0) hx hb dX12_turned_80 (by decide) ?_
          exact W.iret (v := 0) hx hb hr (fun t ht hW => ⟨⟨0, M15, rfl, ⟨hI, hE, ⟨by omega, by omega, by omega⟩⟩, by show fm_at D ad C nb _ t.heap; rw [ht]; exact hw⟩, hS.F ht⟩) hS.2.2 dX12_turned_81
        · refine lv_iconst (v := 1) hx hb dX12_turned_76 (by decide) ?_
          refine lv_goto (tgt := 81) hx hb dX12_turned_77 (by decide) ?_
          exact W.iret (v := 1) hx hb hr (fun t ht hW => ⟨⟨1, M15, rfl, ⟨hI, hE, ⟨by omega, by omega, by omega⟩⟩, by show fm_at D ad C nb _ t.heap; rw [ht]; exact hw⟩, hS.F ht⟩) hS.2.2 dX12_turned_81
      · refine fx_if_eq (tgt := 82) hx hb dX12_turned_65 (by decide) zk_0 (fun c17 => ?_) (fun c17 => by exfalso; omega)
        refine lv_aload_n hx hb dX12_turned_82 rfl (lv_at hl 1 rfl) ?_
        obtain ⟨q18, vq18, hQq18, hRq18⟩ := hc.2.2.2.2.1 (RX12, 389, "=", [61]) (by decide)
        refine va_ldcwS hx hb hown hRq18 dX12_turned_83 ?_
        refine fm_ci (va_runV (As := [.ref q18]) (rest := []) ⟨hx, hb, hml, hown, hts⟩ (fc_X12_take l D ad C nb M11 hI q18 vq18 1 (fun j => ([61] : List Int32).getD j 0) (by decide) (by omega)) (cwV 1 hts gX12_turned_X12_take rfl rfl rfl (by decide +kernel) ⟨Nat.le_of_ble_eq_true rfl, Nat.le_of_ble_eq_true rfl⟩) (fm_preVS hc hw hS hQq18 kl_60 sh_60 rfl) rfl rfl hl.1 rfl (lv_room (Nat.le_of_ble_eq_true rfl)) dX12_turned_86 ⟨by decide +kernel, by decide +kernel⟩) hS hc (fun r19 M20 H locs hr19 hw hS => ?_)
        obtain ⟨hI, hEM20, hr19⟩ := hr19
        have hE := hE.tr hEM20 (by decide)
        have mM20_60_63 : (M20.1 60 0 63).toInt = (M11.1 60 0 63).toInt := by rw [(hEM20 60 0 63 (by decide)).1]
        have mM20_60_66 : (M20.1 60 0 66).toInt = (M11.1 60 0 66).toInt := by rw [(hEM20 60 0 66 (by decide)).1]
        rcases hr19 with ⟨rfl, ahr19, bhr19⟩ | ⟨rfl, ahr19, bhr19⟩
        · refine fx_if_eq (tgt := 106) hx hb dX12_turned_89 (by decide) zk_1 (fun c21 => by exfalso; omega) (fun c21 => ?_)
          refine lv_iload_n hx hb dX12_turned_92 rfl (lv_at hl 0 rfl) ?_
          refine lv_aload_n hx hb dX12_turned_93 rfl (lv_at hl 1 rfl) ?_
          have d22_63 := hI.bd (k := 0) bd_60_63
          have d22_64 := hI.bd (k := 0) bd_60_64
          have d22_65 := hI.bd (k := 0) bd_60_65
          have d22_66 := hI.bd (k := 0) bd_60_66
          refine fm_ci (va_runV (As := []) (rest := [.int r7]) ⟨hx, hb, hml, hown, hts⟩ (fc_X12_sum_4 l D ad C nb M20 hI (by omega) (by omega)) (cwV 0 hts gX12_turned_X12_sum rfl rfl rfl (by decide +kernel) ⟨Nat.le_of_ble_eq_true rfl, Nat.le_of_ble_eq_true rfl⟩) (fm_preV hc hw hS kl_60 sh_60 rfl) rfl rfl hl.1 rfl (lv_room (Nat.le_of_ble_eq_true rfl)) dX12_turned_94 ⟨by decide +kernel, by decide +kernel⟩) hS hc (fun r23 M24 H locs hr23 hw hS => ?_)
          obtain ⟨hI, hEM24, hr23⟩ := hr23
          have hE := hE.tr hEM24 (by decide)
          have mM24_60_63 : (M24.1 60 0 63).toInt = (M20.1 60 0 63).toInt := by rw [(hEM24 60 0 63 (by decide)).1]
          obtain ⟨ahr23, bhr23, dhr23⟩ := hr23
          refine fx_icmp_ne (tgt := 104) hx hb dX12_turned_97 (by decide) rfl rfl (fun c25 => ?_) (fun c25 => ?_)
          · refine lv_iconst (v := 0) hx hb dX12_turned_104 (by decide) ?_
            exact W.iret (v := 0) hx hb hr (fun t ht hW => ⟨⟨0, M24, rfl, ⟨hI, hE, ⟨by omega, by omega, by omega⟩⟩, by show fm_at D ad C nb _ t.heap; rw [ht]; exact hw⟩, hS.F ht⟩) hS.2.2 dX12_turned_105
          · refine lv_iconst (v := 1) hx hb dX12_turned_100 (by decide) ?_
            refine lv_goto (tgt := 105) hx hb dX12_turned_101 (by decide) ?_
            exact W.iret (v := 1) hx hb hr (fun t ht hW => ⟨⟨1, M24, rfl, ⟨hI, hE, ⟨by omega, by omega, by omega⟩⟩, by show fm_at D ad C nb _ t.heap; rw [ht]; exact hw⟩, hS.F ht⟩) hS.2.2 dX12_turned_105
        · refine fx_if_eq (tgt := 106) hx hb dX12_turned_89 (by decide) zk_0 (fun c26 => ?_) (fun c26 => by exfalso; omega)
          refine lv_iload_n hx hb dX12_turned_106 rfl (lv_at hl 0 rfl) ?_
          exact W.iret (v := r7) hx hb hr (fun t ht hW => ⟨⟨r7, M20, rfl, ⟨hI, hE, ⟨by omega, by omega, by omega⟩⟩, by show fm_at D ad C nb _ t.heap; rw [ht]; exact hw⟩, hS.F ht⟩) hS.2.2 dX12_turned_107
    · refine lv_aload_n hx hb dX12_turned_19 rfl (lv_at hl 0 rfl) ?_
      refine fm_ci (va_runV (As := []) (rest := []) ⟨hx, hb, hml, hown, hts⟩ (fc_X12_opens l D ad C nb M hI) (cwV 0 hts gX12_turned_X12_opens rfl rfl rfl (by decide +kernel) ⟨Nat.le_of_ble_eq_true rfl, Nat.le_of_ble_eq_true rfl⟩) (fm_preV hc hw hS kl_60 sh_60 rfl) rfl rfl hl.1 rfl (lv_room (Nat.le_of_ble_eq_true rfl)) dX12_turned_20 ⟨by decide +kernel, by decide +kernel⟩) hS hc (fun r27 M28 H locs hr27 hw hS => ?_)
      obtain ⟨hI, hEM28, hr27⟩ := hr27
      have hE := hE.tr hEM28 (by decide)
      have mM28_60_63 : (M28.1 60 0 63).toInt = (M.1 60 0 63).toInt := by rw [(hEM28 60 0 63 (by decide)).1]
      rcases hr27 with ⟨rfl, ahr27, bhr27, dhr27⟩ | ⟨rfl, ahr27, bhr27, dhr27⟩
      · refine fx_if_ne (tgt := 28) hx hb dX12_turned_23 (by decide) zk_1 (fun c29 => ?_) (fun c29 => by exfalso; omega)
        refine lv_aload_n hx hb dX12_turned_28 rfl (lv_at hl 0 rfl) ?_
        have d30_63 := hI.bd (k := 0) bd_60_63
        have d30_64 := hI.bd (k := 0) bd_60_64
        have d30_65 := hI.bd (k := 0) bd_60_65
        have d30_66 := hI.bd (k := 0) bd_60_66
        refine fm_ci (va_runV (As := []) (rest := []) ⟨hx, hb, hml, hown, hts⟩ (fc_X12_turned_5 l D ad C nb M28 hI (by omega) (by omega)) (cwV 0 hts gX12_turned_X12_turned rfl rfl rfl (by decide +kernel) ⟨Nat.le_of_ble_eq_true rfl, Nat.le_of_ble_eq_true rfl⟩) (fm_preV hc hw hS kl_60 sh_60 rfl) rfl rfl hl.1 rfl (lv_room (Nat.le_of_ble_eq_true rfl)) dX12_turned_29 ⟨by decide +kernel, by decide +kernel⟩) hS hc (fun r31 M32 H locs hr31 hw hS => ?_)
        obtain ⟨hI, hEM32, hr31⟩ := hr31
        have hE := hE.tr hEM32 (by decide)
        have mM32_60_63 : (M32.1 60 0 63).toInt = (M28.1 60 0 63).toInt := by rw [(hEM32 60 0 63 (by decide)).1]
        obtain ⟨ahr31, bhr31, dhr31⟩ := hr31
        refine lv_istore_n (lv' := [(1, .int r31), (0, .ref (ad 60 0))]) hx hb dX12_turned_32 rfl hl (by decide) rfl (fun ls hl => ?_)
        refine lv_aload_n hx hb dX12_turned_33 rfl (lv_at hl 1 rfl) ?_
        refine lv_dup hx hb dX12_turned_34 rfl ?_
        refine fm_getI (a := 60) (j := 66) (T := TX12) (N := 79) hx hb hts hinX12 hown hc hw hI kl_60 sh_60 rfl (by decide) rfl bd_60_66 (hts (.fieldLink RX12 372 "RedTentModel" "open" "I") (List.mem_cons_of_mem _ tw_5_186)) (fun _ h9 => h9) dX12_turned_35 (fun x33 ex33 bx33 => ?_)
        have wx33 : x33.toInt = (M32.1 60 0 66).toInt := by rw [ex33]
        refine lv_iconst (v := 1) hx hb dX12_turned_38 (by decide) ?_
        refine fx_isub hx hb dX12_turned_39 rfl zk_1 (by omega) (fun y34 ey34 ty34 => ?_)
        refine fm_putI (a := 60) (j := 66) (T := TX12) (N := 79) hx hb hts hinX12 tyX12 tyX12_ok nmX12 hown hc hw hI hE hS kl_60 sh_60 od_60 rfl (by decide) rfl bd_60_66 (hts (.fieldLink RX12 372 "RedTentModel" "open" "I") (List.mem_cons_of_mem _ tw_5_186)) (fun _ h9 => h9) rfl (by decide +kernel) (by omega) (by decide) (by decide) dX12_turned_40 (fun M35 H locs eM35 hw hI hE hS => ?_)
        have mM35_60_63 : (M35.1 60 0 63).toInt = (M32.1 60 0 63).toInt := by rw [eM35, fm_wI_nj (fun z => absurd z.2.2 (by decide))]
        have mM35_60_64 : (M35.1 60 0 64).toInt = (M32.1 60 0 64).toInt := by rw [eM35, fm_wI_nj (fun z => absurd z.2.2 (by decide))]
        have mM35_60_65 : (M35.1 60 0 65).toInt = (M32.1 60 0 65).toInt := by rw [eM35, fm_wI_nj (fun z => absurd z.2.2 (by decide))]
        have mM35_60_66 : (M35.1 60 0 66).toInt = y34.toInt := by rw [eM35, fm_wI_at]
        refine lv_iload_n hx hb dX12_turned_43 rfl (lv_at hl 0 rfl) ?_
        refine fx_if_ne (tgt := 51) hx hb dX12_turned_44 (by decide) rfl (fun c36 => ?_) (fun c36 => ?_)
        · refine lv_iconst (v := 0) hx hb dX12_turned_51 (by decide) ?_
          exact W.iret (v := 0) hx hb hr (fun t ht hW => ⟨⟨0, M35, rfl, ⟨hI, hE, ⟨by omega, by omega, by omega⟩⟩, by show fm_at D ad C nb _ t.heap; rw [ht]; exact hw⟩, hS.F ht⟩) hS.2.2 dX12_turned_52
        · refine lv_iconst (v := 1) hx hb dX12_turned_47 (by decide) ?_
          refine lv_goto (tgt := 52) hx hb dX12_turned_48 (by decide) ?_
          exact W.iret (v := 1) hx hb hr (fun t ht hW => ⟨⟨1, M35, rfl, ⟨hI, hE, ⟨by omega, by omega, by omega⟩⟩, by show fm_at D ad C nb _ t.heap; rw [ht]; exact hw⟩, hS.F ht⟩) hS.2.2 dX12_turned_52
      · refine fx_if_ne (tgt := 28) hx hb dX12_turned_23 (by decide) zk_0 (fun c37 => by exfalso; omega) (fun c37 => ?_)
        refine lv_iconst (v := 0) hx hb dX12_turned_26 (by decide) ?_
        exact W.iret (v := 0) hx hb hr (fun t ht hW => ⟨⟨0, M28, rfl, ⟨hI, hE, ⟨by omega, by omega, by omega⟩⟩, by show fm_at D ad C nb _ t.heap; rw [ht]; exact hw⟩, hS.F ht⟩) hS.2.2 dX12_turned_27
  · refine lv_iconst (v := 0) hx hb dX12_turned_7 (by decide) ?_
    exact W.iret (v := 0) hx hb hr (fun t ht hW => ⟨⟨0, M, rfl, ⟨hI, hE, ⟨by omega, by omega, by omega⟩⟩, by show fm_at D ad C nb _ t.heap; rw [ht]; exact hw⟩, hS.F ht⟩) hS.2.2 dX12_turned_8
set_option maxHeartbeats 400000 in
set_option maxRecDepth 20000 in
theorem fc_X12_both_4 (l : Launch) (D : va_G) (ad : Nat → Nat → Nat) (C : Nat → Nat → ClassId) (nb : Nat) (M : fm_M) (hI : fm_I nb ad M) (hft : (M.1 60 0 64).toInt ≤ (M.1 60 0 65).toInt) (hop : 4 ≤ (M.1 60 0 66).toInt) : Met l yX12_both wsX12_both ({ frames := 15, cells := 0, slots := 0, locals := 324 }) (va_Pc [.ref (ad 60 0)] (fm_P D ad C nb M)) (va_Qi (fun (r : Int32) (u : fm_M) => fm_I nb ad u ∧ fm_same [60064, 60065, 60066, 60067] M u ∧ ((M.1 60 0 64).toInt ≤ (u.1 60 0 64).toInt ∧ (M.1 60 0 66).toInt ≤ (u.1 60 0 66).toInt ∧ (u.1 60 0 64).toInt ≤ (u.1 60 0 65).toInt)) (fun u t => fm_at D ad C nb u t.heap) (fm_A nb ad)) 0 0 (fm_A nb ad) := by
  refine Met.ofW (cc := cX12_both) (maxL := 3) (ret := (some .int)) (by decide) rfl ?_
  intro p e s m args below meth c s₁ B hml hv
  obtain ⟨rfl, hw, hc⟩ := hv
  have hx := B.exec
  have hb := B.bytes
  have hr := B.returns
  have hts := atoms_spec (ws := wsX12_both) B.pre
  have hown : s.vm.findClass RX12 = some m.cls := findClass_of_methodNamed B.named
  have hS : va_S (fm_A nb ad) s.heap s.heap [] := va_S.rf
  have hE : fm_same [60064, 60065, 60066, 60067] M M := fm_same.rf
  have hl := lv_entry ([.ref (ad 60 0)]) (n := 3) (Nat.le_of_ble_eq_true rfl)
  rw [lg_entry_eq]
  generalize (lg_sl ([.ref (ad 60 0)]) ++ List.replicate (3 - (lg_sl ([.ref (ad 60 0)])).length) Slot.unset).toArray = ls at hl ⊢
  have hl : lv_has ls 3 [(0, .ref (ad 60 0))] := hl
  refine lv_aload_n hx hb dX12_both_0 rfl (lv_at hl 0 rfl) ?_
  have d1_63 := hI.bd (k := 0) bd_60_63
  have d1_64 := hI.bd (k := 0) bd_60_64
  have d1_65 := hI.bd (k := 0) bd_60_65
  have d1_66 := hI.bd (k := 0) bd_60_66
  refine fm_ci (va_runV (As := []) (rest := []) ⟨hx, hb, hml, hown, hts⟩ (fc_X12_turned_4 l D ad C nb M hI (by omega) (by omega)) (cwV 0 hts gX12_both_X12_turned rfl rfl rfl (by decide +kernel) ⟨Nat.le_of_ble_eq_true rfl, Nat.le_of_ble_eq_true rfl⟩) (fm_preV hc hw hS kl_60 sh_60 rfl) rfl rfl hl.1 rfl (lv_room (Nat.le_of_ble_eq_true rfl)) dX12_both_1 ⟨by decide +kernel, by decide +kernel⟩) hS hc (fun r2 M3 H locs hr2 hw hS => ?_)
  obtain ⟨hI, hEM3, hr2⟩ := hr2
  have hE := hE.tr hEM3 (by decide)
  have mM3_60_63 : (M3.1 60 0 63).toInt = (M.1 60 0 63).toInt := by rw [(hEM3 60 0 63 (by decide)).1]
  obtain ⟨ahr2, bhr2, dhr2⟩ := hr2
  refine lv_istore_n (lv' := [(1, .int r2), (0, .ref (ad 60 0))]) hx hb dX12_both_4 rfl hl (by decide) rfl (fun ls hl => ?_)
  have lp : ∀ (n_lp : Nat) (lp_1 : Int32) (M_lp : fm_M), (161 - (M_lp.1 60 0 64).toInt).toNat < n_lp → ((M.1 60 0 64).toInt ≤ (M_lp.1 60 0 64).toInt ∧ (M.1 60 0 66).toInt ≤ (M_lp.1 60 0 66).toInt ∧ (M_lp.1 60 0 64).toInt ≤ (M_lp.1 60 0 65).toInt) → fm_I nb ad M_lp → fm_same [60064, 60065, 60066, 60067] M M_lp → ∀ (H : Heap) (locs : List Loc), fm_at D ad C nb M_lp H → va_S (fm_A nb ad) s.heap H locs → ∀ (ls : Array Slot), lv_has ls 3 [(1, .int lp_1), (0, .ref (ad 60 0))] → W p l e (headSpec wsX12_both ({ frames := 15, cells := 0, slots := 0, locals := 324 })).room s m ([.ref (ad 60 0)] : List Value).toArray below meth c H locs 0 0 (MQ below (va_Qi (fun (r : Int32) (u : fm_M) => fm_I nb ad u ∧ fm_same [60064, 60065, 60066, 60067] M u ∧ ((M.1 60 0 64).toInt ≤ (u.1 60 0 64).toInt ∧ (M.1 60 0 66).toInt ≤ (u.1 60 0 66).toInt ∧ (u.1 60 0 64).toInt ≤ (u.1 60 0 65).toInt)) (fun u t => fm_at D ad C nb u t.heap) (fm_A nb ad)) ([.ref (ad 60 0)] : List Value).toArray s 0 0 (fm_A nb ad)) (F0 m 5 ls []) := by
    intro n_lp
    induction n_lp with
    | zero => intro lp_1 M_lp hm_lp hv hI hE H locs hw hS ls hl; exact absurd hm_lp (Nat.not_lt_zero _)
    | succ n_lp ih_lp =>
      intro lp_1 M_lp hm_lp hv hI hE H locs hw hS ls hl
      refine lv_aload_n hx hb dX12_both_5 rfl (lv_at hl 1 rfl) ?_
      obtain ⟨q4, vq4, hQq4, hRq4⟩ := hc.2.2.2.2.1 (RX12, 370, "and", [97, 110, 100]) (by decide)
      refine va_ldcwS hx hb hown hRq4 dX12_both_6 ?_
      refine fm_ci (va_runV (As := [.ref q4]) (rest := []) ⟨hx, hb, hml, hown, hts⟩ (fc_X12_take l D ad C nb M_lp hI q4 vq4 3 (fun j => ([97, 110, 100] : List Int32).getD j 0) (by decide) (by omega)) (cwV 1 hts gX12_both_X12_take rfl rfl rfl (by decide +kernel) ⟨Nat.le_of_ble_eq_true rfl, Nat.le_of_ble_eq_true rfl⟩) (fm_preVS hc hw hS hQq4 kl_60 sh_60 rfl) rfl rfl hl.1 rfl (lv_room (Nat.le_of_ble_eq_true rfl)) dX12_both_9 ⟨by decide +kernel, by decide +kernel⟩) hS hc (fun r5 M6 H locs hr5 hw hS => ?_)
      obtain ⟨hI, hEM6, hr5⟩ := hr5
      have hE := hE.tr hEM6 (by decide)
      have mM6_60_63 : (M6.1 60 0 63).toInt = (M_lp.1 60 0 63).toInt := by rw [(hEM6 60 0 63 (by decide)).1]
      have mM6_60_66 : (M6.1 60 0 66).toInt = (M_lp.1 60 0 66).toInt := by rw [(hEM6 60 0 66 (by decide)).1]
      rcases hr5 with ⟨rfl, ahr5, bhr5⟩ | ⟨rfl, ahr5, bhr5⟩
      · refine fx_if_eq (tgt := 37) hx hb dX12_both_12 (by decide) zk_1 (fun c7 => by exfalso; omega) (fun c7 => ?_)
        refine lv_aload_n hx hb dX12_both_15 rfl (lv_at hl 1 rfl) ?_
        have d8_63 := hI.bd (k := 0) bd_60_63
        have d8_64 := hI.bd (k := 0) bd_60_64
        have d8_65 := hI.bd (k := 0) bd_60_65
        have d8_66 := hI.bd (k := 0) bd_60_66
        refine fm_ci (va_runV (As := []) (rest := []) ⟨hx, hb, hml, hown, hts⟩ (fc_X12_turned_4 l D ad C nb M6 hI (by omega) (by omega)) (cwV 0 hts gX12_both_X12_turned rfl rfl rfl (by decide +kernel) ⟨Nat.le_of_ble_eq_true rfl, Nat.le_of_ble_eq_true rfl⟩) (fm_preV hc hw hS kl_60 sh_60 rfl) rfl rfl hl.1 rfl (lv_room (Nat.le_of_ble_eq_true rfl)) dX12_both_16 ⟨by decide +kernel, by decide +kernel⟩) hS hc (fun r9 M10 H locs hr9 hw hS => ?_)
        obtain ⟨hI, hEM10, hr9⟩ := hr9
        have hE := hE.tr hEM10 (by decide)
        have mM10_60_63 : (M10.1 60 0 63).toInt = (M6.1 60 0 63).toInt := by rw [(hEM10 60 0 63 (by decide)).1]
        obtain ⟨ahr9, bhr9, dhr9⟩ := hr9
        refine lv_istore_n (lv' := [(2, .int r9), (1, .int lp_1), (0, .ref (ad 60 0))]) hx hb dX12_both_19 rfl hl (by decide) rfl (fun ls hl => ?_)
        refine lv_iload_n hx hb dX12_both_20 rfl (lv_at hl 1 rfl) ?_
        refine fx_if_eq (tgt := 32) hx hb dX12_both_21 (by decide) rfl (fun c11 => ?_) (fun c11 => ?_)
        · refine lv_iconst (v := 0) hx hb dX12_both_32 (by decide) ?_
          refine lv_istore_n (lv' := [(1, .int 0), (2, .int r9), (0, .ref (ad 60 0))]) hx hb dX12_both_33 rfl hl (by decide) rfl (fun ls hl => ?_)
          refine lv_goto (tgt := 5) hx hb dX12_both_34 (by decide) ?_
          exact ih_lp 0 M10 (by omega) (by omega) hI hE _ _ hw hS ls (lv_sub hl [0, 2] rfl)
        · refine lv_iload_n hx hb dX12_both_24 rfl (lv_at hl 0 rfl) ?_
          refine fx_if_eq (tgt := 32) hx hb dX12_both_25 (by decide) rfl (fun c12 => ?_) (fun c12 => ?_)
          · refine lv_iconst (v := 0) hx hb dX12_both_32 (by decide) ?_
            refine lv_istore_n (lv' := [(1, .int 0), (2, .int r9), (0, .ref (ad 60 0))]) hx hb dX12_both_33 rfl hl (by decide) rfl (fun ls hl => ?_)
            refine lv_goto (tgt := 5) hx hb dX12_both_34 (by decide) ?_
            exact ih_lp 0 M10 (by omega) (by omega) hI hE _ _ hw hS ls (lv_sub hl [0, 2] rfl)
          · refine lv_iconst (v := 1) hx hb dX12_both_28 (by decide) ?_
            refine lv_goto (tgt := 33) hx hb dX12_both_29 (by decide) ?_
            refine lv_istore_n (lv' := [(1, .int 1), (2, .int r9), (0, .ref (ad 60 0))]) hx hb dX12_both_33 rfl hl (by decide) rfl (fun ls hl => ?_)
            refine lv_goto (tgt := 5) hx hb dX12_both_34 (by decide) ?_
            exact ih_lp 1 M10 (by omega) (by omega) hI hE _ _ hw hS ls (lv_sub hl [0, 2] rfl)
      · refine fx_if_eq (tgt := 37) hx hb dX12_both_12 (by decide) zk_0 (fun c13 => ?_) (fun c13 => by exfalso; omega)
        refine lv_iload_n hx hb dX12_both_37 rfl (lv_at hl 0 rfl) ?_
        exact W.iret (v := lp_1) hx hb hr (fun t ht hW => ⟨⟨lp_1, M6, rfl, ⟨hI, hE, ⟨by omega, by omega, by omega⟩⟩, by show fm_at D ad C nb _ t.heap; rw [ht]; exact hw⟩, hS.F ht⟩) hS.2.2 dX12_both_38
  exact lp _ r2 M3 (Nat.lt_succ_self _) (by omega) hI hE _ _ hw hS ls (lv_sub hl [0, 1] rfl)
set_option maxHeartbeats 400000 in
set_option maxRecDepth 20000 in
theorem fc_X12_either_4 (l : Launch) (D : va_G) (ad : Nat → Nat → Nat) (C : Nat → Nat → ClassId) (nb : Nat) (M : fm_M) (hI : fm_I nb ad M) (hft : (M.1 60 0 64).toInt ≤ (M.1 60 0 65).toInt) (hop : 4 ≤ (M.1 60 0 66).toInt) : Met l yX12_either wsX12_either ({ frames := 16, cells := 0, slots := 0, locals := 346 }) (va_Pc [.ref (ad 60 0)] (fm_P D ad C nb M)) (va_Qi (fun (r : Int32) (u : fm_M) => fm_I nb ad u ∧ fm_same [60064, 60065, 60066, 60067] M u ∧ ((M.1 60 0 64).toInt ≤ (u.1 60 0 64).toInt ∧ (M.1 60 0 66).toInt ≤ (u.1 60 0 66).toInt ∧ (u.1 60 0 64).toInt ≤ (u.1 60 0 65).toInt)) (fun u t => fm_at D ad C nb u t.heap) (fm_A nb ad)) 0 0 (fm_A nb ad) := by
  refine Met.ofW (cc := cX12_either) (maxL := 3) (ret := (some .int)) (by decide) rfl ?_
  intro p e s m args below meth c s₁ B hml hv
  obtain ⟨rfl, hw, hc⟩ := hv
  have hx := B.exec
  have hb := B.bytes
  have hr := B.returns
  have hts := atoms_spec (ws := wsX12_either) B.pre
  have hown : s.vm.findClass RX12 = some m.cls := findClass_of_methodNamed B.named
  have hS : va_S (fm_A nb ad) s.heap s.heap [] := va_S.rf
  have hE : fm_same [60064, 60065, 60066, 60067] M M := fm_same.rf
  have hl := lv_entry ([.ref (ad 60 0)]) (n := 3) (Nat.le_of_ble_eq_true rfl)
  rw [lg_entry_eq]
  generalize (lg_sl ([.ref (ad 60 0)]) ++ List.replicate (3 - (lg_sl ([.ref (ad 60 0)])).length) Slot.unset).toArray = ls at hl ⊢
  have hl : lv_has ls 3 [(0, .ref (ad 60 0))] := hl
  refine lv_aload_n hx hb dX12_either_0 rfl (lv_at hl 0 rfl) ?_
  have d1_63 := hI.bd (k := 0) bd_60_63
  have d1_64 := hI.bd (k := 0) bd_60_64
  have d1_65 := hI.bd (k := 0) bd_60_65
  have d1_66 := hI.bd (k := 0) bd_60_66
  refine fm_ci (va_runV (As := []) (rest := []) ⟨hx, hb, hml, hown, hts⟩ (fc_X12_both_4 l D ad C nb M hI (by omega) (by omega)) (cwV 0 hts gX12_either_X12_both rfl rfl rfl (by decide +kernel) ⟨Nat.le_of_ble_eq_true rfl, Nat.le_of_ble_eq_true rfl⟩) (fm_preV hc hw hS kl_60 sh_60 rfl) rfl rfl hl.1 rfl (lv_room (Nat.le_of_ble_eq_true rfl)) dX12_either_1 ⟨by decide +kernel, by decide +kernel⟩) hS hc (fun r2 M3 H locs hr2 hw hS => ?_)
  obtain ⟨hI, hEM3, hr2⟩ := hr2
  have hE := hE.tr hEM3 (by decide)
  have mM3_60_63 : (M3.1 60 0 63).toInt = (M.1 60 0 63).toInt := by rw [(hEM3 60 0 63 (by decide)).1]
  obtain ⟨ahr2, bhr2, dhr2⟩ := hr2
  refine lv_istore_n (lv' := [(1, .int r2), (0, .ref (ad 60 0))]) hx hb dX12_either_4 rfl hl (by decide) rfl (fun ls hl => ?_)
  have lp : ∀ (n_lp : Nat) (lp_1 : Int32) (M_lp : fm_M), (161 - (M_lp.1 60 0 64).toInt).toNat < n_lp → ((M.1 60 0 64).toInt ≤ (M_lp.1 60 0 64).toInt ∧ (M.1 60 0 66).toInt ≤ (M_lp.1 60 0 66).toInt ∧ (M_lp.1 60 0 64).toInt ≤ (M_lp.1 60 0 65).toInt) → fm_I nb ad M_lp → fm_same [60064, 60065, 60066, 60067] M M_lp → ∀ (H : Heap) (locs : List Loc), fm_at D ad C nb M_lp H → va_S (fm_A nb ad) s.heap H locs → ∀ (ls : Array Slot), lv_has ls 3 [(1, .int lp_1), (0, .ref (ad 60 0))] → W p l e (headSpec wsX12_either ({ frames := 16, cells := 0, slots := 0, locals := 346 })).room s m ([.ref (ad 60 0)] : List Value).toArray below meth c H locs 0 0 (MQ below (va_Qi (fun (r : Int32) (u : fm_M) => fm_I nb ad u ∧ fm_same [60064, 60065, 60066, 60067] M u ∧ ((M.1 60 0 64).toInt ≤ (u.1 60 0 64).toInt ∧ (M.1 60 0 66).toInt ≤ (u.1 60 0 66).toInt ∧ (u.1 60 0 64).toInt ≤ (u.1 60 0 65).toInt)) (fun u t => fm_at D ad C nb u t.heap) (fm_A nb ad)) ([.ref (ad 60 0)] : List Value).toArray s 0 0 (fm_A nb ad)) (F0 m 5 ls []) := by
    intro n_lp
    induction n_lp with
    | zero => intro lp_1 M_lp hm_lp hv hI hE H locs hw hS ls hl; exact absurd hm_lp (Nat.not_lt_zero _)
    | succ n_lp ih_lp =>
      intro lp_1 M_lp hm_lp hv hI hE H locs hw hS ls hl
      refine lv_aload_n hx hb dX12_either_5 rfl (lv_at hl 1 rfl) ?_
      obtain ⟨q4, vq4, hQq4, hRq4⟩ := hc.2.2.2.2.1 (RX12, 362, "or", [111, 114]) (by decide)
      refine va_ldcwS hx hb hown hRq4 dX12_either_6 ?_
      refine fm_ci (va_runV (As := [.ref q4]) (rest := []) ⟨hx, hb, hml, hown, hts⟩ (fc_X12_take l D ad C nb M_lp hI q4 vq4 2 (fun j => ([111, 114] : List Int32).getD j 0) (by decide) (by omega)) (cwV 1 hts gX12_either_X12_take rfl rfl rfl (by decide +kernel) ⟨Nat.le_of_ble_eq_true rfl, Nat.le_of_ble_eq_true rfl⟩) (fm_preVS hc hw hS hQq4 kl_60 sh_60 rfl) rfl rfl hl.1 rfl (lv_room (Nat.le_of_ble_eq_true rfl)) dX12_either_9 ⟨by decide +kernel, by decide +kernel⟩) hS hc (fun r5 M6 H locs hr5 hw hS => ?_)
      obtain ⟨hI, hEM6, hr5⟩ := hr5
      have hE := hE.tr hEM6 (by decide)
      have mM6_60_63 : (M6.1 60 0 63).toInt = (M_lp.1 60 0 63).toInt := by rw [(hEM6 60 0 63 (by decide)).1]
      have mM6_60_66 : (M6.1 60 0 66).toInt = (M_lp.1 60 0 66).toInt := by rw [(hEM6 60 0 66 (by decide)).1]
      rcases hr5 with ⟨rfl, ahr5, bhr5⟩ | ⟨rfl, ahr5, bhr5⟩
      · refine fx_if_eq (tgt := 37) hx hb dX12_either_12 (by decide) zk_1 (fun c7 => by exfalso; omega) (fun c7 => ?_)
        refine lv_aload_n hx hb dX12_either_15 rfl (lv_at hl 1 rfl) ?_
        have d8_63 := hI.bd (k := 0) bd_60_63
        have d8_64 := hI.bd (k := 0) bd_60_64
        have d8_65 := hI.bd (k := 0) bd_60_65
        have d8_66 := hI.bd (k := 0) bd_60_66
        refine fm_ci (va_runV (As := []) (rest := []) ⟨hx, hb, hml, hown, hts⟩ (fc_X12_both_4 l D ad C nb M6 hI (by omega) (by omega)) (cwV 0 hts gX12_either_X12_both rfl rfl rfl (by decide +kernel) ⟨Nat.le_of_ble_eq_true rfl, Nat.le_of_ble_eq_true rfl⟩) (fm_preV hc hw hS kl_60 sh_60 rfl) rfl rfl hl.1 rfl (lv_room (Nat.le_of_ble_eq_true rfl)) dX12_either_16 ⟨by decide +kernel, by decide +kernel⟩) hS hc (fun r9 M10 H locs hr9 hw hS => ?_)
        obtain ⟨hI, hEM10, hr9⟩ := hr9
        have hE := hE.tr hEM10 (by decide)
        have mM10_60_63 : (M10.1 60 0 63).toInt = (M6.1 60 0 63).toInt := by rw [(hEM10 60 0 63 (by decide)).1]
        obtain ⟨ahr9, bhr9, dhr9⟩ := hr9
        refine lv_istore_n (lv' := [(2, .int r9), (1, .int lp_1), (0, .ref (ad 60 0))]) hx hb dX12_either_19 rfl hl (by decide) rfl (fun ls hl => ?_)
        refine lv_iload_n hx hb dX12_either_20 rfl (lv_at hl 1 rfl) ?_
        refine fx_if_ne (tgt := 28) hx hb dX12_either_21 (by decide) rfl (fun c11 => ?_) (fun c11 => ?_)
        · refine lv_iconst (v := 1) hx hb dX12_either_28 (by decide) ?_
          refine lv_goto (tgt := 33) hx hb dX12_either_29 (by decide) ?_
          refine lv_istore_n (lv' := [(1, .int 1), (2, .int r9), (0, .ref (ad 60 0))]) hx hb dX12_either_33 rfl hl (by decide) rfl (fun ls hl => ?_)
          refine lv_goto (tgt := 5) hx hb dX12_either_34 (by decide) ?_
          exact ih_lp 1 M10 (by omega) (by omega) hI hE _ _ hw hS ls (lv_sub hl [0, 2] rfl)
        · refine lv_iload_n hx hb dX12_either_24 rfl (lv_at hl 0 rfl) ?_
          refine fx_if_eq (tgt := 32) hx hb dX12_either_25 (by decide) rfl (fun c12 => ?_) (fun c12 => ?_)
          · refine lv_iconst (v := 0) hx hb dX12_either_32 (by decide) ?_
            refine lv_istore_n (lv' := [(1, .int 0), (2, .int r9), (0, .ref (ad 60 0))]) hx hb dX12_either_33 rfl hl (by decide) rfl (fun ls hl => ?_)
            refine lv_goto (tgt := 5) hx hb dX12_either_34 (by decide) ?_
            exact ih_lp 0 M10 (by omega) (by omega) hI hE _ _ hw hS ls (lv_sub hl [0, 2] rfl)
          · refine lv_iconst (v := 1) hx hb dX12_either_28 (by decide) ?_
            refine lv_goto (tgt := 33) hx hb dX12_either_29 (by decide) ?_
            refine lv_istore_n (lv' := [(1, .int 1), (2, .int r9), (0, .ref (ad 60 0))]) hx hb dX12_either_33 rfl hl (by decide) rfl (fun ls hl => ?_)
            refine lv_goto (tgt := 5) hx hb dX12_either_34 (by decide) ?_
            exact ih_lp 1 M10 (by omega) (by omega) hI hE _ _ hw hS ls (lv_sub hl [0, 2] rfl)
      · refine fx_if_eq (tgt := 37) hx hb dX12_either_12 (by decide) zk_0 (fun c13 => ?_) (fun c13 => by exfalso; omega)
        refine lv_iload_n hx hb dX12_either_37 rfl (lv_at hl 0 rfl) ?_
        exact W.iret (v := lp_1) hx hb hr (fun t ht hW => ⟨⟨lp_1, M6, rfl, ⟨hI, hE, ⟨by omega, by omega, by omega⟩⟩, by show fm_at D ad C nb _ t.heap; rw [ht]; exact hw⟩, hS.F ht⟩) hS.2.2 dX12_either_38
  exact lp _ r2 M3 (Nat.lt_succ_self _) (by omega) hI hE _ _ hw hS ls (lv_sub hl [0, 1] rfl)
set_option maxHeartbeats 400000 in
set_option maxRecDepth 20000 in
theorem fc_X12_one_3 (l : Launch) (D : va_G) (ad : Nat → Nat → Nat) (C : Nat → Nat → ClassId) (nb : Nat) (M : fm_M) (hI : fm_I nb ad M) (hft : (M.1 60 0 64).toInt ≤ (M.1 60 0 65).toInt) (hop : 3 ≤ (M.1 60 0 66).toInt) : Met l yX12_one wsX12_one ({ frames := 17, cells := 0, slots := 0, locals := 368 }) (va_Pc [.ref (ad 60 0)] (fm_P D ad C nb M)) (va_Qi (fun (r : Int32) (u : fm_M) => fm_I nb ad u ∧ fm_same [60064, 60065, 60066, 60067] M u ∧ ((M.1 60 0 64).toInt ≤ (u.1 60 0 64).toInt ∧ (M.1 60 0 66).toInt ≤ (u.1 60 0 66).toInt ∧ (u.1 60 0 64).toInt ≤ (u.1 60 0 65).toInt)) (fun u t => fm_at D ad C nb u t.heap) (fm_A nb ad)) 0 0 (fm_A nb ad) := by
  refine Met.ofW (cc := cX12_one) (maxL := 3) (ret := (some .int)) (by decide) rfl ?_
  intro p e s m args below meth c s₁ B hml hv
  obtain ⟨rfl, hw, hc⟩ := hv
  have hx := B.exec
  have hb := B.bytes
  have hr := B.returns
  have hts := atoms_spec (ws := wsX12_one) B.pre
  have hown : s.vm.findClass RX12 = some m.cls := findClass_of_methodNamed B.named
  have hinX12 : ∀ w ∈ u_ws RX12 TX12 79, w ∈ wsX12_one := fun w h => List.mem_cons_of_mem _ (iT_X12 w h)
  have hS : va_S (fm_A nb ad) s.heap s.heap [] := va_S.rf
  have hE : fm_same [60064, 60065, 60066, 60067] M M := fm_same.rf
  have hl := lv_entry ([.ref (ad 60 0)]) (n := 3) (Nat.le_of_ble_eq_true rfl)
  rw [lg_entry_eq]
  generalize (lg_sl ([.ref (ad 60 0)]) ++ List.replicate (3 - (lg_sl ([.ref (ad 60 0)])).length) Slot.unset).toArray = ls at hl ⊢
  have hl : lv_has ls 3 [(0, .ref (ad 60 0))] := hl
  refine lv_aload_n hx hb dX12_one_0 rfl (lv_at hl 0 rfl) ?_
  refine fm_getI (a := 60) (j := 67) (T := TX12) (N := 79) hx hb hts hinX12 hown hc hw hI kl_60 sh_60 rfl (by decide) rfl bd_60_67 (hts (.fieldLink RX12 349 "RedTentModel" "fault" "I") (List.mem_cons_of_mem _ tw_5_187)) (fun _ h9 => h9) dX12_one_1 (fun x1 ex1 bx1 => ?_)
  refine fx_if_lt (tgt := 9) hx hb dX12_one_4 (by decide) rfl (fun c2 => ?_) (fun c2 => ?_)
  · refine lv_aload_n hx hb dX12_one_9 rfl (lv_at hl 0 rfl) ?_
    obtain ⟨q3, vq3, hQq3, hRq3⟩ := hc.2.2.2.2.1 (RX12, 396, "-", [45]) (by decide)
    refine va_ldcwS hx hb hown hRq3 dX12_one_10 ?_
    refine vp_callSi (va_Run.run (va_runV (As := [.ref q3]) (rest := []) ⟨hx, hb, hml, hown, hts⟩ (fc_X12_is l D ad C nb M hI q3 vq3 1 (fun j => ([45] : List Int32).getD j 0) (by decide)) (cwV 1 hts gX12_one_X12_is rfl rfl rfl (by decide +kernel) ⟨Nat.le_of_ble_eq_true rfl, Nat.le_of_ble_eq_true rfl⟩) (fm_preVS hc hw hS hQq3 kl_60 sh_60 rfl) rfl rfl hl.1 rfl (lv_room (Nat.le_of_ble_eq_true rfl)) dX12_one_13 ⟨by decide +kernel, by decide +kernel⟩)) (fun r4 hr4 => ?_)
    have ir4 := hr4.2
    have jr4 := hr4.1
    refine fx_if_eq (tgt := 46) hx hb dX12_one_16 (by decide) rfl (fun c5 => ?_) (fun c5 => ?_)
    · refine lv_aload_n hx hb dX12_one_46 rfl (lv_at hl 0 rfl) ?_
      obtain ⟨q6, vq6, hQq6, hRq6⟩ := hc.2.2.2.2.1 (RX12, 403, "(", [40]) (by decide)
      refine va_ldcwS hx hb hown hRq6 dX12_one_47 ?_
      refine vp_callSi (va_Run.run (va_runV (As := [.ref q6]) (rest := []) ⟨hx, hb, hml, hown, hts⟩ (fc_X12_is l D ad C nb M hI q6 vq6 1 (fun j => ([40] : List Int32).getD j 0) (by decide)) (cwV 1 hts gX12_one_X12_is rfl rfl rfl (by decide +kernel) ⟨Nat.le_of_ble_eq_true rfl, Nat.le_of_ble_eq_true rfl⟩) (fm_preVS hc hw hS hQq6 kl_60 sh_60 rfl) rfl rfl hl.1 rfl (lv_room (Nat.le_of_ble_eq_true rfl)) dX12_one_50 ⟨by decide +kernel, by decide +kernel⟩)) (fun r7 hr7 => ?_)
      have ir7 := hr7.2
      have jr7 := hr7.1
      refine fx_if_eq (tgt := 97) hx hb dX12_one_53 (by decide) rfl (fun c8 => ?_) (fun c8 => ?_)
      · refine lv_aload_n hx hb dX12_one_97 rfl (lv_at hl 0 rfl) ?_
        refine lv_aload_n hx hb dX12_one_98 rfl (lv_at hl 0 rfl) ?_
        refine fm_getI (a := 60) (j := 64) (T := TX12) (N := 79) hx hb hts hinX12 hown hc hw hI kl_60 sh_60 rfl (by decide) rfl bd_60_64 (hts (.fieldLink RX12 340 "RedTentModel" "from" "I") (List.mem_cons_of_mem _ tw_5_184)) (fun _ h9 => h9) dX12_one_99 (fun x9 ex9 bx9 => ?_)
        have wx9 : x9.toInt = (M.1 60 0 64).toInt := by rw [ex9]
        refine vp_callSi (va_Run.run (va_runV (As := [.int x9]) (rest := []) ⟨hx, hb, hml, hown, hts⟩ (fc_X12_isDigit l D ad C nb M hI x9 (by omega)) (cwV 1 hts gX12_one_X12_isDigit rfl rfl rfl (by decide +kernel) ⟨Nat.le_of_ble_eq_true rfl, Nat.le_of_ble_eq_true rfl⟩) (fm_preV hc hw hS kl_60 sh_60 rfl) rfl rfl hl.1 rfl (lv_room (Nat.le_of_ble_eq_true rfl)) dX12_one_102 ⟨by decide +kernel, by decide +kernel⟩)) (fun r10 hr10 => ?_)
        have bqq11 := hI.bd (k := 0) bd_60_63
        rcases hr10 with ⟨rfl, c12⟩ | ⟨rfl, c12⟩
        · refine fx_if_eq (tgt := 167) hx hb dX12_one_105 (by decide) zk_1 (fun c13 => by exfalso; omega) (fun c13 => ?_)
          refine lv_aload_n hx hb dX12_one_108 rfl (lv_at hl 0 rfl) ?_
          refine fm_getI (a := 60) (j := 65) (T := TX12) (N := 79) hx hb hts hinX12 hown hc hw hI kl_60 sh_60 rfl (by decide) rfl bd_60_65 (hts (.fieldLink RX12 337 "RedTentModel" "to" "I") (List.mem_cons_of_mem _ tw_5_185)) (fun _ h9 => h9) dX12_one_109 (fun x14 ex14 bx14 => ?_)
          have wx14 : x14.toInt = (M.1 60 0 65).toInt := by rw [ex14]
          refine lv_aload_n hx hb dX12_one_112 rfl (lv_at hl 0 rfl) ?_
          refine fm_getI (a := 60) (j := 64) (T := TX12) (N := 79) hx hb hts hinX12 hown hc hw hI kl_60 sh_60 rfl (by decide) rfl bd_60_64 (hts (.fieldLink RX12 340 "RedTentModel" "from" "I") (List.mem_cons_of_mem _ tw_5_184)) (fun _ h9 => h9) dX12_one_113 (fun x15 ex15 bx15 => ?_)
          have wx15 : x15.toInt = (M.1 60 0 64).toInt := by rw [ex15]
          obtain rfl : x9 = x15 := by rw [ex15]; exact ex9
          refine fx_isub hx hb dX12_one_116 rfl rfl (by omega) (fun y16 ey16 ty16 => ?_)
          refine lv_iconst (v := 4) hx hb dX12_one_117 (by decide) ?_
          refine fx_icmp_le (tgt := 126) hx hb dX12_one_118 (by decide) rfl zk_4 (fun c17 => ?_) (fun c17 => ?_)
          · refine lv_iconst (v := 0) hx hb dX12_one_126 (by decide) ?_
            refine lv_istore_n (lv' := [(1, .int 0), (0, .ref (ad 60 0))]) hx hb dX12_one_127 rfl hl (by decide) rfl (fun ls hl => ?_)
            refine lv_aload_n hx hb dX12_one_128 rfl (lv_at hl 1 rfl) ?_
            refine fm_getI (a := 60) (j := 64) (T := TX12) (N := 79) hx hb hts hinX12 hown hc hw hI kl_60 sh_60 rfl (by decide) rfl bd_60_64 (hts (.fieldLink RX12 340 "RedTentModel" "from" "I") (List.mem_cons_of_mem _ tw_5_184)) (fun _ h9 => h9) dX12_one_129 (fun x18 ex18 bx18 => ?_)
            have wx18 : x18.toInt = (M.1 60 0 64).toInt := by rw [ex18]
            obtain rfl : x9 = x18 := by rw [ex18]; exact ex9
            refine lv_istore_n (lv' := [(2, .int x9), (1, .int 0), (0, .ref (ad 60 0))]) hx hb dX12_one_132 rfl hl (by decide) rfl (fun ls hl => ?_)
            have lp : ∀ (n_lp : Nat) (lp_2 : Int32) (lp_1 : Int32), (160 - lp_2.toInt).toNat < n_lp → (0 ≤ lp_2.toInt ∧ lp_2.toInt ≤ 160) → ∀ (ls : Array Slot), lv_has ls 3 [(2, .int lp_2), (1, .int lp_1), (0, .ref (ad 60 0))] → W p l e (headSpec wsX12_one ({ frames := 17, cells := 0, slots := 0, locals := 368 })).room s m ([.ref (ad 60 0)] : List Value).toArray below meth c s.heap [] 0 0 (MQ below (va_Qi (fun (r : Int32) (u : fm_M) => fm_I nb ad u ∧ fm_same [60064, 60065, 60066, 60067] M u ∧ ((M.1 60 0 64).toInt ≤ (u.1 60 0 64).toInt ∧ (M.1 60 0 66).toInt ≤ (u.1 60 0 66).toInt ∧ (u.1 60 0 64).toInt ≤ (u.1 60 0 65).toInt)) (fun u t => fm_at D ad C nb u t.heap) (fm_A nb ad)) ([.ref (ad 60 0)] : List Value).toArray s 0 0 (fm_A nb ad)) (F0 m 133 ls []) := by
              intro n_lp
              induction n_lp with
              | zero => intro lp_2 lp_1 hm_lp b_lp_2 ls hl; exact absurd hm_lp (Nat.not_lt_zero _)
              | succ n_lp ih_lp =>
                intro lp_2 lp_1 hm_lp b_lp_2 ls hl
                refine lv_iload_n hx hb dX12_one_133 rfl (lv_at hl 0 rfl) ?_
                refine lv_aload_n hx hb dX12_one_134 rfl (lv_at hl 2 rfl) ?_
                refine fm_getI (a := 60) (j := 65) (T := TX12) (N := 79) hx hb hts hinX12 hown hc hw hI kl_60 sh_60 rfl (by decide) rfl bd_60_65 (hts (.fieldLink RX12 337 "RedTentModel" "to" "I") (List.mem_cons_of_mem _ tw_5_185)) (fun _ h9 => h9) dX12_one_135 (fun x19 ex19 bx19 => ?_)
                have wx19 : x19.toInt = (M.1 60 0 65).toInt := by rw [ex19]
                obtain rfl : x14 = x19 := by rw [ex19]; exact ex14
                refine fx_icmp_ge (tgt := 161) hx hb dX12_one_138 (by decide) rfl rfl (fun c20 => ?_) (fun c20 => ?_)
                · refine lv_aload_n hx hb dX12_one_161 rfl (lv_at hl 2 rfl) ?_
                  refine fm_cv (va_runV (As := []) (rest := []) ⟨hx, hb, hml, hown, hts⟩ (fc_X12_next l D ad C nb M hI) (cwV 0 hts gX12_one_X12_next rfl rfl rfl (by decide +kernel) ⟨Nat.le_of_ble_eq_true rfl, Nat.le_of_ble_eq_true rfl⟩) (fm_preV hc hw hS kl_60 sh_60 rfl) rfl rfl hl.1 rfl (lv_room (Nat.le_of_ble_eq_true rfl)) dX12_one_162 ⟨by decide +kernel, by decide +kernel⟩) hS hc (fun M22 H locs hr21 hw hS => ?_)
                  obtain ⟨hI, hEM22, hr21⟩ := hr21
                  have hE := hE.tr hEM22 (by decide)
                  have mM22_60_63 : (M22.1 60 0 63).toInt = (M.1 60 0 63).toInt := by rw [(hEM22 60 0 63 (by decide)).1]
                  have mM22_60_66 : (M22.1 60 0 66).toInt = (M.1 60 0 66).toInt := by rw [(hEM22 60 0 66 (by decide)).1]
                  refine lv_iload_n hx hb dX12_one_165 rfl (lv_at hl 1 rfl) ?_
                  have qx9 : x9.toInt = (M.1 60 0 64).toInt := by rw [ex9]
                  exact W.iret (v := lp_1) hx hb hr (fun t ht hW => ⟨⟨lp_1, M22, rfl, ⟨hI, hE, ⟨by omega, by omega, by omega⟩⟩, by show fm_at D ad C nb _ t.heap; rw [ht]; exact hw⟩, hS.F ht⟩) hS.2.2 dX12_one_166
                · refine lv_bipush (v := 10) hx hb dX12_one_141 (by decide) ?_
                  refine lv_iload_n hx hb dX12_one_143 rfl (lv_at hl 1 rfl) ?_
                  refine fx_imulU hx hb dX12_one_144 (fun y23 ey23 => ?_)
                  refine lv_aload_n hx hb dX12_one_145 rfl (lv_at hl 2 rfl) ?_
                  refine lv_iload_n hx hb dX12_one_146 rfl (lv_at hl 0 rfl) ?_
                  refine vp_callSi (va_Run.run (va_runV (As := [.int lp_2]) (rest := [.int y23]) ⟨hx, hb, hml, hown, hts⟩ (fc_X12_byteAt l D ad C nb M hI lp_2 (by omega)) (cwV 1 hts gX12_one_X12_byteAt rfl rfl rfl (by decide +kernel) ⟨Nat.le_of_ble_eq_true rfl, Nat.le_of_ble_eq_true rfl⟩) (fm_preV hc hw hS kl_60 sh_60 rfl) rfl rfl hl.1 rfl (lv_room (Nat.le_of_ble_eq_true rfl)) dX12_one_147 ⟨by decide +kernel, by decide +kernel⟩)) (fun r24 hr24 => ?_)
                  refine fx_iaddU hx hb dX12_one_150 (fun y25 ey25 => ?_)
                  refine lv_bipush (v := 48) hx hb dX12_one_151 (by decide) ?_
                  refine fx_isubU hx hb dX12_one_153 (fun y26 ey26 => ?_)
                  refine lv_istore_n (lv' := [(1, .int y26), (2, .int lp_2), (0, .ref (ad 60 0))]) hx hb dX12_one_154 rfl hl (by decide) rfl (fun ls hl => ?_)
                  obtain ⟨y27, ey27⟩ : ∃ y : Int32, y = lp_2 + 1 := ⟨_, rfl⟩
                  have ty27 : y27.toInt = lp_2.toInt + 1 := by rw [ey27, zi_add _ _ (by rw [zk_1]; omega) (by rw [zk_1]; omega), zk_1]
                  refine lv_iinc (v := y27) (lv' := [(2, .int y27), (1, .int y26), (0, .ref (ad 60 0))]) hx hb dX12_one_155 hl (k := 1) rfl (by rw [ey27]; rfl) (by decide) rfl (fun ls hl => ?_)
                  refine lv_goto (tgt := 133) hx hb dX12_one_158 (by decide) ?_
                  exact ih_lp y27 y26 (by omega) (by omega) ls (lv_sub hl [0, 1, 2] rfl)
            exact lp _ x9 0 (Nat.lt_succ_self _) (by omega) ls (lv_sub hl [0, 1, 2] rfl)
          · refine lv_aload_n hx hb dX12_one_121 rfl (lv_at hl 0 rfl) ?_
            refine fm_ci (va_runV (As := []) (rest := []) ⟨hx, hb, hml, hown, hts⟩ (fc_X12_wrong l D ad C nb M hI) (cwV 0 hts gX12_one_X12_wrong rfl rfl rfl (by decide +kernel) ⟨Nat.le_of_ble_eq_true rfl, Nat.le_of_ble_eq_true rfl⟩) (fm_preV hc hw hS kl_60 sh_60 rfl) rfl rfl hl.1 rfl (lv_room (Nat.le_of_ble_eq_true rfl)) dX12_one_122 ⟨by decide +kernel, by decide +kernel⟩) hS hc (fun r28 M29 H locs hr28 hw hS => ?_)
            obtain ⟨hI, hEM29, hr28⟩ := hr28
            have hE := hE.tr hEM29 (by decide)
            have mM29_60_63 : (M29.1 60 0 63).toInt = (M.1 60 0 63).toInt := by rw [(hEM29 60 0 63 (by decide)).1]
            have mM29_60_64 : (M29.1 60 0 64).toInt = (M.1 60 0 64).toInt := by rw [(hEM29 60 0 64 (by decide)).1]
            have mM29_60_65 : (M29.1 60 0 65).toInt = (M.1 60 0 65).toInt := by rw [(hEM29 60 0 65 (by decide)).1]
            have mM29_60_66 : (M29.1 60 0 66).toInt = (M.1 60 0 66).toInt := by rw [(hEM29 60 0 66 (by decide)).1]
            have qx9 : x9.toInt = (M.1 60 0 64).toInt := by rw [ex9]
            exact W.iret (v := r28) hx hb hr (fun t ht hW => ⟨⟨r28, M29, rfl, ⟨hI, hE, ⟨by omega, by omega, by omega⟩⟩, by show fm_at D ad C nb _ t.heap; rw [ht]; exact hw⟩, hS.F ht⟩) hS.2.2 dX12_one_125
        · refine fx_if_eq (tgt := 167) hx hb dX12_one_105 (by decide) zk_0 (fun c30 => ?_) (fun c30 => by exfalso; omega)
          have jt : ∀ (jt_1 : Int32), ((-1) ≤ jt_1.toInt ∧ jt_1.toInt ≤ 5) → ∀ (ls : Array Slot), lv_has ls 3 [(0, .ref (ad 60 0)), (1, .int jt_1)] → W p l e (headSpec wsX12_one ({ frames := 17, cells := 0, slots := 0, locals := 368 })).room s m ([.ref (ad 60 0)] : List Value).toArray below meth c s.heap [] 0 0 (MQ below (va_Qi (fun (r : Int32) (u : fm_M) => fm_I nb ad u ∧ fm_same [60064, 60065, 60066, 60067] M u ∧ ((M.1 60 0 64).toInt ≤ (u.1 60 0 64).toInt ∧ (M.1 60 0 66).toInt ≤ (u.1 60 0 66).toInt ∧ (u.1 60 0 64).toInt ≤ (u.1 60 0 65).toInt)) (fun u t => fm_at D ad C nb u t.heap) (fm_A nb ad)) ([.ref (ad 60 0)] : List Value).toArray s 0 0 (fm_A nb ad)) (F0 m 253 ls []) := by
            intro jt_1 b_jt_1 ls hl
            refine lv_iload_n hx hb dX12_one_253 rfl (lv_at hl 1 rfl) ?_
            refine fx_if_ge (tgt := 262) hx hb dX12_one_254 (by decide) rfl (fun c31 => ?_) (fun c31 => ?_)
            · refine lv_aload_n hx hb dX12_one_262 rfl (lv_at hl 0 rfl) ?_
              refine fm_cv (va_runV (As := []) (rest := []) ⟨hx, hb, hml, hown, hts⟩ (fc_X12_next l D ad C nb M hI) (cwV 0 hts gX12_one_X12_next rfl rfl rfl (by decide +kernel) ⟨Nat.le_of_ble_eq_true rfl, Nat.le_of_ble_eq_true rfl⟩) (fm_preV hc hw hS kl_60 sh_60 rfl) rfl rfl hl.1 rfl (lv_room (Nat.le_of_ble_eq_true rfl)) dX12_one_263 ⟨by decide +kernel, by decide +kernel⟩) hS hc (fun M33 H locs hr32 hw hS => ?_)
              obtain ⟨hI, hEM33, hr32⟩ := hr32
              have hE := hE.tr hEM33 (by decide)
              have mM33_60_63 : (M33.1 60 0 63).toInt = (M.1 60 0 63).toInt := by rw [(hEM33 60 0 63 (by decide)).1]
              have mM33_60_66 : (M33.1 60 0 66).toInt = (M.1 60 0 66).toInt := by rw [(hEM33 60 0 66 (by decide)).1]
              refine lv_aload_n hx hb dX12_one_266 rfl (lv_at hl 0 rfl) ?_
              refine fm_getG (a := 60) (j := 68) (T := TX12) (N := 79) hx hb hts hinX12 hown hc hw kl_60 sh_60 rfl (by decide) rfl (hI.to kl_60 tg_60_68) (hts (.fieldLink RX12 143 "RedTentModel" "names" "[I") (List.mem_cons_of_mem _ tw_5_188)) (fun _ h9 => h9) dX12_one_267 ?_
              refine lv_iload_n hx hb dX12_one_270 rfl (lv_at hl 1 rfl) ?_
              refine fm_iald (a := 168) hx hb hc hw hI kl_168 sh_168 ty_168 bd_168 (by omega) dX12_one_271 (fun x34 ex34 bx34 => ?_)
              have qx9 : x9.toInt = (M.1 60 0 64).toInt := by rw [ex9]
              exact W.iret (v := x34) hx hb hr (fun t ht hW => ⟨⟨x34, M33, rfl, ⟨hI, hE, ⟨by omega, by omega, by omega⟩⟩, by show fm_at D ad C nb _ t.heap; rw [ht]; exact hw⟩, hS.F ht⟩) hS.2.2 dX12_one_272
            · refine lv_aload_n hx hb dX12_one_257 rfl (lv_at hl 0 rfl) ?_
              refine fm_ci (va_runV (As := []) (rest := []) ⟨hx, hb, hml, hown, hts⟩ (fc_X12_wrong l D ad C nb M hI) (cwV 0 hts gX12_one_X12_wrong rfl rfl rfl (by decide +kernel) ⟨Nat.le_of_ble_eq_true rfl, Nat.le_of_ble_eq_true rfl⟩) (fm_preV hc hw hS kl_60 sh_60 rfl) rfl rfl hl.1 rfl (lv_room (Nat.le_of_ble_eq_true rfl)) dX12_one_258 ⟨by decide +kernel, by decide +kernel⟩) hS hc (fun r35 M36 H locs hr35 hw hS => ?_)
              obtain ⟨hI, hEM36, hr35⟩ := hr35
              have hE := hE.tr hEM36 (by decide)
              have mM36_60_63 : (M36.1 60 0 63).toInt = (M.1 60 0 63).toInt := by rw [(hEM36 60 0 63 (by decide)).1]
              have mM36_60_64 : (M36.1 60 0 64).toInt = (M.1 60 0 64).toInt := by rw [(hEM36 60 0 64 (by decide)).1]
              have mM36_60_65 : (M36.1 60 0 65).toInt = (M.1 60 0 65).toInt := by rw [(hEM36 60 0 65 (by decide)).1]
              have mM36_60_66 : (M36.1 60 0 66).toInt = (M.1 60 0 66).toInt := by rw [(hEM36 60 0 66 (by decide)).1]
              have qx9 : x9.toInt = (M.1 60 0 64).toInt := by rw [ex9]
              exact W.iret (v := r35) hx hb hr (fun t ht hW => ⟨⟨r35, M36, rfl, ⟨hI, hE, ⟨by omega, by omega, by omega⟩⟩, by show fm_at D ad C nb _ t.heap; rw [ht]; exact hw⟩, hS.F ht⟩) hS.2.2 dX12_one_261
          refine lv_aload_n hx hb dX12_one_167 rfl (lv_at hl 0 rfl) ?_
          obtain ⟨q37, vq37, hQq37, hRq37⟩ := hc.2.2.2.2.1 (RX12, 410, "strength", [115, 116, 114, 101, 110, 103, 116, 104]) (by decide)
          refine va_ldcwS hx hb hown hRq37 dX12_one_168 ?_
          refine vp_callSi (va_Run.run (va_runV (As := [.ref q37]) (rest := []) ⟨hx, hb, hml, hown, hts⟩ (fc_X12_is l D ad C nb M hI q37 vq37 8 (fun j => ([115, 116, 114, 101, 110, 103, 116, 104] : List Int32).getD j 0) (by decide)) (cwV 1 hts gX12_one_X12_is rfl rfl rfl (by decide +kernel) ⟨Nat.le_of_ble_eq_true rfl, Nat.le_of_ble_eq_true rfl⟩) (fm_preVS hc hw hS hQq37 kl_60 sh_60 rfl) rfl rfl hl.1 rfl (lv_room (Nat.le_of_ble_eq_true rfl)) dX12_one_171 ⟨by decide +kernel, by decide +kernel⟩)) (fun r38 hr38 => ?_)
          have ir38 := hr38.2
          have jr38 := hr38.1
          refine fx_if_eq (tgt := 181) hx hb dX12_one_174 (by decide) rfl (fun c39 => ?_) (fun c39 => ?_)
          · refine lv_aload_n hx hb dX12_one_181 rfl (lv_at hl 0 rfl) ?_
            obtain ⟨q40, vq40, hQq40, hRq40⟩ := hc.2.2.2.2.1 (RX12, 411, "hurt", [104, 117, 114, 116]) (by decide)
            refine va_ldcwS hx hb hown hRq40 dX12_one_182 ?_
            refine vp_callSi (va_Run.run (va_runV (As := [.ref q40]) (rest := []) ⟨hx, hb, hml, hown, hts⟩ (fc_X12_is l D ad C nb M hI q40 vq40 4 (fun j => ([104, 117, 114, 116] : List Int32).getD j 0) (by decide)) (cwV 1 hts gX12_one_X12_is rfl rfl rfl (by decide +kernel) ⟨Nat.le_of_ble_eq_true rfl, Nat.le_of_ble_eq_true rfl⟩) (fm_preVS hc hw hS hQq40 kl_60 sh_60 rfl) rfl rfl hl.1 rfl (lv_room (Nat.le_of_ble_eq_true rfl)) dX12_one_185 ⟨by decide +kernel, by decide +kernel⟩)) (fun r41 hr41 => ?_)
            have ir41 := hr41.2
            have jr41 := hr41.1
            refine fx_if_eq (tgt := 195) hx hb dX12_one_188 (by decide) rfl (fun c42 => ?_) (fun c42 => ?_)
            · refine lv_aload_n hx hb dX12_one_195 rfl (lv_at hl 0 rfl) ?_
              obtain ⟨q43, vq43, hQq43, hRq43⟩ := hc.2.2.2.2.1 (RX12, 412, "skill", [115, 107, 105, 108, 108]) (by decide)
              refine va_ldcwS hx hb hown hRq43 dX12_one_196 ?_
              refine vp_callSi (va_Run.run (va_runV (As := [.ref q43]) (rest := []) ⟨hx, hb, hml, hown, hts⟩ (fc_X12_is l D ad C nb M hI q43 vq43 5 (fun j => ([115, 107, 105, 108, 108] : List Int32).getD j 0) (by decide)) (cwV 1 hts gX12_one_X12_is rfl rfl rfl (by decide +kernel) ⟨Nat.le_of_ble_eq_true rfl, Nat.le_of_ble_eq_true rfl⟩) (fm_preVS hc hw hS hQq43 kl_60 sh_60 rfl) rfl rfl hl.1 rfl (lv_room (Nat.le_of_ble_eq_true rfl)) dX12_one_199 ⟨by decide +kernel, by decide +kernel⟩)) (fun r44 hr44 => ?_)
              have ir44 := hr44.2
              have jr44 := hr44.1
              refine fx_if_eq (tgt := 209) hx hb dX12_one_202 (by decide) rfl (fun c45 => ?_) (fun c45 => ?_)
              · refine lv_aload_n hx hb dX12_one_209 rfl (lv_at hl 0 rfl) ?_
                obtain ⟨q46, vq46, hQq46, hRq46⟩ := hc.2.2.2.2.1 (RX12, 413, "hour", [104, 111, 117, 114]) (by decide)
                refine va_ldcwS hx hb hown hRq46 dX12_one_210 ?_
                refine vp_callSi (va_Run.run (va_runV (As := [.ref q46]) (rest := []) ⟨hx, hb, hml, hown, hts⟩ (fc_X12_is l D ad C nb M hI q46 vq46 4 (fun j => ([104, 111, 117, 114] : List Int32).getD j 0) (by decide)) (cwV 1 hts gX12_one_X12_is rfl rfl rfl (by decide +kernel) ⟨Nat.le_of_ble_eq_true rfl, Nat.le_of_ble_eq_true rfl⟩) (fm_preVS hc hw hS hQq46 kl_60 sh_60 rfl) rfl rfl hl.1 rfl (lv_room (Nat.le_of_ble_eq_true rfl)) dX12_one_213 ⟨by decide +kernel, by decide +kernel⟩)) (fun r47 hr47 => ?_)
                have ir47 := hr47.2
                have jr47 := hr47.1
                refine fx_if_eq (tgt := 223) hx hb dX12_one_216 (by decide) rfl (fun c48 => ?_) (fun c48 => ?_)
                · refine lv_aload_n hx hb dX12_one_223 rfl (lv_at hl 0 rfl) ?_
                  obtain ⟨q49, vq49, hQq49, hRq49⟩ := hc.2.2.2.2.1 (RX12, 414, "fuel", [102, 117, 101, 108]) (by decide)
                  refine va_ldcwS hx hb hown hRq49 dX12_one_224 ?_
                  refine vp_callSi (va_Run.run (va_runV (As := [.ref q49]) (rest := []) ⟨hx, hb, hml, hown, hts⟩ (fc_X12_is l D ad C nb M hI q49 vq49 4 (fun j => ([102, 117, 101, 108] : List Int32).getD j 0) (by decide)) (cwV 1 hts gX12_one_X12_is rfl rfl rfl (by decide +kernel) ⟨Nat.le_of_ble_eq_true rfl, Nat.le_of_ble_eq_true rfl⟩) (fm_preVS hc hw hS hQq49 kl_60 sh_60 rfl) rfl rfl hl.1 rfl (lv_room (Nat.le_of_ble_eq_true rfl)) dX12_one_227 ⟨by decide +kernel, by decide +kernel⟩)) (fun r50 hr50 => ?_)
                  have ir50 := hr50.2
                  have jr50 := hr50.1
                  refine fx_if_eq (tgt := 237) hx hb dX12_one_230 (by decide) rfl (fun c51 => ?_) (fun c51 => ?_)
                  · refine lv_aload_n hx hb dX12_one_237 rfl (lv_at hl 0 rfl) ?_
                    obtain ⟨q52, vq52, hQq52, hRq52⟩ := hc.2.2.2.2.1 (RX12, 415, "far", [102, 97, 114]) (by decide)
                    refine va_ldcwS hx hb hown hRq52 dX12_one_238 ?_
                    refine vp_callSi (va_Run.run (va_runV (As := [.ref q52]) (rest := []) ⟨hx, hb, hml, hown, hts⟩ (fc_X12_is l D ad C nb M hI q52 vq52 3 (fun j => ([102, 97, 114] : List Int32).getD j 0) (by decide)) (cwV 1 hts gX12_one_X12_is rfl rfl rfl (by decide +kernel) ⟨Nat.le_of_ble_eq_true rfl, Nat.le_of_ble_eq_true rfl⟩) (fm_preVS hc hw hS hQq52 kl_60 sh_60 rfl) rfl rfl hl.1 rfl (lv_room (Nat.le_of_ble_eq_true rfl)) dX12_one_241 ⟨by decide +kernel, by decide +kernel⟩)) (fun r53 hr53 => ?_)
                    have ir53 := hr53.2
                    have jr53 := hr53.1
                    refine fx_if_eq (tgt := 251) hx hb dX12_one_244 (by decide) rfl (fun c54 => ?_) (fun c54 => ?_)
                    · refine lv_iconst (v := (-1)) hx hb dX12_one_251 (by decide) ?_
                      refine lv_istore_n (lv' := [(1, .int (-1)), (0, .ref (ad 60 0))]) hx hb dX12_one_252 rfl hl (by decide) rfl (fun ls hl => ?_)
                      exact jt (-1) (by decide) ls (lv_sub hl [1, 0] rfl)
                    · refine lv_iconst (v := 5) hx hb dX12_one_247 (by decide) ?_
                      refine lv_goto (tgt := 252) hx hb dX12_one_248 (by decide) ?_
                      refine lv_istore_n (lv' := [(1, .int 5), (0, .ref (ad 60 0))]) hx hb dX12_one_252 rfl hl (by decide) rfl (fun ls hl => ?_)
                      exact jt 5 (by decide) ls (lv_sub hl [1, 0] rfl)
                  · refine lv_iconst (v := 4) hx hb dX12_one_233 (by decide) ?_
                    refine lv_goto (tgt := 252) hx hb dX12_one_234 (by decide) ?_
                    refine lv_istore_n (lv' := [(1, .int 4), (0, .ref (ad 60 0))]) hx hb dX12_one_252 rfl hl (by decide) rfl (fun ls hl => ?_)
                    exact jt 4 (by decide) ls (lv_sub hl [1, 0] rfl)
                · refine lv_iconst (v := 3) hx hb dX12_one_219 (by decide) ?_
                  refine lv_goto (tgt := 252) hx hb dX12_one_220 (by decide) ?_
                  refine lv_istore_n (lv' := [(1, .int 3), (0, .ref (ad 60 0))]) hx hb dX12_one_252 rfl hl (by decide) rfl (fun ls hl => ?_)
                  exact jt 3 (by decide) ls (lv_sub hl [1, 0] rfl)
              · refine lv_iconst (v := 2) hx hb dX12_one_205 (by decide) ?_
                refine lv_goto (tgt := 252) hx hb dX12_one_206 (by decide) ?_
                refine lv_istore_n (lv' := [(1, .int 2), (0, .ref (ad 60 0))]) hx hb dX12_one_252 rfl hl (by decide) rfl (fun ls hl => ?_)
                exact jt 2 (by decide) ls (lv_sub hl [1, 0] rfl)
            · refine lv_iconst (v := 1) hx hb dX12_one_191 (by decide) ?_
              refine lv_goto (tgt := 252) hx hb dX12_one_192 (by decide) ?_
              refine lv_istore_n (lv' := [(1, .int 1), (0, .ref (ad 60 0))]) hx hb dX12_one_252 rfl hl (by decide) rfl (fun ls hl => ?_)
              exact jt 1 (by decide) ls (lv_sub hl [1, 0] rfl)
          · refine lv_iconst (v := 0) hx hb dX12_one_177 (by decide) ?_
            refine lv_goto (tgt := 252) hx hb dX12_one_178 (by decide) ?_
            refine lv_istore_n (lv' := [(1, .int 0), (0, .ref (ad 60 0))]) hx hb dX12_one_252 rfl hl (by decide) rfl (fun ls hl => ?_)
            exact jt 0 (by decide) ls (lv_sub hl [1, 0] rfl)
      · refine lv_aload_n hx hb dX12_one_56 rfl (lv_at hl 0 rfl) ?_
        refine fm_ci (va_runV (As := []) (rest := []) ⟨hx, hb, hml, hown, hts⟩ (fc_X12_opens l D ad C nb M hI) (cwV 0 hts gX12_one_X12_opens rfl rfl rfl (by decide +kernel) ⟨Nat.le_of_ble_eq_true rfl, Nat.le_of_ble_eq_true rfl⟩) (fm_preV hc hw hS kl_60 sh_60 rfl) rfl rfl hl.1 rfl (lv_room (Nat.le_of_ble_eq_true rfl)) dX12_one_57 ⟨by decide +kernel, by decide +kernel⟩) hS hc (fun r55 M56 H locs hr55 hw hS => ?_)
        obtain ⟨hI, hEM56, hr55⟩ := hr55
        have hE := hE.tr hEM56 (by decide)
        have mM56_60_63 : (M56.1 60 0 63).toInt = (M.1 60 0 63).toInt := by rw [(hEM56 60 0 63 (by decide)).1]
        rcases hr55 with ⟨rfl, ahr55, bhr55, dhr55⟩ | ⟨rfl, ahr55, bhr55, dhr55⟩
        · refine fx_if_ne (tgt := 65) hx hb dX12_one_60 (by decide) zk_1 (fun c57 => ?_) (fun c57 => by exfalso; omega)
          refine lv_aload_n hx hb dX12_one_65 rfl (lv_at hl 0 rfl) ?_
          have d58_63 := hI.bd (k := 0) bd_60_63
          have d58_64 := hI.bd (k := 0) bd_60_64
          have d58_65 := hI.bd (k := 0) bd_60_65
          have d58_66 := hI.bd (k := 0) bd_60_66
          refine fm_ci (va_runV (As := []) (rest := []) ⟨hx, hb, hml, hown, hts⟩ (fc_X12_either_4 l D ad C nb M56 hI (by omega) (by omega)) (cwV 0 hts gX12_one_X12_either rfl rfl rfl (by decide +kernel) ⟨Nat.le_of_ble_eq_true rfl, Nat.le_of_ble_eq_true rfl⟩) (fm_preV hc hw hS kl_60 sh_60 rfl) rfl rfl hl.1 rfl (lv_room (Nat.le_of_ble_eq_true rfl)) dX12_one_66 ⟨by decide +kernel, by decide +kernel⟩) hS hc (fun r59 M60 H locs hr59 hw hS => ?_)
          obtain ⟨hI, hEM60, hr59⟩ := hr59
          have hE := hE.tr hEM60 (by decide)
          have mM60_60_63 : (M60.1 60 0 63).toInt = (M56.1 60 0 63).toInt := by rw [(hEM60 60 0 63 (by decide)).1]
          obtain ⟨ahr59, bhr59, dhr59⟩ := hr59
          refine lv_istore_n (lv' := [(1, .int r59), (0, .ref (ad 60 0))]) hx hb dX12_one_69 rfl hl (by decide) rfl (fun ls hl => ?_)
          refine lv_aload_n hx hb dX12_one_70 rfl (lv_at hl 1 rfl) ?_
          obtain ⟨q61, vq61, hQq61, hRq61⟩ := hc.2.2.2.2.1 (RX12, 408, ")", [41]) (by decide)
          refine va_ldcwS hx hb hown hRq61 dX12_one_71 ?_
          refine fm_ci (va_runV (As := [.ref q61]) (rest := []) ⟨hx, hb, hml, hown, hts⟩ (fc_X12_take l D ad C nb M60 hI q61 vq61 1 (fun j => ([41] : List Int32).getD j 0) (by decide) (by omega)) (cwV 1 hts gX12_one_X12_take rfl rfl rfl (by decide +kernel) ⟨Nat.le_of_ble_eq_true rfl, Nat.le_of_ble_eq_true rfl⟩) (fm_preVS hc hw hS hQq61 kl_60 sh_60 rfl) rfl rfl hl.1 rfl (lv_room (Nat.le_of_ble_eq_true rfl)) dX12_one_74 ⟨by decide +kernel, by decide +kernel⟩) hS hc (fun r62 M63 H locs hr62 hw hS => ?_)
          obtain ⟨hI, hEM63, hr62⟩ := hr62
          have hE := hE.tr hEM63 (by decide)
          have mM63_60_63 : (M63.1 60 0 63).toInt = (M60.1 60 0 63).toInt := by rw [(hEM63 60 0 63 (by decide)).1]
          have mM63_60_66 : (M63.1 60 0 66).toInt = (M60.1 60 0 66).toInt := by rw [(hEM63 60 0 66 (by decide)).1]
          rcases hr62 with ⟨rfl, ahr62, bhr62⟩ | ⟨rfl, ahr62, bhr62⟩
          · refine fx_if_ne (tgt := 85) hx hb dX12_one_77 (by decide) zk_1 (fun c64 => ?_) (fun c64 => by exfalso; omega)
            refine lv_aload_n hx hb dX12_one_85 rfl (lv_at hl 1 rfl) ?_
            refine lv_dup hx hb dX12_one_86 rfl ?_
            refine fm_getI (a := 60) (j := 66) (T := TX12) (N := 79) hx hb hts hinX12 hown hc hw hI kl_60 sh_60 rfl (by decide) rfl bd_60_66 (hts (.fieldLink RX12 372 "RedTentModel" "open" "I") (List.mem_cons_of_mem _ tw_5_186)) (fun _ h9 => h9) dX12_one_87 (fun x65 ex65 bx65 => ?_)
            have wx65 : x65.toInt = (M63.1 60 0 66).toInt := by rw [ex65]
            refine lv_iconst (v := 1) hx hb dX12_one_90 (by decide) ?_
            refine fx_isub hx hb dX12_one_91 rfl zk_1 (by omega) (fun y66 ey66 ty66 => ?_)
            refine fm_putI (a := 60) (j := 66) (T := TX12) (N := 79) hx hb hts hinX12 tyX12 tyX12_ok nmX12 hown hc hw hI hE hS kl_60 sh_60 od_60 rfl (by decide) rfl bd_60_66 (hts (.fieldLink RX12 372 "RedTentModel" "open" "I") (List.mem_cons_of_mem _ tw_5_186)) (fun _ h9 => h9) rfl (by decide +kernel) (by omega) (by decide) (by decide) dX12_one_92 (fun M67 H locs eM67 hw hI hE hS => ?_)
            have mM67_60_63 : (M67.1 60 0 63).toInt = (M63.1 60 0 63).toInt := by rw [eM67, fm_wI_nj (fun z => absurd z.2.2 (by decide))]
            have mM67_60_64 : (M67.1 60 0 64).toInt = (M63.1 60 0 64).toInt := by rw [eM67, fm_wI_nj (fun z => absurd z.2.2 (by decide))]
            have mM67_60_65 : (M67.1 60 0 65).toInt = (M63.1 60 0 65).toInt := by rw [eM67, fm_wI_nj (fun z => absurd z.2.2 (by decide))]
            have mM67_60_66 : (M67.1 60 0 66).toInt = y66.toInt := by rw [eM67, fm_wI_at]
            refine lv_iload_n hx hb dX12_one_95 rfl (lv_at hl 0 rfl) ?_
            exact W.iret (v := r59) hx hb hr (fun t ht hW => ⟨⟨r59, M67, rfl, ⟨hI, hE, ⟨by omega, by omega, by omega⟩⟩, by show fm_at D ad C nb _ t.heap; rw [ht]; exact hw⟩, hS.F ht⟩) hS.2.2 dX12_one_96
          · refine fx_if_ne (tgt := 85) hx hb dX12_one_77 (by decide) zk_0 (fun c68 => by exfalso; omega) (fun c68 => ?_)
            refine lv_aload_n hx hb dX12_one_80 rfl (lv_at hl 1 rfl) ?_
            refine fm_ci (va_runV (As := []) (rest := []) ⟨hx, hb, hml, hown, hts⟩ (fc_X12_wrong l D ad C nb M63 hI) (cwV 0 hts gX12_one_X12_wrong rfl rfl rfl (by decide +kernel) ⟨Nat.le_of_ble_eq_true rfl, Nat.le_of_ble_eq_true rfl⟩) (fm_preV hc hw hS kl_60 sh_60 rfl) rfl rfl hl.1 rfl (lv_room (Nat.le_of_ble_eq_true rfl)) dX12_one_81 ⟨by decide +kernel, by decide +kernel⟩) hS hc (fun r69 M70 H locs hr69 hw hS => ?_)
            obtain ⟨hI, hEM70, hr69⟩ := hr69
            have hE := hE.tr hEM70 (by decide)
            have mM70_60_63 : (M70.1 60 0 63).toInt = (M63.1 60 0 63).toInt := by rw [(hEM70 60 0 63 (by decide)).1]
            have mM70_60_64 : (M70.1 60 0 64).toInt = (M63.1 60 0 64).toInt := by rw [(hEM70 60 0 64 (by decide)).1]
            have mM70_60_65 : (M70.1 60 0 65).toInt = (M63.1 60 0 65).toInt := by rw [(hEM70 60 0 65 (by decide)).1]
            have mM70_60_66 : (M70.1 60 0 66).toInt = (M63.1 60 0 66).toInt := by rw [(hEM70 60 0 66 (by decide)).1]
            exact W.iret (v := r69) hx hb hr (fun t ht hW => ⟨⟨r69, M70, rfl, ⟨hI, hE, ⟨by omega, by omega, by omega⟩⟩, by show fm_at D ad C nb _ t.heap; rw [ht]; exact hw⟩, hS.F ht⟩) hS.2.2 dX12_one_84
        · refine fx_if_ne (tgt := 65) hx hb dX12_one_60 (by decide) zk_0 (fun c71 => by exfalso; omega) (fun c71 => ?_)
          refine lv_iconst (v := 0) hx hb dX12_one_63 (by decide) ?_
          exact W.iret (v := 0) hx hb hr (fun t ht hW => ⟨⟨0, M56, rfl, ⟨hI, hE, ⟨by omega, by omega, by omega⟩⟩, by show fm_at D ad C nb _ t.heap; rw [ht]; exact hw⟩, hS.F ht⟩) hS.2.2 dX12_one_64
    · refine lv_aload_n hx hb dX12_one_19 rfl (lv_at hl 0 rfl) ?_
      refine fm_ci (va_runV (As := []) (rest := []) ⟨hx, hb, hml, hown, hts⟩ (fc_X12_opens l D ad C nb M hI) (cwV 0 hts gX12_one_X12_opens rfl rfl rfl (by decide +kernel) ⟨Nat.le_of_ble_eq_true rfl, Nat.le_of_ble_eq_true rfl⟩) (fm_preV hc hw hS kl_60 sh_60 rfl) rfl rfl hl.1 rfl (lv_room (Nat.le_of_ble_eq_true rfl)) dX12_one_20 ⟨by decide +kernel, by decide +kernel⟩) hS hc (fun r72 M73 H locs hr72 hw hS => ?_)
      obtain ⟨hI, hEM73, hr72⟩ := hr72
      have hE := hE.tr hEM73 (by decide)
      have mM73_60_63 : (M73.1 60 0 63).toInt = (M.1 60 0 63).toInt := by rw [(hEM73 60 0 63 (by decide)).1]
      rcases hr72 with ⟨rfl, ahr72, bhr72, dhr72⟩ | ⟨rfl, ahr72, bhr72, dhr72⟩
      · refine fx_if_ne (tgt := 28) hx hb dX12_one_23 (by decide) zk_1 (fun c74 => ?_) (fun c74 => by exfalso; omega)
        refine lv_aload_n hx hb dX12_one_28 rfl (lv_at hl 0 rfl) ?_
        have d75_63 := hI.bd (k := 0) bd_60_63
        have d75_64 := hI.bd (k := 0) bd_60_64
        have d75_65 := hI.bd (k := 0) bd_60_65
        have d75_66 := hI.bd (k := 0) bd_60_66
        refine fm_ci (va_runV (As := []) (rest := []) ⟨hx, hb, hml, hown, hts⟩ (fc_X12_one_4 l D ad C nb M73 hI (by omega) (by omega)) (cwV 0 hts gX12_one_X12_one rfl rfl rfl (by decide +kernel) ⟨Nat.le_of_ble_eq_true rfl, Nat.le_of_ble_eq_true rfl⟩) (fm_preV hc hw hS kl_60 sh_60 rfl) rfl rfl hl.1 rfl (lv_room (Nat.le_of_ble_eq_true rfl)) dX12_one_29 ⟨by decide +kernel, by decide +kernel⟩) hS hc (fun r76 M77 H locs hr76 hw hS => ?_)
        obtain ⟨hI, hEM77, hr76⟩ := hr76
        have hE := hE.tr hEM77 (by decide)
        have mM77_60_63 : (M77.1 60 0 63).toInt = (M73.1 60 0 63).toInt := by rw [(hEM77 60 0 63 (by decide)).1]
        obtain ⟨ahr76, bhr76, dhr76⟩ := hr76
        refine lv_istore_n (lv' := [(1, .int r76), (0, .ref (ad 60 0))]) hx hb dX12_one_32 rfl hl (by decide) rfl (fun ls hl => ?_)
        refine lv_aload_n hx hb dX12_one_33 rfl (lv_at hl 1 rfl) ?_
        refine lv_dup hx hb dX12_one_34 rfl ?_
        refine fm_getI (a := 60) (j := 66) (T := TX12) (N := 79) hx hb hts hinX12 hown hc hw hI kl_60 sh_60 rfl (by decide) rfl bd_60_66 (hts (.fieldLink RX12 372 "RedTentModel" "open" "I") (List.mem_cons_of_mem _ tw_5_186)) (fun _ h9 => h9) dX12_one_35 (fun x78 ex78 bx78 => ?_)
        have wx78 : x78.toInt = (M77.1 60 0 66).toInt := by rw [ex78]
        refine lv_iconst (v := 1) hx hb dX12_one_38 (by decide) ?_
        refine fx_isub hx hb dX12_one_39 rfl zk_1 (by omega) (fun y79 ey79 ty79 => ?_)
        refine fm_putI (a := 60) (j := 66) (T := TX12) (N := 79) hx hb hts hinX12 tyX12 tyX12_ok nmX12 hown hc hw hI hE hS kl_60 sh_60 od_60 rfl (by decide) rfl bd_60_66 (hts (.fieldLink RX12 372 "RedTentModel" "open" "I") (List.mem_cons_of_mem _ tw_5_186)) (fun _ h9 => h9) rfl (by decide +kernel) (by omega) (by decide) (by decide) dX12_one_40 (fun M80 H locs eM80 hw hI hE hS => ?_)
        have mM80_60_63 : (M80.1 60 0 63).toInt = (M77.1 60 0 63).toInt := by rw [eM80, fm_wI_nj (fun z => absurd z.2.2 (by decide))]
        have mM80_60_64 : (M80.1 60 0 64).toInt = (M77.1 60 0 64).toInt := by rw [eM80, fm_wI_nj (fun z => absurd z.2.2 (by decide))]
        have mM80_60_65 : (M80.1 60 0 65).toInt = (M77.1 60 0 65).toInt := by rw [eM80, fm_wI_nj (fun z => absurd z.2.2 (by decide))]
        have mM80_60_66 : (M80.1 60 0 66).toInt = y79.toInt := by rw [eM80, fm_wI_at]
        refine lv_iload_n hx hb dX12_one_43 rfl (lv_at hl 0 rfl) ?_
        refine lv_ineg hx hb dX12_one_44 ?_
        refine lv_topi (fun y81 ey81 => ?_)
        exact W.iret (v := y81) hx hb hr (fun t ht hW => ⟨⟨y81, M80, rfl, ⟨hI, hE, ⟨by omega, by omega, by omega⟩⟩, by show fm_at D ad C nb _ t.heap; rw [ht]; exact hw⟩, hS.F ht⟩) hS.2.2 dX12_one_45
      · refine fx_if_ne (tgt := 28) hx hb dX12_one_23 (by decide) zk_0 (fun c82 => by exfalso; omega) (fun c82 => ?_)
        refine lv_iconst (v := 0) hx hb dX12_one_26 (by decide) ?_
        exact W.iret (v := 0) hx hb hr (fun t ht hW => ⟨⟨0, M73, rfl, ⟨hI, hE, ⟨by omega, by omega, by omega⟩⟩, by show fm_at D ad C nb _ t.heap; rw [ht]; exact hw⟩, hS.F ht⟩) hS.2.2 dX12_one_27
  · refine lv_iconst (v := 0) hx hb dX12_one_7 (by decide) ?_
    exact W.iret (v := 0) hx hb hr (fun t ht hW => ⟨⟨0, M, rfl, ⟨hI, hE, ⟨by omega, by omega, by omega⟩⟩, by show fm_at D ad C nb _ t.heap; rw [ht]; exact hw⟩, hS.F ht⟩) hS.2.2 dX12_one_8
set_option maxHeartbeats 400000 in
set_option maxRecDepth 20000 in
theorem fc_X12_product_3 (l : Launch) (D : va_G) (ad : Nat → Nat → Nat) (C : Nat → Nat → ClassId) (nb : Nat) (M : fm_M) (hI : fm_I nb ad M) (hft : (M.1 60 0 64).toInt ≤ (M.1 60 0 65).toInt) (hop : 3 ≤ (M.1 60 0 66).toInt) : Met l yX12_product wsX12_product ({ frames := 18, cells := 0, slots := 0, locals := 390 }) (va_Pc [.ref (ad 60 0)] (fm_P D ad C nb M)) (va_Qi (fun (r : Int32) (u : fm_M) => fm_I nb ad u ∧ fm_same [60064, 60065, 60066, 60067] M u ∧ ((M.1 60 0 64).toInt ≤ (u.1 60 0 64).toInt ∧ (M.1 60 0 66).toInt ≤ (u.1 60 0 66).toInt ∧ (u.1 60 0 64).toInt ≤ (u.1 60 0 65).toInt)) (fun u t => fm_at D ad C nb u t.heap) (fm_A nb ad)) 0 0 (fm_A nb ad) := by
  refine Met.ofW (cc := cX12_product) (maxL := 2) (ret := (some .int)) (by decide) rfl ?_
  intro p e s m args below meth c s₁ B hml hv
  obtain ⟨rfl, hw, hc⟩ := hv
  have hx := B.exec
  have hb := B.bytes
  have hr := B.returns
  have hts := atoms_spec (ws := wsX12_product) B.pre
  have hown : s.vm.findClass RX12 = some m.cls := findClass_of_methodNamed B.named
  have hS : va_S (fm_A nb ad) s.heap s.heap [] := va_S.rf
  have hE : fm_same [60064, 60065, 60066, 60067] M M := fm_same.rf
  have hl := lv_entry ([.ref (ad 60 0)]) (n := 2) (Nat.le_of_ble_eq_true rfl)
  rw [lg_entry_eq]
  generalize (lg_sl ([.ref (ad 60 0)]) ++ List.replicate (2 - (lg_sl ([.ref (ad 60 0)])).length) Slot.unset).toArray = ls at hl ⊢
  have hl : lv_has ls 2 [(0, .ref (ad 60 0))] := hl
  refine lv_aload_n hx hb dX12_product_0 rfl (lv_at hl 0 rfl) ?_
  have d1_63 := hI.bd (k := 0) bd_60_63
  have d1_64 := hI.bd (k := 0) bd_60_64
  have d1_65 := hI.bd (k := 0) bd_60_65
  have d1_66 := hI.bd (k := 0) bd_60_66
  refine fm_ci (va_runV (As := []) (rest := []) ⟨hx, hb, hml, hown, hts⟩ (fc_X12_one_3 l D ad C nb M hI (by omega) (by omega)) (cwV 0 hts gX12_product_X12_one rfl rfl rfl (by decide +kernel) ⟨Nat.le_of_ble_eq_true rfl, Nat.le_of_ble_eq_true rfl⟩) (fm_preV hc hw hS kl_60 sh_60 rfl) rfl rfl hl.1 rfl (lv_room (Nat.le_of_ble_eq_true rfl)) dX12_product_1 ⟨by decide +kernel, by decide +kernel⟩) hS hc (fun r2 M3 H locs hr2 hw hS => ?_)
  obtain ⟨hI, hEM3, hr2⟩ := hr2
  have hE := hE.tr hEM3 (by decide)
  have mM3_60_63 : (M3.1 60 0 63).toInt = (M.1 60 0 63).toInt := by rw [(hEM3 60 0 63 (by decide)).1]
  obtain ⟨ahr2, bhr2, dhr2⟩ := hr2
  refine lv_istore_n (lv' := [(1, .int r2), (0, .ref (ad 60 0))]) hx hb dX12_product_4 rfl hl (by decide) rfl (fun ls hl => ?_)
  have lp : ∀ (n_lp : Nat) (lp_1 : Int32) (M_lp : fm_M), (161 - (M_lp.1 60 0 64).toInt).toNat < n_lp → ((M.1 60 0 64).toInt ≤ (M_lp.1 60 0 64).toInt ∧ (M.1 60 0 66).toInt ≤ (M_lp.1 60 0 66).toInt ∧ (M_lp.1 60 0 64).toInt ≤ (M_lp.1 60 0 65).toInt) → fm_I nb ad M_lp → fm_same [60064, 60065, 60066, 60067] M M_lp → ∀ (H : Heap) (locs : List Loc), fm_at D ad C nb M_lp H → va_S (fm_A nb ad) s.heap H locs → ∀ (ls : Array Slot), lv_has ls 2 [(1, .int lp_1), (0, .ref (ad 60 0))] → W p l e (headSpec wsX12_product ({ frames := 18, cells := 0, slots := 0, locals := 390 })).room s m ([.ref (ad 60 0)] : List Value).toArray below meth c H locs 0 0 (MQ below (va_Qi (fun (r : Int32) (u : fm_M) => fm_I nb ad u ∧ fm_same [60064, 60065, 60066, 60067] M u ∧ ((M.1 60 0 64).toInt ≤ (u.1 60 0 64).toInt ∧ (M.1 60 0 66).toInt ≤ (u.1 60 0 66).toInt ∧ (u.1 60 0 64).toInt ≤ (u.1 60 0 65).toInt)) (fun u t => fm_at D ad C nb u t.heap) (fm_A nb ad)) ([.ref (ad 60 0)] : List Value).toArray s 0 0 (fm_A nb ad)) (F0 m 5 ls []) := by
    intro n_lp
    induction n_lp with
    | zero => intro lp_1 M_lp hm_lp hv hI hE H locs hw hS ls hl; exact absurd hm_lp (Nat.not_lt_zero _)
    | succ n_lp ih_lp =>
      intro lp_1 M_lp hm_lp hv hI hE H locs hw hS ls hl
      refine lv_aload_n hx hb dX12_product_5 rfl (lv_at hl 1 rfl) ?_
      obtain ⟨q4, vq4, hQq4, hRq4⟩ := hc.2.2.2.2.1 (RX12, 401, "*", [42]) (by decide)
      refine va_ldcwS hx hb hown hRq4 dX12_product_6 ?_
      refine fm_ci (va_runV (As := [.ref q4]) (rest := []) ⟨hx, hb, hml, hown, hts⟩ (fc_X12_take l D ad C nb M_lp hI q4 vq4 1 (fun j => ([42] : List Int32).getD j 0) (by decide) (by omega)) (cwV 1 hts gX12_product_X12_take rfl rfl rfl (by decide +kernel) ⟨Nat.le_of_ble_eq_true rfl, Nat.le_of_ble_eq_true rfl⟩) (fm_preVS hc hw hS hQq4 kl_60 sh_60 rfl) rfl rfl hl.1 rfl (lv_room (Nat.le_of_ble_eq_true rfl)) dX12_product_9 ⟨by decide +kernel, by decide +kernel⟩) hS hc (fun r5 M6 H locs hr5 hw hS => ?_)
      obtain ⟨hI, hEM6, hr5⟩ := hr5
      have hE := hE.tr hEM6 (by decide)
      have mM6_60_63 : (M6.1 60 0 63).toInt = (M_lp.1 60 0 63).toInt := by rw [(hEM6 60 0 63 (by decide)).1]
      have mM6_60_66 : (M6.1 60 0 66).toInt = (M_lp.1 60 0 66).toInt := by rw [(hEM6 60 0 66 (by decide)).1]
      rcases hr5 with ⟨rfl, ahr5, bhr5⟩ | ⟨rfl, ahr5, bhr5⟩
      · refine fx_if_eq (tgt := 25) hx hb dX12_product_12 (by decide) zk_1 (fun c7 => by exfalso; omega) (fun c7 => ?_)
        refine lv_iload_n hx hb dX12_product_15 rfl (lv_at hl 0 rfl) ?_
        refine lv_aload_n hx hb dX12_product_16 rfl (lv_at hl 1 rfl) ?_
        have d8_63 := hI.bd (k := 0) bd_60_63
        have d8_64 := hI.bd (k := 0) bd_60_64
        have d8_65 := hI.bd (k := 0) bd_60_65
        have d8_66 := hI.bd (k := 0) bd_60_66
        refine fm_ci (va_runV (As := []) (rest := [.int lp_1]) ⟨hx, hb, hml, hown, hts⟩ (fc_X12_one_3 l D ad C nb M6 hI (by omega) (by omega)) (cwV 0 hts gX12_product_X12_one rfl rfl rfl (by decide +kernel) ⟨Nat.le_of_ble_eq_true rfl, Nat.le_of_ble_eq_true rfl⟩) (fm_preV hc hw hS kl_60 sh_60 rfl) rfl rfl hl.1 rfl (lv_room (Nat.le_of_ble_eq_true rfl)) dX12_product_17 ⟨by decide +kernel, by decide +kernel⟩) hS hc (fun r9 M10 H locs hr9 hw hS => ?_)
        obtain ⟨hI, hEM10, hr9⟩ := hr9
        have hE := hE.tr hEM10 (by decide)
        have mM10_60_63 : (M10.1 60 0 63).toInt = (M6.1 60 0 63).toInt := by rw [(hEM10 60 0 63 (by decide)).1]
        obtain ⟨ahr9, bhr9, dhr9⟩ := hr9
        refine fx_imulU hx hb dX12_product_20 (fun y11 ey11 => ?_)
        refine lv_istore_n (lv' := [(1, .int y11), (0, .ref (ad 60 0))]) hx hb dX12_product_21 rfl hl (by decide) rfl (fun ls hl => ?_)
        refine lv_goto (tgt := 5) hx hb dX12_product_22 (by decide) ?_
        exact ih_lp y11 M10 (by omega) (by omega) hI hE _ _ hw hS ls (lv_sub hl [0, 1] rfl)
      · refine fx_if_eq (tgt := 25) hx hb dX12_product_12 (by decide) zk_0 (fun c12 => ?_) (fun c12 => by exfalso; omega)
        refine lv_iload_n hx hb dX12_product_25 rfl (lv_at hl 0 rfl) ?_
        exact W.iret (v := lp_1) hx hb hr (fun t ht hW => ⟨⟨lp_1, M6, rfl, ⟨hI, hE, ⟨by omega, by omega, by omega⟩⟩, by show fm_at D ad C nb _ t.heap; rw [ht]; exact hw⟩, hS.F ht⟩) hS.2.2 dX12_product_26
  exact lp _ r2 M3 (Nat.lt_succ_self _) (by omega) hI hE _ _ hw hS ls (lv_sub hl [0, 1] rfl)
set_option maxHeartbeats 400000 in
set_option maxRecDepth 20000 in
theorem fc_X12_sum_3 (l : Launch) (D : va_G) (ad : Nat → Nat → Nat) (C : Nat → Nat → ClassId) (nb : Nat) (M : fm_M) (hI : fm_I nb ad M) (hft : (M.1 60 0 64).toInt ≤ (M.1 60 0 65).toInt) (hop : 3 ≤ (M.1 60 0 66).toInt) : Met l yX12_sum wsX12_sum ({ frames := 19, cells := 0, slots := 0, locals := 411 }) (va_Pc [.ref (ad 60 0)] (fm_P D ad C nb M)) (va_Qi (fun (r : Int32) (u : fm_M) => fm_I nb ad u ∧ fm_same [60064, 60065, 60066, 60067] M u ∧ ((M.1 60 0 64).toInt ≤ (u.1 60 0 64).toInt ∧ (M.1 60 0 66).toInt ≤ (u.1 60 0 66).toInt ∧ (u.1 60 0 64).toInt ≤ (u.1 60 0 65).toInt)) (fun u t => fm_at D ad C nb u t.heap) (fm_A nb ad)) 0 0 (fm_A nb ad) := by
  refine Met.ofW (cc := cX12_sum) (maxL := 3) (ret := (some .int)) (by decide) rfl ?_
  intro p e s m args below meth c s₁ B hml hv
  obtain ⟨rfl, hw, hc⟩ := hv
  have hx := B.exec
  have hb := B.bytes
  have hr := B.returns
  have hts := atoms_spec (ws := wsX12_sum) B.pre
  have hown : s.vm.findClass RX12 = some m.cls := findClass_of_methodNamed B.named
  have hS : va_S (fm_A nb ad) s.heap s.heap [] := va_S.rf
  have hE : fm_same [60064, 60065, 60066, 60067] M M := fm_same.rf
  have hl := lv_entry ([.ref (ad 60 0)]) (n := 3) (Nat.le_of_ble_eq_true rfl)
  rw [lg_entry_eq]
  generalize (lg_sl ([.ref (ad 60 0)]) ++ List.replicate (3 - (lg_sl ([.ref (ad 60 0)])).length) Slot.unset).toArray = ls at hl ⊢
  have hl : lv_has ls 3 [(0, .ref (ad 60 0))] := hl
  refine lv_aload_n hx hb dX12_sum_0 rfl (lv_at hl 0 rfl) ?_
  have d1_63 := hI.bd (k := 0) bd_60_63
  have d1_64 := hI.bd (k := 0) bd_60_64
  have d1_65 := hI.bd (k := 0) bd_60_65
  have d1_66 := hI.bd (k := 0) bd_60_66
  refine fm_ci (va_runV (As := []) (rest := []) ⟨hx, hb, hml, hown, hts⟩ (fc_X12_product_3 l D ad C nb M hI (by omega) (by omega)) (cwV 0 hts gX12_sum_X12_product rfl rfl rfl (by decide +kernel) ⟨Nat.le_of_ble_eq_true rfl, Nat.le_of_ble_eq_true rfl⟩) (fm_preV hc hw hS kl_60 sh_60 rfl) rfl rfl hl.1 rfl (lv_room (Nat.le_of_ble_eq_true rfl)) dX12_sum_1 ⟨by decide +kernel, by decide +kernel⟩) hS hc (fun r2 M3 H locs hr2 hw hS => ?_)
  obtain ⟨hI, hEM3, hr2⟩ := hr2
  have hE := hE.tr hEM3 (by decide)
  have mM3_60_63 : (M3.1 60 0 63).toInt = (M.1 60 0 63).toInt := by rw [(hEM3 60 0 63 (by decide)).1]
  obtain ⟨ahr2, bhr2, dhr2⟩ := hr2
  refine lv_istore_n (lv' := [(1, .int r2), (0, .ref (ad 60 0))]) hx hb dX12_sum_4 rfl hl (by decide) rfl (fun ls hl => ?_)
  refine lv_iconst (v := 1) hx hb dX12_sum_5 (by decide) ?_
  refine lv_istore_n (lv' := [(2, .int 1), (1, .int r2), (0, .ref (ad 60 0))]) hx hb dX12_sum_6 rfl hl (by decide) rfl (fun ls hl => ?_)
  have lp : ∀ (n_lp : Nat) (lp_2 : Int32) (lp_1 : Int32) (M_lp : fm_M), 2 * (161 - (M_lp.1 60 0 64).toInt).toNat + lp_2.toInt.toNat < n_lp → (0 ≤ lp_2.toInt ∧ lp_2.toInt ≤ 1) → ((M.1 60 0 64).toInt ≤ (M_lp.1 60 0 64).toInt ∧ (M.1 60 0 66).toInt ≤ (M_lp.1 60 0 66).toInt ∧ (M_lp.1 60 0 64).toInt ≤ (M_lp.1 60 0 65).toInt) → fm_I nb ad M_lp → fm_same [60064, 60065, 60066, 60067] M M_lp → ∀ (H : Heap) (locs : List Loc), fm_at D ad C nb M_lp H → va_S (fm_A nb ad) s.heap H locs → ∀ (ls : Array Slot), lv_has ls 3 [(2, .int lp_2), (1, .int lp_1), (0, .ref (ad 60 0))] → W p l e (headSpec wsX12_sum ({ frames := 19, cells := 0, slots := 0, locals := 411 })).room s m ([.ref (ad 60 0)] : List Value).toArray below meth c H locs 0 0 (MQ below (va_Qi (fun (r : Int32) (u : fm_M) => fm_I nb ad u ∧ fm_same [60064, 60065, 60066, 60067] M u ∧ ((M.1 60 0 64).toInt ≤ (u.1 60 0 64).toInt ∧ (M.1 60 0 66).toInt ≤ (u.1 60 0 66).toInt ∧ (u.1 60 0 64).toInt ≤ (u.1 60 0 65).toInt)) (fun u t => fm_at D ad C nb u t.heap) (fm_A nb ad)) ([.ref (ad 60 0)] : List Value).toArray s 0 0 (fm_A nb ad)) (F0 m 7 ls []) := by
    intro n_lp
    induction n_lp with
    | zero => intro lp_2 lp_1 M_lp hm_lp b_lp_2 hv hI hE H locs hw hS ls hl; exact absurd hm_lp (Nat.not_lt_zero _)
    | succ n_lp ih_lp =>
      intro lp_2 lp_1 M_lp hm_lp b_lp_2 hv hI hE H locs hw hS ls hl
      refine lv_iload_n hx hb dX12_sum_7 rfl (lv_at hl 0 rfl) ?_
      refine fx_if_eq (tgt := 56) hx hb dX12_sum_8 (by decide) rfl (fun c4 => ?_) (fun c4 => ?_)
      · refine lv_iload_n hx hb dX12_sum_56 rfl (lv_at hl 1 rfl) ?_
        exact W.iret (v := lp_1) hx hb hr (fun t ht hW => ⟨⟨lp_1, M_lp, rfl, ⟨hI, hE, ⟨by omega, by omega, by omega⟩⟩, by show fm_at D ad C nb _ t.heap; rw [ht]; exact hw⟩, hS.F ht⟩) hS.2.2 dX12_sum_57
      · refine lv_aload_n hx hb dX12_sum_11 rfl (lv_at hl 2 rfl) ?_
        obtain ⟨q5, vq5, hQq5, hRq5⟩ := hc.2.2.2.2.1 (RX12, 394, "+", [43]) (by decide)
        refine va_ldcwS hx hb hown hRq5 dX12_sum_12 ?_
        refine fm_ci (va_runV (As := [.ref q5]) (rest := []) ⟨hx, hb, hml, hown, hts⟩ (fc_X12_take l D ad C nb M_lp hI q5 vq5 1 (fun j => ([43] : List Int32).getD j 0) (by decide) (by omega)) (cwV 1 hts gX12_sum_X12_take rfl rfl rfl (by decide +kernel) ⟨Nat.le_of_ble_eq_true rfl, Nat.le_of_ble_eq_true rfl⟩) (fm_preVS hc hw hS hQq5 kl_60 sh_60 rfl) rfl rfl hl.1 rfl (lv_room (Nat.le_of_ble_eq_true rfl)) dX12_sum_15 ⟨by decide +kernel, by decide +kernel⟩) hS hc (fun r6 M7 H locs hr6 hw hS => ?_)
        obtain ⟨hI, hEM7, hr6⟩ := hr6
        have hE := hE.tr hEM7 (by decide)
        have mM7_60_63 : (M7.1 60 0 63).toInt = (M_lp.1 60 0 63).toInt := by rw [(hEM7 60 0 63 (by decide)).1]
        have mM7_60_66 : (M7.1 60 0 66).toInt = (M_lp.1 60 0 66).toInt := by rw [(hEM7 60 0 66 (by decide)).1]
        rcases hr6 with ⟨rfl, ahr6, bhr6⟩ | ⟨rfl, ahr6, bhr6⟩
        · refine fx_if_eq (tgt := 31) hx hb dX12_sum_18 (by decide) zk_1 (fun c8 => by exfalso; omega) (fun c8 => ?_)
          refine lv_iload_n hx hb dX12_sum_21 rfl (lv_at hl 1 rfl) ?_
          refine lv_aload_n hx hb dX12_sum_22 rfl (lv_at hl 2 rfl) ?_
          have d9_63 := hI.bd (k := 0) bd_60_63
          have d9_64 := hI.bd (k := 0) bd_60_64
          have d9_65 := hI.bd (k := 0) bd_60_65
          have d9_66 := hI.bd (k := 0) bd_60_66
          refine fm_ci (va_runV (As := []) (rest := [.int lp_1]) ⟨hx, hb, hml, hown, hts⟩ (fc_X12_product_3 l D ad C nb M7 hI (by omega) (by omega)) (cwV 0 hts gX12_sum_X12_product rfl rfl rfl (by decide +kernel) ⟨Nat.le_of_ble_eq_true rfl, Nat.le_of_ble_eq_true rfl⟩) (fm_preV hc hw hS kl_60 sh_60 rfl) rfl rfl hl.1 rfl (lv_room (Nat.le_of_ble_eq_true rfl)) dX12_sum_23 ⟨by decide +kernel, by decide +kernel⟩) hS hc (fun r10 M11 H locs hr10 hw hS => ?_)
          obtain ⟨hI, hEM11, hr10⟩ := hr10
          have hE := hE.tr hEM11 (by decide)
          have mM11_60_63 : (M11.1 60 0 63).toInt = (M7.1 60 0 63).toInt := by rw [(hEM11 60 0 63 (by decide)).1]
          obtain ⟨ahr10, bhr10, dhr10⟩ := hr10
          refine fx_iaddU hx hb dX12_sum_26 (fun y12 ey12 => ?_)
          refine lv_istore_n (lv' := [(1, .int y12), (2, .int lp_2), (0, .ref (ad 60 0))]) hx hb dX12_sum_27 rfl hl (by decide) rfl (fun ls hl => ?_)
          refine lv_goto (tgt := 7) hx hb dX12_sum_28 (by decide) ?_
          exact ih_lp lp_2 y12 M11 (by omega) (by omega) (by omega) hI hE _ _ hw hS ls (lv_sub hl [1, 0, 2] rfl)
        · refine fx_if_eq (tgt := 31) hx hb dX12_sum_18 (by decide) zk_0 (fun c13 => ?_) (fun c13 => by exfalso; omega)
          refine lv_aload_n hx hb dX12_sum_31 rfl (lv_at hl 2 rfl) ?_
          obtain ⟨q14, vq14, hQq14, hRq14⟩ := hc.2.2.2.2.1 (RX12, 396, "-", [45]) (by decide)
          refine va_ldcwS hx hb hown hRq14 dX12_sum_32 ?_
          refine fm_ci (va_runV (As := [.ref q14]) (rest := []) ⟨hx, hb, hml, hown, hts⟩ (fc_X12_take l D ad C nb M7 hI q14 vq14 1 (fun j => ([45] : List Int32).getD j 0) (by decide) (by omega)) (cwV 1 hts gX12_sum_X12_take rfl rfl rfl (by decide +kernel) ⟨Nat.le_of_ble_eq_true rfl, Nat.le_of_ble_eq_true rfl⟩) (fm_preVS hc hw hS hQq14 kl_60 sh_60 rfl) rfl rfl hl.1 rfl (lv_room (Nat.le_of_ble_eq_true rfl)) dX12_sum_35 ⟨by decide +kernel, by decide +kernel⟩) hS hc (fun r15 M16 H locs hr15 hw hS => ?_)
          obtain ⟨hI, hEM16, hr15⟩ := hr15
          have hE := hE.tr hEM16 (by decide)
          have mM16_60_63 : (M16.1 60 0 63).toInt = (M7.1 60 0 63).toInt := by rw [(hEM16 60 0 63 (by decide)).1]
          have mM16_60_66 : (M16.1 60 0 66).toInt = (M7.1 60 0 66).toInt := by rw [(hEM16 60 0 66 (by decide)).1]
          rcases hr15 with ⟨rfl, ahr15, bhr15⟩ | ⟨rfl, ahr15, bhr15⟩
          · refine fx_if_eq (tgt := 51) hx hb dX12_sum_38 (by decide) zk_1 (fun c17 => by exfalso; omega) (fun c17 => ?_)
            refine lv_iload_n hx hb dX12_sum_41 rfl (lv_at hl 1 rfl) ?_
            refine lv_aload_n hx hb dX12_sum_42 rfl (lv_at hl 2 rfl) ?_
            have d18_63 := hI.bd (k := 0) bd_60_63
            have d18_64 := hI.bd (k := 0) bd_60_64
            have d18_65 := hI.bd (k := 0) bd_60_65
            have d18_66 := hI.bd (k := 0) bd_60_66
            refine fm_ci (va_runV (As := []) (rest := [.int lp_1]) ⟨hx, hb, hml, hown, hts⟩ (fc_X12_product_3 l D ad C nb M16 hI (by omega) (by omega)) (cwV 0 hts gX12_sum_X12_product rfl rfl rfl (by decide +kernel) ⟨Nat.le_of_ble_eq_true rfl, Nat.le_of_ble_eq_true rfl⟩) (fm_preV hc hw hS kl_60 sh_60 rfl) rfl rfl hl.1 rfl (lv_room (Nat.le_of_ble_eq_true rfl)) dX12_sum_43 ⟨by decide +kernel, by decide +kernel⟩) hS hc (fun r19 M20 H locs hr19 hw hS => ?_)
            obtain ⟨hI, hEM20, hr19⟩ := hr19
            have hE := hE.tr hEM20 (by decide)
            have mM20_60_63 : (M20.1 60 0 63).toInt = (M16.1 60 0 63).toInt := by rw [(hEM20 60 0 63 (by decide)).1]
            obtain ⟨ahr19, bhr19, dhr19⟩ := hr19
            refine fx_isubU hx hb dX12_sum_46 (fun y21 ey21 => ?_)
            refine lv_istore_n (lv' := [(1, .int y21), (2, .int lp_2), (0, .ref (ad 60 0))]) hx hb dX12_sum_47 rfl hl (by decide) rfl (fun ls hl => ?_)
            refine lv_goto (tgt := 7) hx hb dX12_sum_48 (by decide) ?_
            exact ih_lp lp_2 y21 M20 (by omega) (by omega) (by omega) hI hE _ _ hw hS ls (lv_sub hl [1, 0, 2] rfl)
          · refine fx_if_eq (tgt := 51) hx hb dX12_sum_38 (by decide) zk_0 (fun c22 => ?_) (fun c22 => by exfalso; omega)
            refine lv_iconst (v := 0) hx hb dX12_sum_51 (by decide) ?_
            refine lv_istore_n (lv' := [(2, .int 0), (1, .int lp_1), (0, .ref (ad 60 0))]) hx hb dX12_sum_52 rfl hl (by decide) rfl (fun ls hl => ?_)
            refine lv_goto (tgt := 7) hx hb dX12_sum_53 (by decide) ?_
            exact ih_lp 0 lp_1 M16 (by have zlp_2 := zk_0; omega) (by decide) (by omega) hI hE _ _ hw hS ls (lv_sub hl [0, 1, 2] rfl)
  exact lp _ 1 r2 M3 (Nat.lt_succ_self _) (by decide) (by omega) hI hE _ _ hw hS ls (lv_sub hl [0, 1, 2] rfl)
set_option maxHeartbeats 400000 in
set_option maxRecDepth 20000 in
theorem fc_X12_turned_3 (l : Launch) (D : va_G) (ad : Nat → Nat → Nat) (C : Nat → Nat → ClassId) (nb : Nat) (M : fm_M) (hI : fm_I nb ad M) (hft : (M.1 60 0 64).toInt ≤ (M.1 60 0 65).toInt) (hop : 3 ≤ (M.1 60 0 66).toInt) : Met l yX12_turned wsX12_turned ({ frames := 20, cells := 0, slots := 0, locals := 433 }) (va_Pc [.ref (ad 60 0)] (fm_P D ad C nb M)) (va_Qi (fun (r : Int32) (u : fm_M) => fm_I nb ad u ∧ fm_same [60064, 60065, 60066, 60067] M u ∧ ((M.1 60 0 64).toInt ≤ (u.1 60 0 64).toInt ∧ (M.1 60 0 66).toInt ≤ (u.1 60 0 66).toInt ∧ (u.1 60 0 64).toInt ≤ (u.1 60 0 65).toInt)) (fun u t => fm_at D ad C nb u t.heap) (fm_A nb ad)) 0 0 (fm_A nb ad) := by
  refine Met.ofW (cc := cX12_turned) (maxL := 2) (ret := (some .int)) (by decide) rfl ?_
  intro p e s m args below meth c s₁ B hml hv
  obtain ⟨rfl, hw, hc⟩ := hv
  have hx := B.exec
  have hb := B.bytes
  have hr := B.returns
  have hts := atoms_spec (ws := wsX12_turned) B.pre
  have hown : s.vm.findClass RX12 = some m.cls := findClass_of_methodNamed B.named
  have hinX12 : ∀ w ∈ u_ws RX12 TX12 79, w ∈ wsX12_turned := fun w h => List.mem_cons_of_mem _ (iT_X12 w h)
  have hS : va_S (fm_A nb ad) s.heap s.heap [] := va_S.rf
  have hE : fm_same [60064, 60065, 60066, 60067] M M := fm_same.rf
  have hl := lv_entry ([.ref (ad 60 0)]) (n := 2) (Nat.le_of_ble_eq_true rfl)
  rw [lg_entry_eq]
  generalize (lg_sl ([.ref (ad 60 0)]) ++ List.replicate (2 - (lg_sl ([.ref (ad 60 0)])).length) Slot.unset).toArray = ls at hl ⊢
  have hl : lv_has ls 2 [(0, .ref (ad 60 0))] := hl
  refine lv_aload_n hx hb dX12_turned_0 rfl (lv_at hl 0 rfl) ?_
  refine fm_getI (a := 60) (j := 67) (T := TX12) (N := 79) hx hb hts hinX12 hown hc hw hI kl_60 sh_60 rfl (by decide) rfl bd_60_67 (hts (.fieldLink RX12 349 "RedTentModel" "fault" "I") (List.mem_cons_of_mem _ tw_5_187)) (fun _ h9 => h9) dX12_turned_1 (fun x1 ex1 bx1 => ?_)
  refine fx_if_lt (tgt := 9) hx hb dX12_turned_4 (by decide) rfl (fun c2 => ?_) (fun c2 => ?_)
  · refine lv_aload_n hx hb dX12_turned_9 rfl (lv_at hl 0 rfl) ?_
    obtain ⟨q3, vq3, hQq3, hRq3⟩ := hc.2.2.2.2.1 (RX12, 378, "not", [110, 111, 116]) (by decide)
    refine va_ldcwS hx hb hown hRq3 dX12_turned_10 ?_
    refine vp_callSi (va_Run.run (va_runV (As := [.ref q3]) (rest := []) ⟨hx, hb, hml, hown, hts⟩ (fc_X12_is l D ad C nb M hI q3 vq3 3 (fun j => ([110, 111, 116] : List Int32).getD j 0) (by decide)) (cwV 1 hts gX12_turned_X12_is rfl rfl rfl (by decide +kernel) ⟨Nat.le_of_ble_eq_true rfl, Nat.le_of_ble_eq_true rfl⟩) (fm_preVS hc hw hS hQq3 kl_60 sh_60 rfl) rfl rfl hl.1 rfl (lv_room (Nat.le_of_ble_eq_true rfl)) dX12_turned_13 ⟨by decide +kernel, by decide +kernel⟩)) (fun r4 hr4 => ?_)
    have ir4 := hr4.2
    have jr4 := hr4.1
    refine fx_if_eq (tgt := 53) hx hb dX12_turned_16 (by decide) rfl (fun c5 => ?_) (fun c5 => ?_)
    · refine lv_aload_n hx hb dX12_turned_53 rfl (lv_at hl 0 rfl) ?_
      have d6_63 := hI.bd (k := 0) bd_60_63
      have d6_64 := hI.bd (k := 0) bd_60_64
      have d6_65 := hI.bd (k := 0) bd_60_65
      have d6_66 := hI.bd (k := 0) bd_60_66
      refine fm_ci (va_runV (As := []) (rest := []) ⟨hx, hb, hml, hown, hts⟩ (fc_X12_sum_3 l D ad C nb M hI (by omega) (by omega)) (cwV 0 hts gX12_turned_X12_sum rfl rfl rfl (by decide +kernel) ⟨Nat.le_of_ble_eq_true rfl, Nat.le_of_ble_eq_true rfl⟩) (fm_preV hc hw hS kl_60 sh_60 rfl) rfl rfl hl.1 rfl (lv_room (Nat.le_of_ble_eq_true rfl)) dX12_turned_54 ⟨by decide +kernel, by decide +kernel⟩) hS hc (fun r7 M8 H locs hr7 hw hS => ?_)
      obtain ⟨hI, hEM8, hr7⟩ := hr7
      have hE := hE.tr hEM8 (by decide)
      have mM8_60_63 : (M8.1 60 0 63).toInt = (M.1 60 0 63).toInt := by rw [(hEM8 60 0 63 (by decide)).1]
      obtain ⟨ahr7, bhr7, dhr7⟩ := hr7
      refine lv_istore_n (lv' := [(1, .int r7), (0, .ref (ad 60 0))]) hx hb dX12_turned_57 rfl hl (by decide) rfl (fun ls hl => ?_)
      refine lv_aload_n hx hb dX12_turned_58 rfl (lv_at hl 1 rfl) ?_
      obtain ⟨q9, vq9, hQq9, hRq9⟩ := hc.2.2.2.2.1 (RX12, 387, "<", [60]) (by decide)
      refine va_ldcwS hx hb hown hRq9 dX12_turned_59 ?_
      refine fm_ci (va_runV (As := [.ref q9]) (rest := []) ⟨hx, hb, hml, hown, hts⟩ (fc_X12_take l D ad C nb M8 hI q9 vq9 1 (fun j => ([60] : List Int32).getD j 0) (by decide) (by omega)) (cwV 1 hts gX12_turned_X12_take rfl rfl rfl (by decide +kernel) ⟨Nat.le_of_ble_eq_true rfl, Nat.le_of_ble_eq_true rfl⟩) (fm_preVS hc hw hS hQq9 kl_60 sh_60 rfl) rfl rfl hl.1 rfl (lv_room (Nat.le_of_ble_eq_true rfl)) dX12_turned_62 ⟨by decide +kernel, by decide +kernel⟩) hS hc (fun r10 M11 H locs hr10 hw hS => ?_)
      obtain ⟨hI, hEM11, hr10⟩ := hr10
      have hE := hE.tr hEM11 (by decide)
      have mM11_60_63 : (M11.1 60 0 63).toInt = (M8.1 60 0 63).toInt := by rw [(hEM11 60 0 63 (by decide)).1]
      have mM11_60_66 : (M11.1 60 0 66).toInt = (M8.1 60 0 66).toInt := by rw [(hEM11 60 0 66 (by decide)).1]
      rcases hr10 with ⟨rfl, ahr10, bhr10⟩ | ⟨rfl, ahr10, bhr10⟩
      · refine fx_if_eq (tgt := 82) hx hb dX12_turned_65 (by decide) zk_1 (fun c12 => by exfalso; omega) (fun c12 => ?_)
        refine lv_iload_n hx hb dX12_turned_68 rfl (lv_at hl 0 rfl) ?_
        refine lv_aload_n hx hb dX12_turned_69 rfl (lv_at hl 1 rfl) ?_
        have d13_63 := hI.bd (k := 0) bd_60_63
        have d13_64 := hI.bd (k := 0) bd_60_64
        have d13_65 := hI.bd (k := 0) bd_60_65
        have d13_66 := hI.bd (k := 0) bd_60_66
        refine fm_ci (va_runV (As := []) (rest := [.int r7]) ⟨hx, hb, hml, hown, hts⟩ (fc_X12_sum_3 l D ad C nb M11 hI (by omega) (by omega)) (cwV 0 hts gX12_turned_X12_sum rfl rfl rfl (by decide +kernel) ⟨Nat.le_of_ble_eq_true rfl, Nat.le_of_ble_eq_true rfl⟩) (fm_preV hc hw hS kl_60 sh_60 rfl) rfl rfl hl.1 rfl (lv_room (Nat.le_of_ble_eq_true rfl)) dX12_turned_70 ⟨by decide +kernel, by decide +kernel⟩) hS hc (fun r14 M15 H locs hr14 hw hS => ?_)
        obtain ⟨hI, hEM15, hr14⟩ := hr14
        have hE := hE.tr hEM15 (by decide)
        have mM15_60_63 : (M15.1 60 0 63).toInt = (M11.1 60 0 63).toInt := by rw [(hEM15 60 0 63 (by decide)).1]
        obtain ⟨ahr14, bhr14, dhr14⟩ := hr14
        refine fx_icmp_ge (tgt := 80) hx hb dX12_turned_73 (by decide) rfl rfl (fun c16 => ?_) (fun c16 => ?_)
        · refine lv_iconst (v := 0) hx hb dX12_turned_80 (by decide) ?_
          exact W.iret (v := 0) hx hb hr (fun t ht hW => ⟨⟨0, M15, rfl, ⟨hI, hE, ⟨by omega, by omega, by omega⟩⟩, by show fm_at D ad C nb _ t.heap; rw [ht]; exact hw⟩, hS.F ht⟩) hS.2.2 dX12_turned_81
        · refine lv_iconst (v := 1) hx hb dX12_turned_76 (by decide) ?_
          refine lv_goto (tgt := 81) hx hb dX12_turned_77 (by decide) ?_
          exact W.iret (v := 1) hx hb hr (fun t ht hW => ⟨⟨1, M15, rfl, ⟨hI, hE, ⟨by omega, by omega, by omega⟩⟩, by show fm_at D ad C nb _ t.heap; rw [ht]; exact hw⟩, hS.F ht⟩) hS.2.2 dX12_turned_81
      · refine fx_if_eq (tgt := 82) hx hb dX12_turned_65 (by decide) zk_0 (fun c17 => ?_) (fun c17 => by exfalso; omega)
        refine lv_aload_n hx hb dX12_turned_82 rfl (lv_at hl 1 rfl) ?_
        obtain ⟨q18, vq18, hQq18, hRq18⟩ := hc.2.2.2.2.1 (RX12, 389, "=", [61]) (by decide)
        refine va_ldcwS hx hb hown hRq18 dX12_turned_83 ?_
        refine fm_ci (va_runV (As := [.ref q18]) (rest := []) ⟨hx, hb, hml, hown, hts⟩ (fc_X12_take l D ad C nb M11 hI q18 vq18 1 (fun j => ([61] : List Int32).getD j 0) (by decide) (by omega)) (cwV 1 hts gX12_turned_X12_take rfl rfl rfl (by decide +kernel) ⟨Nat.le_of_ble_eq_true rfl, Nat.le_of_ble_eq_true rfl⟩) (fm_preVS hc hw hS hQq18 kl_60 sh_60 rfl) rfl rfl hl.1 rfl (lv_room (Nat.le_of_ble_eq_true rfl)) dX12_turned_86 ⟨by decide +kernel, by decide +kernel⟩) hS hc (fun r19 M20 H locs hr19 hw hS => ?_)
        obtain ⟨hI, hEM20, hr19⟩ := hr19
        have hE := hE.tr hEM20 (by decide)
        have mM20_60_63 : (M20.1 60 0 63).toInt = (M11.1 60 0 63).toInt := by rw [(hEM20 60 0 63 (by decide)).1]
        have mM20_60_66 : (M20.1 60 0 66).toInt = (M11.1 60 0 66).toInt := by rw [(hEM20 60 0 66 (by decide)).1]
        rcases hr19 with ⟨rfl, ahr19, bhr19⟩ | ⟨rfl, ahr19, bhr19⟩
        · refine fx_if_eq (tgt := 106) hx hb dX12_turned_89 (by decide) zk_1 (fun c21 => by exfalso; omega) (fun c21 => ?_)
          refine lv_iload_n hx hb dX12_turned_92 rfl (lv_at hl 0 rfl) ?_
          refine lv_aload_n hx hb dX12_turned_93 rfl (lv_at hl 1 rfl) ?_
          have d22_63 := hI.bd (k := 0) bd_60_63
          have d22_64 := hI.bd (k := 0) bd_60_64
          have d22_65 := hI.bd (k := 0) bd_60_65
          have d22_66 := hI.bd (k := 0) bd_60_66
          refine fm_ci (va_runV (As := []) (rest := [.int r7]) ⟨hx, hb, hml, hown, hts⟩ (fc_X12_sum_3 l D ad C nb M20 hI (by omega) (by omega)) (cwV 0 hts gX12_turned_X12_sum rfl rfl rfl (by decide +kernel) ⟨Nat.le_of_ble_eq_true rfl, Nat.le_of_ble_eq_true rfl⟩) (fm_preV hc hw hS kl_60 sh_60 rfl) rfl rfl hl.1 rfl (lv_room (Nat.le_of_ble_eq_true rfl)) dX12_turned_94 ⟨by decide +kernel, by decide +kernel⟩) hS hc (fun r23 M24 H locs hr23 hw hS => ?_)
          obtain ⟨hI, hEM24, hr23⟩ := hr23
          have hE := hE.tr hEM24 (by decide)
          have mM24_60_63 : (M24.1 60 0 63).toInt = (M20.1 60 0 63).toInt := by rw [(hEM24 60 0 63 (by decide)).1]
          obtain ⟨ahr23, bhr23, dhr23⟩ := hr23
          refine fx_icmp_ne (tgt := 104) hx hb dX12_turned_97 (by decide) rfl rfl (fun c25 => ?_) (fun c25 => ?_)
          · refine lv_iconst (v := 0) hx hb dX12_turned_104 (by decide) ?_
            exact W.iret (v := 0) hx hb hr (fun t ht hW => ⟨⟨0, M24, rfl, ⟨hI, hE, ⟨by omega, by omega, by omega⟩⟩, by show fm_at D ad C nb _ t.heap; rw [ht]; exact hw⟩, hS.F ht⟩) hS.2.2 dX12_turned_105
          · refine lv_iconst (v := 1) hx hb dX12_turned_100 (by decide) ?_
            refine lv_goto (tgt := 105) hx hb dX12_turned_101 (by decide) ?_
            exact W.iret (v := 1) hx hb hr (fun t ht hW => ⟨⟨1, M24, rfl, ⟨hI, hE, ⟨by omega, by omega, by omega⟩⟩, by show fm_at D ad C nb _ t.heap; rw [ht]; exact hw⟩, hS.F ht⟩) hS.2.2 dX12_turned_105
        · refine fx_if_eq (tgt := 106) hx hb dX12_turned_89 (by decide) zk_0 (fun c26 => ?_) (fun c26 => by exfalso; omega)
          refine lv_iload_n hx hb dX12_turned_106 rfl (lv_at hl 0 rfl) ?_
          exact W.iret (v := r7) hx hb hr (fun t ht hW => ⟨⟨r7, M20, rfl, ⟨hI, hE, ⟨by omega, by omega, by omega⟩⟩, by show fm_at D ad C nb _ t.heap; rw [ht]; exact hw⟩, hS.F ht⟩) hS.2.2 dX12_turned_107
    · refine lv_aload_n hx hb dX12_turned_19 rfl (lv_at hl 0 rfl) ?_
      refine fm_ci (va_runV (As := []) (rest := []) ⟨hx, hb, hml, hown, hts⟩ (fc_X12_opens l D ad C nb M hI) (cwV 0 hts gX12_turned_X12_opens rfl rfl rfl (by decide +kernel) ⟨Nat.le_of_ble_eq_true rfl, Nat.le_of_ble_eq_true rfl⟩) (fm_preV hc hw hS kl_60 sh_60 rfl) rfl rfl hl.1 rfl (lv_room (Nat.le_of_ble_eq_true rfl)) dX12_turned_20 ⟨by decide +kernel, by decide +kernel⟩) hS hc (fun r27 M28 H locs hr27 hw hS => ?_)
      obtain ⟨hI, hEM28, hr27⟩ := hr27
      have hE := hE.tr hEM28 (by decide)
      have mM28_60_63 : (M28.1 60 0 63).toInt = (M.1 60 0 63).toInt := by rw [(hEM28 60 0 63 (by decide)).1]
      rcases hr27 with ⟨rfl, ahr27, bhr27, dhr27⟩ | ⟨rfl, ahr27, bhr27, dhr27⟩
      · refine fx_if_ne (tgt := 28) hx hb dX12_turned_23 (by decide) zk_1 (fun c29 => ?_) (fun c29 => by exfalso; omega)
        refine lv_aload_n hx hb dX12_turned_28 rfl (lv_at hl 0 rfl) ?_
        have d30_63 := hI.bd (k := 0) bd_60_63
        have d30_64 := hI.bd (k := 0) bd_60_64
        have d30_65 := hI.bd (k := 0) bd_60_65
        have d30_66 := hI.bd (k := 0) bd_60_66
        refine fm_ci (va_runV (As := []) (rest := []) ⟨hx, hb, hml, hown, hts⟩ (fc_X12_turned_4 l D ad C nb M28 hI (by omega) (by omega)) (cwV 0 hts gX12_turned_X12_turned rfl rfl rfl (by decide +kernel) ⟨Nat.le_of_ble_eq_true rfl, Nat.le_of_ble_eq_true rfl⟩) (fm_preV hc hw hS kl_60 sh_60 rfl) rfl rfl hl.1 rfl (lv_room (Nat.le_of_ble_eq_true rfl)) dX12_turned_29 ⟨by decide +kernel, by decide +kernel⟩) hS hc (fun r31 M32 H locs hr31 hw hS => ?_)
        obtain ⟨hI, hEM32, hr31⟩ := hr31
        have hE := hE.tr hEM32 (by decide)
        have mM32_60_63 : (M32.1 60 0 63).toInt = (M28.1 60 0 63).toInt := by rw [(hEM32 60 0 63 (by decide)).1]
        obtain ⟨ahr31, bhr31, dhr31⟩ := hr31
        refine lv_istore_n (lv' := [(1, .int r31), (0, .ref (ad 60 0))]) hx hb dX12_turned_32 rfl hl (by decide) rfl (fun ls hl => ?_)
        refine lv_aload_n hx hb dX12_turned_33 rfl (lv_at hl 1 rfl) ?_
        refine lv_dup hx hb dX12_turned_34 rfl ?_
        refine fm_getI (a := 60) (j := 66) (T := TX12) (N := 79) hx hb hts hinX12 hown hc hw hI kl_60 sh_60 rfl (by decide) rfl bd_60_66 (hts (.fieldLink RX12 372 "RedTentModel" "open" "I") (List.mem_cons_of_mem _ tw_5_186)) (fun _ h9 => h9) dX12_turned_35 (fun x33 ex33 bx33 => ?_)
        have wx33 : x33.toInt = (M32.1 60 0 66).toInt := by rw [ex33]
        refine lv_iconst (v := 1) hx hb dX12_turned_38 (by decide) ?_
        refine fx_isub hx hb dX12_turned_39 rfl zk_1 (by omega) (fun y34 ey34 ty34 => ?_)
        refine fm_putI (a := 60) (j := 66) (T := TX12) (N := 79) hx hb hts hinX12 tyX12 tyX12_ok nmX12 hown hc hw hI hE hS kl_60 sh_60 od_60 rfl (by decide) rfl bd_60_66 (hts (.fieldLink RX12 372 "RedTentModel" "open" "I") (List.mem_cons_of_mem _ tw_5_186)) (fun _ h9 => h9) rfl (by decide +kernel) (by omega) (by decide) (by decide) dX12_turned_40 (fun M35 H locs eM35 hw hI hE hS => ?_)
        have mM35_60_63 : (M35.1 60 0 63).toInt = (M32.1 60 0 63).toInt := by rw [eM35, fm_wI_nj (fun z => absurd z.2.2 (by decide))]
        have mM35_60_64 : (M35.1 60 0 64).toInt = (M32.1 60 0 64).toInt := by rw [eM35, fm_wI_nj (fun z => absurd z.2.2 (by decide))]
        have mM35_60_65 : (M35.1 60 0 65).toInt = (M32.1 60 0 65).toInt := by rw [eM35, fm_wI_nj (fun z => absurd z.2.2 (by decide))]
        have mM35_60_66 : (M35.1 60 0 66).toInt = y34.toInt := by rw [eM35, fm_wI_at]
        refine lv_iload_n hx hb dX12_turned_43 rfl (lv_at hl 0 rfl) ?_
        refine fx_if_ne (tgt := 51) hx hb dX12_turned_44 (by decide) rfl (fun c36 => ?_) (fun c36 => ?_)
        · refine lv_iconst (v := 0) hx hb dX12_turned_51 (by decide) ?_
          exact W.iret (v := 0) hx hb hr (fun t ht hW => ⟨⟨0, M35, rfl, ⟨hI, hE, ⟨by omega, by omega, by omega⟩⟩, by show fm_at D ad C nb _ t.heap; rw [ht]; exact hw⟩, hS.F ht⟩) hS.2.2 dX12_turned_52
        · refine lv_iconst (v := 1) hx hb dX12_turned_47 (by decide) ?_
          refine lv_goto (tgt := 52) hx hb dX12_turned_48 (by decide) ?_
          exact W.iret (v := 1) hx hb hr (fun t ht hW => ⟨⟨1, M35, rfl, ⟨hI, hE, ⟨by omega, by omega, by omega⟩⟩, by show fm_at D ad C nb _ t.heap; rw [ht]; exact hw⟩, hS.F ht⟩) hS.2.2 dX12_turned_52
      · refine fx_if_ne (tgt := 28) hx hb dX12_turned_23 (by decide) zk_0 (fun c37 => by exfalso; omega) (fun c37 => ?_)
        refine lv_iconst (v := 0) hx hb dX12_turned_26 (by decide) ?_
        exact W.iret (v := 0) hx hb hr (fun t ht hW => ⟨⟨0, M28, rfl, ⟨hI, hE, ⟨by omega, by omega, by omega⟩⟩, by show fm_at D ad C nb _ t.heap; rw [ht]; exact hw⟩, hS.F ht⟩) hS.2.2 dX12_turned_27
  · refine lv_iconst (v := 0) hx hb dX12_turned_7 (by decide) ?_
    exact W.iret (v := 0) hx hb hr (fun t ht hW => ⟨⟨0, M, rfl, ⟨hI, hE, ⟨by omega, by omega, by omega⟩⟩, by show fm_at D ad C nb _ t.heap; rw [ht]; exact hw⟩, hS.F ht⟩) hS.2.2 dX12_turned_8
set_option maxHeartbeats 400000 in
set_option maxRecDepth 20000 in
theorem fc_X12_both_3 (l : Launch) (D : va_G) (ad : Nat → Nat → Nat) (C : Nat → Nat → ClassId) (nb : Nat) (M : fm_M) (hI : fm_I nb ad M) (hft : (M.1 60 0 64).toInt ≤ (M.1 60 0 65).toInt) (hop : 3 ≤ (M.1 60 0 66).toInt) : Met l yX12_both wsX12_both ({ frames := 21, cells := 0, slots := 0, locals := 454 }) (va_Pc [.ref (ad 60 0)] (fm_P D ad C nb M)) (va_Qi (fun (r : Int32) (u : fm_M) => fm_I nb ad u ∧ fm_same [60064, 60065, 60066, 60067] M u ∧ ((M.1 60 0 64).toInt ≤ (u.1 60 0 64).toInt ∧ (M.1 60 0 66).toInt ≤ (u.1 60 0 66).toInt ∧ (u.1 60 0 64).toInt ≤ (u.1 60 0 65).toInt)) (fun u t => fm_at D ad C nb u t.heap) (fm_A nb ad)) 0 0 (fm_A nb ad) := by
  refine Met.ofW (cc := cX12_both) (maxL := 3) (ret := (some .int)) (by decide) rfl ?_
  intro p e s m args below meth c s₁ B hml hv
  obtain ⟨rfl, hw, hc⟩ := hv
  have hx := B.exec
  have hb := B.bytes
  have hr := B.returns
  have hts := atoms_spec (ws := wsX12_both) B.pre
  have hown : s.vm.findClass RX12 = some m.cls := findClass_of_methodNamed B.named
  have hS : va_S (fm_A nb ad) s.heap s.heap [] := va_S.rf
  have hE : fm_same [60064, 60065, 60066, 60067] M M := fm_same.rf
  have hl := lv_entry ([.ref (ad 60 0)]) (n := 3) (Nat.le_of_ble_eq_true rfl)
  rw [lg_entry_eq]
  generalize (lg_sl ([.ref (ad 60 0)]) ++ List.replicate (3 - (lg_sl ([.ref (ad 60 0)])).length) Slot.unset).toArray = ls at hl ⊢
  have hl : lv_has ls 3 [(0, .ref (ad 60 0))] := hl
  refine lv_aload_n hx hb dX12_both_0 rfl (lv_at hl 0 rfl) ?_
  have d1_63 := hI.bd (k := 0) bd_60_63
  have d1_64 := hI.bd (k := 0) bd_60_64
  have d1_65 := hI.bd (k := 0) bd_60_65
  have d1_66 := hI.bd (k := 0) bd_60_66
  refine fm_ci (va_runV (As := []) (rest := []) ⟨hx, hb, hml, hown, hts⟩ (fc_X12_turned_3 l D ad C nb M hI (by omega) (by omega)) (cwV 0 hts gX12_both_X12_turned rfl rfl rfl (by decide +kernel) ⟨Nat.le_of_ble_eq_true rfl, Nat.le_of_ble_eq_true rfl⟩) (fm_preV hc hw hS kl_60 sh_60 rfl) rfl rfl hl.1 rfl (lv_room (Nat.le_of_ble_eq_true rfl)) dX12_both_1 ⟨by decide +kernel, by decide +kernel⟩) hS hc (fun r2 M3 H locs hr2 hw hS => ?_)
  obtain ⟨hI, hEM3, hr2⟩ := hr2
  have hE := hE.tr hEM3 (by decide)
  have mM3_60_63 : (M3.1 60 0 63).toInt = (M.1 60 0 63).toInt := by rw [(hEM3 60 0 63 (by decide)).1]
  obtain ⟨ahr2, bhr2, dhr2⟩ := hr2
  refine lv_istore_n (lv' := [(1, .int r2), (0, .ref (ad 60 0))]) hx hb dX12_both_4 rfl hl (by decide) rfl (fun ls hl => ?_)
  have lp : ∀ (n_lp : Nat) (lp_1 : Int32) (M_lp : fm_M), (161 - (M_lp.1 60 0 64).toInt).toNat < n_lp → ((M.1 60 0 64).toInt ≤ (M_lp.1 60 0 64).toInt ∧ (M.1 60 0 66).toInt ≤ (M_lp.1 60 0 66).toInt ∧ (M_lp.1 60 0 64).toInt ≤ (M_lp.1 60 0 65).toInt) → fm_I nb ad M_lp → fm_same [60064, 60065, 60066, 60067] M M_lp → ∀ (H : Heap) (locs : List Loc), fm_at D ad C nb M_lp H → va_S (fm_A nb ad) s.heap H locs → ∀ (ls : Array Slot), lv_has ls 3 [(1, .int lp_1), (0, .ref (ad 60 0))] → W p l e (headSpec wsX12_both ({ frames := 21, cells := 0, slots := 0, locals := 454 })).room s m ([.ref (ad 60 0)] : List Value).toArray below meth c H locs 0 0 (MQ below (va_Qi (fun (r : Int32) (u : fm_M) => fm_I nb ad u ∧ fm_same [60064, 60065, 60066, 60067] M u ∧ ((M.1 60 0 64).toInt ≤ (u.1 60 0 64).toInt ∧ (M.1 60 0 66).toInt ≤ (u.1 60 0 66).toInt ∧ (u.1 60 0 64).toInt ≤ (u.1 60 0 65).toInt)) (fun u t => fm_at D ad C nb u t.heap) (fm_A nb ad)) ([.ref (ad 60 0)] : List Value).toArray s 0 0 (fm_A nb ad)) (F0 m 5 ls []) := by
    intro n_lp
    induction n_lp with
    | zero => intro lp_1 M_lp hm_lp hv hI hE H locs hw hS ls hl; exact absurd hm_lp (Nat.not_lt_zero _)
    | succ n_lp ih_lp =>
      intro lp_1 M_lp hm_lp hv hI hE H locs hw hS ls hl
      refine lv_aload_n hx hb dX12_both_5 rfl (lv_at hl 1 rfl) ?_
      obtain ⟨q4, vq4, hQq4, hRq4⟩ := hc.2.2.2.2.1 (RX12, 370, "and", [97, 110, 100]) (by decide)
      refine va_ldcwS hx hb hown hRq4 dX12_both_6 ?_
      refine fm_ci (va_runV (As := [.ref q4]) (rest := []) ⟨hx, hb, hml, hown, hts⟩ (fc_X12_take l D ad C nb M_lp hI q4 vq4 3 (fun j => ([97, 110, 100] : List Int32).getD j 0) (by decide) (by omega)) (cwV 1 hts gX12_both_X12_take rfl rfl rfl (by decide +kernel) ⟨Nat.le_of_ble_eq_true rfl, Nat.le_of_ble_eq_true rfl⟩) (fm_preVS hc hw hS hQq4 kl_60 sh_60 rfl) rfl rfl hl.1 rfl (lv_room (Nat.le_of_ble_eq_true rfl)) dX12_both_9 ⟨by decide +kernel, by decide +kernel⟩) hS hc (fun r5 M6 H locs hr5 hw hS => ?_)
      obtain ⟨hI, hEM6, hr5⟩ := hr5
      have hE := hE.tr hEM6 (by decide)
      have mM6_60_63 : (M6.1 60 0 63).toInt = (M_lp.1 60 0 63).toInt := by rw [(hEM6 60 0 63 (by decide)).1]
      have mM6_60_66 : (M6.1 60 0 66).toInt = (M_lp.1 60 0 66).toInt := by rw [(hEM6 60 0 66 (by decide)).1]
      rcases hr5 with ⟨rfl, ahr5, bhr5⟩ | ⟨rfl, ahr5, bhr5⟩
      · refine fx_if_eq (tgt := 37) hx hb dX12_both_12 (by decide) zk_1 (fun c7 => by exfalso; omega) (fun c7 => ?_)
        refine lv_aload_n hx hb dX12_both_15 rfl (lv_at hl 1 rfl) ?_
        have d8_63 := hI.bd (k := 0) bd_60_63
        have d8_64 := hI.bd (k := 0) bd_60_64
        have d8_65 := hI.bd (k := 0) bd_60_65
        have d8_66 := hI.bd (k := 0) bd_60_66
        refine fm_ci (va_runV (As := []) (rest := []) ⟨hx, hb, hml, hown, hts⟩ (fc_X12_turned_3 l D ad C nb M6 hI (by omega) (by omega)) (cwV 0 hts gX12_both_X12_turned rfl rfl rfl (by decide +kernel) ⟨Nat.le_of_ble_eq_true rfl, Nat.le_of_ble_eq_true rfl⟩) (fm_preV hc hw hS kl_60 sh_60 rfl) rfl rfl hl.1 rfl (lv_room (Nat.le_of_ble_eq_true rfl)) dX12_both_16 ⟨by decide +kernel, by decide +kernel⟩) hS hc (fun r9 M10 H locs hr9 hw hS => ?_)
        obtain ⟨hI, hEM10, hr9⟩ := hr9
        have hE := hE.tr hEM10 (by decide)
        have mM10_60_63 : (M10.1 60 0 63).toInt = (M6.1 60 0 63).toInt := by rw [(hEM10 60 0 63 (by decide)).1]
        obtain ⟨ahr9, bhr9, dhr9⟩ := hr9
        refine lv_istore_n (lv' := [(2, .int r9), (1, .int lp_1), (0, .ref (ad 60 0))]) hx hb dX12_both_19 rfl hl (by decide) rfl (fun ls hl => ?_)
        refine lv_iload_n hx hb dX12_both_20 rfl (lv_at hl 1 rfl) ?_
        refine fx_if_eq (tgt := 32) hx hb dX12_both_21 (by decide) rfl (fun c11 => ?_) (fun c11 => ?_)
        · refine lv_iconst (v := 0) hx hb dX12_both_32 (by decide) ?_
          refine lv_istore_n (lv' := [(1, .int 0), (2, .int r9), (0, .ref (ad 60 0))]) hx hb dX12_both_33 rfl hl (by decide) rfl (fun ls hl => ?_)
          refine lv_goto (tgt := 5) hx hb dX12_both_34 (by decide) ?_
          exact ih_lp 0 M10 (by omega) (by omega) hI hE _ _ hw hS ls (lv_sub hl [0, 2] rfl)
        · refine lv_iload_n hx hb dX12_both_24 rfl (lv_at hl 0 rfl) ?_
          refine fx_if_eq (tgt := 32) hx hb dX12_both_25 (by decide) rfl (fun c12 => ?_) (fun c12 => ?_)
          · refine lv_iconst (v := 0) hx hb dX12_both_32 (by decide) ?_
            refine lv_istore_n (lv' := [(1, .int 0), (2, .int r9), (0, .ref (ad 60 0))]) hx hb dX12_both_33 rfl hl (by decide) rfl (fun ls hl => ?_)
            refine lv_goto (tgt := 5) hx hb dX12_both_34 (by decide) ?_
            exact ih_lp 0 M10 (by omega) (by omega) hI hE _ _ hw hS ls (lv_sub hl [0, 2] rfl)
          · refine lv_iconst (v := 1) hx hb dX12_both_28 (by decide) ?_
            refine lv_goto (tgt := 33) hx hb dX12_both_29 (by decide) ?_
            refine lv_istore_n (lv' := [(1, .int 1), (2, .int r9), (0, .ref (ad 60 0))]) hx hb dX12_both_33 rfl hl (by decide) rfl (fun ls hl => ?_)
            refine lv_goto (tgt := 5) hx hb dX12_both_34 (by decide) ?_
            exact ih_lp 1 M10 (by omega) (by omega) hI hE _ _ hw hS ls (lv_sub hl [0, 2] rfl)
      · refine fx_if_eq (tgt := 37) hx hb dX12_both_12 (by decide) zk_0 (fun c13 => ?_) (fun c13 => by exfalso; omega)
        refine lv_iload_n hx hb dX12_both_37 rfl (lv_at hl 0 rfl) ?_
        exact W.iret (v := lp_1) hx hb hr (fun t ht hW => ⟨⟨lp_1, M6, rfl, ⟨hI, hE, ⟨by omega, by omega, by omega⟩⟩, by show fm_at D ad C nb _ t.heap; rw [ht]; exact hw⟩, hS.F ht⟩) hS.2.2 dX12_both_38
  exact lp _ r2 M3 (Nat.lt_succ_self _) (by omega) hI hE _ _ hw hS ls (lv_sub hl [0, 1] rfl)
set_option maxHeartbeats 400000 in
set_option maxRecDepth 20000 in
theorem fc_X12_either_3 (l : Launch) (D : va_G) (ad : Nat → Nat → Nat) (C : Nat → Nat → ClassId) (nb : Nat) (M : fm_M) (hI : fm_I nb ad M) (hft : (M.1 60 0 64).toInt ≤ (M.1 60 0 65).toInt) (hop : 3 ≤ (M.1 60 0 66).toInt) : Met l yX12_either wsX12_either ({ frames := 22, cells := 0, slots := 0, locals := 476 }) (va_Pc [.ref (ad 60 0)] (fm_P D ad C nb M)) (va_Qi (fun (r : Int32) (u : fm_M) => fm_I nb ad u ∧ fm_same [60064, 60065, 60066, 60067] M u ∧ ((M.1 60 0 64).toInt ≤ (u.1 60 0 64).toInt ∧ (M.1 60 0 66).toInt ≤ (u.1 60 0 66).toInt ∧ (u.1 60 0 64).toInt ≤ (u.1 60 0 65).toInt)) (fun u t => fm_at D ad C nb u t.heap) (fm_A nb ad)) 0 0 (fm_A nb ad) := by
  refine Met.ofW (cc := cX12_either) (maxL := 3) (ret := (some .int)) (by decide) rfl ?_
  intro p e s m args below meth c s₁ B hml hv
  obtain ⟨rfl, hw, hc⟩ := hv
  have hx := B.exec
  have hb := B.bytes
  have hr := B.returns
  have hts := atoms_spec (ws := wsX12_either) B.pre
  have hown : s.vm.findClass RX12 = some m.cls := findClass_of_methodNamed B.named
  have hS : va_S (fm_A nb ad) s.heap s.heap [] := va_S.rf
  have hE : fm_same [60064, 60065, 60066, 60067] M M := fm_same.rf
  have hl := lv_entry ([.ref (ad 60 0)]) (n := 3) (Nat.le_of_ble_eq_true rfl)
  rw [lg_entry_eq]
  generalize (lg_sl ([.ref (ad 60 0)]) ++ List.replicate (3 - (lg_sl ([.ref (ad 60 0)])).length) Slot.unset).toArray = ls at hl ⊢
  have hl : lv_has ls 3 [(0, .ref (ad 60 0))] := hl
  refine lv_aload_n hx hb dX12_either_0 rfl (lv_at hl 0 rfl) ?_
  have d1_63 := hI.bd (k := 0) bd_60_63
  have d1_64 := hI.bd (k := 0) bd_60_64
  have d1_65 := hI.bd (k := 0) bd_60_65
  have d1_66 := hI.bd (k := 0) bd_60_66
  refine fm_ci (va_runV (As := []) (rest := []) ⟨hx, hb, hml, hown, hts⟩ (fc_X12_both_3 l D ad C nb M hI (by omega) (by omega)) (cwV 0 hts gX12_either_X12_both rfl rfl rfl (by decide +kernel) ⟨Nat.le_of_ble_eq_true rfl, Nat.le_of_ble_eq_true rfl⟩) (fm_preV hc hw hS kl_60 sh_60 rfl) rfl rfl hl.1 rfl (lv_room (Nat.le_of_ble_eq_true rfl)) dX12_either_1 ⟨by decide +kernel, by decide +kernel⟩) hS hc (fun r2 M3 H locs hr2 hw hS => ?_)
  obtain ⟨hI, hEM3, hr2⟩ := hr2
  have hE := hE.tr hEM3 (by decide)
  have mM3_60_63 : (M3.1 60 0 63).toInt = (M.1 60 0 63).toInt := by rw [(hEM3 60 0 63 (by decide)).1]
  obtain ⟨ahr2, bhr2, dhr2⟩ := hr2
  refine lv_istore_n (lv' := [(1, .int r2), (0, .ref (ad 60 0))]) hx hb dX12_either_4 rfl hl (by decide) rfl (fun ls hl => ?_)
  have lp : ∀ (n_lp : Nat) (lp_1 : Int32) (M_lp : fm_M), (161 - (M_lp.1 60 0 64).toInt).toNat < n_lp → ((M.1 60 0 64).toInt ≤ (M_lp.1 60 0 64).toInt ∧ (M.1 60 0 66).toInt ≤ (M_lp.1 60 0 66).toInt ∧ (M_lp.1 60 0 64).toInt ≤ (M_lp.1 60 0 65).toInt) → fm_I nb ad M_lp → fm_same [60064, 60065, 60066, 60067] M M_lp → ∀ (H : Heap) (locs : List Loc), fm_at D ad C nb M_lp H → va_S (fm_A nb ad) s.heap H locs → ∀ (ls : Array Slot), lv_has ls 3 [(1, .int lp_1), (0, .ref (ad 60 0))] → W p l e (headSpec wsX12_either ({ frames := 22, cells := 0, slots := 0, locals := 476 })).room s m ([.ref (ad 60 0)] : List Value).toArray below meth c H locs 0 0 (MQ below (va_Qi (fun (r : Int32) (u : fm_M) => fm_I nb ad u ∧ fm_same [60064, 60065, 60066, 60067] M u ∧ ((M.1 60 0 64).toInt ≤ (u.1 60 0 64).toInt ∧ (M.1 60 0 66).toInt ≤ (u.1 60 0 66).toInt ∧ (u.1 60 0 64).toInt ≤ (u.1 60 0 65).toInt)) (fun u t => fm_at D ad C nb u t.heap) (fm_A nb ad)) ([.ref (ad 60 0)] : List Value).toArray s 0 0 (fm_A nb ad)) (F0 m 5 ls []) := by
    intro n_lp
    induction n_lp with
    | zero => intro lp_1 M_lp hm_lp hv hI hE H locs hw hS ls hl; exact absurd hm_lp (Nat.not_lt_zero _)
    | succ n_lp ih_lp =>
      intro lp_1 M_lp hm_lp hv hI hE H locs hw hS ls hl
      refine lv_aload_n hx hb dX12_either_5 rfl (lv_at hl 1 rfl) ?_
      obtain ⟨q4, vq4, hQq4, hRq4⟩ := hc.2.2.2.2.1 (RX12, 362, "or", [111, 114]) (by decide)
      refine va_ldcwS hx hb hown hRq4 dX12_either_6 ?_
      refine fm_ci (va_runV (As := [.ref q4]) (rest := []) ⟨hx, hb, hml, hown, hts⟩ (fc_X12_take l D ad C nb M_lp hI q4 vq4 2 (fun j => ([111, 114] : List Int32).getD j 0) (by decide) (by omega)) (cwV 1 hts gX12_either_X12_take rfl rfl rfl (by decide +kernel) ⟨Nat.le_of_ble_eq_true rfl, Nat.le_of_ble_eq_true rfl⟩) (fm_preVS hc hw hS hQq4 kl_60 sh_60 rfl) rfl rfl hl.1 rfl (lv_room (Nat.le_of_ble_eq_true rfl)) dX12_either_9 ⟨by decide +kernel, by decide +kernel⟩) hS hc (fun r5 M6 H locs hr5 hw hS => ?_)
      obtain ⟨hI, hEM6, hr5⟩ := hr5
      have hE := hE.tr hEM6 (by decide)
      have mM6_60_63 : (M6.1 60 0 63).toInt = (M_lp.1 60 0 63).toInt := by rw [(hEM6 60 0 63 (by decide)).1]
      have mM6_60_66 : (M6.1 60 0 66).toInt = (M_lp.1 60 0 66).toInt := by rw [(hEM6 60 0 66 (by decide)).1]
      rcases hr5 with ⟨rfl, ahr5, bhr5⟩ | ⟨rfl, ahr5, bhr5⟩
      · refine fx_if_eq (tgt := 37) hx hb dX12_either_12 (by decide) zk_1 (fun c7 => by exfalso; omega) (fun c7 => ?_)
        refine lv_aload_n hx hb dX12_either_15 rfl (lv_at hl 1 rfl) ?_
        have d8_63 := hI.bd (k := 0) bd_60_63
        have d8_64 := hI.bd (k := 0) bd_60_64
        have d8_65 := hI.bd (k := 0) bd_60_65
        have d8_66 := hI.bd (k := 0) bd_60_66
        refine fm_ci (va_runV (As := []) (rest := []) ⟨hx, hb, hml, hown, hts⟩ (fc_X12_both_3 l D ad C nb M6 hI (by omega) (by omega)) (cwV 0 hts gX12_either_X12_both rfl rfl rfl (by decide +kernel) ⟨Nat.le_of_ble_eq_true rfl, Nat.le_of_ble_eq_true rfl⟩) (fm_preV hc hw hS kl_60 sh_60 rfl) rfl rfl hl.1 rfl (lv_room (Nat.le_of_ble_eq_true rfl)) dX12_either_16 ⟨by decide +kernel, by decide +kernel⟩) hS hc (fun r9 M10 H locs hr9 hw hS => ?_)
        obtain ⟨hI, hEM10, hr9⟩ := hr9
        have hE := hE.tr hEM10 (by decide)
        have mM10_60_63 : (M10.1 60 0 63).toInt = (M6.1 60 0 63).toInt := by rw [(hEM10 60 0 63 (by decide)).1]
        obtain ⟨ahr9, bhr9, dhr9⟩ := hr9
        refine lv_istore_n (lv' := [(2, .int r9), (1, .int lp_1), (0, .ref (ad 60 0))]) hx hb dX12_either_19 rfl hl (by decide) rfl (fun ls hl => ?_)
        refine lv_iload_n hx hb dX12_either_20 rfl (lv_at hl 1 rfl) ?_
        refine fx_if_ne (tgt := 28) hx hb dX12_either_21 (by decide) rfl (fun c11 => ?_) (fun c11 => ?_)
        · refine lv_iconst (v := 1) hx hb dX12_either_28 (by decide) ?_
          refine lv_goto (tgt := 33) hx hb dX12_either_29 (by decide) ?_
          refine lv_istore_n (lv' := [(1, .int 1), (2, .int r9), (0, .ref (ad 60 0))]) hx hb dX12_either_33 rfl hl (by decide) rfl (fun ls hl => ?_)
          refine lv_goto (tgt := 5) hx hb dX12_either_34 (by decide) ?_
          exact ih_lp 1 M10 (by omega) (by omega) hI hE _ _ hw hS ls (lv_sub hl [0, 2] rfl)
        · refine lv_iload_n hx hb dX12_either_24 rfl (lv_at hl 0 rfl) ?_
          refine fx_if_eq (tgt := 32) hx hb dX12_either_25 (by decide) rfl (fun c12 => ?_) (fun c12 => ?_)
          · refine lv_iconst (v := 0) hx hb dX12_either_32 (by decide) ?_
            refine lv_istore_n (lv' := [(1, .int 0), (2, .int r9), (0, .ref (ad 60 0))]) hx hb dX12_either_33 rfl hl (by decide) rfl (fun ls hl => ?_)
            refine lv_goto (tgt := 5) hx hb dX12_either_34 (by decide) ?_
            exact ih_lp 0 M10 (by omega) (by omega) hI hE _ _ hw hS ls (lv_sub hl [0, 2] rfl)
          · refine lv_iconst (v := 1) hx hb dX12_either_28 (by decide) ?_
            refine lv_goto (tgt := 33) hx hb dX12_either_29 (by decide) ?_
            refine lv_istore_n (lv' := [(1, .int 1), (2, .int r9), (0, .ref (ad 60 0))]) hx hb dX12_either_33 rfl hl (by decide) rfl (fun ls hl => ?_)
            refine lv_goto (tgt := 5) hx hb dX12_either_34 (by decide) ?_
            exact ih_lp 1 M10 (by omega) (by omega) hI hE _ _ hw hS ls (lv_sub hl [0, 2] rfl)
      · refine fx_if_eq (tgt := 37) hx hb dX12_either_12 (by decide) zk_0 (fun c13 => ?_) (fun c13 => by exfalso; omega)
        refine lv_iload_n hx hb dX12_either_37 rfl (lv_at hl 0 rfl) ?_
        exact W.iret (v := lp_1) hx hb hr (fun t ht hW => ⟨⟨lp_1, M6, rfl, ⟨hI, hE, ⟨by omega, by omega, by omega⟩⟩, by show fm_at D ad C nb _ t.heap; rw [ht]; exact hw⟩, hS.F ht⟩) hS.2.2 dX12_either_38
  exact lp _ r2 M3 (Nat.lt_succ_self _) (by omega) hI hE _ _ hw hS ls (lv_sub hl [0, 1] rfl)
set_option maxHeartbeats 400000 in
set_option maxRecDepth 20000 in
theorem fc_X12_one_2 (l : Launch) (D : va_G) (ad : Nat → Nat → Nat) (C : Nat → Nat → ClassId) (nb : Nat) (M : fm_M) (hI : fm_I nb ad M) (hft : (M.1 60 0 64).toInt ≤ (M.1 60 0 65).toInt) (hop : 2 ≤ (M.1 60 0 66).toInt) : Met l yX12_one wsX12_one ({ frames := 23, cells := 0, slots := 0, locals := 498 }) (va_Pc [.ref (ad 60 0)] (fm_P D ad C nb M)) (va_Qi (fun (r : Int32) (u : fm_M) => fm_I nb ad u ∧ fm_same [60064, 60065, 60066, 60067] M u ∧ ((M.1 60 0 64).toInt ≤ (u.1 60 0 64).toInt ∧ (M.1 60 0 66).toInt ≤ (u.1 60 0 66).toInt ∧ (u.1 60 0 64).toInt ≤ (u.1 60 0 65).toInt)) (fun u t => fm_at D ad C nb u t.heap) (fm_A nb ad)) 0 0 (fm_A nb ad) := by
  refine Met.ofW (cc := cX12_one) (maxL := 3) (ret := (some .int)) (by decide) rfl ?_
  intro p e s m args below meth c s₁ B hml hv
  obtain ⟨rfl, hw, hc⟩ := hv
  have hx := B.exec
  have hb := B.bytes
  have hr := B.returns
  have hts := atoms_spec (ws := wsX12_one) B.pre
  have hown : s.vm.findClass RX12 = some m.cls := findClass_of_methodNamed B.named
  have hinX12 : ∀ w ∈ u_ws RX12 TX12 79, w ∈ wsX12_one := fun w h => List.mem_cons_of_mem _ (iT_X12 w h)
  have hS : va_S (fm_A nb ad) s.heap s.heap [] := va_S.rf
  have hE : fm_same [60064, 60065, 60066, 60067] M M := fm_same.rf
  have hl := lv_entry ([.ref (ad 60 0)]) (n := 3) (Nat.le_of_ble_eq_true rfl)
  rw [lg_entry_eq]
  generalize (lg_sl ([.ref (ad 60 0)]) ++ List.replicate (3 - (lg_sl ([.ref (ad 60 0)])).length) Slot.unset).toArray = ls at hl ⊢
  have hl : lv_has ls 3 [(0, .ref (ad 60 0))] := hl
  refine lv_aload_n hx hb dX12_one_0 rfl (lv_at hl 0 rfl) ?_
  refine fm_getI (a := 60) (j := 67) (T := TX12) (N := 79) hx hb hts hinX12 hown hc hw hI kl_60 sh_60 rfl (by decide) rfl bd_60_67 (hts (.fieldLink RX12 349 "RedTentModel" "fault" "I") (List.mem_cons_of_mem _ tw_5_187)) (fun _ h9 => h9) dX12_one_1 (fun x1 ex1 bx1 => ?_)
  refine fx_if_lt (tgt := 9) hx hb dX12_one_4 (by decide) rfl (fun c2 => ?_) (fun c2 => ?_)
  · refine lv_aload_n hx hb dX12_one_9 rfl (lv_at hl 0 rfl) ?_
    obtain ⟨q3, vq3, hQq3, hRq3⟩ := hc.2.2.2.2.1 (RX12, 396, "-", [45]) (by decide)
    refine va_ldcwS hx hb hown hRq3 dX12_one_10 ?_
    refine vp_callSi (va_Run.run (va_runV (As := [.ref q3]) (rest := []) ⟨hx, hb, hml, hown, hts⟩ (fc_X12_is l D ad C nb M hI q3 vq3 1 (fun j => ([45] : List Int32).getD j 0) (by decide)) (cwV 1 hts gX12_one_X12_is rfl rfl rfl (by decide +kernel) ⟨Nat.le_of_ble_eq_true rfl, Nat.le_of_ble_eq_true rfl⟩) (fm_preVS hc hw hS hQq3 kl_60 sh_60 rfl) rfl rfl hl.1 rfl (lv_room (Nat.le_of_ble_eq_true rfl)) dX12_one_13 ⟨by decide +kernel, by decide +kernel⟩)) (fun r4 hr4 => ?_)
    have ir4 := hr4.2
    have jr4 := hr4.1
    refine fx_if_eq (tgt := 46) hx hb dX12_one_16 (by decide) rfl (fun c5 => ?_) (fun c5 => ?_)
    · refine lv_aload_n hx hb dX12_one_46 rfl (lv_at hl 0 rfl) ?_
      obtain ⟨q6, vq6, hQq6, hRq6⟩ := hc.2.2.2.2.1 (RX12, 403, "(", [40]) (by decide)
      refine va_ldcwS hx hb hown hRq6 dX12_one_47 ?_
      refine vp_callSi (va_Run.run (va_runV (As := [.ref q6]) (rest := []) ⟨hx, hb, hml, hown, hts⟩ (fc_X12_is l D ad C nb M hI q6 vq6 1 (fun j => ([40] : List Int32).getD j 0) (by decide)) (cwV 1 hts gX12_one_X12_is rfl rfl rfl (by decide +kernel) ⟨Nat.le_of_ble_eq_true rfl, Nat.le_of_ble_eq_true rfl⟩) (fm_preVS hc hw hS hQq6 kl_60 sh_60 rfl) rfl rfl hl.1 rfl (lv_room (Nat.le_of_ble_eq_true rfl)) dX12_one_50 ⟨by decide +kernel, by decide +kernel⟩)) (fun r7 hr7 => ?_)
      have ir7 := hr7.2
      have jr7 := hr7.1
      refine fx_if_eq (tgt := 97) hx hb dX12_one_53 (by decide) rfl (fun c8 => ?_) (fun c8 => ?_)
      · refine lv_aload_n hx hb dX12_one_97 rfl (lv_at hl 0 rfl) ?_
        refine lv_aload_n hx hb dX12_one_98 rfl (lv_at hl 0 rfl) ?_
        refine fm_getI (a := 60) (j := 64) (T := TX12) (N := 79) hx hb hts hinX12 hown hc hw hI kl_60 sh_60 rfl (by decide) rfl bd_60_64 (hts (.fieldLink RX12 340 "RedTentModel" "from" "I") (List.mem_cons_of_mem _ tw_5_184)) (fun _ h9 => h9) dX12_one_99 (fun x9 ex9 bx9 => ?_)
        have wx9 : x9.toInt = (M.1 60 0 64).toInt := by rw [ex9]
        refine vp_callSi (va_Run.run (va_runV (As := [.int x9]) (rest := []) ⟨hx, hb, hml, hown, hts⟩ (fc_X12_isDigit l D ad C nb M hI x9 (by omega)) (cwV 1 hts gX12_one_X12_isDigit rfl rfl rfl (by decide +kernel) ⟨Nat.le_of_ble_eq_true rfl, Nat.le_of_ble_eq_true rfl⟩) (fm_preV hc hw hS kl_60 sh_60 rfl) rfl rfl hl.1 rfl (lv_room (Nat.le_of_ble_eq_true rfl)) dX12_one_102 ⟨by decide +kernel, by decide +kernel⟩)) (fun r10 hr10 => ?_)
        have bqq11 := hI.bd (k := 0) bd_60_63
        rcases hr10 with ⟨rfl, c12⟩ | ⟨rfl, c12⟩
        · refine fx_if_eq (tgt := 167) hx hb dX12_one_105 (by decide) zk_1 (fun c13 => by exfalso; omega) (fun c13 => ?_)
          refine lv_aload_n hx hb dX12_one_108 rfl (lv_at hl 0 rfl) ?_
          refine fm_getI (a := 60) (j := 65) (T := TX12) (N := 79) hx hb hts hinX12 hown hc hw hI kl_60 sh_60 rfl (by decide) rfl bd_60_65 (hts (.fieldLink RX12 337 "RedTentModel" "to" "I") (List.mem_cons_of_mem _ tw_5_185)) (fun _ h9 => h9) dX12_one_109 (fun x14 ex14 bx14 => ?_)
          have wx14 : x14.toInt = (M.1 60 0 65).toInt := by rw [ex14]
          refine lv_aload_n hx hb dX12_one_112 rfl (lv_at hl 0 rfl) ?_
          refine fm_getI (a := 60) (j := 64) (T := TX12) (N := 79) hx hb hts hinX12 hown hc hw hI kl_60 sh_60 rfl (by decide) rfl bd_60_64 (hts (.fieldLink RX12 340 "RedTentModel" "from" "I") (List.mem_cons_of_mem _ tw_5_184)) (fun _ h9 => h9) dX12_one_113 (fun x15 ex15 bx15 => ?_)
          have wx15 : x15.toInt = (M.1 60 0 64).toInt := by rw [ex15]
          obtain rfl : x9 = x15 := by rw [ex15]; exact ex9
          refine fx_isub hx hb dX12_one_116 rfl rfl (by omega) (fun y16 ey16 ty16 => ?_)
          refine lv_iconst (v := 4) hx hb dX12_one_117 (by decide) ?_
          refine fx_icmp_le (tgt := 126) hx hb dX12_one_118 (by decide) rfl zk_4 (fun c17 => ?_) (fun c17 => ?_)
          · refine lv_iconst (v := 0) hx hb dX12_one_126 (by decide) ?_
            refine lv_istore_n (lv' := [(1, .int 0), (0, .ref (ad 60 0))]) hx hb dX12_one_127 rfl hl (by decide) rfl (fun ls hl => ?_)
            refine lv_aload_n hx hb dX12_one_128 rfl (lv_at hl 1 rfl) ?_
            refine fm_getI (a := 60) (j := 64) (T := TX12) (N := 79) hx hb hts hinX12 hown hc hw hI kl_60 sh_60 rfl (by decide) rfl bd_60_64 (hts (.fieldLink RX12 340 "RedTentModel" "from" "I") (List.mem_cons_of_mem _ tw_5_184)) (fun _ h9 => h9) dX12_one_129 (fun x18 ex18 bx18 => ?_)
            have wx18 : x18.toInt = (M.1 60 0 64).toInt := by rw [ex18]
            obtain rfl : x9 = x18 := by rw [ex18]; exact ex9
            refine lv_istore_n (lv' := [(2, .int x9), (1, .int 0), (0, .ref (ad 60 0))]) hx hb dX12_one_132 rfl hl (by decide) rfl (fun ls hl => ?_)
            have lp : ∀ (n_lp : Nat) (lp_2 : Int32) (lp_1 : Int32), (160 - lp_2.toInt).toNat < n_lp → (0 ≤ lp_2.toInt ∧ lp_2.toInt ≤ 160) → ∀ (ls : Array Slot), lv_has ls 3 [(2, .int lp_2), (1, .int lp_1), (0, .ref (ad 60 0))] → W p l e (headSpec wsX12_one ({ frames := 23, cells := 0, slots := 0, locals := 498 })).room s m ([.ref (ad 60 0)] : List Value).toArray below meth c s.heap [] 0 0 (MQ below (va_Qi (fun (r : Int32) (u : fm_M) => fm_I nb ad u ∧ fm_same [60064, 60065, 60066, 60067] M u ∧ ((M.1 60 0 64).toInt ≤ (u.1 60 0 64).toInt ∧ (M.1 60 0 66).toInt ≤ (u.1 60 0 66).toInt ∧ (u.1 60 0 64).toInt ≤ (u.1 60 0 65).toInt)) (fun u t => fm_at D ad C nb u t.heap) (fm_A nb ad)) ([.ref (ad 60 0)] : List Value).toArray s 0 0 (fm_A nb ad)) (F0 m 133 ls []) := by
              intro n_lp
              induction n_lp with
              | zero => intro lp_2 lp_1 hm_lp b_lp_2 ls hl; exact absurd hm_lp (Nat.not_lt_zero _)
              | succ n_lp ih_lp =>
                intro lp_2 lp_1 hm_lp b_lp_2 ls hl
                refine lv_iload_n hx hb dX12_one_133 rfl (lv_at hl 0 rfl) ?_
                refine lv_aload_n hx hb dX12_one_134 rfl (lv_at hl 2 rfl) ?_
                refine fm_getI (a := 60) (j := 65) (T := TX12) (N := 79) hx hb hts hinX12 hown hc hw hI kl_60 sh_60 rfl (by decide) rfl bd_60_65 (hts (.fieldLink RX12 337 "RedTentModel" "to" "I") (List.mem_cons_of_mem _ tw_5_185)) (fun _ h9 => h9) dX12_one_135 (fun x19 ex19 bx19 => ?_)
                have wx19 : x19.toInt = (M.1 60 0 65).toInt := by rw [ex19]
                obtain rfl : x14 = x19 := by rw [ex19]; exact ex14
                refine fx_icmp_ge (tgt := 161) hx hb dX12_one_138 (by decide) rfl rfl (fun c20 => ?_) (fun c20 => ?_)
                · refine lv_aload_n hx hb dX12_one_161 rfl (lv_at hl 2 rfl) ?_
                  refine fm_cv (va_runV (As := []) (rest := []) ⟨hx, hb, hml, hown, hts⟩ (fc_X12_next l D ad C nb M hI) (cwV 0 hts gX12_one_X12_next rfl rfl rfl (by decide +kernel) ⟨Nat.le_of_ble_eq_true rfl, Nat.le_of_ble_eq_true rfl⟩) (fm_preV hc hw hS kl_60 sh_60 rfl) rfl rfl hl.1 rfl (lv_room (Nat.le_of_ble_eq_true rfl)) dX12_one_162 ⟨by decide +kernel, by decide +kernel⟩) hS hc (fun M22 H locs hr21 hw hS => ?_)
                  obtain ⟨hI, hEM22, hr21⟩ := hr21
                  have hE := hE.tr hEM22 (by decide)
                  have mM22_60_63 : (M22.1 60 0 63).toInt = (M.1 60 0 63).toInt := by rw [(hEM22 60 0 63 (by decide)).1]
                  have mM22_60_66 : (M22.1 60 0 66).toInt = (M.1 60 0 66).toInt := by rw [(hEM22 60 0 66 (by decide)).1]
                  refine lv_iload_n hx hb dX12_one_165 rfl (lv_at hl 1 rfl) ?_
                  have qx9 : x9.toInt = (M.1 60 0 64).toInt := by rw [ex9]
                  exact W.iret (v := lp_1) hx hb hr (fun t ht hW => ⟨⟨lp_1, M22, rfl, ⟨hI, hE, ⟨by omega, by omega, by omega⟩⟩, by show fm_at D ad C nb _ t.heap; rw [ht]; exact hw⟩, hS.F ht⟩) hS.2.2 dX12_one_166
                · refine lv_bipush (v := 10) hx hb dX12_one_141 (by decide) ?_
                  refine lv_iload_n hx hb dX12_one_143 rfl (lv_at hl 1 rfl) ?_
                  refine fx_imulU hx hb dX12_one_144 (fun y23 ey23 => ?_)
                  refine lv_aload_n hx hb dX12_one_145 rfl (lv_at hl 2 rfl) ?_
                  refine lv_iload_n hx hb dX12_one_146 rfl (lv_at hl 0 rfl) ?_
                  refine vp_callSi (va_Run.run (va_runV (As := [.int lp_2]) (rest := [.int y23]) ⟨hx, hb, hml, hown, hts⟩ (fc_X12_byteAt l D ad C nb M hI lp_2 (by omega)) (cwV 1 hts gX12_one_X12_byteAt rfl rfl rfl (by decide +kernel) ⟨Nat.le_of_ble_eq_true rfl, Nat.le_of_ble_eq_true rfl⟩) (fm_preV hc hw hS kl_60 sh_60 rfl) rfl rfl hl.1 rfl (lv_room (Nat.le_of_ble_eq_true rfl)) dX12_one_147 ⟨by decide +kernel, by decide +kernel⟩)) (fun r24 hr24 => ?_)
                  refine fx_iaddU hx hb dX12_one_150 (fun y25 ey25 => ?_)
                  refine lv_bipush (v := 48) hx hb dX12_one_151 (by decide) ?_
                  refine fx_isubU hx hb dX12_one_153 (fun y26 ey26 => ?_)
                  refine lv_istore_n (lv' := [(1, .int y26), (2, .int lp_2), (0, .ref (ad 60 0))]) hx hb dX12_one_154 rfl hl (by decide) rfl (fun ls hl => ?_)
                  obtain ⟨y27, ey27⟩ : ∃ y : Int32, y = lp_2 + 1 := ⟨_, rfl⟩
                  have ty27 : y27.toInt = lp_2.toInt + 1 := by rw [ey27, zi_add _ _ (by rw [zk_1]; omega) (by rw [zk_1]; omega), zk_1]
                  refine lv_iinc (v := y27) (lv' := [(2, .int y27), (1, .int y26), (0, .ref (ad 60 0))]) hx hb dX12_one_155 hl (k := 1) rfl (by rw [ey27]; rfl) (by decide) rfl (fun ls hl => ?_)
                  refine lv_goto (tgt := 133) hx hb dX12_one_158 (by decide) ?_
                  exact ih_lp y27 y26 (by omega) (by omega) ls (lv_sub hl [0, 1, 2] rfl)
            exact lp _ x9 0 (Nat.lt_succ_self _) (by omega) ls (lv_sub hl [0, 1, 2] rfl)
          · refine lv_aload_n hx hb dX12_one_121 rfl (lv_at hl 0 rfl) ?_
            refine fm_ci (va_runV (As := []) (rest := []) ⟨hx, hb, hml, hown, hts⟩ (fc_X12_wrong l D ad C nb M hI) (cwV 0 hts gX12_one_X12_wrong rfl rfl rfl (by decide +kernel) ⟨Nat.le_of_ble_eq_true rfl, Nat.le_of_ble_eq_true rfl⟩) (fm_preV hc hw hS kl_60 sh_60 rfl) rfl rfl hl.1 rfl (lv_room (Nat.le_of_ble_eq_true rfl)) dX12_one_122 ⟨by decide +kernel, by decide +kernel⟩) hS hc (fun r28 M29 H locs hr28 hw hS => ?_)
            obtain ⟨hI, hEM29, hr28⟩ := hr28
            have hE := hE.tr hEM29 (by decide)
            have mM29_60_63 : (M29.1 60 0 63).toInt = (M.1 60 0 63).toInt := by rw [(hEM29 60 0 63 (by decide)).1]
            have mM29_60_64 : (M29.1 60 0 64).toInt = (M.1 60 0 64).toInt := by rw [(hEM29 60 0 64 (by decide)).1]
            have mM29_60_65 : (M29.1 60 0 65).toInt = (M.1 60 0 65).toInt := by rw [(hEM29 60 0 65 (by decide)).1]
            have mM29_60_66 : (M29.1 60 0 66).toInt = (M.1 60 0 66).toInt := by rw [(hEM29 60 0 66 (by decide)).1]
            have qx9 : x9.toInt = (M.1 60 0 64).toInt := by rw [ex9]
            exact W.iret (v := r28) hx hb hr (fun t ht hW => ⟨⟨r28, M29, rfl, ⟨hI, hE, ⟨by omega, by omega, by omega⟩⟩, by show fm_at D ad C nb _ t.heap; rw [ht]; exact hw⟩, hS.F ht⟩) hS.2.2 dX12_one_125
        · refine fx_if_eq (tgt := 167) hx hb dX12_one_105 (by decide) zk_0 (fun c30 => ?_) (fun c30 => by exfalso; omega)
          have jt : ∀ (jt_1 : Int32), ((-1) ≤ jt_1.toInt ∧ jt_1.toInt ≤ 5) → ∀ (ls : Array Slot), lv_has ls 3 [(0, .ref (ad 60 0)), (1, .int jt_1)] → W p l e (headSpec wsX12_one ({ frames := 23, cells := 0, slots := 0, locals := 498 })).room s m ([.ref (ad 60 0)] : List Value).toArray below meth c s.heap [] 0 0 (MQ below (va_Qi (fun (r : Int32) (u : fm_M) => fm_I nb ad u ∧ fm_same [60064, 60065, 60066, 60067] M u ∧ ((M.1 60 0 64).toInt ≤ (u.1 60 0 64).toInt ∧ (M.1 60 0 66).toInt ≤ (u.1 60 0 66).toInt ∧ (u.1 60 0 64).toInt ≤ (u.1 60 0 65).toInt)) (fun u t => fm_at D ad C nb u t.heap) (fm_A nb ad)) ([.ref (ad 60 0)] : List Value).toArray s 0 0 (fm_A nb ad)) (F0 m 253 ls []) := by
            intro jt_1 b_jt_1 ls hl
            refine lv_iload_n hx hb dX12_one_253 rfl (lv_at hl 1 rfl) ?_
            refine fx_if_ge (tgt := 262) hx hb dX12_one_254 (by decide) rfl (fun c31 => ?_) (fun c31 => ?_)
            · refine lv_aload_n hx hb dX12_one_262 rfl (lv_at hl 0 rfl) ?_
              refine fm_cv (va_runV (As := []) (rest := []) ⟨hx, hb, hml, hown, hts⟩ (fc_X12_next l D ad C nb M hI) (cwV 0 hts gX12_one_X12_next rfl rfl rfl (by decide +kernel) ⟨Nat.le_of_ble_eq_true rfl, Nat.le_of_ble_eq_true rfl⟩) (fm_preV hc hw hS kl_60 sh_60 rfl) rfl rfl hl.1 rfl (lv_room (Nat.le_of_ble_eq_true rfl)) dX12_one_263 ⟨by decide +kernel, by decide +kernel⟩) hS hc (fun M33 H locs hr32 hw hS => ?_)
              obtain ⟨hI, hEM33, hr32⟩ := hr32
              have hE := hE.tr hEM33 (by decide)
              have mM33_60_63 : (M33.1 60 0 63).toInt = (M.1 60 0 63).toInt := by rw [(hEM33 60 0 63 (by decide)).1]
              have mM33_60_66 : (M33.1 60 0 66).toInt = (M.1 60 0 66).toInt := by rw [(hEM33 60 0 66 (by decide)).1]
              refine lv_aload_n hx hb dX12_one_266 rfl (lv_at hl 0 rfl) ?_
              refine fm_getG (a := 60) (j := 68) (T := TX12) (N := 79) hx hb hts hinX12 hown hc hw kl_60 sh_60 rfl (by decide) rfl (hI.to kl_60 tg_60_68) (hts (.fieldLink RX12 143 "RedTentModel" "names" "[I") (List.mem_cons_of_mem _ tw_5_188)) (fun _ h9 => h9) dX12_one_267 ?_
              refine lv_iload_n hx hb dX12_one_270 rfl (lv_at hl 1 rfl) ?_
              refine fm_iald (a := 168) hx hb hc hw hI kl_168 sh_168 ty_168 bd_168 (by omega) dX12_one_271 (fun x34 ex34 bx34 => ?_)
              have qx9 : x9.toInt = (M.1 60 0 64).toInt := by rw [ex9]
              exact W.iret (v := x34) hx hb hr (fun t ht hW => ⟨⟨x34, M33, rfl, ⟨hI, hE, ⟨by omega, by omega, by omega⟩⟩, by show fm_at D ad C nb _ t.heap; rw [ht]; exact hw⟩, hS.F ht⟩) hS.2.2 dX12_one_272
            · refine lv_aload_n hx hb dX12_one_257 rfl (lv_at hl 0 rfl) ?_
              refine fm_ci (va_runV (As := []) (rest := []) ⟨hx, hb, hml, hown, hts⟩ (fc_X12_wrong l D ad C nb M hI) (cwV 0 hts gX12_one_X12_wrong rfl rfl rfl (by decide +kernel) ⟨Nat.le_of_ble_eq_true rfl, Nat.le_of_ble_eq_true rfl⟩) (fm_preV hc hw hS kl_60 sh_60 rfl) rfl rfl hl.1 rfl (lv_room (Nat.le_of_ble_eq_true rfl)) dX12_one_258 ⟨by decide +kernel, by decide +kernel⟩) hS hc (fun r35 M36 H locs hr35 hw hS => ?_)
              obtain ⟨hI, hEM36, hr35⟩ := hr35
              have hE := hE.tr hEM36 (by decide)
              have mM36_60_63 : (M36.1 60 0 63).toInt = (M.1 60 0 63).toInt := by rw [(hEM36 60 0 63 (by decide)).1]
              have mM36_60_64 : (M36.1 60 0 64).toInt = (M.1 60 0 64).toInt := by rw [(hEM36 60 0 64 (by decide)).1]
              have mM36_60_65 : (M36.1 60 0 65).toInt = (M.1 60 0 65).toInt := by rw [(hEM36 60 0 65 (by decide)).1]
              have mM36_60_66 : (M36.1 60 0 66).toInt = (M.1 60 0 66).toInt := by rw [(hEM36 60 0 66 (by decide)).1]
              have qx9 : x9.toInt = (M.1 60 0 64).toInt := by rw [ex9]
              exact W.iret (v := r35) hx hb hr (fun t ht hW => ⟨⟨r35, M36, rfl, ⟨hI, hE, ⟨by omega, by omega, by omega⟩⟩, by show fm_at D ad C nb _ t.heap; rw [ht]; exact hw⟩, hS.F ht⟩) hS.2.2 dX12_one_261
          refine lv_aload_n hx hb dX12_one_167 rfl (lv_at hl 0 rfl) ?_
          obtain ⟨q37, vq37, hQq37, hRq37⟩ := hc.2.2.2.2.1 (RX12, 410, "strength", [115, 116, 114, 101, 110, 103, 116, 104]) (by decide)
          refine va_ldcwS hx hb hown hRq37 dX12_one_168 ?_
          refine vp_callSi (va_Run.run (va_runV (As := [.ref q37]) (rest := []) ⟨hx, hb, hml, hown, hts⟩ (fc_X12_is l D ad C nb M hI q37 vq37 8 (fun j => ([115, 116, 114, 101, 110, 103, 116, 104] : List Int32).getD j 0) (by decide)) (cwV 1 hts gX12_one_X12_is rfl rfl rfl (by decide +kernel) ⟨Nat.le_of_ble_eq_true rfl, Nat.le_of_ble_eq_true rfl⟩) (fm_preVS hc hw hS hQq37 kl_60 sh_60 rfl) rfl rfl hl.1 rfl (lv_room (Nat.le_of_ble_eq_true rfl)) dX12_one_171 ⟨by decide +kernel, by decide +kernel⟩)) (fun r38 hr38 => ?_)
          have ir38 := hr38.2
          have jr38 := hr38.1
          refine fx_if_eq (tgt := 181) hx hb dX12_one_174 (by decide) rfl (fun c39 => ?_) (fun c39 => ?_)
          · refine lv_aload_n hx hb dX12_one_181 rfl (lv_at hl 0 rfl) ?_
            obtain ⟨q40, vq40, hQq40, hRq40⟩ := hc.2.2.2.2.1 (RX12, 411, "hurt", [104, 117, 114, 116]) (by decide)
            refine va_ldcwS hx hb hown hRq40 dX12_one_182 ?_
            refine vp_callSi (va_Run.run (va_runV (As := [.ref q40]) (rest := []) ⟨hx, hb, hml, hown, hts⟩ (fc_X12_is l D ad C nb M hI q40 vq40 4 (fun j => ([104, 117, 114, 116] : List Int32).getD j 0) (by decide)) (cwV 1 hts gX12_one_X12_is rfl rfl rfl (by decide +kernel) ⟨Nat.le_of_ble_eq_true rfl, Nat.le_of_ble_eq_true rfl⟩) (fm_preVS hc hw hS hQq40 kl_60 sh_60 rfl) rfl rfl hl.1 rfl (lv_room (Nat.le_of_ble_eq_true rfl)) dX12_one_185 ⟨by decide +kernel, by decide +kernel⟩)) (fun r41 hr41 => ?_)
            have ir41 := hr41.2
            have jr41 := hr41.1
            refine fx_if_eq (tgt := 195) hx hb dX12_one_188 (by decide) rfl (fun c42 => ?_) (fun c42 => ?_)
            · refine lv_aload_n hx hb dX12_one_195 rfl (lv_at hl 0 rfl) ?_
              obtain ⟨q43, vq43, hQq43, hRq43⟩ := hc.2.2.2.2.1 (RX12, 412, "skill", [115, 107, 105, 108, 108]) (by decide)
              refine va_ldcwS hx hb hown hRq43 dX12_one_196 ?_
              refine vp_callSi (va_Run.run (va_runV (As := [.ref q43]) (rest := []) ⟨hx, hb, hml, hown, hts⟩ (fc_X12_is l D ad C nb M hI q43 vq43 5 (fun j => ([115, 107, 105, 108, 108] : List Int32).getD j 0) (by decide)) (cwV 1 hts gX12_one_X12_is rfl rfl rfl (by decide +kernel) ⟨Nat.le_of_ble_eq_true rfl, Nat.le_of_ble_eq_true rfl⟩) (fm_preVS hc hw hS hQq43 kl_60 sh_60 rfl) rfl rfl hl.1 rfl (lv_room (Nat.le_of_ble_eq_true rfl)) dX12_one_199 ⟨by decide +kernel, by decide +kernel⟩)) (fun r44 hr44 => ?_)
              have ir44 := hr44.2
              have jr44 := hr44.1
              refine fx_if_eq (tgt := 209) hx hb dX12_one_202 (by decide) rfl (fun c45 => ?_) (fun c45 => ?_)
              · refine lv_aload_n hx hb dX12_one_209 rfl (lv_at hl 0 rfl) ?_
                obtain ⟨q46, vq46, hQq46, hRq46⟩ := hc.2.2.2.2.1 (RX12, 413, "hour", [104, 111, 117, 114]) (by decide)
                refine va_ldcwS hx hb hown hRq46 dX12_one_210 ?_
                refine vp_callSi (va_Run.run (va_runV (As := [.ref q46]) (rest := []) ⟨hx, hb, hml, hown, hts⟩ (fc_X12_is l D ad C nb M hI q46 vq46 4 (fun j => ([104, 111, 117, 114] : List Int32).getD j 0) (by decide)) (cwV 1 hts gX12_one_X12_is rfl rfl rfl (by decide +kernel) ⟨Nat.le_of_ble_eq_true rfl, Nat.le_of_ble_eq_true rfl⟩) (fm_preVS hc hw hS hQq46 kl_60 sh_60 rfl) rfl rfl hl.1 rfl (lv_room (Nat.le_of_ble_eq_true rfl)) dX12_one_213 ⟨by decide +kernel, by decide +kernel⟩)) (fun r47 hr47 => ?_)
                have ir47 := hr47.2
                have jr47 := hr47.1
                refine fx_if_eq (tgt := 223) hx hb dX12_one_216 (by decide) rfl (fun c48 => ?_) (fun c48 => ?_)
                · refine lv_aload_n hx hb dX12_one_223 rfl (lv_at hl 0 rfl) ?_
                  obtain ⟨q49, vq49, hQq49, hRq49⟩ := hc.2.2.2.2.1 (RX12, 414, "fuel", [102, 117, 101, 108]) (by decide)
                  refine va_ldcwS hx hb hown hRq49 dX12_one_224 ?_
                  refine vp_callSi (va_Run.run (va_runV (As := [.ref q49]) (rest := []) ⟨hx, hb, hml, hown, hts⟩ (fc_X12_is l D ad C nb M hI q49 vq49 4 (fun j => ([102, 117, 101, 108] : List Int32).getD j 0) (by decide)) (cwV 1 hts gX12_one_X12_is rfl rfl rfl (by decide +kernel) ⟨Nat.le_of_ble_eq_true rfl, Nat.le_of_ble_eq_true rfl⟩) (fm_preVS hc hw hS hQq49 kl_60 sh_60 rfl) rfl rfl hl.1 rfl (lv_room (Nat.le_of_ble_eq_true rfl)) dX12_one_227 ⟨by decide +kernel, by decide +kernel⟩)) (fun r50 hr50 => ?_)
                  have ir50 := hr50.2
                  have jr50 := hr50.1
                  refine fx_if_eq (tgt := 237) hx hb dX12_one_230 (by decide) rfl (fun c51 => ?_) (fun c51 => ?_)
                  · refine lv_aload_n hx hb dX12_one_237 rfl (lv_at hl 0 rfl) ?_
                    obtain ⟨q52, vq52, hQq52, hRq52⟩ := hc.2.2.2.2.1 (RX12, 415, "far", [102, 97, 114]) (by decide)
                    refine va_ldcwS hx hb hown hRq52 dX12_one_238 ?_
                    refine vp_callSi (va_Run.run (va_runV (As := [.ref q52]) (rest := []) ⟨hx, hb, hml, hown, hts⟩ (fc_X12_is l D ad C nb M hI q52 vq52 3 (fun j => ([102, 97, 114] : List Int32).getD j 0) (by decide)) (cwV 1 hts gX12_one_X12_is rfl rfl rfl (by decide +kernel) ⟨Nat.le_of_ble_eq_true rfl, Nat.le_of_ble_eq_true rfl⟩) (fm_preVS hc hw hS hQq52 kl_60 sh_60 rfl) rfl rfl hl.1 rfl (lv_room (Nat.le_of_ble_eq_true rfl)) dX12_one_241 ⟨by decide +kernel, by decide +kernel⟩)) (fun r53 hr53 => ?_)
                    have ir53 := hr53.2
                    have jr53 := hr53.1
                    refine fx_if_eq (tgt := 251) hx hb dX12_one_244 (by decide) rfl (fun c54 => ?_) (fun c54 => ?_)
                    · refine lv_iconst (v := (-1)) hx hb dX12_one_251 (by decide) ?_
                      refine lv_istore_n (lv' := [(1, .int (-1)), (0, .ref (ad 60 0))]) hx hb dX12_one_252 rfl hl (by decide) rfl (fun ls hl => ?_)
                      exact jt (-1) (by decide) ls (lv_sub hl [1, 0] rfl)
                    · refine lv_iconst (v := 5) hx hb dX12_one_247 (by decide) ?_
                      refine lv_goto (tgt := 252) hx hb dX12_one_248 (by decide) ?_
                      refine lv_istore_n (lv' := [(1, .int 5), (0, .ref (ad 60 0))]) hx hb dX12_one_252 rfl hl (by decide) rfl (fun ls hl => ?_)
                      exact jt 5 (by decide) ls (lv_sub hl [1, 0] rfl)
                  · refine lv_iconst (v := 4) hx hb dX12_one_233 (by decide) ?_
                    refine lv_goto (tgt := 252) hx hb dX12_one_234 (by decide) ?_
                    refine lv_istore_n (lv' := [(1, .int 4), (0, .ref (ad 60 0))]) hx hb dX12_one_252 rfl hl (by decide) rfl (fun ls hl => ?_)
                    exact jt 4 (by decide) ls (lv_sub hl [1, 0] rfl)
                · refine lv_iconst (v := 3) hx hb dX12_one_219 (by decide) ?_
                  refine lv_goto (tgt := 252) hx hb dX12_one_220 (by decide) ?_
                  refine lv_istore_n (lv' := [(1, .int 3), (0, .ref (ad 60 0))]) hx hb dX12_one_252 rfl hl (by decide) rfl (fun ls hl => ?_)
                  exact jt 3 (by decide) ls (lv_sub hl [1, 0] rfl)
              · refine lv_iconst (v := 2) hx hb dX12_one_205 (by decide) ?_
                refine lv_goto (tgt := 252) hx hb dX12_one_206 (by decide) ?_
                refine lv_istore_n (lv' := [(1, .int 2), (0, .ref (ad 60 0))]) hx hb dX12_one_252 rfl hl (by decide) rfl (fun ls hl => ?_)
                exact jt 2 (by decide) ls (lv_sub hl [1, 0] rfl)
            · refine lv_iconst (v := 1) hx hb dX12_one_191 (by decide) ?_
              refine lv_goto (tgt := 252) hx hb dX12_one_192 (by decide) ?_
              refine lv_istore_n (lv' := [(1, .int 1), (0, .ref (ad 60 0))]) hx hb dX12_one_252 rfl hl (by decide) rfl (fun ls hl => ?_)
              exact jt 1 (by decide) ls (lv_sub hl [1, 0] rfl)
          · refine lv_iconst (v := 0) hx hb dX12_one_177 (by decide) ?_
            refine lv_goto (tgt := 252) hx hb dX12_one_178 (by decide) ?_
            refine lv_istore_n (lv' := [(1, .int 0), (0, .ref (ad 60 0))]) hx hb dX12_one_252 rfl hl (by decide) rfl (fun ls hl => ?_)
            exact jt 0 (by decide) ls (lv_sub hl [1, 0] rfl)
      · refine lv_aload_n hx hb dX12_one_56 rfl (lv_at hl 0 rfl) ?_
        refine fm_ci (va_runV (As := []) (rest := []) ⟨hx, hb, hml, hown, hts⟩ (fc_X12_opens l D ad C nb M hI) (cwV 0 hts gX12_one_X12_opens rfl rfl rfl (by decide +kernel) ⟨Nat.le_of_ble_eq_true rfl, Nat.le_of_ble_eq_true rfl⟩) (fm_preV hc hw hS kl_60 sh_60 rfl) rfl rfl hl.1 rfl (lv_room (Nat.le_of_ble_eq_true rfl)) dX12_one_57 ⟨by decide +kernel, by decide +kernel⟩) hS hc (fun r55 M56 H locs hr55 hw hS => ?_)
        obtain ⟨hI, hEM56, hr55⟩ := hr55
        have hE := hE.tr hEM56 (by decide)
        have mM56_60_63 : (M56.1 60 0 63).toInt = (M.1 60 0 63).toInt := by rw [(hEM56 60 0 63 (by decide)).1]
        rcases hr55 with ⟨rfl, ahr55, bhr55, dhr55⟩ | ⟨rfl, ahr55, bhr55, dhr55⟩
        · refine fx_if_ne (tgt := 65) hx hb dX12_one_60 (by decide) zk_1 (fun c57 => ?_) (fun c57 => by exfalso; omega)
          refine lv_aload_n hx hb dX12_one_65 rfl (lv_at hl 0 rfl) ?_
          have d58_63 := hI.bd (k := 0) bd_60_63
          have d58_64 := hI.bd (k := 0) bd_60_64
          have d58_65 := hI.bd (k := 0) bd_60_65
          have d58_66 := hI.bd (k := 0) bd_60_66
          refine fm_ci (va_runV (As := []) (rest := []) ⟨hx, hb, hml, hown, hts⟩ (fc_X12_either_3 l D ad C nb M56 hI (by omega) (by omega)) (cwV 0 hts gX12_one_X12_either rfl rfl rfl (by decide +kernel) ⟨Nat.le_of_ble_eq_true rfl, Nat.le_of_ble_eq_true rfl⟩) (fm_preV hc hw hS kl_60 sh_60 rfl) rfl rfl hl.1 rfl (lv_room (Nat.le_of_ble_eq_true rfl)) dX12_one_66 ⟨by decide +kernel, by decide +kernel⟩) hS hc (fun r59 M60 H locs hr59 hw hS => ?_)
          obtain ⟨hI, hEM60, hr59⟩ := hr59
          have hE := hE.tr hEM60 (by decide)
          have mM60_60_63 : (M60.1 60 0 63).toInt = (M56.1 60 0 63).toInt := by rw [(hEM60 60 0 63 (by decide)).1]
          obtain ⟨ahr59, bhr59, dhr59⟩ := hr59
          refine lv_istore_n (lv' := [(1, .int r59), (0, .ref (ad 60 0))]) hx hb dX12_one_69 rfl hl (by decide) rfl (fun ls hl => ?_)
          refine lv_aload_n hx hb dX12_one_70 rfl (lv_at hl 1 rfl) ?_
          obtain ⟨q61, vq61, hQq61, hRq61⟩ := hc.2.2.2.2.1 (RX12, 408, ")", [41]) (by decide)
          refine va_ldcwS hx hb hown hRq61 dX12_one_71 ?_
          refine fm_ci (va_runV (As := [.ref q61]) (rest := []) ⟨hx, hb, hml, hown, hts⟩ (fc_X12_take l D ad C nb M60 hI q61 vq61 1 (fun j => ([41] : List Int32).getD j 0) (by decide) (by omega)) (cwV 1 hts gX12_one_X12_take rfl rfl rfl (by decide +kernel) ⟨Nat.le_of_ble_eq_true rfl, Nat.le_of_ble_eq_true rfl⟩) (fm_preVS hc hw hS hQq61 kl_60 sh_60 rfl) rfl rfl hl.1 rfl (lv_room (Nat.le_of_ble_eq_true rfl)) dX12_one_74 ⟨by decide +kernel, by decide +kernel⟩) hS hc (fun r62 M63 H locs hr62 hw hS => ?_)
          obtain ⟨hI, hEM63, hr62⟩ := hr62
          have hE := hE.tr hEM63 (by decide)
          have mM63_60_63 : (M63.1 60 0 63).toInt = (M60.1 60 0 63).toInt := by rw [(hEM63 60 0 63 (by decide)).1]
          have mM63_60_66 : (M63.1 60 0 66).toInt = (M60.1 60 0 66).toInt := by rw [(hEM63 60 0 66 (by decide)).1]
          rcases hr62 with ⟨rfl, ahr62, bhr62⟩ | ⟨rfl, ahr62, bhr62⟩
          · refine fx_if_ne (tgt := 85) hx hb dX12_one_77 (by decide) zk_1 (fun c64 => ?_) (fun c64 => by exfalso; omega)
            refine lv_aload_n hx hb dX12_one_85 rfl (lv_at hl 1 rfl) ?_
            refine lv_dup hx hb dX12_one_86 rfl ?_
            refine fm_getI (a := 60) (j := 66) (T := TX12) (N := 79) hx hb hts hinX12 hown hc hw hI kl_60 sh_60 rfl (by decide) rfl bd_60_66 (hts (.fieldLink RX12 372 "RedTentModel" "open" "I") (List.mem_cons_of_mem _ tw_5_186)) (fun _ h9 => h9) dX12_one_87 (fun x65 ex65 bx65 => ?_)
            have wx65 : x65.toInt = (M63.1 60 0 66).toInt := by rw [ex65]
            refine lv_iconst (v := 1) hx hb dX12_one_90 (by decide) ?_
            refine fx_isub hx hb dX12_one_91 rfl zk_1 (by omega) (fun y66 ey66 ty66 => ?_)
            refine fm_putI (a := 60) (j := 66) (T := TX12) (N := 79) hx hb hts hinX12 tyX12 tyX12_ok nmX12 hown hc hw hI hE hS kl_60 sh_60 od_60 rfl (by decide) rfl bd_60_66 (hts (.fieldLink RX12 372 "RedTentModel" "open" "I") (List.mem_cons_of_mem _ tw_5_186)) (fun _ h9 => h9) rfl (by decide +kernel) (by omega) (by decide) (by decide) dX12_one_92 (fun M67 H locs eM67 hw hI hE hS => ?_)
            have mM67_60_63 : (M67.1 60 0 63).toInt = (M63.1 60 0 63).toInt := by rw [eM67, fm_wI_nj (fun z => absurd z.2.2 (by decide))]
            have mM67_60_64 : (M67.1 60 0 64).toInt = (M63.1 60 0 64).toInt := by rw [eM67, fm_wI_nj (fun z => absurd z.2.2 (by decide))]
            have mM67_60_65 : (M67.1 60 0 65).toInt = (M63.1 60 0 65).toInt := by rw [eM67, fm_wI_nj (fun z => absurd z.2.2 (by decide))]
            have mM67_60_66 : (M67.1 60 0 66).toInt = y66.toInt := by rw [eM67, fm_wI_at]
            refine lv_iload_n hx hb dX12_one_95 rfl (lv_at hl 0 rfl) ?_
            exact W.iret (v := r59) hx hb hr (fun t ht hW => ⟨⟨r59, M67, rfl, ⟨hI, hE, ⟨by omega, by omega, by omega⟩⟩, by show fm_at D ad C nb _ t.heap; rw [ht]; exact hw⟩, hS.F ht⟩) hS.2.2 dX12_one_96
          · refine fx_if_ne (tgt := 85) hx hb dX12_one_77 (by decide) zk_0 (fun c68 => by exfalso; omega) (fun c68 => ?_)
            refine lv_aload_n hx hb dX12_one_80 rfl (lv_at hl 1 rfl) ?_
            refine fm_ci (va_runV (As := []) (rest := []) ⟨hx, hb, hml, hown, hts⟩ (fc_X12_wrong l D ad C nb M63 hI) (cwV 0 hts gX12_one_X12_wrong rfl rfl rfl (by decide +kernel) ⟨Nat.le_of_ble_eq_true rfl, Nat.le_of_ble_eq_true rfl⟩) (fm_preV hc hw hS kl_60 sh_60 rfl) rfl rfl hl.1 rfl (lv_room (Nat.le_of_ble_eq_true rfl)) dX12_one_81 ⟨by decide +kernel, by decide +kernel⟩) hS hc (fun r69 M70 H locs hr69 hw hS => ?_)
            obtain ⟨hI, hEM70, hr69⟩ := hr69
            have hE := hE.tr hEM70 (by decide)
            have mM70_60_63 : (M70.1 60 0 63).toInt = (M63.1 60 0 63).toInt := by rw [(hEM70 60 0 63 (by decide)).1]
            have mM70_60_64 : (M70.1 60 0 64).toInt = (M63.1 60 0 64).toInt := by rw [(hEM70 60 0 64 (by decide)).1]
            have mM70_60_65 : (M70.1 60 0 65).toInt = (M63.1 60 0 65).toInt := by rw [(hEM70 60 0 65 (by decide)).1]
            have mM70_60_66 : (M70.1 60 0 66).toInt = (M63.1 60 0 66).toInt := by rw [(hEM70 60 0 66 (by decide)).1]
            exact W.iret (v := r69) hx hb hr (fun t ht hW => ⟨⟨r69, M70, rfl, ⟨hI, hE, ⟨by omega, by omega, by omega⟩⟩, by show fm_at D ad C nb _ t.heap; rw [ht]; exact hw⟩, hS.F ht⟩) hS.2.2 dX12_one_84
        · refine fx_if_ne (tgt := 65) hx hb dX12_one_60 (by decide) zk_0 (fun c71 => by exfalso; omega) (fun c71 => ?_)
          refine lv_iconst (v := 0) hx hb dX12_one_63 (by decide) ?_
          exact W.iret (v := 0) hx hb hr (fun t ht hW => ⟨⟨0, M56, rfl, ⟨hI, hE, ⟨by omega, by omega, by omega⟩⟩, by show fm_at D ad C nb _ t.heap; rw [ht]; exact hw⟩, hS.F ht⟩) hS.2.2 dX12_one_64
    · refine lv_aload_n hx hb dX12_one_19 rfl (lv_at hl 0 rfl) ?_
      refine fm_ci (va_runV (As := []) (rest := []) ⟨hx, hb, hml, hown, hts⟩ (fc_X12_opens l D ad C nb M hI) (cwV 0 hts gX12_one_X12_opens rfl rfl rfl (by decide +kernel) ⟨Nat.le_of_ble_eq_true rfl, Nat.le_of_ble_eq_true rfl⟩) (fm_preV hc hw hS kl_60 sh_60 rfl) rfl rfl hl.1 rfl (lv_room (Nat.le_of_ble_eq_true rfl)) dX12_one_20 ⟨by decide +kernel, by decide +kernel⟩) hS hc (fun r72 M73 H locs hr72 hw hS => ?_)
      obtain ⟨hI, hEM73, hr72⟩ := hr72
      have hE := hE.tr hEM73 (by decide)
      have mM73_60_63 : (M73.1 60 0 63).toInt = (M.1 60 0 63).toInt := by rw [(hEM73 60 0 63 (by decide)).1]
      rcases hr72 with ⟨rfl, ahr72, bhr72, dhr72⟩ | ⟨rfl, ahr72, bhr72, dhr72⟩
      · refine fx_if_ne (tgt := 28) hx hb dX12_one_23 (by decide) zk_1 (fun c74 => ?_) (fun c74 => by exfalso; omega)
        refine lv_aload_n hx hb dX12_one_28 rfl (lv_at hl 0 rfl) ?_
        have d75_63 := hI.bd (k := 0) bd_60_63
        have d75_64 := hI.bd (k := 0) bd_60_64
        have d75_65 := hI.bd (k := 0) bd_60_65
        have d75_66 := hI.bd (k := 0) bd_60_66
        refine fm_ci (va_runV (As := []) (rest := []) ⟨hx, hb, hml, hown, hts⟩ (fc_X12_one_3 l D ad C nb M73 hI (by omega) (by omega)) (cwV 0 hts gX12_one_X12_one rfl rfl rfl (by decide +kernel) ⟨Nat.le_of_ble_eq_true rfl, Nat.le_of_ble_eq_true rfl⟩) (fm_preV hc hw hS kl_60 sh_60 rfl) rfl rfl hl.1 rfl (lv_room (Nat.le_of_ble_eq_true rfl)) dX12_one_29 ⟨by decide +kernel, by decide +kernel⟩) hS hc (fun r76 M77 H locs hr76 hw hS => ?_)
        obtain ⟨hI, hEM77, hr76⟩ := hr76
        have hE := hE.tr hEM77 (by decide)
        have mM77_60_63 : (M77.1 60 0 63).toInt = (M73.1 60 0 63).toInt := by rw [(hEM77 60 0 63 (by decide)).1]
        obtain ⟨ahr76, bhr76, dhr76⟩ := hr76
        refine lv_istore_n (lv' := [(1, .int r76), (0, .ref (ad 60 0))]) hx hb dX12_one_32 rfl hl (by decide) rfl (fun ls hl => ?_)
        refine lv_aload_n hx hb dX12_one_33 rfl (lv_at hl 1 rfl) ?_
        refine lv_dup hx hb dX12_one_34 rfl ?_
        refine fm_getI (a := 60) (j := 66) (T := TX12) (N := 79) hx hb hts hinX12 hown hc hw hI kl_60 sh_60 rfl (by decide) rfl bd_60_66 (hts (.fieldLink RX12 372 "RedTentModel" "open" "I") (List.mem_cons_of_mem _ tw_5_186)) (fun _ h9 => h9) dX12_one_35 (fun x78 ex78 bx78 => ?_)
        have wx78 : x78.toInt = (M77.1 60 0 66).toInt := by rw [ex78]
        refine lv_iconst (v := 1) hx hb dX12_one_38 (by decide) ?_
        refine fx_isub hx hb dX12_one_39 rfl zk_1 (by omega) (fun y79 ey79 ty79 => ?_)
        refine fm_putI (a := 60) (j := 66) (T := TX12) (N := 79) hx hb hts hinX12 tyX12 tyX12_ok nmX12 hown hc hw hI hE hS kl_60 sh_60 od_60 rfl (by decide) rfl bd_60_66 (hts (.fieldLink RX12 372 "RedTentModel" "open" "I") (List.mem_cons_of_mem _ tw_5_186)) (fun _ h9 => h9) rfl (by decide +kernel) (by omega) (by decide) (by decide) dX12_one_40 (fun M80 H locs eM80 hw hI hE hS => ?_)
        have mM80_60_63 : (M80.1 60 0 63).toInt = (M77.1 60 0 63).toInt := by rw [eM80, fm_wI_nj (fun z => absurd z.2.2 (by decide))]
        have mM80_60_64 : (M80.1 60 0 64).toInt = (M77.1 60 0 64).toInt := by rw [eM80, fm_wI_nj (fun z => absurd z.2.2 (by decide))]
        have mM80_60_65 : (M80.1 60 0 65).toInt = (M77.1 60 0 65).toInt := by rw [eM80, fm_wI_nj (fun z => absurd z.2.2 (by decide))]
        have mM80_60_66 : (M80.1 60 0 66).toInt = y79.toInt := by rw [eM80, fm_wI_at]
        refine lv_iload_n hx hb dX12_one_43 rfl (lv_at hl 0 rfl) ?_
        refine lv_ineg hx hb dX12_one_44 ?_
        refine lv_topi (fun y81 ey81 => ?_)
        exact W.iret (v := y81) hx hb hr (fun t ht hW => ⟨⟨y81, M80, rfl, ⟨hI, hE, ⟨by omega, by omega, by omega⟩⟩, by show fm_at D ad C nb _ t.heap; rw [ht]; exact hw⟩, hS.F ht⟩) hS.2.2 dX12_one_45
      · refine fx_if_ne (tgt := 28) hx hb dX12_one_23 (by decide) zk_0 (fun c82 => by exfalso; omega) (fun c82 => ?_)
        refine lv_iconst (v := 0) hx hb dX12_one_26 (by decide) ?_
        exact W.iret (v := 0) hx hb hr (fun t ht hW => ⟨⟨0, M73, rfl, ⟨hI, hE, ⟨by omega, by omega, by omega⟩⟩, by show fm_at D ad C nb _ t.heap; rw [ht]; exact hw⟩, hS.F ht⟩) hS.2.2 dX12_one_27
  · refine lv_iconst (v := 0) hx hb dX12_one_7 (by decide) ?_
    exact W.iret (v := 0) hx hb hr (fun t ht hW => ⟨⟨0, M, rfl, ⟨hI, hE, ⟨by omega, by omega, by omega⟩⟩, by show fm_at D ad C nb _ t.heap; rw [ht]; exact hw⟩, hS.F ht⟩) hS.2.2 dX12_one_8
set_option maxHeartbeats 400000 in
set_option maxRecDepth 20000 in
theorem fc_X12_product_2 (l : Launch) (D : va_G) (ad : Nat → Nat → Nat) (C : Nat → Nat → ClassId) (nb : Nat) (M : fm_M) (hI : fm_I nb ad M) (hft : (M.1 60 0 64).toInt ≤ (M.1 60 0 65).toInt) (hop : 2 ≤ (M.1 60 0 66).toInt) : Met l yX12_product wsX12_product ({ frames := 24, cells := 0, slots := 0, locals := 520 }) (va_Pc [.ref (ad 60 0)] (fm_P D ad C nb M)) (va_Qi (fun (r : Int32) (u : fm_M) => fm_I nb ad u ∧ fm_same [60064, 60065, 60066, 60067] M u ∧ ((M.1 60 0 64).toInt ≤ (u.1 60 0 64).toInt ∧ (M.1 60 0 66).toInt ≤ (u.1 60 0 66).toInt ∧ (u.1 60 0 64).toInt ≤ (u.1 60 0 65).toInt)) (fun u t => fm_at D ad C nb u t.heap) (fm_A nb ad)) 0 0 (fm_A nb ad) := by
  refine Met.ofW (cc := cX12_product) (maxL := 2) (ret := (some .int)) (by decide) rfl ?_
  intro p e s m args below meth c s₁ B hml hv
  obtain ⟨rfl, hw, hc⟩ := hv
  have hx := B.exec
  have hb := B.bytes
  have hr := B.returns
  have hts := atoms_spec (ws := wsX12_product) B.pre
  have hown : s.vm.findClass RX12 = some m.cls := findClass_of_methodNamed B.named
  have hS : va_S (fm_A nb ad) s.heap s.heap [] := va_S.rf
  have hE : fm_same [60064, 60065, 60066, 60067] M M := fm_same.rf
  have hl := lv_entry ([.ref (ad 60 0)]) (n := 2) (Nat.le_of_ble_eq_true rfl)
  rw [lg_entry_eq]
  generalize (lg_sl ([.ref (ad 60 0)]) ++ List.replicate (2 - (lg_sl ([.ref (ad 60 0)])).length) Slot.unset).toArray = ls at hl ⊢
  have hl : lv_has ls 2 [(0, .ref (ad 60 0))] := hl
  refine lv_aload_n hx hb dX12_product_0 rfl (lv_at hl 0 rfl) ?_
  have d1_63 := hI.bd (k := 0) bd_60_63
  have d1_64 := hI.bd (k := 0) bd_60_64
  have d1_65 := hI.bd (k := 0) bd_60_65
  have d1_66 := hI.bd (k := 0) bd_60_66
  refine fm_ci (va_runV (As := []) (rest := []) ⟨hx, hb, hml, hown, hts⟩ (fc_X12_one_2 l D ad C nb M hI (by omega) (by omega)) (cwV 0 hts gX12_product_X12_one rfl rfl rfl (by decide +kernel) ⟨Nat.le_of_ble_eq_true rfl, Nat.le_of_ble_eq_true rfl⟩) (fm_preV hc hw hS kl_60 sh_60 rfl) rfl rfl hl.1 rfl (lv_room (Nat.le_of_ble_eq_true rfl)) dX12_product_1 ⟨by decide +kernel, by decide +kernel⟩) hS hc (fun r2 M3 H locs hr2 hw hS => ?_)
  obtain ⟨hI, hEM3, hr2⟩ := hr2
  have hE := hE.tr hEM3 (by decide)
  have mM3_60_63 : (M3.1 60 0 63).toInt = (M.1 60 0 63).toInt := by rw [(hEM3 60 0 63 (by decide)).1]
  obtain ⟨ahr2, bhr2, dhr2⟩ := hr2
  refine lv_istore_n (lv' := [(1, .int r2), (0, .ref (ad 60 0))]) hx hb dX12_product_4 rfl hl (by decide) rfl (fun ls hl => ?_)
  have lp : ∀ (n_lp : Nat) (lp_1 : Int32) (M_lp : fm_M), (161 - (M_lp.1 60 0 64).toInt).toNat < n_lp → ((M.1 60 0 64).toInt ≤ (M_lp.1 60 0 64).toInt ∧ (M.1 60 0 66).toInt ≤ (M_lp.1 60 0 66).toInt ∧ (M_lp.1 60 0 64).toInt ≤ (M_lp.1 60 0 65).toInt) → fm_I nb ad M_lp → fm_same [60064, 60065, 60066, 60067] M M_lp → ∀ (H : Heap) (locs : List Loc), fm_at D ad C nb M_lp H → va_S (fm_A nb ad) s.heap H locs → ∀ (ls : Array Slot), lv_has ls 2 [(1, .int lp_1), (0, .ref (ad 60 0))] → W p l e (headSpec wsX12_product ({ frames := 24, cells := 0, slots := 0, locals := 520 })).room s m ([.ref (ad 60 0)] : List Value).toArray below meth c H locs 0 0 (MQ below (va_Qi (fun (r : Int32) (u : fm_M) => fm_I nb ad u ∧ fm_same [60064, 60065, 60066, 60067] M u ∧ ((M.1 60 0 64).toInt ≤ (u.1 60 0 64).toInt ∧ (M.1 60 0 66).toInt ≤ (u.1 60 0 66).toInt ∧ (u.1 60 0 64).toInt ≤ (u.1 60 0 65).toInt)) (fun u t => fm_at D ad C nb u t.heap) (fm_A nb ad)) ([.ref (ad 60 0)] : List Value).toArray s 0 0 (fm_A nb ad)) (F0 m 5 ls []) := by
    intro n_lp
    induction n_lp with
    | zero => intro lp_1 M_lp hm_lp hv hI hE H locs hw hS ls hl; exact absurd hm_lp (Nat.not_lt_zero _)
    | succ n_lp ih_lp =>
      intro lp_1 M_lp hm_lp hv hI hE H locs hw hS ls hl
      refine lv_aload_n hx hb dX12_product_5 rfl (lv_at hl 1 rfl) ?_
      obtain ⟨q4, vq4, hQq4, hRq4⟩ := hc.2.2.2.2.1 (RX12, 401, "*", [42]) (by decide)
      refine va_ldcwS hx hb hown hRq4 dX12_product_6 ?_
      refine fm_ci (va_runV (As := [.ref q4]) (rest := []) ⟨hx, hb, hml, hown, hts⟩ (fc_X12_take l D ad C nb M_lp hI q4 vq4 1 (fun j => ([42] : List Int32).getD j 0) (by decide) (by omega)) (cwV 1 hts gX12_product_X12_take rfl rfl rfl (by decide +kernel) ⟨Nat.le_of_ble_eq_true rfl, Nat.le_of_ble_eq_true rfl⟩) (fm_preVS hc hw hS hQq4 kl_60 sh_60 rfl) rfl rfl hl.1 rfl (lv_room (Nat.le_of_ble_eq_true rfl)) dX12_product_9 ⟨by decide +kernel, by decide +kernel⟩) hS hc (fun r5 M6 H locs hr5 hw hS => ?_)
      obtain ⟨hI, hEM6, hr5⟩ := hr5
      have hE := hE.tr hEM6 (by decide)
      have mM6_60_63 : (M6.1 60 0 63).toInt = (M_lp.1 60 0 63).toInt := by rw [(hEM6 60 0 63 (by decide)).1]
      have mM6_60_66 : (M6.1 60 0 66).toInt = (M_lp.1 60 0 66).toInt := by rw [(hEM6 60 0 66 (by decide)).1]
      rcases hr5 with ⟨rfl, ahr5, bhr5⟩ | ⟨rfl, ahr5, bhr5⟩
      · refine fx_if_eq (tgt := 25) hx hb dX12_product_12 (by decide) zk_1 (fun c7 => by exfalso; omega) (fun c7 => ?_)
        refine lv_iload_n hx hb dX12_product_15 rfl (lv_at hl 0 rfl) ?_
        refine lv_aload_n hx hb dX12_product_16 rfl (lv_at hl 1 rfl) ?_
        have d8_63 := hI.bd (k := 0) bd_60_63
        have d8_64 := hI.bd (k := 0) bd_60_64
        have d8_65 := hI.bd (k := 0) bd_60_65
        have d8_66 := hI.bd (k := 0) bd_60_66
        refine fm_ci (va_runV (As := []) (rest := [.int lp_1]) ⟨hx, hb, hml, hown, hts⟩ (fc_X12_one_2 l D ad C nb M6 hI (by omega) (by omega)) (cwV 0 hts gX12_product_X12_one rfl rfl rfl (by decide +kernel) ⟨Nat.le_of_ble_eq_true rfl, Nat.le_of_ble_eq_true rfl⟩) (fm_preV hc hw hS kl_60 sh_60 rfl) rfl rfl hl.1 rfl (lv_room (Nat.le_of_ble_eq_true rfl)) dX12_product_17 ⟨by decide +kernel, by decide +kernel⟩) hS hc (fun r9 M10 H locs hr9 hw hS => ?_)
        obtain ⟨hI, hEM10, hr9⟩ := hr9
        have hE := hE.tr hEM10 (by decide)
        have mM10_60_63 : (M10.1 60 0 63).toInt = (M6.1 60 0 63).toInt := by rw [(hEM10 60 0 63 (by decide)).1]
        obtain ⟨ahr9, bhr9, dhr9⟩ := hr9
        refine fx_imulU hx hb dX12_product_20 (fun y11 ey11 => ?_)
        refine lv_istore_n (lv' := [(1, .int y11), (0, .ref (ad 60 0))]) hx hb dX12_product_21 rfl hl (by decide) rfl (fun ls hl => ?_)
        refine lv_goto (tgt := 5) hx hb dX12_product_22 (by decide) ?_
        exact ih_lp y11 M10 (by omega) (by omega) hI hE _ _ hw hS ls (lv_sub hl [0, 1] rfl)
      · refine fx_if_eq (tgt := 25) hx hb dX12_product_12 (by decide) zk_0 (fun c12 => ?_) (fun c12 => by exfalso; omega)
        refine lv_iload_n hx hb dX12_product_25 rfl (lv_at hl 0 rfl) ?_
        exact W.iret (v := lp_1) hx hb hr (fun t ht hW => ⟨⟨lp_1, M6, rfl, ⟨hI, hE, ⟨by omega, by omega, by omega⟩⟩, by show fm_at D ad C nb _ t.heap; rw [ht]; exact hw⟩, hS.F ht⟩) hS.2.2 dX12_product_26
  exact lp _ r2 M3 (Nat.lt_succ_self _) (by omega) hI hE _ _ hw hS ls (lv_sub hl [0, 1] rfl)
set_option maxHeartbeats 400000 in
set_option maxRecDepth 20000 in
theorem fc_X12_sum_2 (l : Launch) (D : va_G) (ad : Nat → Nat → Nat) (C : Nat → Nat → ClassId) (nb : Nat) (M : fm_M) (hI : fm_I nb ad M) (hft : (M.1 60 0 64).toInt ≤ (M.1 60 0 65).toInt) (hop : 2 ≤ (M.1 60 0 66).toInt) : Met l yX12_sum wsX12_sum ({ frames := 25, cells := 0, slots := 0, locals := 541 }) (va_Pc [.ref (ad 60 0)] (fm_P D ad C nb M)) (va_Qi (fun (r : Int32) (u : fm_M) => fm_I nb ad u ∧ fm_same [60064, 60065, 60066, 60067] M u ∧ ((M.1 60 0 64).toInt ≤ (u.1 60 0 64).toInt ∧ (M.1 60 0 66).toInt ≤ (u.1 60 0 66).toInt ∧ (u.1 60 0 64).toInt ≤ (u.1 60 0 65).toInt)) (fun u t => fm_at D ad C nb u t.heap) (fm_A nb ad)) 0 0 (fm_A nb ad) := by
  refine Met.ofW (cc := cX12_sum) (maxL := 3) (ret := (some .int)) (by decide) rfl ?_
  intro p e s m args below meth c s₁ B hml hv
  obtain ⟨rfl, hw, hc⟩ := hv
  have hx := B.exec
  have hb := B.bytes
  have hr := B.returns
  have hts := atoms_spec (ws := wsX12_sum) B.pre
  have hown : s.vm.findClass RX12 = some m.cls := findClass_of_methodNamed B.named
  have hS : va_S (fm_A nb ad) s.heap s.heap [] := va_S.rf
  have hE : fm_same [60064, 60065, 60066, 60067] M M := fm_same.rf
  have hl := lv_entry ([.ref (ad 60 0)]) (n := 3) (Nat.le_of_ble_eq_true rfl)
  rw [lg_entry_eq]
  generalize (lg_sl ([.ref (ad 60 0)]) ++ List.replicate (3 - (lg_sl ([.ref (ad 60 0)])).length) Slot.unset).toArray = ls at hl ⊢
  have hl : lv_has ls 3 [(0, .ref (ad 60 0))] := hl
  refine lv_aload_n hx hb dX12_sum_0 rfl (lv_at hl 0 rfl) ?_
  have d1_63 := hI.bd (k := 0) bd_60_63
  have d1_64 := hI.bd (k := 0) bd_60_64
  have d1_65 := hI.bd (k := 0) bd_60_65
  have d1_66 := hI.bd (k := 0) bd_60_66
  refine fm_ci (va_runV (As := []) (rest := []) ⟨hx, hb, hml, hown, hts⟩ (fc_X12_product_2 l D ad C nb M hI (by omega) (by omega)) (cwV 0 hts gX12_sum_X12_product rfl rfl rfl (by decide +kernel) ⟨Nat.le_of_ble_eq_true rfl, Nat.le_of_ble_eq_true rfl⟩) (fm_preV hc hw hS kl_60 sh_60 rfl) rfl rfl hl.1 rfl (lv_room (Nat.le_of_ble_eq_true rfl)) dX12_sum_1 ⟨by decide +kernel, by decide +kernel⟩) hS hc (fun r2 M3 H locs hr2 hw hS => ?_)
  obtain ⟨hI, hEM3, hr2⟩ := hr2
  have hE := hE.tr hEM3 (by decide)
  have mM3_60_63 : (M3.1 60 0 63).toInt = (M.1 60 0 63).toInt := by rw [(hEM3 60 0 63 (by decide)).1]
  obtain ⟨ahr2, bhr2, dhr2⟩ := hr2
  refine lv_istore_n (lv' := [(1, .int r2), (0, .ref (ad 60 0))]) hx hb dX12_sum_4 rfl hl (by decide) rfl (fun ls hl => ?_)
  refine lv_iconst (v := 1) hx hb dX12_sum_5 (by decide) ?_
  refine lv_istore_n (lv' := [(2, .int 1), (1, .int r2), (0, .ref (ad 60 0))]) hx hb dX12_sum_6 rfl hl (by decide) rfl (fun ls hl => ?_)
  have lp : ∀ (n_lp : Nat) (lp_2 : Int32) (lp_1 : Int32) (M_lp : fm_M), 2 * (161 - (M_lp.1 60 0 64).toInt).toNat + lp_2.toInt.toNat < n_lp → (0 ≤ lp_2.toInt ∧ lp_2.toInt ≤ 1) → ((M.1 60 0 64).toInt ≤ (M_lp.1 60 0 64).toInt ∧ (M.1 60 0 66).toInt ≤ (M_lp.1 60 0 66).toInt ∧ (M_lp.1 60 0 64).toInt ≤ (M_lp.1 60 0 65).toInt) → fm_I nb ad M_lp → fm_same [60064, 60065, 60066, 60067] M M_lp → ∀ (H : Heap) (locs : List Loc), fm_at D ad C nb M_lp H → va_S (fm_A nb ad) s.heap H locs → ∀ (ls : Array Slot), lv_has ls 3 [(2, .int lp_2), (1, .int lp_1), (0, .ref (ad 60 0))] → W p l e (headSpec wsX12_sum ({ frames := 25, cells := 0, slots := 0, locals := 541 })).room s m ([.ref (ad 60 0)] : List Value).toArray below meth c H locs 0 0 (MQ below (va_Qi (fun (r : Int32) (u : fm_M) => fm_I nb ad u ∧ fm_same [60064, 60065, 60066, 60067] M u ∧ ((M.1 60 0 64).toInt ≤ (u.1 60 0 64).toInt ∧ (M.1 60 0 66).toInt ≤ (u.1 60 0 66).toInt ∧ (u.1 60 0 64).toInt ≤ (u.1 60 0 65).toInt)) (fun u t => fm_at D ad C nb u t.heap) (fm_A nb ad)) ([.ref (ad 60 0)] : List Value).toArray s 0 0 (fm_A nb ad)) (F0 m 7 ls []) := by
    intro n_lp
    induction n_lp with
    | zero => intro lp_2 lp_1 M_lp hm_lp b_lp_2 hv hI hE H locs hw hS ls hl; exact absurd hm_lp (Nat.not_lt_zero _)
    | succ n_lp ih_lp =>
      intro lp_2 lp_1 M_lp hm_lp b_lp_2 hv hI hE H locs hw hS ls hl
      refine lv_iload_n hx hb dX12_sum_7 rfl (lv_at hl 0 rfl) ?_
      refine fx_if_eq (tgt := 56) hx hb dX12_sum_8 (by decide) rfl (fun c4 => ?_) (fun c4 => ?_)
      · refine lv_iload_n hx hb dX12_sum_56 rfl (lv_at hl 1 rfl) ?_
        exact W.iret (v := lp_1) hx hb hr (fun t ht hW => ⟨⟨lp_1, M_lp, rfl, ⟨hI, hE, ⟨by omega, by omega, by omega⟩⟩, by show fm_at D ad C nb _ t.heap; rw [ht]; exact hw⟩, hS.F ht⟩) hS.2.2 dX12_sum_57
      · refine lv_aload_n hx hb dX12_sum_11 rfl (lv_at hl 2 rfl) ?_
        obtain ⟨q5, vq5, hQq5, hRq5⟩ := hc.2.2.2.2.1 (RX12, 394, "+", [43]) (by decide)
        refine va_ldcwS hx hb hown hRq5 dX12_sum_12 ?_
        refine fm_ci (va_runV (As := [.ref q5]) (rest := []) ⟨hx, hb, hml, hown, hts⟩ (fc_X12_take l D ad C nb M_lp hI q5 vq5 1 (fun j => ([43] : List Int32).getD j 0) (by decide) (by omega)) (cwV 1 hts gX12_sum_X12_take rfl rfl rfl (by decide +kernel) ⟨Nat.le_of_ble_eq_true rfl, Nat.le_of_ble_eq_true rfl⟩) (fm_preVS hc hw hS hQq5 kl_60 sh_60 rfl) rfl rfl hl.1 rfl (lv_room (Nat.le_of_ble_eq_true rfl)) dX12_sum_15 ⟨by decide +kernel, by decide +kernel⟩) hS hc (fun r6 M7 H locs hr6 hw hS => ?_)
        obtain ⟨hI, hEM7, hr6⟩ := hr6
        have hE := hE.tr hEM7 (by decide)
        have mM7_60_63 : (M7.1 60 0 63).toInt = (M_lp.1 60 0 63).toInt := by rw [(hEM7 60 0 63 (by decide)).1]
        have mM7_60_66 : (M7.1 60 0 66).toInt = (M_lp.1 60 0 66).toInt := by rw [(hEM7 60 0 66 (by decide)).1]
        rcases hr6 with ⟨rfl, ahr6, bhr6⟩ | ⟨rfl, ahr6, bhr6⟩
        · refine fx_if_eq (tgt := 31) hx hb dX12_sum_18 (by decide) zk_1 (fun c8 => by exfalso; omega) (fun c8 => ?_)
          refine lv_iload_n hx hb dX12_sum_21 rfl (lv_at hl 1 rfl) ?_
          refine lv_aload_n hx hb dX12_sum_22 rfl (lv_at hl 2 rfl) ?_
          have d9_63 := hI.bd (k := 0) bd_60_63
          have d9_64 := hI.bd (k := 0) bd_60_64
          have d9_65 := hI.bd (k := 0) bd_60_65
          have d9_66 := hI.bd (k := 0) bd_60_66
          refine fm_ci (va_runV (As := []) (rest := [.int lp_1]) ⟨hx, hb, hml, hown, hts⟩ (fc_X12_product_2 l D ad C nb M7 hI (by omega) (by omega)) (cwV 0 hts gX12_sum_X12_product rfl rfl rfl (by decide +kernel) ⟨Nat.le_of_ble_eq_true rfl, Nat.le_of_ble_eq_true rfl⟩) (fm_preV hc hw hS kl_60 sh_60 rfl) rfl rfl hl.1 rfl (lv_room (Nat.le_of_ble_eq_true rfl)) dX12_sum_23 ⟨by decide +kernel, by decide +kernel⟩) hS hc (fun r10 M11 H locs hr10 hw hS => ?_)
          obtain ⟨hI, hEM11, hr10⟩ := hr10
          have hE := hE.tr hEM11 (by decide)
          have mM11_60_63 : (M11.1 60 0 63).toInt = (M7.1 60 0 63).toInt := by rw [(hEM11 60 0 63 (by decide)).1]
          obtain ⟨ahr10, bhr10, dhr10⟩ := hr10
          refine fx_iaddU hx hb dX12_sum_26 (fun y12 ey12 => ?_)
          refine lv_istore_n (lv' := [(1, .int y12), (2, .int lp_2), (0, .ref (ad 60 0))]) hx hb dX12_sum_27 rfl hl (by decide) rfl (fun ls hl => ?_)
          refine lv_goto (tgt := 7) hx hb dX12_sum_28 (by decide) ?_
          exact ih_lp lp_2 y12 M11 (by omega) (by omega) (by omega) hI hE _ _ hw hS ls (lv_sub hl [1, 0, 2] rfl)
        · refine fx_if_eq (tgt := 31) hx hb dX12_sum_18 (by decide) zk_0 (fun c13 => ?_) (fun c13 => by exfalso; omega)
          refine lv_aload_n hx hb dX12_sum_31 rfl (lv_at hl 2 rfl) ?_
          obtain ⟨q14, vq14, hQq14, hRq14⟩ := hc.2.2.2.2.1 (RX12, 396, "-", [45]) (by decide)
          refine va_ldcwS hx hb hown hRq14 dX12_sum_32 ?_
          refine fm_ci (va_runV (As := [.ref q14]) (rest := []) ⟨hx, hb, hml, hown, hts⟩ (fc_X12_take l D ad C nb M7 hI q14 vq14 1 (fun j => ([45] : List Int32).getD j 0) (by decide) (by omega)) (cwV 1 hts gX12_sum_X12_take rfl rfl rfl (by decide +kernel) ⟨Nat.le_of_ble_eq_true rfl, Nat.le_of_ble_eq_true rfl⟩) (fm_preVS hc hw hS hQq14 kl_60 sh_60 rfl) rfl rfl hl.1 rfl (lv_room (Nat.le_of_ble_eq_true rfl)) dX12_sum_35 ⟨by decide +kernel, by decide +kernel⟩) hS hc (fun r15 M16 H locs hr15 hw hS => ?_)
          obtain ⟨hI, hEM16, hr15⟩ := hr15
          have hE := hE.tr hEM16 (by decide)
          have mM16_60_63 : (M16.1 60 0 63).toInt = (M7.1 60 0 63).toInt := by rw [(hEM16 60 0 63 (by decide)).1]
          have mM16_60_66 : (M16.1 60 0 66).toInt = (M7.1 60 0 66).toInt := by rw [(hEM16 60 0 66 (by decide)).1]
          rcases hr15 with ⟨rfl, ahr15, bhr15⟩ | ⟨rfl, ahr15, bhr15⟩
          · refine fx_if_eq (tgt := 51) hx hb dX12_sum_38 (by decide) zk_1 (fun c17 => by exfalso; omega) (fun c17 => ?_)
            refine lv_iload_n hx hb dX12_sum_41 rfl (lv_at hl 1 rfl) ?_
            refine lv_aload_n hx hb dX12_sum_42 rfl (lv_at hl 2 rfl) ?_
            have d18_63 := hI.bd (k := 0) bd_60_63
            have d18_64 := hI.bd (k := 0) bd_60_64
            have d18_65 := hI.bd (k := 0) bd_60_65
            have d18_66 := hI.bd (k := 0) bd_60_66
            refine fm_ci (va_runV (As := []) (rest := [.int lp_1]) ⟨hx, hb, hml, hown, hts⟩ (fc_X12_product_2 l D ad C nb M16 hI (by omega) (by omega)) (cwV 0 hts gX12_sum_X12_product rfl rfl rfl (by decide +kernel) ⟨Nat.le_of_ble_eq_true rfl, Nat.le_of_ble_eq_true rfl⟩) (fm_preV hc hw hS kl_60 sh_60 rfl) rfl rfl hl.1 rfl (lv_room (Nat.le_of_ble_eq_true rfl)) dX12_sum_43 ⟨by decide +kernel, by decide +kernel⟩) hS hc (fun r19 M20 H locs hr19 hw hS => ?_)
            obtain ⟨hI, hEM20, hr19⟩ := hr19
            have hE := hE.tr hEM20 (by decide)
            have mM20_60_63 : (M20.1 60 0 63).toInt = (M16.1 60 0 63).toInt := by rw [(hEM20 60 0 63 (by decide)).1]
            obtain ⟨ahr19, bhr19, dhr19⟩ := hr19
            refine fx_isubU hx hb dX12_sum_46 (fun y21 ey21 => ?_)
            refine lv_istore_n (lv' := [(1, .int y21), (2, .int lp_2), (0, .ref (ad 60 0))]) hx hb dX12_sum_47 rfl hl (by decide) rfl (fun ls hl => ?_)
            refine lv_goto (tgt := 7) hx hb dX12_sum_48 (by decide) ?_
            exact ih_lp lp_2 y21 M20 (by omega) (by omega) (by omega) hI hE _ _ hw hS ls (lv_sub hl [1, 0, 2] rfl)
          · refine fx_if_eq (tgt := 51) hx hb dX12_sum_38 (by decide) zk_0 (fun c22 => ?_) (fun c22 => by exfalso; omega)
            refine lv_iconst (v := 0) hx hb dX12_sum_51 (by decide) ?_
            refine lv_istore_n (lv' := [(2, .int 0), (1, .int lp_1), (0, .ref (ad 60 0))]) hx hb dX12_sum_52 rfl hl (by decide) rfl (fun ls hl => ?_)
            refine lv_goto (tgt := 7) hx hb dX12_sum_53 (by decide) ?_
            exact ih_lp 0 lp_1 M16 (by have zlp_2 := zk_0; omega) (by decide) (by omega) hI hE _ _ hw hS ls (lv_sub hl [0, 1, 2] rfl)
  exact lp _ 1 r2 M3 (Nat.lt_succ_self _) (by decide) (by omega) hI hE _ _ hw hS ls (lv_sub hl [0, 1, 2] rfl)
set_option maxHeartbeats 400000 in
set_option maxRecDepth 20000 in
theorem fc_X12_turned_2 (l : Launch) (D : va_G) (ad : Nat → Nat → Nat) (C : Nat → Nat → ClassId) (nb : Nat) (M : fm_M) (hI : fm_I nb ad M) (hft : (M.1 60 0 64).toInt ≤ (M.1 60 0 65).toInt) (hop : 2 ≤ (M.1 60 0 66).toInt) : Met l yX12_turned wsX12_turned ({ frames := 26, cells := 0, slots := 0, locals := 563 }) (va_Pc [.ref (ad 60 0)] (fm_P D ad C nb M)) (va_Qi (fun (r : Int32) (u : fm_M) => fm_I nb ad u ∧ fm_same [60064, 60065, 60066, 60067] M u ∧ ((M.1 60 0 64).toInt ≤ (u.1 60 0 64).toInt ∧ (M.1 60 0 66).toInt ≤ (u.1 60 0 66).toInt ∧ (u.1 60 0 64).toInt ≤ (u.1 60 0 65).toInt)) (fun u t => fm_at D ad C nb u t.heap) (fm_A nb ad)) 0 0 (fm_A nb ad) := by
  refine Met.ofW (cc := cX12_turned) (maxL := 2) (ret := (some .int)) (by decide) rfl ?_
  intro p e s m args below meth c s₁ B hml hv
  obtain ⟨rfl, hw, hc⟩ := hv
  have hx := B.exec
  have hb := B.bytes
  have hr := B.returns
  have hts := atoms_spec (ws := wsX12_turned) B.pre
  have hown : s.vm.findClass RX12 = some m.cls := findClass_of_methodNamed B.named
  have hinX12 : ∀ w ∈ u_ws RX12 TX12 79, w ∈ wsX12_turned := fun w h => List.mem_cons_of_mem _ (iT_X12 w h)
  have hS : va_S (fm_A nb ad) s.heap s.heap [] := va_S.rf
  have hE : fm_same [60064, 60065, 60066, 60067] M M := fm_same.rf
  have hl := lv_entry ([.ref (ad 60 0)]) (n := 2) (Nat.le_of_ble_eq_true rfl)
  rw [lg_entry_eq]
  generalize (lg_sl ([.ref (ad 60 0)]) ++ List.replicate (2 - (lg_sl ([.ref (ad 60 0)])).length) Slot.unset).toArray = ls at hl ⊢
  have hl : lv_has ls 2 [(0, .ref (ad 60 0))] := hl
  refine lv_aload_n hx hb dX12_turned_0 rfl (lv_at hl 0 rfl) ?_
  refine fm_getI (a := 60) (j := 67) (T := TX12) (N := 79) hx hb hts hinX12 hown hc hw hI kl_60 sh_60 rfl (by decide) rfl bd_60_67 (hts (.fieldLink RX12 349 "RedTentModel" "fault" "I") (List.mem_cons_of_mem _ tw_5_187)) (fun _ h9 => h9) dX12_turned_1 (fun x1 ex1 bx1 => ?_)
  refine fx_if_lt (tgt := 9) hx hb dX12_turned_4 (by decide) rfl (fun c2 => ?_) (fun c2 => ?_)
  · refine lv_aload_n hx hb dX12_turned_9 rfl (lv_at hl 0 rfl) ?_
    obtain ⟨q3, vq3, hQq3, hRq3⟩ := hc.2.2.2.2.1 (RX12, 378, "not", [110, 111, 116]) (by decide)
    refine va_ldcwS hx hb hown hRq3 dX12_turned_10 ?_
    refine vp_callSi (va_Run.run (va_runV (As := [.ref q3]) (rest := []) ⟨hx, hb, hml, hown, hts⟩ (fc_X12_is l D ad C nb M hI q3 vq3 3 (fun j => ([110, 111, 116] : List Int32).getD j 0) (by decide)) (cwV 1 hts gX12_turned_X12_is rfl rfl rfl (by decide +kernel) ⟨Nat.le_of_ble_eq_true rfl, Nat.le_of_ble_eq_true rfl⟩) (fm_preVS hc hw hS hQq3 kl_60 sh_60 rfl) rfl rfl hl.1 rfl (lv_room (Nat.le_of_ble_eq_true rfl)) dX12_turned_13 ⟨by decide +kernel, by decide +kernel⟩)) (fun r4 hr4 => ?_)
    have ir4 := hr4.2
    have jr4 := hr4.1
    refine fx_if_eq (tgt := 53) hx hb dX12_turned_16 (by decide) rfl (fun c5 => ?_) (fun c5 => ?_)
    · refine lv_aload_n hx hb dX12_turned_53 rfl (lv_at hl 0 rfl) ?_
      have d6_63 := hI.bd (k := 0) bd_60_63
      have d6_64 := hI.bd (k := 0) bd_60_64
      have d6_65 := hI.bd (k := 0) bd_60_65
      have d6_66 := hI.bd (k := 0) bd_60_66
      refine fm_ci (va_runV (As := []) (rest := []) ⟨hx, hb, hml, hown, hts⟩ (fc_X12_sum_2 l D ad C nb M hI (by omega) (by omega)) (cwV 0 hts gX12_turned_X12_sum rfl rfl rfl (by decide +kernel) ⟨Nat.le_of_ble_eq_true rfl, Nat.le_of_ble_eq_true rfl⟩) (fm_preV hc hw hS kl_60 sh_60 rfl) rfl rfl hl.1 rfl (lv_room (Nat.le_of_ble_eq_true rfl)) dX12_turned_54 ⟨by decide +kernel, by decide +kernel⟩) hS hc (fun r7 M8 H locs hr7 hw hS => ?_)
      obtain ⟨hI, hEM8, hr7⟩ := hr7
      have hE := hE.tr hEM8 (by decide)
      have mM8_60_63 : (M8.1 60 0 63).toInt = (M.1 60 0 63).toInt := by rw [(hEM8 60 0 63 (by decide)).1]
      obtain ⟨ahr7, bhr7, dhr7⟩ := hr7
      refine lv_istore_n (lv' := [(1, .int r7), (0, .ref (ad 60 0))]) hx hb dX12_turned_57 rfl hl (by decide) rfl (fun ls hl => ?_)
      refine lv_aload_n hx hb dX12_turned_58 rfl (lv_at hl 1 rfl) ?_
      obtain ⟨q9, vq9, hQq9, hRq9⟩ := hc.2.2.2.2.1 (RX12, 387, "<", [60]) (by decide)
      refine va_ldcwS hx hb hown hRq9 dX12_turned_59 ?_
      refine fm_ci (va_runV (As := [.ref q9]) (rest := []) ⟨hx, hb, hml, hown, hts⟩ (fc_X12_take l D ad C nb M8 hI q9 vq9 1 (fun j => ([60] : List Int32).getD j 0) (by decide) (by omega)) (cwV 1 hts gX12_turned_X12_take rfl rfl rfl (by decide +kernel) ⟨Nat.le_of_ble_eq_true rfl, Nat.le_of_ble_eq_true rfl⟩) (fm_preVS hc hw hS hQq9 kl_60 sh_60 rfl) rfl rfl hl.1 rfl (lv_room (Nat.le_of_ble_eq_true rfl)) dX12_turned_62 ⟨by decide +kernel, by decide +kernel⟩) hS hc (fun r10 M11 H locs hr10 hw hS => ?_)
      obtain ⟨hI, hEM11, hr10⟩ := hr10
      have hE := hE.tr hEM11 (by decide)
      have mM11_60_63 : (M11.1 60 0 63).toInt = (M8.1 60 0 63).toInt := by rw [(hEM11 60 0 63 (by decide)).1]
      have mM11_60_66 : (M11.1 60 0 66).toInt = (M8.1 60 0 66).toInt := by rw [(hEM11 60 0 66 (by decide)).1]
      rcases hr10 with ⟨rfl, ahr10, bhr10⟩ | ⟨rfl, ahr10, bhr10⟩
      · refine fx_if_eq (tgt := 82) hx hb dX12_turned_65 (by decide) zk_1 (fun c12 => by exfalso; omega) (fun c12 => ?_)
        refine lv_iload_n hx hb dX12_turned_68 rfl (lv_at hl 0 rfl) ?_
        refine lv_aload_n hx hb dX12_turned_69 rfl (lv_at hl 1 rfl) ?_
        have d13_63 := hI.bd (k := 0) bd_60_63
        have d13_64 := hI.bd (k := 0) bd_60_64
        have d13_65 := hI.bd (k := 0) bd_60_65
        have d13_66 := hI.bd (k := 0) bd_60_66
        refine fm_ci (va_runV (As := []) (rest := [.int r7]) ⟨hx, hb, hml, hown, hts⟩ (fc_X12_sum_2 l D ad C nb M11 hI (by omega) (by omega)) (cwV 0 hts gX12_turned_X12_sum rfl rfl rfl (by decide +kernel) ⟨Nat.le_of_ble_eq_true rfl, Nat.le_of_ble_eq_true rfl⟩) (fm_preV hc hw hS kl_60 sh_60 rfl) rfl rfl hl.1 rfl (lv_room (Nat.le_of_ble_eq_true rfl)) dX12_turned_70 ⟨by decide +kernel, by decide +kernel⟩) hS hc (fun r14 M15 H locs hr14 hw hS => ?_)
        obtain ⟨hI, hEM15, hr14⟩ := hr14
        have hE := hE.tr hEM15 (by decide)
        have mM15_60_63 : (M15.1 60 0 63).toInt = (M11.1 60 0 63).toInt := by rw [(hEM15 60 0 63 (by decide)).1]
        obtain ⟨ahr14, bhr14, dhr14⟩ := hr14
        refine fx_icmp_ge (tgt := 80) hx hb dX12_turned_73 (by decide) rfl rfl (fun c16 => ?_) (fun c16 => ?_)
        · refine lv_iconst (v := 0) hx hb dX12_turned_80 (by decide) ?_
          exact W.iret (v := 0) hx hb hr (fun t ht hW => ⟨⟨0, M15, rfl, ⟨hI, hE, ⟨by omega, by omega, by omega⟩⟩, by show fm_at D ad C nb _ t.heap; rw [ht]; exact hw⟩, hS.F ht⟩) hS.2.2 dX12_turned_81
        · refine lv_iconst (v := 1) hx hb dX12_turned_76 (by decide) ?_
          refine lv_goto (tgt := 81) hx hb dX12_turned_77 (by decide) ?_
          exact W.iret (v := 1) hx hb hr (fun t ht hW => ⟨⟨1, M15, rfl, ⟨hI, hE, ⟨by omega, by omega, by omega⟩⟩, by show fm_at D ad C nb _ t.heap; rw [ht]; exact hw⟩, hS.F ht⟩) hS.2.2 dX12_turned_81
      · refine fx_if_eq (tgt := 82) hx hb dX12_turned_65 (by decide) zk_0 (fun c17 => ?_) (fun c17 => by exfalso; omega)
        refine lv_aload_n hx hb dX12_turned_82 rfl (lv_at hl 1 rfl) ?_
        obtain ⟨q18, vq18, hQq18, hRq18⟩ := hc.2.2.2.2.1 (RX12, 389, "=", [61]) (by decide)
        refine va_ldcwS hx hb hown hRq18 dX12_turned_83 ?_
        refine fm_ci (va_runV (As := [.ref q18]) (rest := []) ⟨hx, hb, hml, hown, hts⟩ (fc_X12_take l D ad C nb M11 hI q18 vq18 1 (fun j => ([61] : List Int32).getD j 0) (by decide) (by omega)) (cwV 1 hts gX12_turned_X12_take rfl rfl rfl (by decide +kernel) ⟨Nat.le_of_ble_eq_true rfl, Nat.le_of_ble_eq_true rfl⟩) (fm_preVS hc hw hS hQq18 kl_60 sh_60 rfl) rfl rfl hl.1 rfl (lv_room (Nat.le_of_ble_eq_true rfl)) dX12_turned_86 ⟨by decide +kernel, by decide +kernel⟩) hS hc (fun r19 M20 H locs hr19 hw hS => ?_)
        obtain ⟨hI, hEM20, hr19⟩ := hr19
        have hE := hE.tr hEM20 (by decide)
        have mM20_60_63 : (M20.1 60 0 63).toInt = (M11.1 60 0 63).toInt := by rw [(hEM20 60 0 63 (by decide)).1]
        have mM20_60_66 : (M20.1 60 0 66).toInt = (M11.1 60 0 66).toInt := by rw [(hEM20 60 0 66 (by decide)).1]
        rcases hr19 with ⟨rfl, ahr19, bhr19⟩ | ⟨rfl, ahr19, bhr19⟩
        · refine fx_if_eq (tgt := 106) hx hb dX12_turned_89 (by decide) zk_1 (fun c21 => by exfalso; omega) (fun c21 => ?_)
          refine lv_iload_n hx hb dX12_turned_92 rfl (lv_at hl 0 rfl) ?_
          refine lv_aload_n hx hb dX12_turned_93 rfl (lv_at hl 1 rfl) ?_
          have d22_63 := hI.bd (k := 0) bd_60_63
          have d22_64 := hI.bd (k := 0) bd_60_64
          have d22_65 := hI.bd (k := 0) bd_60_65
          have d22_66 := hI.bd (k := 0) bd_60_66
          refine fm_ci (va_runV (As := []) (rest := [.int r7]) ⟨hx, hb, hml, hown, hts⟩ (fc_X12_sum_2 l D ad C nb M20 hI (by omega) (by omega)) (cwV 0 hts gX12_turned_X12_sum rfl rfl rfl (by decide +kernel) ⟨Nat.le_of_ble_eq_true rfl, Nat.le_of_ble_eq_true rfl⟩) (fm_preV hc hw hS kl_60 sh_60 rfl) rfl rfl hl.1 rfl (lv_room (Nat.le_of_ble_eq_true rfl)) dX12_turned_94 ⟨by decide +kernel, by decide +kernel⟩) hS hc (fun r23 M24 H locs hr23 hw hS => ?_)
          obtain ⟨hI, hEM24, hr23⟩ := hr23
          have hE := hE.tr hEM24 (by decide)
          have mM24_60_63 : (M24.1 60 0 63).toInt = (M20.1 60 0 63).toInt := by rw [(hEM24 60 0 63 (by decide)).1]
          obtain ⟨ahr23, bhr23, dhr23⟩ := hr23
          refine fx_icmp_ne (tgt := 104) hx hb dX12_turned_97 (by decide) rfl rfl (fun c25 => ?_) (fun c25 => ?_)
          · refine lv_iconst (v := 0) hx hb dX12_turned_104 (by decide) ?_
            exact W.iret (v := 0) hx hb hr (fun t ht hW => ⟨⟨0, M24, rfl, ⟨hI, hE, ⟨by omega, by omega, by omega⟩⟩, by show fm_at D ad C nb _ t.heap; rw [ht]; exact hw⟩, hS.F ht⟩) hS.2.2 dX12_turned_105
          · refine lv_iconst (v := 1) hx hb dX12_turned_100 (by decide) ?_
            refine lv_goto (tgt := 105) hx hb dX12_turned_101 (by decide) ?_
            exact W.iret (v := 1) hx hb hr (fun t ht hW => ⟨⟨1, M24, rfl, ⟨hI, hE, ⟨by omega, by omega, by omega⟩⟩, by show fm_at D ad C nb _ t.heap; rw [ht]; exact hw⟩, hS.F ht⟩) hS.2.2 dX12_turned_105
        · refine fx_if_eq (tgt := 106) hx hb dX12_turned_89 (by decide) zk_0 (fun c26 => ?_) (fun c26 => by exfalso; omega)
          refine lv_iload_n hx hb dX12_turned_106 rfl (lv_at hl 0 rfl) ?_
          exact W.iret (v := r7) hx hb hr (fun t ht hW => ⟨⟨r7, M20, rfl, ⟨hI, hE, ⟨by omega, by omega, by omega⟩⟩, by show fm_at D ad C nb _ t.heap; rw [ht]; exact hw⟩, hS.F ht⟩) hS.2.2 dX12_turned_107
    · refine lv_aload_n hx hb dX12_turned_19 rfl (lv_at hl 0 rfl) ?_
      refine fm_ci (va_runV (As := []) (rest := []) ⟨hx, hb, hml, hown, hts⟩ (fc_X12_opens l D ad C nb M hI) (cwV 0 hts gX12_turned_X12_opens rfl rfl rfl (by decide +kernel) ⟨Nat.le_of_ble_eq_true rfl, Nat.le_of_ble_eq_true rfl⟩) (fm_preV hc hw hS kl_60 sh_60 rfl) rfl rfl hl.1 rfl (lv_room (Nat.le_of_ble_eq_true rfl)) dX12_turned_20 ⟨by decide +kernel, by decide +kernel⟩) hS hc (fun r27 M28 H locs hr27 hw hS => ?_)
      obtain ⟨hI, hEM28, hr27⟩ := hr27
      have hE := hE.tr hEM28 (by decide)
      have mM28_60_63 : (M28.1 60 0 63).toInt = (M.1 60 0 63).toInt := by rw [(hEM28 60 0 63 (by decide)).1]
      rcases hr27 with ⟨rfl, ahr27, bhr27, dhr27⟩ | ⟨rfl, ahr27, bhr27, dhr27⟩
      · refine fx_if_ne (tgt := 28) hx hb dX12_turned_23 (by decide) zk_1 (fun c29 => ?_) (fun c29 => by exfalso; omega)
        refine lv_aload_n hx hb dX12_turned_28 rfl (lv_at hl 0 rfl) ?_
        have d30_63 := hI.bd (k := 0) bd_60_63
        have d30_64 := hI.bd (k := 0) bd_60_64
        have d30_65 := hI.bd (k := 0) bd_60_65
        have d30_66 := hI.bd (k := 0) bd_60_66
        refine fm_ci (va_runV (As := []) (rest := []) ⟨hx, hb, hml, hown, hts⟩ (fc_X12_turned_3 l D ad C nb M28 hI (by omega) (by omega)) (cwV 0 hts gX12_turned_X12_turned rfl rfl rfl (by decide +kernel) ⟨Nat.le_of_ble_eq_true rfl, Nat.le_of_ble_eq_true rfl⟩) (fm_preV hc hw hS kl_60 sh_60 rfl) rfl rfl hl.1 rfl (lv_room (Nat.le_of_ble_eq_true rfl)) dX12_turned_29 ⟨by decide +kernel, by decide +kernel⟩) hS hc (fun r31 M32 H locs hr31 hw hS => ?_)
        obtain ⟨hI, hEM32, hr31⟩ := hr31
        have hE := hE.tr hEM32 (by decide)
        have mM32_60_63 : (M32.1 60 0 63).toInt = (M28.1 60 0 63).toInt := by rw [(hEM32 60 0 63 (by decide)).1]
        obtain ⟨ahr31, bhr31, dhr31⟩ := hr31
        refine lv_istore_n (lv' := [(1, .int r31), (0, .ref (ad 60 0))]) hx hb dX12_turned_32 rfl hl (by decide) rfl (fun ls hl => ?_)
        refine lv_aload_n hx hb dX12_turned_33 rfl (lv_at hl 1 rfl) ?_
        refine lv_dup hx hb dX12_turned_34 rfl ?_
        refine fm_getI (a := 60) (j := 66) (T := TX12) (N := 79) hx hb hts hinX12 hown hc hw hI kl_60 sh_60 rfl (by decide) rfl bd_60_66 (hts (.fieldLink RX12 372 "RedTentModel" "open" "I") (List.mem_cons_of_mem _ tw_5_186)) (fun _ h9 => h9) dX12_turned_35 (fun x33 ex33 bx33 => ?_)
        have wx33 : x33.toInt = (M32.1 60 0 66).toInt := by rw [ex33]
        refine lv_iconst (v := 1) hx hb dX12_turned_38 (by decide) ?_
        refine fx_isub hx hb dX12_turned_39 rfl zk_1 (by omega) (fun y34 ey34 ty34 => ?_)
        refine fm_putI (a := 60) (j := 66) (T := TX12) (N := 79) hx hb hts hinX12 tyX12 tyX12_ok nmX12 hown hc hw hI hE hS kl_60 sh_60 od_60 rfl (by decide) rfl bd_60_66 (hts (.fieldLink RX12 372 "RedTentModel" "open" "I") (List.mem_cons_of_mem _ tw_5_186)) (fun _ h9 => h9) rfl (by decide +kernel) (by omega) (by decide) (by decide) dX12_turned_40 (fun M35 H locs eM35 hw hI hE hS => ?_)
        have mM35_60_63 : (M35.1 60 0 63).toInt = (M32.1 60 0 63).toInt := by rw [eM35, fm_wI_nj (fun z => absurd z.2.2 (by decide))]
        have mM35_60_64 : (M35.1 60 0 64).toInt = (M32.1 60 0 64).toInt := by rw [eM35, fm_wI_nj (fun z => absurd z.2.2 (by decide))]
        have mM35_60_65 : (M35.1 60 0 65).toInt = (M32.1 60 0 65).toInt := by rw [eM35, fm_wI_nj (fun z => absurd z.2.2 (by decide))]
        have mM35_60_66 : (M35.1 60 0 66).toInt = y34.toInt := by rw [eM35, fm_wI_at]
        refine lv_iload_n hx hb dX12_turned_43 rfl (lv_at hl 0 rfl) ?_
        refine fx_if_ne (tgt := 51) hx hb dX12_turned_44 (by decide) rfl (fun c36 => ?_) (fun c36 => ?_)
        · refine lv_iconst (v := 0) hx hb dX12_turned_51 (by decide) ?_
          exact W.iret (v := 0) hx hb hr (fun t ht hW => ⟨⟨0, M35, rfl, ⟨hI, hE, ⟨by omega, by omega, by omega⟩⟩, by show fm_at D ad C nb _ t.heap; rw [ht]; exact hw⟩, hS.F ht⟩) hS.2.2 dX12_turned_52
        · refine lv_iconst (v := 1) hx hb dX12_turned_47 (by decide) ?_
          refine lv_goto (tgt := 52) hx hb dX12_turned_48 (by decide) ?_
          exact W.iret (v := 1) hx hb hr (fun t ht hW => ⟨⟨1, M35, rfl, ⟨hI, hE, ⟨by omega, by omega, by omega⟩⟩, by show fm_at D ad C nb _ t.heap; rw [ht]; exact hw⟩, hS.F ht⟩) hS.2.2 dX12_turned_52
      · refine fx_if_ne (tgt := 28) hx hb dX12_turned_23 (by decide) zk_0 (fun c37 => by exfalso; omega) (fun c37 => ?_)
        refine lv_iconst (v := 0) hx hb dX12_turned_26 (by decide) ?_
        exact W.iret (v := 0) hx hb hr (fun t ht hW => ⟨⟨0, M28, rfl, ⟨hI, hE, ⟨by omega, by omega, by omega⟩⟩, by show fm_at D ad C nb _ t.heap; rw [ht]; exact hw⟩, hS.F ht⟩) hS.2.2 dX12_turned_27
  · refine lv_iconst (v := 0) hx hb dX12_turned_7 (by decide) ?_
    exact W.iret (v := 0) hx hb hr (fun t ht hW => ⟨⟨0, M, rfl, ⟨hI, hE, ⟨by omega, by omega, by omega⟩⟩, by show fm_at D ad C nb _ t.heap; rw [ht]; exact hw⟩, hS.F ht⟩) hS.2.2 dX12_turned_8
set_option maxHeartbeats 400000 in
set_option maxRecDepth 20000 in
theorem fc_X12_both_2 (l : Launch) (D : va_G) (ad : Nat → Nat → Nat) (C : Nat → Nat → ClassId) (nb : Nat) (M : fm_M) (hI : fm_I nb ad M) (hft : (M.1 60 0 64).toInt ≤ (M.1 60 0 65).toInt) (hop : 2 ≤ (M.1 60 0 66).toInt) : Met l yX12_both wsX12_both ({ frames := 27, cells := 0, slots := 0, locals := 584 }) (va_Pc [.ref (ad 60 0)] (fm_P D ad C nb M)) (va_Qi (fun (r : Int32) (u : fm_M) => fm_I nb ad u ∧ fm_same [60064, 60065, 60066, 60067] M u ∧ ((M.1 60 0 64).toInt ≤ (u.1 60 0 64).toInt ∧ (M.1 60 0 66).toInt ≤ (u.1 60 0 66).toInt ∧ (u.1 60 0 64).toInt ≤ (u.1 60 0 65).toInt)) (fun u t => fm_at D ad C nb u t.heap) (fm_A nb ad)) 0 0 (fm_A nb ad) := by
  refine Met.ofW (cc := cX12_both) (maxL := 3) (ret := (some .int)) (by decide) rfl ?_
  intro p e s m args below meth c s₁ B hml hv
  obtain ⟨rfl, hw, hc⟩ := hv
  have hx := B.exec
  have hb := B.bytes
  have hr := B.returns
  have hts := atoms_spec (ws := wsX12_both) B.pre
  have hown : s.vm.findClass RX12 = some m.cls := findClass_of_methodNamed B.named
  have hS : va_S (fm_A nb ad) s.heap s.heap [] := va_S.rf
  have hE : fm_same [60064, 60065, 60066, 60067] M M := fm_same.rf
  have hl := lv_entry ([.ref (ad 60 0)]) (n := 3) (Nat.le_of_ble_eq_true rfl)
  rw [lg_entry_eq]
  generalize (lg_sl ([.ref (ad 60 0)]) ++ List.replicate (3 - (lg_sl ([.ref (ad 60 0)])).length) Slot.unset).toArray = ls at hl ⊢
  have hl : lv_has ls 3 [(0, .ref (ad 60 0))] := hl
  refine lv_aload_n hx hb dX12_both_0 rfl (lv_at hl 0 rfl) ?_
  have d1_63 := hI.bd (k := 0) bd_60_63
  have d1_64 := hI.bd (k := 0) bd_60_64
  have d1_65 := hI.bd (k := 0) bd_60_65
  have d1_66 := hI.bd (k := 0) bd_60_66
  refine fm_ci (va_runV (As := []) (rest := []) ⟨hx, hb, hml, hown, hts⟩ (fc_X12_turned_2 l D ad C nb M hI (by omega) (by omega)) (cwV 0 hts gX12_both_X12_turned rfl rfl rfl (by decide +kernel) ⟨Nat.le_of_ble_eq_true rfl, Nat.le_of_ble_eq_true rfl⟩) (fm_preV hc hw hS kl_60 sh_60 rfl) rfl rfl hl.1 rfl (lv_room (Nat.le_of_ble_eq_true rfl)) dX12_both_1 ⟨by decide +kernel, by decide +kernel⟩) hS hc (fun r2 M3 H locs hr2 hw hS => ?_)
  obtain ⟨hI, hEM3, hr2⟩ := hr2
  have hE := hE.tr hEM3 (by decide)
  have mM3_60_63 : (M3.1 60 0 63).toInt = (M.1 60 0 63).toInt := by rw [(hEM3 60 0 63 (by decide)).1]
  obtain ⟨ahr2, bhr2, dhr2⟩ := hr2
  refine lv_istore_n (lv' := [(1, .int r2), (0, .ref (ad 60 0))]) hx hb dX12_both_4 rfl hl (by decide) rfl (fun ls hl => ?_)
  have lp : ∀ (n_lp : Nat) (lp_1 : Int32) (M_lp : fm_M), (161 - (M_lp.1 60 0 64).toInt).toNat < n_lp → ((M.1 60 0 64).toInt ≤ (M_lp.1 60 0 64).toInt ∧ (M.1 60 0 66).toInt ≤ (M_lp.1 60 0 66).toInt ∧ (M_lp.1 60 0 64).toInt ≤ (M_lp.1 60 0 65).toInt) → fm_I nb ad M_lp → fm_same [60064, 60065, 60066, 60067] M M_lp → ∀ (H : Heap) (locs : List Loc), fm_at D ad C nb M_lp H → va_S (fm_A nb ad) s.heap H locs → ∀ (ls : Array Slot), lv_has ls 3 [(1, .int lp_1), (0, .ref (ad 60 0))] → W p l e (headSpec wsX12_both ({ frames := 27, cells := 0, slots := 0, locals := 584 })).room s m ([.ref (ad 60 0)] : List Value).toArray below meth c H locs 0 0 (MQ below (va_Qi (fun (r : Int32) (u : fm_M) => fm_I nb ad u ∧ fm_same [60064, 60065, 60066, 60067] M u ∧ ((M.1 60 0 64).toInt ≤ (u.1 60 0 64).toInt ∧ (M.1 60 0 66).toInt ≤ (u.1 60 0 66).toInt ∧ (u.1 60 0 64).toInt ≤ (u.1 60 0 65).toInt)) (fun u t => fm_at D ad C nb u t.heap) (fm_A nb ad)) ([.ref (ad 60 0)] : List Value).toArray s 0 0 (fm_A nb ad)) (F0 m 5 ls []) := by
    intro n_lp
    induction n_lp with
    | zero => intro lp_1 M_lp hm_lp hv hI hE H locs hw hS ls hl; exact absurd hm_lp (Nat.not_lt_zero _)
    | succ n_lp ih_lp =>
      intro lp_1 M_lp hm_lp hv hI hE H locs hw hS ls hl
      refine lv_aload_n hx hb dX12_both_5 rfl (lv_at hl 1 rfl) ?_
      obtain ⟨q4, vq4, hQq4, hRq4⟩ := hc.2.2.2.2.1 (RX12, 370, "and", [97, 110, 100]) (by decide)
      refine va_ldcwS hx hb hown hRq4 dX12_both_6 ?_
      refine fm_ci (va_runV (As := [.ref q4]) (rest := []) ⟨hx, hb, hml, hown, hts⟩ (fc_X12_take l D ad C nb M_lp hI q4 vq4 3 (fun j => ([97, 110, 100] : List Int32).getD j 0) (by decide) (by omega)) (cwV 1 hts gX12_both_X12_take rfl rfl rfl (by decide +kernel) ⟨Nat.le_of_ble_eq_true rfl, Nat.le_of_ble_eq_true rfl⟩) (fm_preVS hc hw hS hQq4 kl_60 sh_60 rfl) rfl rfl hl.1 rfl (lv_room (Nat.le_of_ble_eq_true rfl)) dX12_both_9 ⟨by decide +kernel, by decide +kernel⟩) hS hc (fun r5 M6 H locs hr5 hw hS => ?_)
      obtain ⟨hI, hEM6, hr5⟩ := hr5
      have hE := hE.tr hEM6 (by decide)
      have mM6_60_63 : (M6.1 60 0 63).toInt = (M_lp.1 60 0 63).toInt := by rw [(hEM6 60 0 63 (by decide)).1]
      have mM6_60_66 : (M6.1 60 0 66).toInt = (M_lp.1 60 0 66).toInt := by rw [(hEM6 60 0 66 (by decide)).1]
      rcases hr5 with ⟨rfl, ahr5, bhr5⟩ | ⟨rfl, ahr5, bhr5⟩
      · refine fx_if_eq (tgt := 37) hx hb dX12_both_12 (by decide) zk_1 (fun c7 => by exfalso; omega) (fun c7 => ?_)
        refine lv_aload_n hx hb dX12_both_15 rfl (lv_at hl 1 rfl) ?_
        have d8_63 := hI.bd (k := 0) bd_60_63
        have d8_64 := hI.bd (k := 0) bd_60_64
        have d8_65 := hI.bd (k := 0) bd_60_65
        have d8_66 := hI.bd (k := 0) bd_60_66
        refine fm_ci (va_runV (As := []) (rest := []) ⟨hx, hb, hml, hown, hts⟩ (fc_X12_turned_2 l D ad C nb M6 hI (by omega) (by omega)) (cwV 0 hts gX12_both_X12_turned rfl rfl rfl (by decide +kernel) ⟨Nat.le_of_ble_eq_true rfl, Nat.le_of_ble_eq_true rfl⟩) (fm_preV hc hw hS kl_60 sh_60 rfl) rfl rfl hl.1 rfl (lv_room (Nat.le_of_ble_eq_true rfl)) dX12_both_16 ⟨by decide +kernel, by decide +kernel⟩) hS hc (fun r9 M10 H locs hr9 hw hS => ?_)
        obtain ⟨hI, hEM10, hr9⟩ := hr9
        have hE := hE.tr hEM10 (by decide)
        have mM10_60_63 : (M10.1 60 0 63).toInt = (M6.1 60 0 63).toInt := by rw [(hEM10 60 0 63 (by decide)).1]
        obtain ⟨ahr9, bhr9, dhr9⟩ := hr9
        refine lv_istore_n (lv' := [(2, .int r9), (1, .int lp_1), (0, .ref (ad 60 0))]) hx hb dX12_both_19 rfl hl (by decide) rfl (fun ls hl => ?_)
        refine lv_iload_n hx hb dX12_both_20 rfl (lv_at hl 1 rfl) ?_
        refine fx_if_eq (tgt := 32) hx hb dX12_both_21 (by decide) rfl (fun c11 => ?_) (fun c11 => ?_)
        · refine lv_iconst (v := 0) hx hb dX12_both_32 (by decide) ?_
          refine lv_istore_n (lv' := [(1, .int 0), (2, .int r9), (0, .ref (ad 60 0))]) hx hb dX12_both_33 rfl hl (by decide) rfl (fun ls hl => ?_)
          refine lv_goto (tgt := 5) hx hb dX12_both_34 (by decide) ?_
          exact ih_lp 0 M10 (by omega) (by omega) hI hE _ _ hw hS ls (lv_sub hl [0, 2] rfl)
        · refine lv_iload_n hx hb dX12_both_24 rfl (lv_at hl 0 rfl) ?_
          refine fx_if_eq (tgt := 32) hx hb dX12_both_25 (by decide) rfl (fun c12 => ?_) (fun c12 => ?_)
          · refine lv_iconst (v := 0) hx hb dX12_both_32 (by decide) ?_
            refine lv_istore_n (lv' := [(1, .int 0), (2, .int r9), (0, .ref (ad 60 0))]) hx hb dX12_both_33 rfl hl (by decide) rfl (fun ls hl => ?_)
            refine lv_goto (tgt := 5) hx hb dX12_both_34 (by decide) ?_
            exact ih_lp 0 M10 (by omega) (by omega) hI hE _ _ hw hS ls (lv_sub hl [0, 2] rfl)
          · refine lv_iconst (v := 1) hx hb dX12_both_28 (by decide) ?_
            refine lv_goto (tgt := 33) hx hb dX12_both_29 (by decide) ?_
            refine lv_istore_n (lv' := [(1, .int 1), (2, .int r9), (0, .ref (ad 60 0))]) hx hb dX12_both_33 rfl hl (by decide) rfl (fun ls hl => ?_)
            refine lv_goto (tgt := 5) hx hb dX12_both_34 (by decide) ?_
            exact ih_lp 1 M10 (by omega) (by omega) hI hE _ _ hw hS ls (lv_sub hl [0, 2] rfl)
      · refine fx_if_eq (tgt := 37) hx hb dX12_both_12 (by decide) zk_0 (fun c13 => ?_) (fun c13 => by exfalso; omega)
        refine lv_iload_n hx hb dX12_both_37 rfl (lv_at hl 0 rfl) ?_
        exact W.iret (v := lp_1) hx hb hr (fun t ht hW => ⟨⟨lp_1, M6, rfl, ⟨hI, hE, ⟨by omega, by omega, by omega⟩⟩, by show fm_at D ad C nb _ t.heap; rw [ht]; exact hw⟩, hS.F ht⟩) hS.2.2 dX12_both_38
  exact lp _ r2 M3 (Nat.lt_succ_self _) (by omega) hI hE _ _ hw hS ls (lv_sub hl [0, 1] rfl)
set_option maxHeartbeats 400000 in
set_option maxRecDepth 20000 in
theorem fc_X12_either_2 (l : Launch) (D : va_G) (ad : Nat → Nat → Nat) (C : Nat → Nat → ClassId) (nb : Nat) (M : fm_M) (hI : fm_I nb ad M) (hft : (M.1 60 0 64).toInt ≤ (M.1 60 0 65).toInt) (hop : 2 ≤ (M.1 60 0 66).toInt) : Met l yX12_either wsX12_either ({ frames := 28, cells := 0, slots := 0, locals := 606 }) (va_Pc [.ref (ad 60 0)] (fm_P D ad C nb M)) (va_Qi (fun (r : Int32) (u : fm_M) => fm_I nb ad u ∧ fm_same [60064, 60065, 60066, 60067] M u ∧ ((M.1 60 0 64).toInt ≤ (u.1 60 0 64).toInt ∧ (M.1 60 0 66).toInt ≤ (u.1 60 0 66).toInt ∧ (u.1 60 0 64).toInt ≤ (u.1 60 0 65).toInt)) (fun u t => fm_at D ad C nb u t.heap) (fm_A nb ad)) 0 0 (fm_A nb ad) := by
  refine Met.ofW (cc := cX12_either) (maxL := 3) (ret := (some .int)) (by decide) rfl ?_
  intro p e s m args below meth c s₁ B hml hv
  obtain ⟨rfl, hw, hc⟩ := hv
  have hx := B.exec
  have hb := B.bytes
  have hr := B.returns
  have hts := atoms_spec (ws := wsX12_either) B.pre
  have hown : s.vm.findClass RX12 = some m.cls := findClass_of_methodNamed B.named
  have hS : va_S (fm_A nb ad) s.heap s.heap [] := va_S.rf
  have hE : fm_same [60064, 60065, 60066, 60067] M M := fm_same.rf
  have hl := lv_entry ([.ref (ad 60 0)]) (n := 3) (Nat.le_of_ble_eq_true rfl)
  rw [lg_entry_eq]
  generalize (lg_sl ([.ref (ad 60 0)]) ++ List.replicate (3 - (lg_sl ([.ref (ad 60 0)])).length) Slot.unset).toArray = ls at hl ⊢
  have hl : lv_has ls 3 [(0, .ref (ad 60 0))] := hl
  refine lv_aload_n hx hb dX12_either_0 rfl (lv_at hl 0 rfl) ?_
  have d1_63 := hI.bd (k := 0) bd_60_63
  have d1_64 := hI.bd (k := 0) bd_60_64
  have d1_65 := hI.bd (k := 0) bd_60_65
  have d1_66 := hI.bd (k := 0) bd_60_66
  refine fm_ci (va_runV (As := []) (rest := []) ⟨hx, hb, hml, hown, hts⟩ (fc_X12_both_2 l D ad C nb M hI (by omega) (by omega)) (cwV 0 hts gX12_either_X12_both rfl rfl rfl (by decide +kernel) ⟨Nat.le_of_ble_eq_true rfl, Nat.le_of_ble_eq_true rfl⟩) (fm_preV hc hw hS kl_60 sh_60 rfl) rfl rfl hl.1 rfl (lv_room (Nat.le_of_ble_eq_true rfl)) dX12_either_1 ⟨by decide +kernel, by decide +kernel⟩) hS hc (fun r2 M3 H locs hr2 hw hS => ?_)
  obtain ⟨hI, hEM3, hr2⟩ := hr2
  have hE := hE.tr hEM3 (by decide)
  have mM3_60_63 : (M3.1 60 0 63).toInt = (M.1 60 0 63).toInt := by rw [(hEM3 60 0 63 (by decide)).1]
  obtain ⟨ahr2, bhr2, dhr2⟩ := hr2
  refine lv_istore_n (lv' := [(1, .int r2), (0, .ref (ad 60 0))]) hx hb dX12_either_4 rfl hl (by decide) rfl (fun ls hl => ?_)
  have lp : ∀ (n_lp : Nat) (lp_1 : Int32) (M_lp : fm_M), (161 - (M_lp.1 60 0 64).toInt).toNat < n_lp → ((M.1 60 0 64).toInt ≤ (M_lp.1 60 0 64).toInt ∧ (M.1 60 0 66).toInt ≤ (M_lp.1 60 0 66).toInt ∧ (M_lp.1 60 0 64).toInt ≤ (M_lp.1 60 0 65).toInt) → fm_I nb ad M_lp → fm_same [60064, 60065, 60066, 60067] M M_lp → ∀ (H : Heap) (locs : List Loc), fm_at D ad C nb M_lp H → va_S (fm_A nb ad) s.heap H locs → ∀ (ls : Array Slot), lv_has ls 3 [(1, .int lp_1), (0, .ref (ad 60 0))] → W p l e (headSpec wsX12_either ({ frames := 28, cells := 0, slots := 0, locals := 606 })).room s m ([.ref (ad 60 0)] : List Value).toArray below meth c H locs 0 0 (MQ below (va_Qi (fun (r : Int32) (u : fm_M) => fm_I nb ad u ∧ fm_same [60064, 60065, 60066, 60067] M u ∧ ((M.1 60 0 64).toInt ≤ (u.1 60 0 64).toInt ∧ (M.1 60 0 66).toInt ≤ (u.1 60 0 66).toInt ∧ (u.1 60 0 64).toInt ≤ (u.1 60 0 65).toInt)) (fun u t => fm_at D ad C nb u t.heap) (fm_A nb ad)) ([.ref (ad 60 0)] : List Value).toArray s 0 0 (fm_A nb ad)) (F0 m 5 ls []) := by
    intro n_lp
    induction n_lp with
    | zero => intro lp_1 M_lp hm_lp hv hI hE H locs hw hS ls hl; exact absurd hm_lp (Nat.not_lt_zero _)
    | succ n_lp ih_lp =>
      intro lp_1 M_lp hm_lp hv hI hE H locs hw hS ls hl
      refine lv_aload_n hx hb dX12_either_5 rfl (lv_at hl 1 rfl) ?_
      obtain ⟨q4, vq4, hQq4, hRq4⟩ := hc.2.2.2.2.1 (RX12, 362, "or", [111, 114]) (by decide)
      refine va_ldcwS hx hb hown hRq4 dX12_either_6 ?_
      refine fm_ci (va_runV (As := [.ref q4]) (rest := []) ⟨hx, hb, hml, hown, hts⟩ (fc_X12_take l D ad C nb M_lp hI q4 vq4 2 (fun j => ([111, 114] : List Int32).getD j 0) (by decide) (by omega)) (cwV 1 hts gX12_either_X12_take rfl rfl rfl (by decide +kernel) ⟨Nat.le_of_ble_eq_true rfl, Nat.le_of_ble_eq_true rfl⟩) (fm_preVS hc hw hS hQq4 kl_60 sh_60 rfl) rfl rfl hl.1 rfl (lv_room (Nat.le_of_ble_eq_true rfl)) dX12_either_9 ⟨by decide +kernel, by decide +kernel⟩) hS hc (fun r5 M6 H locs hr5 hw hS => ?_)
      obtain ⟨hI, hEM6, hr5⟩ := hr5
      have hE := hE.tr hEM6 (by decide)
      have mM6_60_63 : (M6.1 60 0 63).toInt = (M_lp.1 60 0 63).toInt := by rw [(hEM6 60 0 63 (by decide)).1]
      have mM6_60_66 : (M6.1 60 0 66).toInt = (M_lp.1 60 0 66).toInt := by rw [(hEM6 60 0 66 (by decide)).1]
      rcases hr5 with ⟨rfl, ahr5, bhr5⟩ | ⟨rfl, ahr5, bhr5⟩
      · refine fx_if_eq (tgt := 37) hx hb dX12_either_12 (by decide) zk_1 (fun c7 => by exfalso; omega) (fun c7 => ?_)
        refine lv_aload_n hx hb dX12_either_15 rfl (lv_at hl 1 rfl) ?_
        have d8_63 := hI.bd (k := 0) bd_60_63
        have d8_64 := hI.bd (k := 0) bd_60_64
        have d8_65 := hI.bd (k := 0) bd_60_65
        have d8_66 := hI.bd (k := 0) bd_60_66
        refine fm_ci (va_runV (As := []) (rest := []) ⟨hx, hb, hml, hown, hts⟩ (fc_X12_both_2 l D ad C nb M6 hI (by omega) (by omega)) (cwV 0 hts gX12_either_X12_both rfl rfl rfl (by decide +kernel) ⟨Nat.le_of_ble_eq_true rfl, Nat.le_of_ble_eq_true rfl⟩) (fm_preV hc hw hS kl_60 sh_60 rfl) rfl rfl hl.1 rfl (lv_room (Nat.le_of_ble_eq_true rfl)) dX12_either_16 ⟨by decide +kernel, by decide +kernel⟩) hS hc (fun r9 M10 H locs hr9 hw hS => ?_)
        obtain ⟨hI, hEM10, hr9⟩ := hr9
        have hE := hE.tr hEM10 (by decide)
        have mM10_60_63 : (M10.1 60 0 63).toInt = (M6.1 60 0 63).toInt := by rw [(hEM10 60 0 63 (by decide)).1]
        obtain ⟨ahr9, bhr9, dhr9⟩ := hr9
        refine lv_istore_n (lv' := [(2, .int r9), (1, .int lp_1), (0, .ref (ad 60 0))]) hx hb dX12_either_19 rfl hl (by decide) rfl (fun ls hl => ?_)
        refine lv_iload_n hx hb dX12_either_20 rfl (lv_at hl 1 rfl) ?_
        refine fx_if_ne (tgt := 28) hx hb dX12_either_21 (by decide) rfl (fun c11 => ?_) (fun c11 => ?_)
        · refine lv_iconst (v := 1) hx hb dX12_either_28 (by decide) ?_
          refine lv_goto (tgt := 33) hx hb dX12_either_29 (by decide) ?_
          refine lv_istore_n (lv' := [(1, .int 1), (2, .int r9), (0, .ref (ad 60 0))]) hx hb dX12_either_33 rfl hl (by decide) rfl (fun ls hl => ?_)
          refine lv_goto (tgt := 5) hx hb dX12_either_34 (by decide) ?_
          exact ih_lp 1 M10 (by omega) (by omega) hI hE _ _ hw hS ls (lv_sub hl [0, 2] rfl)
        · refine lv_iload_n hx hb dX12_either_24 rfl (lv_at hl 0 rfl) ?_
          refine fx_if_eq (tgt := 32) hx hb dX12_either_25 (by decide) rfl (fun c12 => ?_) (fun c12 => ?_)
          · refine lv_iconst (v := 0) hx hb dX12_either_32 (by decide) ?_
            refine lv_istore_n (lv' := [(1, .int 0), (2, .int r9), (0, .ref (ad 60 0))]) hx hb dX12_either_33 rfl hl (by decide) rfl (fun ls hl => ?_)
            refine lv_goto (tgt := 5) hx hb dX12_either_34 (by decide) ?_
            exact ih_lp 0 M10 (by omega) (by omega) hI hE _ _ hw hS ls (lv_sub hl [0, 2] rfl)
          · refine lv_iconst (v := 1) hx hb dX12_either_28 (by decide) ?_
            refine lv_goto (tgt := 33) hx hb dX12_either_29 (by decide) ?_
            refine lv_istore_n (lv' := [(1, .int 1), (2, .int r9), (0, .ref (ad 60 0))]) hx hb dX12_either_33 rfl hl (by decide) rfl (fun ls hl => ?_)
            refine lv_goto (tgt := 5) hx hb dX12_either_34 (by decide) ?_
            exact ih_lp 1 M10 (by omega) (by omega) hI hE _ _ hw hS ls (lv_sub hl [0, 2] rfl)
      · refine fx_if_eq (tgt := 37) hx hb dX12_either_12 (by decide) zk_0 (fun c13 => ?_) (fun c13 => by exfalso; omega)
        refine lv_iload_n hx hb dX12_either_37 rfl (lv_at hl 0 rfl) ?_
        exact W.iret (v := lp_1) hx hb hr (fun t ht hW => ⟨⟨lp_1, M6, rfl, ⟨hI, hE, ⟨by omega, by omega, by omega⟩⟩, by show fm_at D ad C nb _ t.heap; rw [ht]; exact hw⟩, hS.F ht⟩) hS.2.2 dX12_either_38
  exact lp _ r2 M3 (Nat.lt_succ_self _) (by omega) hI hE _ _ hw hS ls (lv_sub hl [0, 1] rfl)
set_option maxHeartbeats 400000 in
set_option maxRecDepth 20000 in
theorem fc_X12_one_1 (l : Launch) (D : va_G) (ad : Nat → Nat → Nat) (C : Nat → Nat → ClassId) (nb : Nat) (M : fm_M) (hI : fm_I nb ad M) (hft : (M.1 60 0 64).toInt ≤ (M.1 60 0 65).toInt) (hop : 1 ≤ (M.1 60 0 66).toInt) : Met l yX12_one wsX12_one ({ frames := 29, cells := 0, slots := 0, locals := 628 }) (va_Pc [.ref (ad 60 0)] (fm_P D ad C nb M)) (va_Qi (fun (r : Int32) (u : fm_M) => fm_I nb ad u ∧ fm_same [60064, 60065, 60066, 60067] M u ∧ ((M.1 60 0 64).toInt ≤ (u.1 60 0 64).toInt ∧ (M.1 60 0 66).toInt ≤ (u.1 60 0 66).toInt ∧ (u.1 60 0 64).toInt ≤ (u.1 60 0 65).toInt)) (fun u t => fm_at D ad C nb u t.heap) (fm_A nb ad)) 0 0 (fm_A nb ad) := by
  refine Met.ofW (cc := cX12_one) (maxL := 3) (ret := (some .int)) (by decide) rfl ?_
  intro p e s m args below meth c s₁ B hml hv
  obtain ⟨rfl, hw, hc⟩ := hv
  have hx := B.exec
  have hb := B.bytes
  have hr := B.returns
  have hts := atoms_spec (ws := wsX12_one) B.pre
  have hown : s.vm.findClass RX12 = some m.cls := findClass_of_methodNamed B.named
  have hinX12 : ∀ w ∈ u_ws RX12 TX12 79, w ∈ wsX12_one := fun w h => List.mem_cons_of_mem _ (iT_X12 w h)
  have hS : va_S (fm_A nb ad) s.heap s.heap [] := va_S.rf
  have hE : fm_same [60064, 60065, 60066, 60067] M M := fm_same.rf
  have hl := lv_entry ([.ref (ad 60 0)]) (n := 3) (Nat.le_of_ble_eq_true rfl)
  rw [lg_entry_eq]
  generalize (lg_sl ([.ref (ad 60 0)]) ++ List.replicate (3 - (lg_sl ([.ref (ad 60 0)])).length) Slot.unset).toArray = ls at hl ⊢
  have hl : lv_has ls 3 [(0, .ref (ad 60 0))] := hl
  refine lv_aload_n hx hb dX12_one_0 rfl (lv_at hl 0 rfl) ?_
  refine fm_getI (a := 60) (j := 67) (T := TX12) (N := 79) hx hb hts hinX12 hown hc hw hI kl_60 sh_60 rfl (by decide) rfl bd_60_67 (hts (.fieldLink RX12 349 "RedTentModel" "fault" "I") (List.mem_cons_of_mem _ tw_5_187)) (fun _ h9 => h9) dX12_one_1 (fun x1 ex1 bx1 => ?_)
  refine fx_if_lt (tgt := 9) hx hb dX12_one_4 (by decide) rfl (fun c2 => ?_) (fun c2 => ?_)
  · refine lv_aload_n hx hb dX12_one_9 rfl (lv_at hl 0 rfl) ?_
    obtain ⟨q3, vq3, hQq3, hRq3⟩ := hc.2.2.2.2.1 (RX12, 396, "-", [45]) (by decide)
    refine va_ldcwS hx hb hown hRq3 dX12_one_10 ?_
    refine vp_callSi (va_Run.run (va_runV (As := [.ref q3]) (rest := []) ⟨hx, hb, hml, hown, hts⟩ (fc_X12_is l D ad C nb M hI q3 vq3 1 (fun j => ([45] : List Int32).getD j 0) (by decide)) (cwV 1 hts gX12_one_X12_is rfl rfl rfl (by decide +kernel) ⟨Nat.le_of_ble_eq_true rfl, Nat.le_of_ble_eq_true rfl⟩) (fm_preVS hc hw hS hQq3 kl_60 sh_60 rfl) rfl rfl hl.1 rfl (lv_room (Nat.le_of_ble_eq_true rfl)) dX12_one_13 ⟨by decide +kernel, by decide +kernel⟩)) (fun r4 hr4 => ?_)
    have ir4 := hr4.2
    have jr4 := hr4.1
    refine fx_if_eq (tgt := 46) hx hb dX12_one_16 (by decide) rfl (fun c5 => ?_) (fun c5 => ?_)
    · refine lv_aload_n hx hb dX12_one_46 rfl (lv_at hl 0 rfl) ?_
      obtain ⟨q6, vq6, hQq6, hRq6⟩ := hc.2.2.2.2.1 (RX12, 403, "(", [40]) (by decide)
      refine va_ldcwS hx hb hown hRq6 dX12_one_47 ?_
      refine vp_callSi (va_Run.run (va_runV (As := [.ref q6]) (rest := []) ⟨hx, hb, hml, hown, hts⟩ (fc_X12_is l D ad C nb M hI q6 vq6 1 (fun j => ([40] : List Int32).getD j 0) (by decide)) (cwV 1 hts gX12_one_X12_is rfl rfl rfl (by decide +kernel) ⟨Nat.le_of_ble_eq_true rfl, Nat.le_of_ble_eq_true rfl⟩) (fm_preVS hc hw hS hQq6 kl_60 sh_60 rfl) rfl rfl hl.1 rfl (lv_room (Nat.le_of_ble_eq_true rfl)) dX12_one_50 ⟨by decide +kernel, by decide +kernel⟩)) (fun r7 hr7 => ?_)
      have ir7 := hr7.2
      have jr7 := hr7.1
      refine fx_if_eq (tgt := 97) hx hb dX12_one_53 (by decide) rfl (fun c8 => ?_) (fun c8 => ?_)
      · refine lv_aload_n hx hb dX12_one_97 rfl (lv_at hl 0 rfl) ?_
        refine lv_aload_n hx hb dX12_one_98 rfl (lv_at hl 0 rfl) ?_
        refine fm_getI (a := 60) (j := 64) (T := TX12) (N := 79) hx hb hts hinX12 hown hc hw hI kl_60 sh_60 rfl (by decide) rfl bd_60_64 (hts (.fieldLink RX12 340 "RedTentModel" "from" "I") (List.mem_cons_of_mem _ tw_5_184)) (fun _ h9 => h9) dX12_one_99 (fun x9 ex9 bx9 => ?_)
        have wx9 : x9.toInt = (M.1 60 0 64).toInt := by rw [ex9]
        refine vp_callSi (va_Run.run (va_runV (As := [.int x9]) (rest := []) ⟨hx, hb, hml, hown, hts⟩ (fc_X12_isDigit l D ad C nb M hI x9 (by omega)) (cwV 1 hts gX12_one_X12_isDigit rfl rfl rfl (by decide +kernel) ⟨Nat.le_of_ble_eq_true rfl, Nat.le_of_ble_eq_true rfl⟩) (fm_preV hc hw hS kl_60 sh_60 rfl) rfl rfl hl.1 rfl (lv_room (Nat.le_of_ble_eq_true rfl)) dX12_one_102 ⟨by decide +kernel, by decide +kernel⟩)) (fun r10 hr10 => ?_)
        have bqq11 := hI.bd (k := 0) bd_60_63
        rcases hr10 with ⟨rfl, c12⟩ | ⟨rfl, c12⟩
        · refine fx_if_eq (tgt := 167) hx hb dX12_one_105 (by decide) zk_1 (fun c13 => by exfalso; omega) (fun c13 => ?_)
          refine lv_aload_n hx hb dX12_one_108 rfl (lv_at hl 0 rfl) ?_
          refine fm_getI (a := 60) (j := 65) (T := TX12) (N := 79) hx hb hts hinX12 hown hc hw hI kl_60 sh_60 rfl (by decide) rfl bd_60_65 (hts (.fieldLink RX12 337 "RedTentModel" "to" "I") (List.mem_cons_of_mem _ tw_5_185)) (fun _ h9 => h9) dX12_one_109 (fun x14 ex14 bx14 => ?_)
          have wx14 : x14.toInt = (M.1 60 0 65).toInt := by rw [ex14]
          refine lv_aload_n hx hb dX12_one_112 rfl (lv_at hl 0 rfl) ?_
          refine fm_getI (a := 60) (j := 64) (T := TX12) (N := 79) hx hb hts hinX12 hown hc hw hI kl_60 sh_60 rfl (by decide) rfl bd_60_64 (hts (.fieldLink RX12 340 "RedTentModel" "from" "I") (List.mem_cons_of_mem _ tw_5_184)) (fun _ h9 => h9) dX12_one_113 (fun x15 ex15 bx15 => ?_)
          have wx15 : x15.toInt = (M.1 60 0 64).toInt := by rw [ex15]
          obtain rfl : x9 = x15 := by rw [ex15]; exact ex9
          refine fx_isub hx hb dX12_one_116 rfl rfl (by omega) (fun y16 ey16 ty16 => ?_)
          refine lv_iconst (v := 4) hx hb dX12_one_117 (by decide) ?_
          refine fx_icmp_le (tgt := 126) hx hb dX12_one_118 (by decide) rfl zk_4 (fun c17 => ?_) (fun c17 => ?_)
          · refine lv_iconst (v := 0) hx hb dX12_one_126 (by decide) ?_
            refine lv_istore_n (lv' := [(1, .int 0), (0, .ref (ad 60 0))]) hx hb dX12_one_127 rfl hl (by decide) rfl (fun ls hl => ?_)
            refine lv_aload_n hx hb dX12_one_128 rfl (lv_at hl 1 rfl) ?_
            refine fm_getI (a := 60) (j := 64) (T := TX12) (N := 79) hx hb hts hinX12 hown hc hw hI kl_60 sh_60 rfl (by decide) rfl bd_60_64 (hts (.fieldLink RX12 340 "RedTentModel" "from" "I") (List.mem_cons_of_mem _ tw_5_184)) (fun _ h9 => h9) dX12_one_129 (fun x18 ex18 bx18 => ?_)
            have wx18 : x18.toInt = (M.1 60 0 64).toInt := by rw [ex18]
            obtain rfl : x9 = x18 := by rw [ex18]; exact ex9
            refine lv_istore_n (lv' := [(2, .int x9), (1, .int 0), (0, .ref (ad 60 0))]) hx hb dX12_one_132 rfl hl (by decide) rfl (fun ls hl => ?_)
            have lp : ∀ (n_lp : Nat) (lp_2 : Int32) (lp_1 : Int32), (160 - lp_2.toInt).toNat < n_lp → (0 ≤ lp_2.toInt ∧ lp_2.toInt ≤ 160) → ∀ (ls : Array Slot), lv_has ls 3 [(2, .int lp_2), (1, .int lp_1), (0, .ref (ad 60 0))] → W p l e (headSpec wsX12_one ({ frames := 29, cells := 0, slots := 0, locals := 628 })).room s m ([.ref (ad 60 0)] : List Value).toArray below meth c s.heap [] 0 0 (MQ below (va_Qi (fun (r : Int32) (u : fm_M) => fm_I nb ad u ∧ fm_same [60064, 60065, 60066, 60067] M u ∧ ((M.1 60 0 64).toInt ≤ (u.1 60 0 64).toInt ∧ (M.1 60 0 66).toInt ≤ (u.1 60 0 66).toInt ∧ (u.1 60 0 64).toInt ≤ (u.1 60 0 65).toInt)) (fun u t => fm_at D ad C nb u t.heap) (fm_A nb ad)) ([.ref (ad 60 0)] : List Value).toArray s 0 0 (fm_A nb ad)) (F0 m 133 ls []) := by
              intro n_lp
              induction n_lp with
              | zero => intro lp_2 lp_1 hm_lp b_lp_2 ls hl; exact absurd hm_lp (Nat.not_lt_zero _)
              | succ n_lp ih_lp =>
                intro lp_2 lp_1 hm_lp b_lp_2 ls hl
                refine lv_iload_n hx hb dX12_one_133 rfl (lv_at hl 0 rfl) ?_
                refine lv_aload_n hx hb dX12_one_134 rfl (lv_at hl 2 rfl) ?_
                refine fm_getI (a := 60) (j := 65) (T := TX12) (N := 79) hx hb hts hinX12 hown hc hw hI kl_60 sh_60 rfl (by decide) rfl bd_60_65 (hts (.fieldLink RX12 337 "RedTentModel" "to" "I") (List.mem_cons_of_mem _ tw_5_185)) (fun _ h9 => h9) dX12_one_135 (fun x19 ex19 bx19 => ?_)
                have wx19 : x19.toInt = (M.1 60 0 65).toInt := by rw [ex19]
                obtain rfl : x14 = x19 := by rw [ex19]; exact ex14
                refine fx_icmp_ge (tgt := 161) hx hb dX12_one_138 (by decide) rfl rfl (fun c20 => ?_) (fun c20 => ?_)
                · refine lv_aload_n hx hb dX12_one_161 rfl (lv_at hl 2 rfl) ?_
                  refine fm_cv (va_runV (As := []) (rest := []) ⟨hx, hb, hml, hown, hts⟩ (fc_X12_next l D ad C nb M hI) (cwV 0 hts gX12_one_X12_next rfl rfl rfl (by decide +kernel) ⟨Nat.le_of_ble_eq_true rfl, Nat.le_of_ble_eq_true rfl⟩) (fm_preV hc hw hS kl_60 sh_60 rfl) rfl rfl hl.1 rfl (lv_room (Nat.le_of_ble_eq_true rfl)) dX12_one_162 ⟨by decide +kernel, by decide +kernel⟩) hS hc (fun M22 H locs hr21 hw hS => ?_)
                  obtain ⟨hI, hEM22, hr21⟩ := hr21
                  have hE := hE.tr hEM22 (by decide)
                  have mM22_60_63 : (M22.1 60 0 63).toInt = (M.1 60 0 63).toInt := by rw [(hEM22 60 0 63 (by decide)).1]
                  have mM22_60_66 : (M22.1 60 0 66).toInt = (M.1 60 0 66).toInt := by rw [(hEM22 60 0 66 (by decide)).1]
                  refine lv_iload_n hx hb dX12_one_165 rfl (lv_at hl 1 rfl) ?_
                  have qx9 : x9.toInt = (M.1 60 0 64).toInt := by rw [ex9]
                  exact W.iret (v := lp_1) hx hb hr (fun t ht hW => ⟨⟨lp_1, M22, rfl, ⟨hI, hE, ⟨by omega, by omega, by omega⟩⟩, by show fm_at D ad C nb _ t.heap; rw [ht]; exact hw⟩, hS.F ht⟩) hS.2.2 dX12_one_166
                · refine lv_bipush (v := 10) hx hb dX12_one_141 (by decide) ?_
                  refine lv_iload_n hx hb dX12_one_143 rfl (lv_at hl 1 rfl) ?_
                  refine fx_imulU hx hb dX12_one_144 (fun y23 ey23 => ?_)
                  refine lv_aload_n hx hb dX12_one_145 rfl (lv_at hl 2 rfl) ?_
                  refine lv_iload_n hx hb dX12_one_146 rfl (lv_at hl 0 rfl) ?_
                  refine vp_callSi (va_Run.run (va_runV (As := [.int lp_2]) (rest := [.int y23]) ⟨hx, hb, hml, hown, hts⟩ (fc_X12_byteAt l D ad C nb M hI lp_2 (by omega)) (cwV 1 hts gX12_one_X12_byteAt rfl rfl rfl (by decide +kernel) ⟨Nat.le_of_ble_eq_true rfl, Nat.le_of_ble_eq_true rfl⟩) (fm_preV hc hw hS kl_60 sh_60 rfl) rfl rfl hl.1 rfl (lv_room (Nat.le_of_ble_eq_true rfl)) dX12_one_147 ⟨by decide +kernel, by decide +kernel⟩)) (fun r24 hr24 => ?_)
                  refine fx_iaddU hx hb dX12_one_150 (fun y25 ey25 => ?_)
                  refine lv_bipush (v := 48) hx hb dX12_one_151 (by decide) ?_
                  refine fx_isubU hx hb dX12_one_153 (fun y26 ey26 => ?_)
                  refine lv_istore_n (lv' := [(1, .int y26), (2, .int lp_2), (0, .ref (ad 60 0))]) hx hb dX12_one_154 rfl hl (by decide) rfl (fun ls hl => ?_)
                  obtain ⟨y27, ey27⟩ : ∃ y : Int32, y = lp_2 + 1 := ⟨_, rfl⟩
                  have ty27 : y27.toInt = lp_2.toInt + 1 := by rw [ey27, zi_add _ _ (by rw [zk_1]; omega) (by rw [zk_1]; omega), zk_1]
                  refine lv_iinc (v := y27) (lv' := [(2, .int y27), (1, .int y26), (0, .ref (ad 60 0))]) hx hb dX12_one_155 hl (k := 1) rfl (by rw [ey27]; rfl) (by decide) rfl (fun ls hl => ?_)
                  refine lv_goto (tgt := 133) hx hb dX12_one_158 (by decide) ?_
                  exact ih_lp y27 y26 (by omega) (by omega) ls (lv_sub hl [0, 1, 2] rfl)
            exact lp _ x9 0 (Nat.lt_succ_self _) (by omega) ls (lv_sub hl [0, 1, 2] rfl)
          · refine lv_aload_n hx hb dX12_one_121 rfl (lv_at hl 0 rfl) ?_
            refine fm_ci (va_runV (As := []) (rest := []) ⟨hx, hb, hml, hown, hts⟩ (fc_X12_wrong l D ad C nb M hI) (cwV 0 hts gX12_one_X12_wrong rfl rfl rfl (by decide +kernel) ⟨Nat.le_of_ble_eq_true rfl, Nat.le_of_ble_eq_true rfl⟩) (fm_preV hc hw hS kl_60 sh_60 rfl) rfl rfl hl.1 rfl (lv_room (Nat.le_of_ble_eq_true rfl)) dX12_one_122 ⟨by decide +kernel, by decide +kernel⟩) hS hc (fun r28 M29 H locs hr28 hw hS => ?_)
            obtain ⟨hI, hEM29, hr28⟩ := hr28
            have hE := hE.tr hEM29 (by decide)
            have mM29_60_63 : (M29.1 60 0 63).toInt = (M.1 60 0 63).toInt := by rw [(hEM29 60 0 63 (by decide)).1]
            have mM29_60_64 : (M29.1 60 0 64).toInt = (M.1 60 0 64).toInt := by rw [(hEM29 60 0 64 (by decide)).1]
            have mM29_60_65 : (M29.1 60 0 65).toInt = (M.1 60 0 65).toInt := by rw [(hEM29 60 0 65 (by decide)).1]
            have mM29_60_66 : (M29.1 60 0 66).toInt = (M.1 60 0 66).toInt := by rw [(hEM29 60 0 66 (by decide)).1]
            have qx9 : x9.toInt = (M.1 60 0 64).toInt := by rw [ex9]
            exact W.iret (v := r28) hx hb hr (fun t ht hW => ⟨⟨r28, M29, rfl, ⟨hI, hE, ⟨by omega, by omega, by omega⟩⟩, by show fm_at D ad C nb _ t.heap; rw [ht]; exact hw⟩, hS.F ht⟩) hS.2.2 dX12_one_125
        · refine fx_if_eq (tgt := 167) hx hb dX12_one_105 (by decide) zk_0 (fun c30 => ?_) (fun c30 => by exfalso; omega)
          have jt : ∀ (jt_1 : Int32), ((-1) ≤ jt_1.toInt ∧ jt_1.toInt ≤ 5) → ∀ (ls : Array Slot), lv_has ls 3 [(0, .ref (ad 60 0)), (1, .int jt_1)] → W p l e (headSpec wsX12_one ({ frames := 29, cells := 0, slots := 0, locals := 628 })).room s m ([.ref (ad 60 0)] : List Value).toArray below meth c s.heap [] 0 0 (MQ below (va_Qi (fun (r : Int32) (u : fm_M) => fm_I nb ad u ∧ fm_same [60064, 60065, 60066, 60067] M u ∧ ((M.1 60 0 64).toInt ≤ (u.1 60 0 64).toInt ∧ (M.1 60 0 66).toInt ≤ (u.1 60 0 66).toInt ∧ (u.1 60 0 64).toInt ≤ (u.1 60 0 65).toInt)) (fun u t => fm_at D ad C nb u t.heap) (fm_A nb ad)) ([.ref (ad 60 0)] : List Value).toArray s 0 0 (fm_A nb ad)) (F0 m 253 ls []) := by
            intro jt_1 b_jt_1 ls hl
            refine lv_iload_n hx hb dX12_one_253 rfl (lv_at hl 1 rfl) ?_
            refine fx_if_ge (tgt := 262) hx hb dX12_one_254 (by decide) rfl (fun c31 => ?_) (fun c31 => ?_)
            · refine lv_aload_n hx hb dX12_one_262 rfl (lv_at hl 0 rfl) ?_
              refine fm_cv (va_runV (As := []) (rest := []) ⟨hx, hb, hml, hown, hts⟩ (fc_X12_next l D ad C nb M hI) (cwV 0 hts gX12_one_X12_next rfl rfl rfl (by decide +kernel) ⟨Nat.le_of_ble_eq_true rfl, Nat.le_of_ble_eq_true rfl⟩) (fm_preV hc hw hS kl_60 sh_60 rfl) rfl rfl hl.1 rfl (lv_room (Nat.le_of_ble_eq_true rfl)) dX12_one_263 ⟨by decide +kernel, by decide +kernel⟩) hS hc (fun M33 H locs hr32 hw hS => ?_)
              obtain ⟨hI, hEM33, hr32⟩ := hr32
              have hE := hE.tr hEM33 (by decide)
              have mM33_60_63 : (M33.1 60 0 63).toInt = (M.1 60 0 63).toInt := by rw [(hEM33 60 0 63 (by decide)).1]
              have mM33_60_66 : (M33.1 60 0 66).toInt = (M.1 60 0 66).toInt := by rw [(hEM33 60 0 66 (by decide)).1]
              refine lv_aload_n hx hb dX12_one_266 rfl (lv_at hl 0 rfl) ?_
              refine fm_getG (a := 60) (j := 68) (T := TX12) (N := 79) hx hb hts hinX12 hown hc hw kl_60 sh_60 rfl (by decide) rfl (hI.to kl_60 tg_60_68) (hts (.fieldLink RX12 143 "RedTentModel" "names" "[I") (List.mem_cons_of_mem _ tw_5_188)) (fun _ h9 => h9) dX12_one_267 ?_
              refine lv_iload_n hx hb dX12_one_270 rfl (lv_at hl 1 rfl) ?_
              refine fm_iald (a := 168) hx hb hc hw hI kl_168 sh_168 ty_168 bd_168 (by omega) dX12_one_271 (fun x34 ex34 bx34 => ?_)
              have qx9 : x9.toInt = (M.1 60 0 64).toInt := by rw [ex9]
              exact W.iret (v := x34) hx hb hr (fun t ht hW => ⟨⟨x34, M33, rfl, ⟨hI, hE, ⟨by omega, by omega, by omega⟩⟩, by show fm_at D ad C nb _ t.heap; rw [ht]; exact hw⟩, hS.F ht⟩) hS.2.2 dX12_one_272
            · refine lv_aload_n hx hb dX12_one_257 rfl (lv_at hl 0 rfl) ?_
              refine fm_ci (va_runV (As := []) (rest := []) ⟨hx, hb, hml, hown, hts⟩ (fc_X12_wrong l D ad C nb M hI) (cwV 0 hts gX12_one_X12_wrong rfl rfl rfl (by decide +kernel) ⟨Nat.le_of_ble_eq_true rfl, Nat.le_of_ble_eq_true rfl⟩) (fm_preV hc hw hS kl_60 sh_60 rfl) rfl rfl hl.1 rfl (lv_room (Nat.le_of_ble_eq_true rfl)) dX12_one_258 ⟨by decide +kernel, by decide +kernel⟩) hS hc (fun r35 M36 H locs hr35 hw hS => ?_)
              obtain ⟨hI, hEM36, hr35⟩ := hr35
              have hE := hE.tr hEM36 (by decide)
              have mM36_60_63 : (M36.1 60 0 63).toInt = (M.1 60 0 63).toInt := by rw [(hEM36 60 0 63 (by decide)).1]
              have mM36_60_64 : (M36.1 60 0 64).toInt = (M.1 60 0 64).toInt := by rw [(hEM36 60 0 64 (by decide)).1]
              have mM36_60_65 : (M36.1 60 0 65).toInt = (M.1 60 0 65).toInt := by rw [(hEM36 60 0 65 (by decide)).1]
              have mM36_60_66 : (M36.1 60 0 66).toInt = (M.1 60 0 66).toInt := by rw [(hEM36 60 0 66 (by decide)).1]
              have qx9 : x9.toInt = (M.1 60 0 64).toInt := by rw [ex9]
              exact W.iret (v := r35) hx hb hr (fun t ht hW => ⟨⟨r35, M36, rfl, ⟨hI, hE, ⟨by omega, by omega, by omega⟩⟩, by show fm_at D ad C nb _ t.heap; rw [ht]; exact hw⟩, hS.F ht⟩) hS.2.2 dX12_one_261
          refine lv_aload_n hx hb dX12_one_167 rfl (lv_at hl 0 rfl) ?_
          obtain ⟨q37, vq37, hQq37, hRq37⟩ := hc.2.2.2.2.1 (RX12, 410, "strength", [115, 116, 114, 101, 110, 103, 116, 104]) (by decide)
          refine va_ldcwS hx hb hown hRq37 dX12_one_168 ?_
          refine vp_callSi (va_Run.run (va_runV (As := [.ref q37]) (rest := []) ⟨hx, hb, hml, hown, hts⟩ (fc_X12_is l D ad C nb M hI q37 vq37 8 (fun j => ([115, 116, 114, 101, 110, 103, 116, 104] : List Int32).getD j 0) (by decide)) (cwV 1 hts gX12_one_X12_is rfl rfl rfl (by decide +kernel) ⟨Nat.le_of_ble_eq_true rfl, Nat.le_of_ble_eq_true rfl⟩) (fm_preVS hc hw hS hQq37 kl_60 sh_60 rfl) rfl rfl hl.1 rfl (lv_room (Nat.le_of_ble_eq_true rfl)) dX12_one_171 ⟨by decide +kernel, by decide +kernel⟩)) (fun r38 hr38 => ?_)
          have ir38 := hr38.2
          have jr38 := hr38.1
          refine fx_if_eq (tgt := 181) hx hb dX12_one_174 (by decide) rfl (fun c39 => ?_) (fun c39 => ?_)
          · refine lv_aload_n hx hb dX12_one_181 rfl (lv_at hl 0 rfl) ?_
            obtain ⟨q40, vq40, hQq40, hRq40⟩ := hc.2.2.2.2.1 (RX12, 411, "hurt", [104, 117, 114, 116]) (by decide)
            refine va_ldcwS hx hb hown hRq40 dX12_one_182 ?_
            refine vp_callSi (va_Run.run (va_runV (As := [.ref q40]) (rest := []) ⟨hx, hb, hml, hown, hts⟩ (fc_X12_is l D ad C nb M hI q40 vq40 4 (fun j => ([104, 117, 114, 116] : List Int32).getD j 0) (by decide)) (cwV 1 hts gX12_one_X12_is rfl rfl rfl (by decide +kernel) ⟨Nat.le_of_ble_eq_true rfl, Nat.le_of_ble_eq_true rfl⟩) (fm_preVS hc hw hS hQq40 kl_60 sh_60 rfl) rfl rfl hl.1 rfl (lv_room (Nat.le_of_ble_eq_true rfl)) dX12_one_185 ⟨by decide +kernel, by decide +kernel⟩)) (fun r41 hr41 => ?_)
            have ir41 := hr41.2
            have jr41 := hr41.1
            refine fx_if_eq (tgt := 195) hx hb dX12_one_188 (by decide) rfl (fun c42 => ?_) (fun c42 => ?_)
            · refine lv_aload_n hx hb dX12_one_195 rfl (lv_at hl 0 rfl) ?_
              obtain ⟨q43, vq43, hQq43, hRq43⟩ := hc.2.2.2.2.1 (RX12, 412, "skill", [115, 107, 105, 108, 108]) (by decide)
              refine va_ldcwS hx hb hown hRq43 dX12_one_196 ?_
              refine vp_callSi (va_Run.run (va_runV (As := [.ref q43]) (rest := []) ⟨hx, hb, hml, hown, hts⟩ (fc_X12_is l D ad C nb M hI q43 vq43 5 (fun j => ([115, 107, 105, 108, 108] : List Int32).getD j 0) (by decide)) (cwV 1 hts gX12_one_X12_is rfl rfl rfl (by decide +kernel) ⟨Nat.le_of_ble_eq_true rfl, Nat.le_of_ble_eq_true rfl⟩) (fm_preVS hc hw hS hQq43 kl_60 sh_60 rfl) rfl rfl hl.1 rfl (lv_room (Nat.le_of_ble_eq_true rfl)) dX12_one_199 ⟨by decide +kernel, by decide +kernel⟩)) (fun r44 hr44 => ?_)
              have ir44 := hr44.2
              have jr44 := hr44.1
              refine fx_if_eq (tgt := 209) hx hb dX12_one_202 (by decide) rfl (fun c45 => ?_) (fun c45 => ?_)
              · refine lv_aload_n hx hb dX12_one_209 rfl (lv_at hl 0 rfl) ?_
                obtain ⟨q46, vq46, hQq46, hRq46⟩ := hc.2.2.2.2.1 (RX12, 413, "hour", [104, 111, 117, 114]) (by decide)
                refine va_ldcwS hx hb hown hRq46 dX12_one_210 ?_
                refine vp_callSi (va_Run.run (va_runV (As := [.ref q46]) (rest := []) ⟨hx, hb, hml, hown, hts⟩ (fc_X12_is l D ad C nb M hI q46 vq46 4 (fun j => ([104, 111, 117, 114] : List Int32).getD j 0) (by decide)) (cwV 1 hts gX12_one_X12_is rfl rfl rfl (by decide +kernel) ⟨Nat.le_of_ble_eq_true rfl, Nat.le_of_ble_eq_true rfl⟩) (fm_preVS hc hw hS hQq46 kl_60 sh_60 rfl) rfl rfl hl.1 rfl (lv_room (Nat.le_of_ble_eq_true rfl)) dX12_one_213 ⟨by decide +kernel, by decide +kernel⟩)) (fun r47 hr47 => ?_)
                have ir47 := hr47.2
                have jr47 := hr47.1
                refine fx_if_eq (tgt := 223) hx hb dX12_one_216 (by decide) rfl (fun c48 => ?_) (fun c48 => ?_)
                · refine lv_aload_n hx hb dX12_one_223 rfl (lv_at hl 0 rfl) ?_
                  obtain ⟨q49, vq49, hQq49, hRq49⟩ := hc.2.2.2.2.1 (RX12, 414, "fuel", [102, 117, 101, 108]) (by decide)
                  refine va_ldcwS hx hb hown hRq49 dX12_one_224 ?_
                  refine vp_callSi (va_Run.run (va_runV (As := [.ref q49]) (rest := []) ⟨hx, hb, hml, hown, hts⟩ (fc_X12_is l D ad C nb M hI q49 vq49 4 (fun j => ([102, 117, 101, 108] : List Int32).getD j 0) (by decide)) (cwV 1 hts gX12_one_X12_is rfl rfl rfl (by decide +kernel) ⟨Nat.le_of_ble_eq_true rfl, Nat.le_of_ble_eq_true rfl⟩) (fm_preVS hc hw hS hQq49 kl_60 sh_60 rfl) rfl rfl hl.1 rfl (lv_room (Nat.le_of_ble_eq_true rfl)) dX12_one_227 ⟨by decide +kernel, by decide +kernel⟩)) (fun r50 hr50 => ?_)
                  have ir50 := hr50.2
                  have jr50 := hr50.1
                  refine fx_if_eq (tgt := 237) hx hb dX12_one_230 (by decide) rfl (fun c51 => ?_) (fun c51 => ?_)
                  · refine lv_aload_n hx hb dX12_one_237 rfl (lv_at hl 0 rfl) ?_
                    obtain ⟨q52, vq52, hQq52, hRq52⟩ := hc.2.2.2.2.1 (RX12, 415, "far", [102, 97, 114]) (by decide)
                    refine va_ldcwS hx hb hown hRq52 dX12_one_238 ?_
                    refine vp_callSi (va_Run.run (va_runV (As := [.ref q52]) (rest := []) ⟨hx, hb, hml, hown, hts⟩ (fc_X12_is l D ad C nb M hI q52 vq52 3 (fun j => ([102, 97, 114] : List Int32).getD j 0) (by decide)) (cwV 1 hts gX12_one_X12_is rfl rfl rfl (by decide +kernel) ⟨Nat.le_of_ble_eq_true rfl, Nat.le_of_ble_eq_true rfl⟩) (fm_preVS hc hw hS hQq52 kl_60 sh_60 rfl) rfl rfl hl.1 rfl (lv_room (Nat.le_of_ble_eq_true rfl)) dX12_one_241 ⟨by decide +kernel, by decide +kernel⟩)) (fun r53 hr53 => ?_)
                    have ir53 := hr53.2
                    have jr53 := hr53.1
                    refine fx_if_eq (tgt := 251) hx hb dX12_one_244 (by decide) rfl (fun c54 => ?_) (fun c54 => ?_)
                    · refine lv_iconst (v := (-1)) hx hb dX12_one_251 (by decide) ?_
                      refine lv_istore_n (lv' := [(1, .int (-1)), (0, .ref (ad 60 0))]) hx hb dX12_one_252 rfl hl (by decide) rfl (fun ls hl => ?_)
                      exact jt (-1) (by decide) ls (lv_sub hl [1, 0] rfl)
                    · refine lv_iconst (v := 5) hx hb dX12_one_247 (by decide) ?_
                      refine lv_goto (tgt := 252) hx hb dX12_one_248 (by decide) ?_
                      refine lv_istore_n (lv' := [(1, .int 5), (0, .ref (ad 60 0))]) hx hb dX12_one_252 rfl hl (by decide) rfl (fun ls hl => ?_)
                      exact jt 5 (by decide) ls (lv_sub hl [1, 0] rfl)
                  · refine lv_iconst (v := 4) hx hb dX12_one_233 (by decide) ?_
                    refine lv_goto (tgt := 252) hx hb dX12_one_234 (by decide) ?_
                    refine lv_istore_n (lv' := [(1, .int 4), (0, .ref (ad 60 0))]) hx hb dX12_one_252 rfl hl (by decide) rfl (fun ls hl => ?_)
                    exact jt 4 (by decide) ls (lv_sub hl [1, 0] rfl)
                · refine lv_iconst (v := 3) hx hb dX12_one_219 (by decide) ?_
                  refine lv_goto (tgt := 252) hx hb dX12_one_220 (by decide) ?_
                  refine lv_istore_n (lv' := [(1, .int 3), (0, .ref (ad 60 0))]) hx hb dX12_one_252 rfl hl (by decide) rfl (fun ls hl => ?_)
                  exact jt 3 (by decide) ls (lv_sub hl [1, 0] rfl)
              · refine lv_iconst (v := 2) hx hb dX12_one_205 (by decide) ?_
                refine lv_goto (tgt := 252) hx hb dX12_one_206 (by decide) ?_
                refine lv_istore_n (lv' := [(1, .int 2), (0, .ref (ad 60 0))]) hx hb dX12_one_252 rfl hl (by decide) rfl (fun ls hl => ?_)
                exact jt 2 (by decide) ls (lv_sub hl [1, 0] rfl)
            · refine lv_iconst (v := 1) hx hb dX12_one_191 (by decide) ?_
              refine lv_goto (tgt := 252) hx hb dX12_one_192 (by decide) ?_
              refine lv_istore_n (lv' := [(1, .int 1), (0, .ref (ad 60 0))]) hx hb dX12_one_252 rfl hl (by decide) rfl (fun ls hl => ?_)
              exact jt 1 (by decide) ls (lv_sub hl [1, 0] rfl)
          · refine lv_iconst (v := 0) hx hb dX12_one_177 (by decide) ?_
            refine lv_goto (tgt := 252) hx hb dX12_one_178 (by decide) ?_
            refine lv_istore_n (lv' := [(1, .int 0), (0, .ref (ad 60 0))]) hx hb dX12_one_252 rfl hl (by decide) rfl (fun ls hl => ?_)
            exact jt 0 (by decide) ls (lv_sub hl [1, 0] rfl)
      · refine lv_aload_n hx hb dX12_one_56 rfl (lv_at hl 0 rfl) ?_
        refine fm_ci (va_runV (As := []) (rest := []) ⟨hx, hb, hml, hown, hts⟩ (fc_X12_opens l D ad C nb M hI) (cwV 0 hts gX12_one_X12_opens rfl rfl rfl (by decide +kernel) ⟨Nat.le_of_ble_eq_true rfl, Nat.le_of_ble_eq_true rfl⟩) (fm_preV hc hw hS kl_60 sh_60 rfl) rfl rfl hl.1 rfl (lv_room (Nat.le_of_ble_eq_true rfl)) dX12_one_57 ⟨by decide +kernel, by decide +kernel⟩) hS hc (fun r55 M56 H locs hr55 hw hS => ?_)
        obtain ⟨hI, hEM56, hr55⟩ := hr55
        have hE := hE.tr hEM56 (by decide)
        have mM56_60_63 : (M56.1 60 0 63).toInt = (M.1 60 0 63).toInt := by rw [(hEM56 60 0 63 (by decide)).1]
        rcases hr55 with ⟨rfl, ahr55, bhr55, dhr55⟩ | ⟨rfl, ahr55, bhr55, dhr55⟩
        · refine fx_if_ne (tgt := 65) hx hb dX12_one_60 (by decide) zk_1 (fun c57 => ?_) (fun c57 => by exfalso; omega)
          refine lv_aload_n hx hb dX12_one_65 rfl (lv_at hl 0 rfl) ?_
          have d58_63 := hI.bd (k := 0) bd_60_63
          have d58_64 := hI.bd (k := 0) bd_60_64
          have d58_65 := hI.bd (k := 0) bd_60_65
          have d58_66 := hI.bd (k := 0) bd_60_66
          refine fm_ci (va_runV (As := []) (rest := []) ⟨hx, hb, hml, hown, hts⟩ (fc_X12_either_2 l D ad C nb M56 hI (by omega) (by omega)) (cwV 0 hts gX12_one_X12_either rfl rfl rfl (by decide +kernel) ⟨Nat.le_of_ble_eq_true rfl, Nat.le_of_ble_eq_true rfl⟩) (fm_preV hc hw hS kl_60 sh_60 rfl) rfl rfl hl.1 rfl (lv_room (Nat.le_of_ble_eq_true rfl)) dX12_one_66 ⟨by decide +kernel, by decide +kernel⟩) hS hc (fun r59 M60 H locs hr59 hw hS => ?_)
          obtain ⟨hI, hEM60, hr59⟩ := hr59
          have hE := hE.tr hEM60 (by decide)
          have mM60_60_63 : (M60.1 60 0 63).toInt = (M56.1 60 0 63).toInt := by rw [(hEM60 60 0 63 (by decide)).1]
          obtain ⟨ahr59, bhr59, dhr59⟩ := hr59
          refine lv_istore_n (lv' := [(1, .int r59), (0, .ref (ad 60 0))]) hx hb dX12_one_69 rfl hl (by decide) rfl (fun ls hl => ?_)
          refine lv_aload_n hx hb dX12_one_70 rfl (lv_at hl 1 rfl) ?_
          obtain ⟨q61, vq61, hQq61, hRq61⟩ := hc.2.2.2.2.1 (RX12, 408, ")", [41]) (by decide)
          refine va_ldcwS hx hb hown hRq61 dX12_one_71 ?_
          refine fm_ci (va_runV (As := [.ref q61]) (rest := []) ⟨hx, hb, hml, hown, hts⟩ (fc_X12_take l D ad C nb M60 hI q61 vq61 1 (fun j => ([41] : List Int32).getD j 0) (by decide) (by omega)) (cwV 1 hts gX12_one_X12_take rfl rfl rfl (by decide +kernel) ⟨Nat.le_of_ble_eq_true rfl, Nat.le_of_ble_eq_true rfl⟩) (fm_preVS hc hw hS hQq61 kl_60 sh_60 rfl) rfl rfl hl.1 rfl (lv_room (Nat.le_of_ble_eq_true rfl)) dX12_one_74 ⟨by decide +kernel, by decide +kernel⟩) hS hc (fun r62 M63 H locs hr62 hw hS => ?_)
          obtain ⟨hI, hEM63, hr62⟩ := hr62
          have hE := hE.tr hEM63 (by decide)
          have mM63_60_63 : (M63.1 60 0 63).toInt = (M60.1 60 0 63).toInt := by rw [(hEM63 60 0 63 (by decide)).1]
          have mM63_60_66 : (M63.1 60 0 66).toInt = (M60.1 60 0 66).toInt := by rw [(hEM63 60 0 66 (by decide)).1]
          rcases hr62 with ⟨rfl, ahr62, bhr62⟩ | ⟨rfl, ahr62, bhr62⟩
          · refine fx_if_ne (tgt := 85) hx hb dX12_one_77 (by decide) zk_1 (fun c64 => ?_) (fun c64 => by exfalso; omega)
            refine lv_aload_n hx hb dX12_one_85 rfl (lv_at hl 1 rfl) ?_
            refine lv_dup hx hb dX12_one_86 rfl ?_
            refine fm_getI (a := 60) (j := 66) (T := TX12) (N := 79) hx hb hts hinX12 hown hc hw hI kl_60 sh_60 rfl (by decide) rfl bd_60_66 (hts (.fieldLink RX12 372 "RedTentModel" "open" "I") (List.mem_cons_of_mem _ tw_5_186)) (fun _ h9 => h9) dX12_one_87 (fun x65 ex65 bx65 => ?_)
            have wx65 : x65.toInt = (M63.1 60 0 66).toInt := by rw [ex65]
            refine lv_iconst (v := 1) hx hb dX12_one_90 (by decide) ?_
            refine fx_isub hx hb dX12_one_91 rfl zk_1 (by omega) (fun y66 ey66 ty66 => ?_)
            refine fm_putI (a := 60) (j := 66) (T := TX12) (N := 79) hx hb hts hinX12 tyX12 tyX12_ok nmX12 hown hc hw hI hE hS kl_60 sh_60 od_60 rfl (by decide) rfl bd_60_66 (hts (.fieldLink RX12 372 "RedTentModel" "open" "I") (List.mem_cons_of_mem _ tw_5_186)) (fun _ h9 => h9) rfl (by decide +kernel) (by omega) (by decide) (by decide) dX12_one_92 (fun M67 H locs eM67 hw hI hE hS => ?_)
            have mM67_60_63 : (M67.1 60 0 63).toInt = (M63.1 60 0 63).toInt := by rw [eM67, fm_wI_nj (fun z => absurd z.2.2 (by decide))]
            have mM67_60_64 : (M67.1 60 0 64).toInt = (M63.1 60 0 64).toInt := by rw [eM67, fm_wI_nj (fun z => absurd z.2.2 (by decide))]
            have mM67_60_65 : (M67.1 60 0 65).toInt = (M63.1 60 0 65).toInt := by rw [eM67, fm_wI_nj (fun z => absurd z.2.2 (by decide))]
            have mM67_60_66 : (M67.1 60 0 66).toInt = y66.toInt := by rw [eM67, fm_wI_at]
            refine lv_iload_n hx hb dX12_one_95 rfl (lv_at hl 0 rfl) ?_
            exact W.iret (v := r59) hx hb hr (fun t ht hW => ⟨⟨r59, M67, rfl, ⟨hI, hE, ⟨by omega, by omega, by omega⟩⟩, by show fm_at D ad C nb _ t.heap; rw [ht]; exact hw⟩, hS.F ht⟩) hS.2.2 dX12_one_96
          · refine fx_if_ne (tgt := 85) hx hb dX12_one_77 (by decide) zk_0 (fun c68 => by exfalso; omega) (fun c68 => ?_)
            refine lv_aload_n hx hb dX12_one_80 rfl (lv_at hl 1 rfl) ?_
            refine fm_ci (va_runV (As := []) (rest := []) ⟨hx, hb, hml, hown, hts⟩ (fc_X12_wrong l D ad C nb M63 hI) (cwV 0 hts gX12_one_X12_wrong rfl rfl rfl (by decide +kernel) ⟨Nat.le_of_ble_eq_true rfl, Nat.le_of_ble_eq_true rfl⟩) (fm_preV hc hw hS kl_60 sh_60 rfl) rfl rfl hl.1 rfl (lv_room (Nat.le_of_ble_eq_true rfl)) dX12_one_81 ⟨by decide +kernel, by decide +kernel⟩) hS hc (fun r69 M70 H locs hr69 hw hS => ?_)
            obtain ⟨hI, hEM70, hr69⟩ := hr69
            have hE := hE.tr hEM70 (by decide)
            have mM70_60_63 : (M70.1 60 0 63).toInt = (M63.1 60 0 63).toInt := by rw [(hEM70 60 0 63 (by decide)).1]
            have mM70_60_64 : (M70.1 60 0 64).toInt = (M63.1 60 0 64).toInt := by rw [(hEM70 60 0 64 (by decide)).1]
            have mM70_60_65 : (M70.1 60 0 65).toInt = (M63.1 60 0 65).toInt := by rw [(hEM70 60 0 65 (by decide)).1]
            have mM70_60_66 : (M70.1 60 0 66).toInt = (M63.1 60 0 66).toInt := by rw [(hEM70 60 0 66 (by decide)).1]
            exact W.iret (v := r69) hx hb hr (fun t ht hW => ⟨⟨r69, M70, rfl, ⟨hI, hE, ⟨by omega, by omega, by omega⟩⟩, by show fm_at D ad C nb _ t.heap; rw [ht]; exact hw⟩, hS.F ht⟩) hS.2.2 dX12_one_84
        · refine fx_if_ne (tgt := 65) hx hb dX12_one_60 (by decide) zk_0 (fun c71 => by exfalso; omega) (fun c71 => ?_)
          refine lv_iconst (v := 0) hx hb dX12_one_63 (by decide) ?_
          exact W.iret (v := 0) hx hb hr (fun t ht hW => ⟨⟨0, M56, rfl, ⟨hI, hE, ⟨by omega, by omega, by omega⟩⟩, by show fm_at D ad C nb _ t.heap; rw [ht]; exact hw⟩, hS.F ht⟩) hS.2.2 dX12_one_64
    · refine lv_aload_n hx hb dX12_one_19 rfl (lv_at hl 0 rfl) ?_
      refine fm_ci (va_runV (As := []) (rest := []) ⟨hx, hb, hml, hown, hts⟩ (fc_X12_opens l D ad C nb M hI) (cwV 0 hts gX12_one_X12_opens rfl rfl rfl (by decide +kernel) ⟨Nat.le_of_ble_eq_true rfl, Nat.le_of_ble_eq_true rfl⟩) (fm_preV hc hw hS kl_60 sh_60 rfl) rfl rfl hl.1 rfl (lv_room (Nat.le_of_ble_eq_true rfl)) dX12_one_20 ⟨by decide +kernel, by decide +kernel⟩) hS hc (fun r72 M73 H locs hr72 hw hS => ?_)
      obtain ⟨hI, hEM73, hr72⟩ := hr72
      have hE := hE.tr hEM73 (by decide)
      have mM73_60_63 : (M73.1 60 0 63).toInt = (M.1 60 0 63).toInt := by rw [(hEM73 60 0 63 (by decide)).1]
      rcases hr72 with ⟨rfl, ahr72, bhr72, dhr72⟩ | ⟨rfl, ahr72, bhr72, dhr72⟩
      · refine fx_if_ne (tgt := 28) hx hb dX12_one_23 (by decide) zk_1 (fun c74 => ?_) (fun c74 => by exfalso; omega)
        refine lv_aload_n hx hb dX12_one_28 rfl (lv_at hl 0 rfl) ?_
        have d75_63 := hI.bd (k := 0) bd_60_63
        have d75_64 := hI.bd (k := 0) bd_60_64
        have d75_65 := hI.bd (k := 0) bd_60_65
        have d75_66 := hI.bd (k := 0) bd_60_66
        refine fm_ci (va_runV (As := []) (rest := []) ⟨hx, hb, hml, hown, hts⟩ (fc_X12_one_2 l D ad C nb M73 hI (by omega) (by omega)) (cwV 0 hts gX12_one_X12_one rfl rfl rfl (by decide +kernel) ⟨Nat.le_of_ble_eq_true rfl, Nat.le_of_ble_eq_true rfl⟩) (fm_preV hc hw hS kl_60 sh_60 rfl) rfl rfl hl.1 rfl (lv_room (Nat.le_of_ble_eq_true rfl)) dX12_one_29 ⟨by decide +kernel, by decide +kernel⟩) hS hc (fun r76 M77 H locs hr76 hw hS => ?_)
        obtain ⟨hI, hEM77, hr76⟩ := hr76
        have hE := hE.tr hEM77 (by decide)
        have mM77_60_63 : (M77.1 60 0 63).toInt = (M73.1 60 0 63).toInt := by rw [(hEM77 60 0 63 (by decide)).1]
        obtain ⟨ahr76, bhr76, dhr76⟩ := hr76
        refine lv_istore_n (lv' := [(1, .int r76), (0, .ref (ad 60 0))]) hx hb dX12_one_32 rfl hl (by decide) rfl (fun ls hl => ?_)
        refine lv_aload_n hx hb dX12_one_33 rfl (lv_at hl 1 rfl) ?_
        refine lv_dup hx hb dX12_one_34 rfl ?_
        refine fm_getI (a := 60) (j := 66) (T := TX12) (N := 79) hx hb hts hinX12 hown hc hw hI kl_60 sh_60 rfl (by decide) rfl bd_60_66 (hts (.fieldLink RX12 372 "RedTentModel" "open" "I") (List.mem_cons_of_mem _ tw_5_186)) (fun _ h9 => h9) dX12_one_35 (fun x78 ex78 bx78 => ?_)
        have wx78 : x78.toInt = (M77.1 60 0 66).toInt := by rw [ex78]
        refine lv_iconst (v := 1) hx hb dX12_one_38 (by decide) ?_
        refine fx_isub hx hb dX12_one_39 rfl zk_1 (by omega) (fun y79 ey79 ty79 => ?_)
        refine fm_putI (a := 60) (j := 66) (T := TX12) (N := 79) hx hb hts hinX12 tyX12 tyX12_ok nmX12 hown hc hw hI hE hS kl_60 sh_60 od_60 rfl (by decide) rfl bd_60_66 (hts (.fieldLink RX12 372 "RedTentModel" "open" "I") (List.mem_cons_of_mem _ tw_5_186)) (fun _ h9 => h9) rfl (by decide +kernel) (by omega) (by decide) (by decide) dX12_one_40 (fun M80 H locs eM80 hw hI hE hS => ?_)
        have mM80_60_63 : (M80.1 60 0 63).toInt = (M77.1 60 0 63).toInt := by rw [eM80, fm_wI_nj (fun z => absurd z.2.2 (by decide))]
        have mM80_60_64 : (M80.1 60 0 64).toInt = (M77.1 60 0 64).toInt := by rw [eM80, fm_wI_nj (fun z => absurd z.2.2 (by decide))]
        have mM80_60_65 : (M80.1 60 0 65).toInt = (M77.1 60 0 65).toInt := by rw [eM80, fm_wI_nj (fun z => absurd z.2.2 (by decide))]
        have mM80_60_66 : (M80.1 60 0 66).toInt = y79.toInt := by rw [eM80, fm_wI_at]
        refine lv_iload_n hx hb dX12_one_43 rfl (lv_at hl 0 rfl) ?_
        refine lv_ineg hx hb dX12_one_44 ?_
        refine lv_topi (fun y81 ey81 => ?_)
        exact W.iret (v := y81) hx hb hr (fun t ht hW => ⟨⟨y81, M80, rfl, ⟨hI, hE, ⟨by omega, by omega, by omega⟩⟩, by show fm_at D ad C nb _ t.heap; rw [ht]; exact hw⟩, hS.F ht⟩) hS.2.2 dX12_one_45
      · refine fx_if_ne (tgt := 28) hx hb dX12_one_23 (by decide) zk_0 (fun c82 => by exfalso; omega) (fun c82 => ?_)
        refine lv_iconst (v := 0) hx hb dX12_one_26 (by decide) ?_
        exact W.iret (v := 0) hx hb hr (fun t ht hW => ⟨⟨0, M73, rfl, ⟨hI, hE, ⟨by omega, by omega, by omega⟩⟩, by show fm_at D ad C nb _ t.heap; rw [ht]; exact hw⟩, hS.F ht⟩) hS.2.2 dX12_one_27
  · refine lv_iconst (v := 0) hx hb dX12_one_7 (by decide) ?_
    exact W.iret (v := 0) hx hb hr (fun t ht hW => ⟨⟨0, M, rfl, ⟨hI, hE, ⟨by omega, by omega, by omega⟩⟩, by show fm_at D ad C nb _ t.heap; rw [ht]; exact hw⟩, hS.F ht⟩) hS.2.2 dX12_one_8
set_option maxHeartbeats 400000 in
set_option maxRecDepth 20000 in
theorem fc_X12_product_1 (l : Launch) (D : va_G) (ad : Nat → Nat → Nat) (C : Nat → Nat → ClassId) (nb : Nat) (M : fm_M) (hI : fm_I nb ad M) (hft : (M.1 60 0 64).toInt ≤ (M.1 60 0 65).toInt) (hop : 1 ≤ (M.1 60 0 66).toInt) : Met l yX12_product wsX12_product ({ frames := 30, cells := 0, slots := 0, locals := 650 }) (va_Pc [.ref (ad 60 0)] (fm_P D ad C nb M)) (va_Qi (fun (r : Int32) (u : fm_M) => fm_I nb ad u ∧ fm_same [60064, 60065, 60066, 60067] M u ∧ ((M.1 60 0 64).toInt ≤ (u.1 60 0 64).toInt ∧ (M.1 60 0 66).toInt ≤ (u.1 60 0 66).toInt ∧ (u.1 60 0 64).toInt ≤ (u.1 60 0 65).toInt)) (fun u t => fm_at D ad C nb u t.heap) (fm_A nb ad)) 0 0 (fm_A nb ad) := by
  refine Met.ofW (cc := cX12_product) (maxL := 2) (ret := (some .int)) (by decide) rfl ?_
  intro p e s m args below meth c s₁ B hml hv
  obtain ⟨rfl, hw, hc⟩ := hv
  have hx := B.exec
  have hb := B.bytes
  have hr := B.returns
  have hts := atoms_spec (ws := wsX12_product) B.pre
  have hown : s.vm.findClass RX12 = some m.cls := findClass_of_methodNamed B.named
  have hS : va_S (fm_A nb ad) s.heap s.heap [] := va_S.rf
  have hE : fm_same [60064, 60065, 60066, 60067] M M := fm_same.rf
  have hl := lv_entry ([.ref (ad 60 0)]) (n := 2) (Nat.le_of_ble_eq_true rfl)
  rw [lg_entry_eq]
  generalize (lg_sl ([.ref (ad 60 0)]) ++ List.replicate (2 - (lg_sl ([.ref (ad 60 0)])).length) Slot.unset).toArray = ls at hl ⊢
  have hl : lv_has ls 2 [(0, .ref (ad 60 0))] := hl
  refine lv_aload_n hx hb dX12_product_0 rfl (lv_at hl 0 rfl) ?_
  have d1_63 := hI.bd (k := 0) bd_60_63
  have d1_64 := hI.bd (k := 0) bd_60_64
  have d1_65 := hI.bd (k := 0) bd_60_65
  have d1_66 := hI.bd (k := 0) bd_60_66
  refine fm_ci (va_runV (As := []) (rest := []) ⟨hx, hb, hml, hown, hts⟩ (fc_X12_one_1 l D ad C nb M hI (by omega) (by omega)) (cwV 0 hts gX12_product_X12_one rfl rfl rfl (by decide +kernel) ⟨Nat.le_of_ble_eq_true rfl, Nat.le_of_ble_eq_true rfl⟩) (fm_preV hc hw hS kl_60 sh_60 rfl) rfl rfl hl.1 rfl (lv_room (Nat.le_of_ble_eq_true rfl)) dX12_product_1 ⟨by decide +kernel, by decide +kernel⟩) hS hc (fun r2 M3 H locs hr2 hw hS => ?_)
  obtain ⟨hI, hEM3, hr2⟩ := hr2
  have hE := hE.tr hEM3 (by decide)
  have mM3_60_63 : (M3.1 60 0 63).toInt = (M.1 60 0 63).toInt := by rw [(hEM3 60 0 63 (by decide)).1]
  obtain ⟨ahr2, bhr2, dhr2⟩ := hr2
  refine lv_istore_n (lv' := [(1, .int r2), (0, .ref (ad 60 0))]) hx hb dX12_product_4 rfl hl (by decide) rfl (fun ls hl => ?_)
  have lp : ∀ (n_lp : Nat) (lp_1 : Int32) (M_lp : fm_M), (161 - (M_lp.1 60 0 64).toInt).toNat < n_lp → ((M.1 60 0 64).toInt ≤ (M_lp.1 60 0 64).toInt ∧ (M.1 60 0 66).toInt ≤ (M_lp.1 60 0 66).toInt ∧ (M_lp.1 60 0 64).toInt ≤ (M_lp.1 60 0 65).toInt) → fm_I nb ad M_lp → fm_same [60064, 60065, 60066, 60067] M M_lp → ∀ (H : Heap) (locs : List Loc), fm_at D ad C nb M_lp H → va_S (fm_A nb ad) s.heap H locs → ∀ (ls : Array Slot), lv_has ls 2 [(1, .int lp_1), (0, .ref (ad 60 0))] → W p l e (headSpec wsX12_product ({ frames := 30, cells := 0, slots := 0, locals := 650 })).room s m ([.ref (ad 60 0)] : List Value).toArray below meth c H locs 0 0 (MQ below (va_Qi (fun (r : Int32) (u : fm_M) => fm_I nb ad u ∧ fm_same [60064, 60065, 60066, 60067] M u ∧ ((M.1 60 0 64).toInt ≤ (u.1 60 0 64).toInt ∧ (M.1 60 0 66).toInt ≤ (u.1 60 0 66).toInt ∧ (u.1 60 0 64).toInt ≤ (u.1 60 0 65).toInt)) (fun u t => fm_at D ad C nb u t.heap) (fm_A nb ad)) ([.ref (ad 60 0)] : List Value).toArray s 0 0 (fm_A nb ad)) (F0 m 5 ls []) := by
    intro n_lp
    induction n_lp with
    | zero => intro lp_1 M_lp hm_lp hv hI hE H locs hw hS ls hl; exact absurd hm_lp (Nat.not_lt_zero _)
    | succ n_lp ih_lp =>
      intro lp_1 M_lp hm_lp hv hI hE H locs hw hS ls hl
      refine lv_aload_n hx hb dX12_product_5 rfl (lv_at hl 1 rfl) ?_
      obtain ⟨q4, vq4, hQq4, hRq4⟩ := hc.2.2.2.2.1 (RX12, 401, "*", [42]) (by decide)
      refine va_ldcwS hx hb hown hRq4 dX12_product_6 ?_
      refine fm_ci (va_runV (As := [.ref q4]) (rest := []) ⟨hx, hb, hml, hown, hts⟩ (fc_X12_take l D ad C nb M_lp hI q4 vq4 1 (fun j => ([42] : List Int32).getD j 0) (by decide) (by omega)) (cwV 1 hts gX12_product_X12_take rfl rfl rfl (by decide +kernel) ⟨Nat.le_of_ble_eq_true rfl, Nat.le_of_ble_eq_true rfl⟩) (fm_preVS hc hw hS hQq4 kl_60 sh_60 rfl) rfl rfl hl.1 rfl (lv_room (Nat.le_of_ble_eq_true rfl)) dX12_product_9 ⟨by decide +kernel, by decide +kernel⟩) hS hc (fun r5 M6 H locs hr5 hw hS => ?_)
      obtain ⟨hI, hEM6, hr5⟩ := hr5
      have hE := hE.tr hEM6 (by decide)
      have mM6_60_63 : (M6.1 60 0 63).toInt = (M_lp.1 60 0 63).toInt := by rw [(hEM6 60 0 63 (by decide)).1]
      have mM6_60_66 : (M6.1 60 0 66).toInt = (M_lp.1 60 0 66).toInt := by rw [(hEM6 60 0 66 (by decide)).1]
      rcases hr5 with ⟨rfl, ahr5, bhr5⟩ | ⟨rfl, ahr5, bhr5⟩
      · refine fx_if_eq (tgt := 25) hx hb dX12_product_12 (by decide) zk_1 (fun c7 => by exfalso; omega) (fun c7 => ?_)
        refine lv_iload_n hx hb dX12_product_15 rfl (lv_at hl 0 rfl) ?_
        refine lv_aload_n hx hb dX12_product_16 rfl (lv_at hl 1 rfl) ?_
        have d8_63 := hI.bd (k := 0) bd_60_63
        have d8_64 := hI.bd (k := 0) bd_60_64
        have d8_65 := hI.bd (k := 0) bd_60_65
        have d8_66 := hI.bd (k := 0) bd_60_66
        refine fm_ci (va_runV (As := []) (rest := [.int lp_1]) ⟨hx, hb, hml, hown, hts⟩ (fc_X12_one_1 l D ad C nb M6 hI (by omega) (by omega)) (cwV 0 hts gX12_product_X12_one rfl rfl rfl (by decide +kernel) ⟨Nat.le_of_ble_eq_true rfl, Nat.le_of_ble_eq_true rfl⟩) (fm_preV hc hw hS kl_60 sh_60 rfl) rfl rfl hl.1 rfl (lv_room (Nat.le_of_ble_eq_true rfl)) dX12_product_17 ⟨by decide +kernel, by decide +kernel⟩) hS hc (fun r9 M10 H locs hr9 hw hS => ?_)
        obtain ⟨hI, hEM10, hr9⟩ := hr9
        have hE := hE.tr hEM10 (by decide)
        have mM10_60_63 : (M10.1 60 0 63).toInt = (M6.1 60 0 63).toInt := by rw [(hEM10 60 0 63 (by decide)).1]
        obtain ⟨ahr9, bhr9, dhr9⟩ := hr9
        refine fx_imulU hx hb dX12_product_20 (fun y11 ey11 => ?_)
        refine lv_istore_n (lv' := [(1, .int y11), (0, .ref (ad 60 0))]) hx hb dX12_product_21 rfl hl (by decide) rfl (fun ls hl => ?_)
        refine lv_goto (tgt := 5) hx hb dX12_product_22 (by decide) ?_
        exact ih_lp y11 M10 (by omega) (by omega) hI hE _ _ hw hS ls (lv_sub hl [0, 1] rfl)
      · refine fx_if_eq (tgt := 25) hx hb dX12_product_12 (by decide) zk_0 (fun c12 => ?_) (fun c12 => by exfalso; omega)
        refine lv_iload_n hx hb dX12_product_25 rfl (lv_at hl 0 rfl) ?_
        exact W.iret (v := lp_1) hx hb hr (fun t ht hW => ⟨⟨lp_1, M6, rfl, ⟨hI, hE, ⟨by omega, by omega, by omega⟩⟩, by show fm_at D ad C nb _ t.heap; rw [ht]; exact hw⟩, hS.F ht⟩) hS.2.2 dX12_product_26
  exact lp _ r2 M3 (Nat.lt_succ_self _) (by omega) hI hE _ _ hw hS ls (lv_sub hl [0, 1] rfl)
set_option maxHeartbeats 400000 in
set_option maxRecDepth 20000 in
theorem fc_X12_sum_1 (l : Launch) (D : va_G) (ad : Nat → Nat → Nat) (C : Nat → Nat → ClassId) (nb : Nat) (M : fm_M) (hI : fm_I nb ad M) (hft : (M.1 60 0 64).toInt ≤ (M.1 60 0 65).toInt) (hop : 1 ≤ (M.1 60 0 66).toInt) : Met l yX12_sum wsX12_sum ({ frames := 31, cells := 0, slots := 0, locals := 671 }) (va_Pc [.ref (ad 60 0)] (fm_P D ad C nb M)) (va_Qi (fun (r : Int32) (u : fm_M) => fm_I nb ad u ∧ fm_same [60064, 60065, 60066, 60067] M u ∧ ((M.1 60 0 64).toInt ≤ (u.1 60 0 64).toInt ∧ (M.1 60 0 66).toInt ≤ (u.1 60 0 66).toInt ∧ (u.1 60 0 64).toInt ≤ (u.1 60 0 65).toInt)) (fun u t => fm_at D ad C nb u t.heap) (fm_A nb ad)) 0 0 (fm_A nb ad) := by
  refine Met.ofW (cc := cX12_sum) (maxL := 3) (ret := (some .int)) (by decide) rfl ?_
  intro p e s m args below meth c s₁ B hml hv
  obtain ⟨rfl, hw, hc⟩ := hv
  have hx := B.exec
  have hb := B.bytes
  have hr := B.returns
  have hts := atoms_spec (ws := wsX12_sum) B.pre
  have hown : s.vm.findClass RX12 = some m.cls := findClass_of_methodNamed B.named
  have hS : va_S (fm_A nb ad) s.heap s.heap [] := va_S.rf
  have hE : fm_same [60064, 60065, 60066, 60067] M M := fm_same.rf
  have hl := lv_entry ([.ref (ad 60 0)]) (n := 3) (Nat.le_of_ble_eq_true rfl)
  rw [lg_entry_eq]
  generalize (lg_sl ([.ref (ad 60 0)]) ++ List.replicate (3 - (lg_sl ([.ref (ad 60 0)])).length) Slot.unset).toArray = ls at hl ⊢
  have hl : lv_has ls 3 [(0, .ref (ad 60 0))] := hl
  refine lv_aload_n hx hb dX12_sum_0 rfl (lv_at hl 0 rfl) ?_
  have d1_63 := hI.bd (k := 0) bd_60_63
  have d1_64 := hI.bd (k := 0) bd_60_64
  have d1_65 := hI.bd (k := 0) bd_60_65
  have d1_66 := hI.bd (k := 0) bd_60_66
  refine fm_ci (va_runV (As := []) (rest := []) ⟨hx, hb, hml, hown, hts⟩ (fc_X12_product_1 l D ad C nb M hI (by omega) (by omega)) (cwV 0 hts gX12_sum_X12_product rfl rfl rfl (by decide +kernel) ⟨Nat.le_of_ble_eq_true rfl, Nat.le_of_ble_eq_true rfl⟩) (fm_preV hc hw hS kl_60 sh_60 rfl) rfl rfl hl.1 rfl (lv_room (Nat.le_of_ble_eq_true rfl)) dX12_sum_1 ⟨by decide +kernel, by decide +kernel⟩) hS hc (fun r2 M3 H locs hr2 hw hS => ?_)
  obtain ⟨hI, hEM3, hr2⟩ := hr2
  have hE := hE.tr hEM3 (by decide)
  have mM3_60_63 : (M3.1 60 0 63).toInt = (M.1 60 0 63).toInt := by rw [(hEM3 60 0 63 (by decide)).1]
  obtain ⟨ahr2, bhr2, dhr2⟩ := hr2
  refine lv_istore_n (lv' := [(1, .int r2), (0, .ref (ad 60 0))]) hx hb dX12_sum_4 rfl hl (by decide) rfl (fun ls hl => ?_)
  refine lv_iconst (v := 1) hx hb dX12_sum_5 (by decide) ?_
  refine lv_istore_n (lv' := [(2, .int 1), (1, .int r2), (0, .ref (ad 60 0))]) hx hb dX12_sum_6 rfl hl (by decide) rfl (fun ls hl => ?_)
  have lp : ∀ (n_lp : Nat) (lp_2 : Int32) (lp_1 : Int32) (M_lp : fm_M), 2 * (161 - (M_lp.1 60 0 64).toInt).toNat + lp_2.toInt.toNat < n_lp → (0 ≤ lp_2.toInt ∧ lp_2.toInt ≤ 1) → ((M.1 60 0 64).toInt ≤ (M_lp.1 60 0 64).toInt ∧ (M.1 60 0 66).toInt ≤ (M_lp.1 60 0 66).toInt ∧ (M_lp.1 60 0 64).toInt ≤ (M_lp.1 60 0 65).toInt) → fm_I nb ad M_lp → fm_same [60064, 60065, 60066, 60067] M M_lp → ∀ (H : Heap) (locs : List Loc), fm_at D ad C nb M_lp H → va_S (fm_A nb ad) s.heap H locs → ∀ (ls : Array Slot), lv_has ls 3 [(2, .int lp_2), (1, .int lp_1), (0, .ref (ad 60 0))] → W p l e (headSpec wsX12_sum ({ frames := 31, cells := 0, slots := 0, locals := 671 })).room s m ([.ref (ad 60 0)] : List Value).toArray below meth c H locs 0 0 (MQ below (va_Qi (fun (r : Int32) (u : fm_M) => fm_I nb ad u ∧ fm_same [60064, 60065, 60066, 60067] M u ∧ ((M.1 60 0 64).toInt ≤ (u.1 60 0 64).toInt ∧ (M.1 60 0 66).toInt ≤ (u.1 60 0 66).toInt ∧ (u.1 60 0 64).toInt ≤ (u.1 60 0 65).toInt)) (fun u t => fm_at D ad C nb u t.heap) (fm_A nb ad)) ([.ref (ad 60 0)] : List Value).toArray s 0 0 (fm_A nb ad)) (F0 m 7 ls []) := by
    intro n_lp
    induction n_lp with
    | zero => intro lp_2 lp_1 M_lp hm_lp b_lp_2 hv hI hE H locs hw hS ls hl; exact absurd hm_lp (Nat.not_lt_zero _)
    | succ n_lp ih_lp =>
      intro lp_2 lp_1 M_lp hm_lp b_lp_2 hv hI hE H locs hw hS ls hl
      refine lv_iload_n hx hb dX12_sum_7 rfl (lv_at hl 0 rfl) ?_
      refine fx_if_eq (tgt := 56) hx hb dX12_sum_8 (by decide) rfl (fun c4 => ?_) (fun c4 => ?_)
      · refine lv_iload_n hx hb dX12_sum_56 rfl (lv_at hl 1 rfl) ?_
        exact W.iret (v := lp_1) hx hb hr (fun t ht hW => ⟨⟨lp_1, M_lp, rfl, ⟨hI, hE, ⟨by omega, by omega, by omega⟩⟩, by show fm_at D ad C nb _ t.heap; rw [ht]; exact hw⟩, hS.F ht⟩) hS.2.2 dX12_sum_57
      · refine lv_aload_n hx hb dX12_sum_11 rfl (lv_at hl 2 rfl) ?_
        obtain ⟨q5, vq5, hQq5, hRq5⟩ := hc.2.2.2.2.1 (RX12, 394, "+", [43]) (by decide)
        refine va_ldcwS hx hb hown hRq5 dX12_sum_12 ?_
        refine fm_ci (va_runV (As := [.ref q5]) (rest := []) ⟨hx, hb, hml, hown, hts⟩ (fc_X12_take l D ad C nb M_lp hI q5 vq5 1 (fun j => ([43] : List Int32).getD j 0) (by decide) (by omega)) (cwV 1 hts gX12_sum_X12_take rfl rfl rfl (by decide +kernel) ⟨Nat.le_of_ble_eq_true rfl, Nat.le_of_ble_eq_true rfl⟩) (fm_preVS hc hw hS hQq5 kl_60 sh_60 rfl) rfl rfl hl.1 rfl (lv_room (Nat.le_of_ble_eq_true rfl)) dX12_sum_15 ⟨by decide +kernel, by decide +kernel⟩) hS hc (fun r6 M7 H locs hr6 hw hS => ?_)
        obtain ⟨hI, hEM7, hr6⟩ := hr6
        have hE := hE.tr hEM7 (by decide)
        have mM7_60_63 : (M7.1 60 0 63).toInt = (M_lp.1 60 0 63).toInt := by rw [(hEM7 60 0 63 (by decide)).1]
        have mM7_60_66 : (M7.1 60 0 66).toInt = (M_lp.1 60 0 66).toInt := by rw [(hEM7 60 0 66 (by decide)).1]
        rcases hr6 with ⟨rfl, ahr6, bhr6⟩ | ⟨rfl, ahr6, bhr6⟩
        · refine fx_if_eq (tgt := 31) hx hb dX12_sum_18 (by decide) zk_1 (fun c8 => by exfalso; omega) (fun c8 => ?_)
          refine lv_iload_n hx hb dX12_sum_21 rfl (lv_at hl 1 rfl) ?_
          refine lv_aload_n hx hb dX12_sum_22 rfl (lv_at hl 2 rfl) ?_
          have d9_63 := hI.bd (k := 0) bd_60_63
          have d9_64 := hI.bd (k := 0) bd_60_64
          have d9_65 := hI.bd (k := 0) bd_60_65
          have d9_66 := hI.bd (k := 0) bd_60_66
          refine fm_ci (va_runV (As := []) (rest := [.int lp_1]) ⟨hx, hb, hml, hown, hts⟩ (fc_X12_product_1 l D ad C nb M7 hI (by omega) (by omega)) (cwV 0 hts gX12_sum_X12_product rfl rfl rfl (by decide +kernel) ⟨Nat.le_of_ble_eq_true rfl, Nat.le_of_ble_eq_true rfl⟩) (fm_preV hc hw hS kl_60 sh_60 rfl) rfl rfl hl.1 rfl (lv_room (Nat.le_of_ble_eq_true rfl)) dX12_sum_23 ⟨by decide +kernel, by decide +kernel⟩) hS hc (fun r10 M11 H locs hr10 hw hS => ?_)
          obtain ⟨hI, hEM11, hr10⟩ := hr10
          have hE := hE.tr hEM11 (by decide)
          have mM11_60_63 : (M11.1 60 0 63).toInt = (M7.1 60 0 63).toInt := by rw [(hEM11 60 0 63 (by decide)).1]
          obtain ⟨ahr10, bhr10, dhr10⟩ := hr10
          refine fx_iaddU hx hb dX12_sum_26 (fun y12 ey12 => ?_)
          refine lv_istore_n (lv' := [(1, .int y12), (2, .int lp_2), (0, .ref (ad 60 0))]) hx hb dX12_sum_27 rfl hl (by decide) rfl (fun ls hl => ?_)
          refine lv_goto (tgt := 7) hx hb dX12_sum_28 (by decide) ?_
          exact ih_lp lp_2 y12 M11 (by omega) (by omega) (by omega) hI hE _ _ hw hS ls (lv_sub hl [1, 0, 2] rfl)
        · refine fx_if_eq (tgt := 31) hx hb dX12_sum_18 (by decide) zk_0 (fun c13 => ?_) (fun c13 => by exfalso; omega)
          refine lv_aload_n hx hb dX12_sum_31 rfl (lv_at hl 2 rfl) ?_
          obtain ⟨q14, vq14, hQq14, hRq14⟩ := hc.2.2.2.2.1 (RX12, 396, "-", [45]) (by decide)
          refine va_ldcwS hx hb hown hRq14 dX12_sum_32 ?_
          refine fm_ci (va_runV (As := [.ref q14]) (rest := []) ⟨hx, hb, hml, hown, hts⟩ (fc_X12_take l D ad C nb M7 hI q14 vq14 1 (fun j => ([45] : List Int32).getD j 0) (by decide) (by omega)) (cwV 1 hts gX12_sum_X12_take rfl rfl rfl (by decide +kernel) ⟨Nat.le_of_ble_eq_true rfl, Nat.le_of_ble_eq_true rfl⟩) (fm_preVS hc hw hS hQq14 kl_60 sh_60 rfl) rfl rfl hl.1 rfl (lv_room (Nat.le_of_ble_eq_true rfl)) dX12_sum_35 ⟨by decide +kernel, by decide +kernel⟩) hS hc (fun r15 M16 H locs hr15 hw hS => ?_)
          obtain ⟨hI, hEM16, hr15⟩ := hr15
          have hE := hE.tr hEM16 (by decide)
          have mM16_60_63 : (M16.1 60 0 63).toInt = (M7.1 60 0 63).toInt := by rw [(hEM16 60 0 63 (by decide)).1]
          have mM16_60_66 : (M16.1 60 0 66).toInt = (M7.1 60 0 66).toInt := by rw [(hEM16 60 0 66 (by decide)).1]
          rcases hr15 with ⟨rfl, ahr15, bhr15⟩ | ⟨rfl, ahr15, bhr15⟩
          · refine fx_if_eq (tgt := 51) hx hb dX12_sum_38 (by decide) zk_1 (fun c17 => by exfalso; omega) (fun c17 => ?_)
            refine lv_iload_n hx hb dX12_sum_41 rfl (lv_at hl 1 rfl) ?_
            refine lv_aload_n hx hb dX12_sum_42 rfl (lv_at hl 2 rfl) ?_
            have d18_63 := hI.bd (k := 0) bd_60_63
            have d18_64 := hI.bd (k := 0) bd_60_64
            have d18_65 := hI.bd (k := 0) bd_60_65
            have d18_66 := hI.bd (k := 0) bd_60_66
            refine fm_ci (va_runV (As := []) (rest := [.int lp_1]) ⟨hx, hb, hml, hown, hts⟩ (fc_X12_product_1 l D ad C nb M16 hI (by omega) (by omega)) (cwV 0 hts gX12_sum_X12_product rfl rfl rfl (by decide +kernel) ⟨Nat.le_of_ble_eq_true rfl, Nat.le_of_ble_eq_true rfl⟩) (fm_preV hc hw hS kl_60 sh_60 rfl) rfl rfl hl.1 rfl (lv_room (Nat.le_of_ble_eq_true rfl)) dX12_sum_43 ⟨by decide +kernel, by decide +kernel⟩) hS hc (fun r19 M20 H locs hr19 hw hS => ?_)
            obtain ⟨hI, hEM20, hr19⟩ := hr19
            have hE := hE.tr hEM20 (by decide)
            have mM20_60_63 : (M20.1 60 0 63).toInt = (M16.1 60 0 63).toInt := by rw [(hEM20 60 0 63 (by decide)).1]
            obtain ⟨ahr19, bhr19, dhr19⟩ := hr19
            refine fx_isubU hx hb dX12_sum_46 (fun y21 ey21 => ?_)
            refine lv_istore_n (lv' := [(1, .int y21), (2, .int lp_2), (0, .ref (ad 60 0))]) hx hb dX12_sum_47 rfl hl (by decide) rfl (fun ls hl => ?_)
            refine lv_goto (tgt := 7) hx hb dX12_sum_48 (by decide) ?_
            exact ih_lp lp_2 y21 M20 (by omega) (by omega) (by omega) hI hE _ _ hw hS ls (lv_sub hl [1, 0, 2] rfl)
          · refine fx_if_eq (tgt := 51) hx hb dX12_sum_38 (by decide) zk_0 (fun c22 => ?_) (fun c22 => by exfalso; omega)
            refine lv_iconst (v := 0) hx hb dX12_sum_51 (by decide) ?_
            refine lv_istore_n (lv' := [(2, .int 0), (1, .int lp_1), (0, .ref (ad 60 0))]) hx hb dX12_sum_52 rfl hl (by decide) rfl (fun ls hl => ?_)
            refine lv_goto (tgt := 7) hx hb dX12_sum_53 (by decide) ?_
            exact ih_lp 0 lp_1 M16 (by have zlp_2 := zk_0; omega) (by decide) (by omega) hI hE _ _ hw hS ls (lv_sub hl [0, 1, 2] rfl)
  exact lp _ 1 r2 M3 (Nat.lt_succ_self _) (by decide) (by omega) hI hE _ _ hw hS ls (lv_sub hl [0, 1, 2] rfl)
set_option maxHeartbeats 400000 in
set_option maxRecDepth 20000 in
theorem fc_X12_turned_1 (l : Launch) (D : va_G) (ad : Nat → Nat → Nat) (C : Nat → Nat → ClassId) (nb : Nat) (M : fm_M) (hI : fm_I nb ad M) (hft : (M.1 60 0 64).toInt ≤ (M.1 60 0 65).toInt) (hop : 1 ≤ (M.1 60 0 66).toInt) : Met l yX12_turned wsX12_turned ({ frames := 32, cells := 0, slots := 0, locals := 693 }) (va_Pc [.ref (ad 60 0)] (fm_P D ad C nb M)) (va_Qi (fun (r : Int32) (u : fm_M) => fm_I nb ad u ∧ fm_same [60064, 60065, 60066, 60067] M u ∧ ((M.1 60 0 64).toInt ≤ (u.1 60 0 64).toInt ∧ (M.1 60 0 66).toInt ≤ (u.1 60 0 66).toInt ∧ (u.1 60 0 64).toInt ≤ (u.1 60 0 65).toInt)) (fun u t => fm_at D ad C nb u t.heap) (fm_A nb ad)) 0 0 (fm_A nb ad) := by
  refine Met.ofW (cc := cX12_turned) (maxL := 2) (ret := (some .int)) (by decide) rfl ?_
  intro p e s m args below meth c s₁ B hml hv
  obtain ⟨rfl, hw, hc⟩ := hv
  have hx := B.exec
  have hb := B.bytes
  have hr := B.returns
  have hts := atoms_spec (ws := wsX12_turned) B.pre
  have hown : s.vm.findClass RX12 = some m.cls := findClass_of_methodNamed B.named
  have hinX12 : ∀ w ∈ u_ws RX12 TX12 79, w ∈ wsX12_turned := fun w h => List.mem_cons_of_mem _ (iT_X12 w h)
  have hS : va_S (fm_A nb ad) s.heap s.heap [] := va_S.rf
  have hE : fm_same [60064, 60065, 60066, 60067] M M := fm_same.rf
  have hl := lv_entry ([.ref (ad 60 0)]) (n := 2) (Nat.le_of_ble_eq_true rfl)
  rw [lg_entry_eq]
  generalize (lg_sl ([.ref (ad 60 0)]) ++ List.replicate (2 - (lg_sl ([.ref (ad 60 0)])).length) Slot.unset).toArray = ls at hl ⊢
  have hl : lv_has ls 2 [(0, .ref (ad 60 0))] := hl
  refine lv_aload_n hx hb dX12_turned_0 rfl (lv_at hl 0 rfl) ?_
  refine fm_getI (a := 60) (j := 67) (T := TX12) (N := 79) hx hb hts hinX12 hown hc hw hI kl_60 sh_60 rfl (by decide) rfl bd_60_67 (hts (.fieldLink RX12 349 "RedTentModel" "fault" "I") (List.mem_cons_of_mem _ tw_5_187)) (fun _ h9 => h9) dX12_turned_1 (fun x1 ex1 bx1 => ?_)
  refine fx_if_lt (tgt := 9) hx hb dX12_turned_4 (by decide) rfl (fun c2 => ?_) (fun c2 => ?_)
  · refine lv_aload_n hx hb dX12_turned_9 rfl (lv_at hl 0 rfl) ?_
    obtain ⟨q3, vq3, hQq3, hRq3⟩ := hc.2.2.2.2.1 (RX12, 378, "not", [110, 111, 116]) (by decide)
    refine va_ldcwS hx hb hown hRq3 dX12_turned_10 ?_
    refine vp_callSi (va_Run.run (va_runV (As := [.ref q3]) (rest := []) ⟨hx, hb, hml, hown, hts⟩ (fc_X12_is l D ad C nb M hI q3 vq3 3 (fun j => ([110, 111, 116] : List Int32).getD j 0) (by decide)) (cwV 1 hts gX12_turned_X12_is rfl rfl rfl (by decide +kernel) ⟨Nat.le_of_ble_eq_true rfl, Nat.le_of_ble_eq_true rfl⟩) (fm_preVS hc hw hS hQq3 kl_60 sh_60 rfl) rfl rfl hl.1 rfl (lv_room (Nat.le_of_ble_eq_true rfl)) dX12_turned_13 ⟨by decide +kernel, by decide +kernel⟩)) (fun r4 hr4 => ?_)
    have ir4 := hr4.2
    have jr4 := hr4.1
    refine fx_if_eq (tgt := 53) hx hb dX12_turned_16 (by decide) rfl (fun c5 => ?_) (fun c5 => ?_)
    · refine lv_aload_n hx hb dX12_turned_53 rfl (lv_at hl 0 rfl) ?_
      have d6_63 := hI.bd (k := 0) bd_60_63
      have d6_64 := hI.bd (k := 0) bd_60_64
      have d6_65 := hI.bd (k := 0) bd_60_65
      have d6_66 := hI.bd (k := 0) bd_60_66
      refine fm_ci (va_runV (As := []) (rest := []) ⟨hx, hb, hml, hown, hts⟩ (fc_X12_sum_1 l D ad C nb M hI (by omega) (by omega)) (cwV 0 hts gX12_turned_X12_sum rfl rfl rfl (by decide +kernel) ⟨Nat.le_of_ble_eq_true rfl, Nat.le_of_ble_eq_true rfl⟩) (fm_preV hc hw hS kl_60 sh_60 rfl) rfl rfl hl.1 rfl (lv_room (Nat.le_of_ble_eq_true rfl)) dX12_turned_54 ⟨by decide +kernel, by decide +kernel⟩) hS hc (fun r7 M8 H locs hr7 hw hS => ?_)
      obtain ⟨hI, hEM8, hr7⟩ := hr7
      have hE := hE.tr hEM8 (by decide)
      have mM8_60_63 : (M8.1 60 0 63).toInt = (M.1 60 0 63).toInt := by rw [(hEM8 60 0 63 (by decide)).1]
      obtain ⟨ahr7, bhr7, dhr7⟩ := hr7
      refine lv_istore_n (lv' := [(1, .int r7), (0, .ref (ad 60 0))]) hx hb dX12_turned_57 rfl hl (by decide) rfl (fun ls hl => ?_)
      refine lv_aload_n hx hb dX12_turned_58 rfl (lv_at hl 1 rfl) ?_
      obtain ⟨q9, vq9, hQq9, hRq9⟩ := hc.2.2.2.2.1 (RX12, 387, "<", [60]) (by decide)
      refine va_ldcwS hx hb hown hRq9 dX12_turned_59 ?_
      refine fm_ci (va_runV (As := [.ref q9]) (rest := []) ⟨hx, hb, hml, hown, hts⟩ (fc_X12_take l D ad C nb M8 hI q9 vq9 1 (fun j => ([60] : List Int32).getD j 0) (by decide) (by omega)) (cwV 1 hts gX12_turned_X12_take rfl rfl rfl (by decide +kernel) ⟨Nat.le_of_ble_eq_true rfl, Nat.le_of_ble_eq_true rfl⟩) (fm_preVS hc hw hS hQq9 kl_60 sh_60 rfl) rfl rfl hl.1 rfl (lv_room (Nat.le_of_ble_eq_true rfl)) dX12_turned_62 ⟨by decide +kernel, by decide +kernel⟩) hS hc (fun r10 M11 H locs hr10 hw hS => ?_)
      obtain ⟨hI, hEM11, hr10⟩ := hr10
      have hE := hE.tr hEM11 (by decide)
      have mM11_60_63 : (M11.1 60 0 63).toInt = (M8.1 60 0 63).toInt := by rw [(hEM11 60 0 63 (by decide)).1]
      have mM11_60_66 : (M11.1 60 0 66).toInt = (M8.1 60 0 66).toInt := by rw [(hEM11 60 0 66 (by decide)).1]
      rcases hr10 with ⟨rfl, ahr10, bhr10⟩ | ⟨rfl, ahr10, bhr10⟩
      · refine fx_if_eq (tgt := 82) hx hb dX12_turned_65 (by decide) zk_1 (fun c12 => by exfalso; omega) (fun c12 => ?_)
        refine lv_iload_n hx hb dX12_turned_68 rfl (lv_at hl 0 rfl) ?_
        refine lv_aload_n hx hb dX12_turned_69 rfl (lv_at hl 1 rfl) ?_
        have d13_63 := hI.bd (k := 0) bd_60_63
        have d13_64 := hI.bd (k := 0) bd_60_64
        have d13_65 := hI.bd (k := 0) bd_60_65
        have d13_66 := hI.bd (k := 0) bd_60_66
        refine fm_ci (va_runV (As := []) (rest := [.int r7]) ⟨hx, hb, hml, hown, hts⟩ (fc_X12_sum_1 l D ad C nb M11 hI (by omega) (by omega)) (cwV 0 hts gX12_turned_X12_sum rfl rfl rfl (by decide +kernel) ⟨Nat.le_of_ble_eq_true rfl, Nat.le_of_ble_eq_true rfl⟩) (fm_preV hc hw hS kl_60 sh_60 rfl) rfl rfl hl.1 rfl (lv_room (Nat.le_of_ble_eq_true rfl)) dX12_turned_70 ⟨by decide +kernel, by decide +kernel⟩) hS hc (fun r14 M15 H locs hr14 hw hS => ?_)
        obtain ⟨hI, hEM15, hr14⟩ := hr14
        have hE := hE.tr hEM15 (by decide)
        have mM15_60_63 : (M15.1 60 0 63).toInt = (M11.1 60 0 63).toInt := by rw [(hEM15 60 0 63 (by decide)).1]
        obtain ⟨ahr14, bhr14, dhr14⟩ := hr14
        refine fx_icmp_ge (tgt := 80) hx hb dX12_turned_73 (by decide) rfl rfl (fun c16 => ?_) (fun c16 => ?_)
        · refine lv_iconst (v := 0) hx hb dX12_turned_80 (by decide) ?_
          exact W.iret (v := 0) hx hb hr (fun t ht hW => ⟨⟨0, M15, rfl, ⟨hI, hE, ⟨by omega, by omega, by omega⟩⟩, by show fm_at D ad C nb _ t.heap; rw [ht]; exact hw⟩, hS.F ht⟩) hS.2.2 dX12_turned_81
        · refine lv_iconst (v := 1) hx hb dX12_turned_76 (by decide) ?_
          refine lv_goto (tgt := 81) hx hb dX12_turned_77 (by decide) ?_
          exact W.iret (v := 1) hx hb hr (fun t ht hW => ⟨⟨1, M15, rfl, ⟨hI, hE, ⟨by omega, by omega, by omega⟩⟩, by show fm_at D ad C nb _ t.heap; rw [ht]; exact hw⟩, hS.F ht⟩) hS.2.2 dX12_turned_81
      · refine fx_if_eq (tgt := 82) hx hb dX12_turned_65 (by decide) zk_0 (fun c17 => ?_) (fun c17 => by exfalso; omega)
        refine lv_aload_n hx hb dX12_turned_82 rfl (lv_at hl 1 rfl) ?_
        obtain ⟨q18, vq18, hQq18, hRq18⟩ := hc.2.2.2.2.1 (RX12, 389, "=", [61]) (by decide)
        refine va_ldcwS hx hb hown hRq18 dX12_turned_83 ?_
        refine fm_ci (va_runV (As := [.ref q18]) (rest := []) ⟨hx, hb, hml, hown, hts⟩ (fc_X12_take l D ad C nb M11 hI q18 vq18 1 (fun j => ([61] : List Int32).getD j 0) (by decide) (by omega)) (cwV 1 hts gX12_turned_X12_take rfl rfl rfl (by decide +kernel) ⟨Nat.le_of_ble_eq_true rfl, Nat.le_of_ble_eq_true rfl⟩) (fm_preVS hc hw hS hQq18 kl_60 sh_60 rfl) rfl rfl hl.1 rfl (lv_room (Nat.le_of_ble_eq_true rfl)) dX12_turned_86 ⟨by decide +kernel, by decide +kernel⟩) hS hc (fun r19 M20 H locs hr19 hw hS => ?_)
        obtain ⟨hI, hEM20, hr19⟩ := hr19
        have hE := hE.tr hEM20 (by decide)
        have mM20_60_63 : (M20.1 60 0 63).toInt = (M11.1 60 0 63).toInt := by rw [(hEM20 60 0 63 (by decide)).1]
        have mM20_60_66 : (M20.1 60 0 66).toInt = (M11.1 60 0 66).toInt := by rw [(hEM20 60 0 66 (by decide)).1]
        rcases hr19 with ⟨rfl, ahr19, bhr19⟩ | ⟨rfl, ahr19, bhr19⟩
        · refine fx_if_eq (tgt := 106) hx hb dX12_turned_89 (by decide) zk_1 (fun c21 => by exfalso; omega) (fun c21 => ?_)
          refine lv_iload_n hx hb dX12_turned_92 rfl (lv_at hl 0 rfl) ?_
          refine lv_aload_n hx hb dX12_turned_93 rfl (lv_at hl 1 rfl) ?_
          have d22_63 := hI.bd (k := 0) bd_60_63
          have d22_64 := hI.bd (k := 0) bd_60_64
          have d22_65 := hI.bd (k := 0) bd_60_65
          have d22_66 := hI.bd (k := 0) bd_60_66
          refine fm_ci (va_runV (As := []) (rest := [.int r7]) ⟨hx, hb, hml, hown, hts⟩ (fc_X12_sum_1 l D ad C nb M20 hI (by omega) (by omega)) (cwV 0 hts gX12_turned_X12_sum rfl rfl rfl (by decide +kernel) ⟨Nat.le_of_ble_eq_true rfl, Nat.le_of_ble_eq_true rfl⟩) (fm_preV hc hw hS kl_60 sh_60 rfl) rfl rfl hl.1 rfl (lv_room (Nat.le_of_ble_eq_true rfl)) dX12_turned_94 ⟨by decide +kernel, by decide +kernel⟩) hS hc (fun r23 M24 H locs hr23 hw hS => ?_)
          obtain ⟨hI, hEM24, hr23⟩ := hr23
          have hE := hE.tr hEM24 (by decide)
          have mM24_60_63 : (M24.1 60 0 63).toInt = (M20.1 60 0 63).toInt := by rw [(hEM24 60 0 63 (by decide)).1]
          obtain ⟨ahr23, bhr23, dhr23⟩ := hr23
          refine fx_icmp_ne (tgt := 104) hx hb dX12_turned_97 (by decide) rfl rfl (fun c25 => ?_) (fun c25 => ?_)
          · refine lv_iconst (v := 0) hx hb dX12_turned_104 (by decide) ?_
            exact W.iret (v := 0) hx hb hr (fun t ht hW => ⟨⟨0, M24, rfl, ⟨hI, hE, ⟨by omega, by omega, by omega⟩⟩, by show fm_at D ad C nb _ t.heap; rw [ht]; exact hw⟩, hS.F ht⟩) hS.2.2 dX12_turned_105
          · refine lv_iconst (v := 1) hx hb dX12_turned_100 (by decide) ?_
            refine lv_goto (tgt := 105) hx hb dX12_turned_101 (by decide) ?_
            exact W.iret (v := 1) hx hb hr (fun t ht hW => ⟨⟨1, M24, rfl, ⟨hI, hE, ⟨by omega, by omega, by omega⟩⟩, by show fm_at D ad C nb _ t.heap; rw [ht]; exact hw⟩, hS.F ht⟩) hS.2.2 dX12_turned_105
        · refine fx_if_eq (tgt := 106) hx hb dX12_turned_89 (by decide) zk_0 (fun c26 => ?_) (fun c26 => by exfalso; omega)
          refine lv_iload_n hx hb dX12_turned_106 rfl (lv_at hl 0 rfl) ?_
          exact W.iret (v := r7) hx hb hr (fun t ht hW => ⟨⟨r7, M20, rfl, ⟨hI, hE, ⟨by omega, by omega, by omega⟩⟩, by show fm_at D ad C nb _ t.heap; rw [ht]; exact hw⟩, hS.F ht⟩) hS.2.2 dX12_turned_107
    · refine lv_aload_n hx hb dX12_turned_19 rfl (lv_at hl 0 rfl) ?_
      refine fm_ci (va_runV (As := []) (rest := []) ⟨hx, hb, hml, hown, hts⟩ (fc_X12_opens l D ad C nb M hI) (cwV 0 hts gX12_turned_X12_opens rfl rfl rfl (by decide +kernel) ⟨Nat.le_of_ble_eq_true rfl, Nat.le_of_ble_eq_true rfl⟩) (fm_preV hc hw hS kl_60 sh_60 rfl) rfl rfl hl.1 rfl (lv_room (Nat.le_of_ble_eq_true rfl)) dX12_turned_20 ⟨by decide +kernel, by decide +kernel⟩) hS hc (fun r27 M28 H locs hr27 hw hS => ?_)
      obtain ⟨hI, hEM28, hr27⟩ := hr27
      have hE := hE.tr hEM28 (by decide)
      have mM28_60_63 : (M28.1 60 0 63).toInt = (M.1 60 0 63).toInt := by rw [(hEM28 60 0 63 (by decide)).1]
      rcases hr27 with ⟨rfl, ahr27, bhr27, dhr27⟩ | ⟨rfl, ahr27, bhr27, dhr27⟩
      · refine fx_if_ne (tgt := 28) hx hb dX12_turned_23 (by decide) zk_1 (fun c29 => ?_) (fun c29 => by exfalso; omega)
        refine lv_aload_n hx hb dX12_turned_28 rfl (lv_at hl 0 rfl) ?_
        have d30_63 := hI.bd (k := 0) bd_60_63
        have d30_64 := hI.bd (k := 0) bd_60_64
        have d30_65 := hI.bd (k := 0) bd_60_65
        have d30_66 := hI.bd (k := 0) bd_60_66
        refine fm_ci (va_runV (As := []) (rest := []) ⟨hx, hb, hml, hown, hts⟩ (fc_X12_turned_2 l D ad C nb M28 hI (by omega) (by omega)) (cwV 0 hts gX12_turned_X12_turned rfl rfl rfl (by decide +kernel) ⟨Nat.le_of_ble_eq_true rfl, Nat.le_of_ble_eq_true rfl⟩) (fm_preV hc hw hS kl_60 sh_60 rfl) rfl rfl hl.1 rfl (lv_room (Nat.le_of_ble_eq_true rfl)) dX12_turned_29 ⟨by decide +kernel, by decide +kernel⟩) hS hc (fun r31 M32 H locs hr31 hw hS => ?_)
        obtain ⟨hI, hEM32, hr31⟩ := hr31
        have hE := hE.tr hEM32 (by decide)
        have mM32_60_63 : (M32.1 60 0 63).toInt = (M28.1 60 0 63).toInt := by rw [(hEM32 60 0 63 (by decide)).1]
        obtain ⟨ahr31, bhr31, dhr31⟩ := hr31
        refine lv_istore_n (lv' := [(1, .int r31), (0, .ref (ad 60 0))]) hx hb dX12_turned_32 rfl hl (by decide) rfl (fun ls hl => ?_)
        refine lv_aload_n hx hb dX12_turned_33 rfl (lv_at hl 1 rfl) ?_
        refine lv_dup hx hb dX12_turned_34 rfl ?_
        refine fm_getI (a := 60) (j := 66) (T := TX12) (N := 79) hx hb hts hinX12 hown hc hw hI kl_60 sh_60 rfl (by decide) rfl bd_60_66 (hts (.fieldLink RX12 372 "RedTentModel" "open" "I") (List.mem_cons_of_mem _ tw_5_186)) (fun _ h9 => h9) dX12_turned_35 (fun x33 ex33 bx33 => ?_)
        have wx33 : x33.toInt = (M32.1 60 0 66).toInt := by rw [ex33]
        refine lv_iconst (v := 1) hx hb dX12_turned_38 (by decide) ?_
        refine fx_isub hx hb dX12_turned_39 rfl zk_1 (by omega) (fun y34 ey34 ty34 => ?_)
        refine fm_putI (a := 60) (j := 66) (T := TX12) (N := 79) hx hb hts hinX12 tyX12 tyX12_ok nmX12 hown hc hw hI hE hS kl_60 sh_60 od_60 rfl (by decide) rfl bd_60_66 (hts (.fieldLink RX12 372 "RedTentModel" "open" "I") (List.mem_cons_of_mem _ tw_5_186)) (fun _ h9 => h9) rfl (by decide +kernel) (by omega) (by decide) (by decide) dX12_turned_40 (fun M35 H locs eM35 hw hI hE hS => ?_)
        have mM35_60_63 : (M35.1 60 0 63).toInt = (M32.1 60 0 63).toInt := by rw [eM35, fm_wI_nj (fun z => absurd z.2.2 (by decide))]
        have mM35_60_64 : (M35.1 60 0 64).toInt = (M32.1 60 0 64).toInt := by rw [eM35, fm_wI_nj (fun z => absurd z.2.2 (by decide))]
        have mM35_60_65 : (M35.1 60 0 65).toInt = (M32.1 60 0 65).toInt := by rw [eM35, fm_wI_nj (fun z => absurd z.2.2 (by decide))]
        have mM35_60_66 : (M35.1 60 0 66).toInt = y34.toInt := by rw [eM35, fm_wI_at]
        refine lv_iload_n hx hb dX12_turned_43 rfl (lv_at hl 0 rfl) ?_
        refine fx_if_ne (tgt := 51) hx hb dX12_turned_44 (by decide) rfl (fun c36 => ?_) (fun c36 => ?_)
        · refine lv_iconst (v := 0) hx hb dX12_turned_51 (by decide) ?_
          exact W.iret (v := 0) hx hb hr (fun t ht hW => ⟨⟨0, M35, rfl, ⟨hI, hE, ⟨by omega, by omega, by omega⟩⟩, by show fm_at D ad C nb _ t.heap; rw [ht]; exact hw⟩, hS.F ht⟩) hS.2.2 dX12_turned_52
        · refine lv_iconst (v := 1) hx hb dX12_turned_47 (by decide) ?_
          refine lv_goto (tgt := 52) hx hb dX12_turned_48 (by decide) ?_
          exact W.iret (v := 1) hx hb hr (fun t ht hW => ⟨⟨1, M35, rfl, ⟨hI, hE, ⟨by omega, by omega, by omega⟩⟩, by show fm_at D ad C nb _ t.heap; rw [ht]; exact hw⟩, hS.F ht⟩) hS.2.2 dX12_turned_52
      · refine fx_if_ne (tgt := 28) hx hb dX12_turned_23 (by decide) zk_0 (fun c37 => by exfalso; omega) (fun c37 => ?_)
        refine lv_iconst (v := 0) hx hb dX12_turned_26 (by decide) ?_
        exact W.iret (v := 0) hx hb hr (fun t ht hW => ⟨⟨0, M28, rfl, ⟨hI, hE, ⟨by omega, by omega, by omega⟩⟩, by show fm_at D ad C nb _ t.heap; rw [ht]; exact hw⟩, hS.F ht⟩) hS.2.2 dX12_turned_27
  · refine lv_iconst (v := 0) hx hb dX12_turned_7 (by decide) ?_
    exact W.iret (v := 0) hx hb hr (fun t ht hW => ⟨⟨0, M, rfl, ⟨hI, hE, ⟨by omega, by omega, by omega⟩⟩, by show fm_at D ad C nb _ t.heap; rw [ht]; exact hw⟩, hS.F ht⟩) hS.2.2 dX12_turned_8
set_option maxHeartbeats 400000 in
set_option maxRecDepth 20000 in
theorem fc_X12_both_1 (l : Launch) (D : va_G) (ad : Nat → Nat → Nat) (C : Nat → Nat → ClassId) (nb : Nat) (M : fm_M) (hI : fm_I nb ad M) (hft : (M.1 60 0 64).toInt ≤ (M.1 60 0 65).toInt) (hop : 1 ≤ (M.1 60 0 66).toInt) : Met l yX12_both wsX12_both ({ frames := 33, cells := 0, slots := 0, locals := 714 }) (va_Pc [.ref (ad 60 0)] (fm_P D ad C nb M)) (va_Qi (fun (r : Int32) (u : fm_M) => fm_I nb ad u ∧ fm_same [60064, 60065, 60066, 60067] M u ∧ ((M.1 60 0 64).toInt ≤ (u.1 60 0 64).toInt ∧ (M.1 60 0 66).toInt ≤ (u.1 60 0 66).toInt ∧ (u.1 60 0 64).toInt ≤ (u.1 60 0 65).toInt)) (fun u t => fm_at D ad C nb u t.heap) (fm_A nb ad)) 0 0 (fm_A nb ad) := by
  refine Met.ofW (cc := cX12_both) (maxL := 3) (ret := (some .int)) (by decide) rfl ?_
  intro p e s m args below meth c s₁ B hml hv
  obtain ⟨rfl, hw, hc⟩ := hv
  have hx := B.exec
  have hb := B.bytes
  have hr := B.returns
  have hts := atoms_spec (ws := wsX12_both) B.pre
  have hown : s.vm.findClass RX12 = some m.cls := findClass_of_methodNamed B.named
  have hS : va_S (fm_A nb ad) s.heap s.heap [] := va_S.rf
  have hE : fm_same [60064, 60065, 60066, 60067] M M := fm_same.rf
  have hl := lv_entry ([.ref (ad 60 0)]) (n := 3) (Nat.le_of_ble_eq_true rfl)
  rw [lg_entry_eq]
  generalize (lg_sl ([.ref (ad 60 0)]) ++ List.replicate (3 - (lg_sl ([.ref (ad 60 0)])).length) Slot.unset).toArray = ls at hl ⊢
  have hl : lv_has ls 3 [(0, .ref (ad 60 0))] := hl
  refine lv_aload_n hx hb dX12_both_0 rfl (lv_at hl 0 rfl) ?_
  have d1_63 := hI.bd (k := 0) bd_60_63
  have d1_64 := hI.bd (k := 0) bd_60_64
  have d1_65 := hI.bd (k := 0) bd_60_65
  have d1_66 := hI.bd (k := 0) bd_60_66
  refine fm_ci (va_runV (As := []) (rest := []) ⟨hx, hb, hml, hown, hts⟩ (fc_X12_turned_1 l D ad C nb M hI (by omega) (by omega)) (cwV 0 hts gX12_both_X12_turned rfl rfl rfl (by decide +kernel) ⟨Nat.le_of_ble_eq_true rfl, Nat.le_of_ble_eq_true rfl⟩) (fm_preV hc hw hS kl_60 sh_60 rfl) rfl rfl hl.1 rfl (lv_room (Nat.le_of_ble_eq_true rfl)) dX12_both_1 ⟨by decide +kernel, by decide +kernel⟩) hS hc (fun r2 M3 H locs hr2 hw hS => ?_)
  obtain ⟨hI, hEM3, hr2⟩ := hr2
  have hE := hE.tr hEM3 (by decide)
  have mM3_60_63 : (M3.1 60 0 63).toInt = (M.1 60 0 63).toInt := by rw [(hEM3 60 0 63 (by decide)).1]
  obtain ⟨ahr2, bhr2, dhr2⟩ := hr2
  refine lv_istore_n (lv' := [(1, .int r2), (0, .ref (ad 60 0))]) hx hb dX12_both_4 rfl hl (by decide) rfl (fun ls hl => ?_)
  have lp : ∀ (n_lp : Nat) (lp_1 : Int32) (M_lp : fm_M), (161 - (M_lp.1 60 0 64).toInt).toNat < n_lp → ((M.1 60 0 64).toInt ≤ (M_lp.1 60 0 64).toInt ∧ (M.1 60 0 66).toInt ≤ (M_lp.1 60 0 66).toInt ∧ (M_lp.1 60 0 64).toInt ≤ (M_lp.1 60 0 65).toInt) → fm_I nb ad M_lp → fm_same [60064, 60065, 60066, 60067] M M_lp → ∀ (H : Heap) (locs : List Loc), fm_at D ad C nb M_lp H → va_S (fm_A nb ad) s.heap H locs → ∀ (ls : Array Slot), lv_has ls 3 [(1, .int lp_1), (0, .ref (ad 60 0))] → W p l e (headSpec wsX12_both ({ frames := 33, cells := 0, slots := 0, locals := 714 })).room s m ([.ref (ad 60 0)] : List Value).toArray below meth c H locs 0 0 (MQ below (va_Qi (fun (r : Int32) (u : fm_M) => fm_I nb ad u ∧ fm_same [60064, 60065, 60066, 60067] M u ∧ ((M.1 60 0 64).toInt ≤ (u.1 60 0 64).toInt ∧ (M.1 60 0 66).toInt ≤ (u.1 60 0 66).toInt ∧ (u.1 60 0 64).toInt ≤ (u.1 60 0 65).toInt)) (fun u t => fm_at D ad C nb u t.heap) (fm_A nb ad)) ([.ref (ad 60 0)] : List Value).toArray s 0 0 (fm_A nb ad)) (F0 m 5 ls []) := by
    intro n_lp
    induction n_lp with
    | zero => intro lp_1 M_lp hm_lp hv hI hE H locs hw hS ls hl; exact absurd hm_lp (Nat.not_lt_zero _)
    | succ n_lp ih_lp =>
      intro lp_1 M_lp hm_lp hv hI hE H locs hw hS ls hl
      refine lv_aload_n hx hb dX12_both_5 rfl (lv_at hl 1 rfl) ?_
      obtain ⟨q4, vq4, hQq4, hRq4⟩ := hc.2.2.2.2.1 (RX12, 370, "and", [97, 110, 100]) (by decide)
      refine va_ldcwS hx hb hown hRq4 dX12_both_6 ?_
      refine fm_ci (va_runV (As := [.ref q4]) (rest := []) ⟨hx, hb, hml, hown, hts⟩ (fc_X12_take l D ad C nb M_lp hI q4 vq4 3 (fun j => ([97, 110, 100] : List Int32).getD j 0) (by decide) (by omega)) (cwV 1 hts gX12_both_X12_take rfl rfl rfl (by decide +kernel) ⟨Nat.le_of_ble_eq_true rfl, Nat.le_of_ble_eq_true rfl⟩) (fm_preVS hc hw hS hQq4 kl_60 sh_60 rfl) rfl rfl hl.1 rfl (lv_room (Nat.le_of_ble_eq_true rfl)) dX12_both_9 ⟨by decide +kernel, by decide +kernel⟩) hS hc (fun r5 M6 H locs hr5 hw hS => ?_)
      obtain ⟨hI, hEM6, hr5⟩ := hr5
      have hE := hE.tr hEM6 (by decide)
      have mM6_60_63 : (M6.1 60 0 63).toInt = (M_lp.1 60 0 63).toInt := by rw [(hEM6 60 0 63 (by decide)).1]
      have mM6_60_66 : (M6.1 60 0 66).toInt = (M_lp.1 60 0 66).toInt := by rw [(hEM6 60 0 66 (by decide)).1]
      rcases hr5 with ⟨rfl, ahr5, bhr5⟩ | ⟨rfl, ahr5, bhr5⟩
      · refine fx_if_eq (tgt := 37) hx hb dX12_both_12 (by decide) zk_1 (fun c7 => by exfalso; omega) (fun c7 => ?_)
        refine lv_aload_n hx hb dX12_both_15 rfl (lv_at hl 1 rfl) ?_
        have d8_63 := hI.bd (k := 0) bd_60_63
        have d8_64 := hI.bd (k := 0) bd_60_64
        have d8_65 := hI.bd (k := 0) bd_60_65
        have d8_66 := hI.bd (k := 0) bd_60_66
        refine fm_ci (va_runV (As := []) (rest := []) ⟨hx, hb, hml, hown, hts⟩ (fc_X12_turned_1 l D ad C nb M6 hI (by omega) (by omega)) (cwV 0 hts gX12_both_X12_turned rfl rfl rfl (by decide +kernel) ⟨Nat.le_of_ble_eq_true rfl, Nat.le_of_ble_eq_true rfl⟩) (fm_preV hc hw hS kl_60 sh_60 rfl) rfl rfl hl.1 rfl (lv_room (Nat.le_of_ble_eq_true rfl)) dX12_both_16 ⟨by decide +kernel, by decide +kernel⟩) hS hc (fun r9 M10 H locs hr9 hw hS => ?_)
        obtain ⟨hI, hEM10, hr9⟩ := hr9
        have hE := hE.tr hEM10 (by decide)
        have mM10_60_63 : (M10.1 60 0 63).toInt = (M6.1 60 0 63).toInt := by rw [(hEM10 60 0 63 (by decide)).1]
        obtain ⟨ahr9, bhr9, dhr9⟩ := hr9
        refine lv_istore_n (lv' := [(2, .int r9), (1, .int lp_1), (0, .ref (ad 60 0))]) hx hb dX12_both_19 rfl hl (by decide) rfl (fun ls hl => ?_)
        refine lv_iload_n hx hb dX12_both_20 rfl (lv_at hl 1 rfl) ?_
        refine fx_if_eq (tgt := 32) hx hb dX12_both_21 (by decide) rfl (fun c11 => ?_) (fun c11 => ?_)
        · refine lv_iconst (v := 0) hx hb dX12_both_32 (by decide) ?_
          refine lv_istore_n (lv' := [(1, .int 0), (2, .int r9), (0, .ref (ad 60 0))]) hx hb dX12_both_33 rfl hl (by decide) rfl (fun ls hl => ?_)
          refine lv_goto (tgt := 5) hx hb dX12_both_34 (by decide) ?_
          exact ih_lp 0 M10 (by omega) (by omega) hI hE _ _ hw hS ls (lv_sub hl [0, 2] rfl)
        · refine lv_iload_n hx hb dX12_both_24 rfl (lv_at hl 0 rfl) ?_
          refine fx_if_eq (tgt := 32) hx hb dX12_both_25 (by decide) rfl (fun c12 => ?_) (fun c12 => ?_)
          · refine lv_iconst (v := 0) hx hb dX12_both_32 (by decide) ?_
            refine lv_istore_n (lv' := [(1, .int 0), (2, .int r9), (0, .ref (ad 60 0))]) hx hb dX12_both_33 rfl hl (by decide) rfl (fun ls hl => ?_)
            refine lv_goto (tgt := 5) hx hb dX12_both_34 (by decide) ?_
            exact ih_lp 0 M10 (by omega) (by omega) hI hE _ _ hw hS ls (lv_sub hl [0, 2] rfl)
          · refine lv_iconst (v := 1) hx hb dX12_both_28 (by decide) ?_
            refine lv_goto (tgt := 33) hx hb dX12_both_29 (by decide) ?_
            refine lv_istore_n (lv' := [(1, .int 1), (2, .int r9), (0, .ref (ad 60 0))]) hx hb dX12_both_33 rfl hl (by decide) rfl (fun ls hl => ?_)
            refine lv_goto (tgt := 5) hx hb dX12_both_34 (by decide) ?_
            exact ih_lp 1 M10 (by omega) (by omega) hI hE _ _ hw hS ls (lv_sub hl [0, 2] rfl)
      · refine fx_if_eq (tgt := 37) hx hb dX12_both_12 (by decide) zk_0 (fun c13 => ?_) (fun c13 => by exfalso; omega)
        refine lv_iload_n hx hb dX12_both_37 rfl (lv_at hl 0 rfl) ?_
        exact W.iret (v := lp_1) hx hb hr (fun t ht hW => ⟨⟨lp_1, M6, rfl, ⟨hI, hE, ⟨by omega, by omega, by omega⟩⟩, by show fm_at D ad C nb _ t.heap; rw [ht]; exact hw⟩, hS.F ht⟩) hS.2.2 dX12_both_38
  exact lp _ r2 M3 (Nat.lt_succ_self _) (by omega) hI hE _ _ hw hS ls (lv_sub hl [0, 1] rfl)
set_option maxHeartbeats 400000 in
set_option maxRecDepth 20000 in
theorem fc_X12_either_1 (l : Launch) (D : va_G) (ad : Nat → Nat → Nat) (C : Nat → Nat → ClassId) (nb : Nat) (M : fm_M) (hI : fm_I nb ad M) (hft : (M.1 60 0 64).toInt ≤ (M.1 60 0 65).toInt) (hop : 1 ≤ (M.1 60 0 66).toInt) : Met l yX12_either wsX12_either ({ frames := 34, cells := 0, slots := 0, locals := 736 }) (va_Pc [.ref (ad 60 0)] (fm_P D ad C nb M)) (va_Qi (fun (r : Int32) (u : fm_M) => fm_I nb ad u ∧ fm_same [60064, 60065, 60066, 60067] M u ∧ ((M.1 60 0 64).toInt ≤ (u.1 60 0 64).toInt ∧ (M.1 60 0 66).toInt ≤ (u.1 60 0 66).toInt ∧ (u.1 60 0 64).toInt ≤ (u.1 60 0 65).toInt)) (fun u t => fm_at D ad C nb u t.heap) (fm_A nb ad)) 0 0 (fm_A nb ad) := by
  refine Met.ofW (cc := cX12_either) (maxL := 3) (ret := (some .int)) (by decide) rfl ?_
  intro p e s m args below meth c s₁ B hml hv
  obtain ⟨rfl, hw, hc⟩ := hv
  have hx := B.exec
  have hb := B.bytes
  have hr := B.returns
  have hts := atoms_spec (ws := wsX12_either) B.pre
  have hown : s.vm.findClass RX12 = some m.cls := findClass_of_methodNamed B.named
  have hS : va_S (fm_A nb ad) s.heap s.heap [] := va_S.rf
  have hE : fm_same [60064, 60065, 60066, 60067] M M := fm_same.rf
  have hl := lv_entry ([.ref (ad 60 0)]) (n := 3) (Nat.le_of_ble_eq_true rfl)
  rw [lg_entry_eq]
  generalize (lg_sl ([.ref (ad 60 0)]) ++ List.replicate (3 - (lg_sl ([.ref (ad 60 0)])).length) Slot.unset).toArray = ls at hl ⊢
  have hl : lv_has ls 3 [(0, .ref (ad 60 0))] := hl
  refine lv_aload_n hx hb dX12_either_0 rfl (lv_at hl 0 rfl) ?_
  have d1_63 := hI.bd (k := 0) bd_60_63
  have d1_64 := hI.bd (k := 0) bd_60_64
  have d1_65 := hI.bd (k := 0) bd_60_65
  have d1_66 := hI.bd (k := 0) bd_60_66
  refine fm_ci (va_runV (As := []) (rest := []) ⟨hx, hb, hml, hown, hts⟩ (fc_X12_both_1 l D ad C nb M hI (by omega) (by omega)) (cwV 0 hts gX12_either_X12_both rfl rfl rfl (by decide +kernel) ⟨Nat.le_of_ble_eq_true rfl, Nat.le_of_ble_eq_true rfl⟩) (fm_preV hc hw hS kl_60 sh_60 rfl) rfl rfl hl.1 rfl (lv_room (Nat.le_of_ble_eq_true rfl)) dX12_either_1 ⟨by decide +kernel, by decide +kernel⟩) hS hc (fun r2 M3 H locs hr2 hw hS => ?_)
  obtain ⟨hI, hEM3, hr2⟩ := hr2
  have hE := hE.tr hEM3 (by decide)
  have mM3_60_63 : (M3.1 60 0 63).toInt = (M.1 60 0 63).toInt := by rw [(hEM3 60 0 63 (by decide)).1]
  obtain ⟨ahr2, bhr2, dhr2⟩ := hr2
  refine lv_istore_n (lv' := [(1, .int r2), (0, .ref (ad 60 0))]) hx hb dX12_either_4 rfl hl (by decide) rfl (fun ls hl => ?_)
  have lp : ∀ (n_lp : Nat) (lp_1 : Int32) (M_lp : fm_M), (161 - (M_lp.1 60 0 64).toInt).toNat < n_lp → ((M.1 60 0 64).toInt ≤ (M_lp.1 60 0 64).toInt ∧ (M.1 60 0 66).toInt ≤ (M_lp.1 60 0 66).toInt ∧ (M_lp.1 60 0 64).toInt ≤ (M_lp.1 60 0 65).toInt) → fm_I nb ad M_lp → fm_same [60064, 60065, 60066, 60067] M M_lp → ∀ (H : Heap) (locs : List Loc), fm_at D ad C nb M_lp H → va_S (fm_A nb ad) s.heap H locs → ∀ (ls : Array Slot), lv_has ls 3 [(1, .int lp_1), (0, .ref (ad 60 0))] → W p l e (headSpec wsX12_either ({ frames := 34, cells := 0, slots := 0, locals := 736 })).room s m ([.ref (ad 60 0)] : List Value).toArray below meth c H locs 0 0 (MQ below (va_Qi (fun (r : Int32) (u : fm_M) => fm_I nb ad u ∧ fm_same [60064, 60065, 60066, 60067] M u ∧ ((M.1 60 0 64).toInt ≤ (u.1 60 0 64).toInt ∧ (M.1 60 0 66).toInt ≤ (u.1 60 0 66).toInt ∧ (u.1 60 0 64).toInt ≤ (u.1 60 0 65).toInt)) (fun u t => fm_at D ad C nb u t.heap) (fm_A nb ad)) ([.ref (ad 60 0)] : List Value).toArray s 0 0 (fm_A nb ad)) (F0 m 5 ls []) := by
    intro n_lp
    induction n_lp with
    | zero => intro lp_1 M_lp hm_lp hv hI hE H locs hw hS ls hl; exact absurd hm_lp (Nat.not_lt_zero _)
    | succ n_lp ih_lp =>
      intro lp_1 M_lp hm_lp hv hI hE H locs hw hS ls hl
      refine lv_aload_n hx hb dX12_either_5 rfl (lv_at hl 1 rfl) ?_
      obtain ⟨q4, vq4, hQq4, hRq4⟩ := hc.2.2.2.2.1 (RX12, 362, "or", [111, 114]) (by decide)
      refine va_ldcwS hx hb hown hRq4 dX12_either_6 ?_
      refine fm_ci (va_runV (As := [.ref q4]) (rest := []) ⟨hx, hb, hml, hown, hts⟩ (fc_X12_take l D ad C nb M_lp hI q4 vq4 2 (fun j => ([111, 114] : List Int32).getD j 0) (by decide) (by omega)) (cwV 1 hts gX12_either_X12_take rfl rfl rfl (by decide +kernel) ⟨Nat.le_of_ble_eq_true rfl, Nat.le_of_ble_eq_true rfl⟩) (fm_preVS hc hw hS hQq4 kl_60 sh_60 rfl) rfl rfl hl.1 rfl (lv_room (Nat.le_of_ble_eq_true rfl)) dX12_either_9 ⟨by decide +kernel, by decide +kernel⟩) hS hc (fun r5 M6 H locs hr5 hw hS => ?_)
      obtain ⟨hI, hEM6, hr5⟩ := hr5
      have hE := hE.tr hEM6 (by decide)
      have mM6_60_63 : (M6.1 60 0 63).toInt = (M_lp.1 60 0 63).toInt := by rw [(hEM6 60 0 63 (by decide)).1]
      have mM6_60_66 : (M6.1 60 0 66).toInt = (M_lp.1 60 0 66).toInt := by rw [(hEM6 60 0 66 (by decide)).1]
      rcases hr5 with ⟨rfl, ahr5, bhr5⟩ | ⟨rfl, ahr5, bhr5⟩
      · refine fx_if_eq (tgt := 37) hx hb dX12_either_12 (by decide) zk_1 (fun c7 => by exfalso; omega) (fun c7 => ?_)
        refine lv_aload_n hx hb dX12_either_15 rfl (lv_at hl 1 rfl) ?_
        have d8_63 := hI.bd (k := 0) bd_60_63
        have d8_64 := hI.bd (k := 0) bd_60_64
        have d8_65 := hI.bd (k := 0) bd_60_65
        have d8_66 := hI.bd (k := 0) bd_60_66
        refine fm_ci (va_runV (As := []) (rest := []) ⟨hx, hb, hml, hown, hts⟩ (fc_X12_both_1 l D ad C nb M6 hI (by omega) (by omega)) (cwV 0 hts gX12_either_X12_both rfl rfl rfl (by decide +kernel) ⟨Nat.le_of_ble_eq_true rfl, Nat.le_of_ble_eq_true rfl⟩) (fm_preV hc hw hS kl_60 sh_60 rfl) rfl rfl hl.1 rfl (lv_room (Nat.le_of_ble_eq_true rfl)) dX12_either_16 ⟨by decide +kernel, by decide +kernel⟩) hS hc (fun r9 M10 H locs hr9 hw hS => ?_)
        obtain ⟨hI, hEM10, hr9⟩ := hr9
        have hE := hE.tr hEM10 (by decide)
        have mM10_60_63 : (M10.1 60 0 63).toInt = (M6.1 60 0 63).toInt := by rw [(hEM10 60 0 63 (by decide)).1]
        obtain ⟨ahr9, bhr9, dhr9⟩ := hr9
        refine lv_istore_n (lv' := [(2, .int r9), (1, .int lp_1), (0, .ref (ad 60 0))]) hx hb dX12_either_19 rfl hl (by decide) rfl (fun ls hl => ?_)
        refine lv_iload_n hx hb dX12_either_20 rfl (lv_at hl 1 rfl) ?_
        refine fx_if_ne (tgt := 28) hx hb dX12_either_21 (by decide) rfl (fun c11 => ?_) (fun c11 => ?_)
        · refine lv_iconst (v := 1) hx hb dX12_either_28 (by decide) ?_
          refine lv_goto (tgt := 33) hx hb dX12_either_29 (by decide) ?_
          refine lv_istore_n (lv' := [(1, .int 1), (2, .int r9), (0, .ref (ad 60 0))]) hx hb dX12_either_33 rfl hl (by decide) rfl (fun ls hl => ?_)
          refine lv_goto (tgt := 5) hx hb dX12_either_34 (by decide) ?_
          exact ih_lp 1 M10 (by omega) (by omega) hI hE _ _ hw hS ls (lv_sub hl [0, 2] rfl)
        · refine lv_iload_n hx hb dX12_either_24 rfl (lv_at hl 0 rfl) ?_
          refine fx_if_eq (tgt := 32) hx hb dX12_either_25 (by decide) rfl (fun c12 => ?_) (fun c12 => ?_)
          · refine lv_iconst (v := 0) hx hb dX12_either_32 (by decide) ?_
            refine lv_istore_n (lv' := [(1, .int 0), (2, .int r9), (0, .ref (ad 60 0))]) hx hb dX12_either_33 rfl hl (by decide) rfl (fun ls hl => ?_)
            refine lv_goto (tgt := 5) hx hb dX12_either_34 (by decide) ?_
            exact ih_lp 0 M10 (by omega) (by omega) hI hE _ _ hw hS ls (lv_sub hl [0, 2] rfl)
          · refine lv_iconst (v := 1) hx hb dX12_either_28 (by decide) ?_
            refine lv_goto (tgt := 33) hx hb dX12_either_29 (by decide) ?_
            refine lv_istore_n (lv' := [(1, .int 1), (2, .int r9), (0, .ref (ad 60 0))]) hx hb dX12_either_33 rfl hl (by decide) rfl (fun ls hl => ?_)
            refine lv_goto (tgt := 5) hx hb dX12_either_34 (by decide) ?_
            exact ih_lp 1 M10 (by omega) (by omega) hI hE _ _ hw hS ls (lv_sub hl [0, 2] rfl)
      · refine fx_if_eq (tgt := 37) hx hb dX12_either_12 (by decide) zk_0 (fun c13 => ?_) (fun c13 => by exfalso; omega)
        refine lv_iload_n hx hb dX12_either_37 rfl (lv_at hl 0 rfl) ?_
        exact W.iret (v := lp_1) hx hb hr (fun t ht hW => ⟨⟨lp_1, M6, rfl, ⟨hI, hE, ⟨by omega, by omega, by omega⟩⟩, by show fm_at D ad C nb _ t.heap; rw [ht]; exact hw⟩, hS.F ht⟩) hS.2.2 dX12_either_38
  exact lp _ r2 M3 (Nat.lt_succ_self _) (by omega) hI hE _ _ hw hS ls (lv_sub hl [0, 1] rfl)
set_option maxHeartbeats 400000 in
set_option maxRecDepth 20000 in
theorem fc_X12_one_0 (l : Launch) (D : va_G) (ad : Nat → Nat → Nat) (C : Nat → Nat → ClassId) (nb : Nat) (M : fm_M) (hI : fm_I nb ad M) (hft : (M.1 60 0 64).toInt ≤ (M.1 60 0 65).toInt) (hop : 0 ≤ (M.1 60 0 66).toInt) : Met l yX12_one wsX12_one ({ frames := 35, cells := 0, slots := 0, locals := 758 }) (va_Pc [.ref (ad 60 0)] (fm_P D ad C nb M)) (va_Qi (fun (r : Int32) (u : fm_M) => fm_I nb ad u ∧ fm_same [60064, 60065, 60066, 60067] M u ∧ ((M.1 60 0 64).toInt ≤ (u.1 60 0 64).toInt ∧ (M.1 60 0 66).toInt ≤ (u.1 60 0 66).toInt ∧ (u.1 60 0 64).toInt ≤ (u.1 60 0 65).toInt)) (fun u t => fm_at D ad C nb u t.heap) (fm_A nb ad)) 0 0 (fm_A nb ad) := by
  refine Met.ofW (cc := cX12_one) (maxL := 3) (ret := (some .int)) (by decide) rfl ?_
  intro p e s m args below meth c s₁ B hml hv
  obtain ⟨rfl, hw, hc⟩ := hv
  have hx := B.exec
  have hb := B.bytes
  have hr := B.returns
  have hts := atoms_spec (ws := wsX12_one) B.pre
  have hown : s.vm.findClass RX12 = some m.cls := findClass_of_methodNamed B.named
  have hinX12 : ∀ w ∈ u_ws RX12 TX12 79, w ∈ wsX12_one := fun w h => List.mem_cons_of_mem _ (iT_X12 w h)
  have hS : va_S (fm_A nb ad) s.heap s.heap [] := va_S.rf
  have hE : fm_same [60064, 60065, 60066, 60067] M M := fm_same.rf
  have hl := lv_entry ([.ref (ad 60 0)]) (n := 3) (Nat.le_of_ble_eq_true rfl)
  rw [lg_entry_eq]
  generalize (lg_sl ([.ref (ad 60 0)]) ++ List.replicate (3 - (lg_sl ([.ref (ad 60 0)])).length) Slot.unset).toArray = ls at hl ⊢
  have hl : lv_has ls 3 [(0, .ref (ad 60 0))] := hl
  refine lv_aload_n hx hb dX12_one_0 rfl (lv_at hl 0 rfl) ?_
  refine fm_getI (a := 60) (j := 67) (T := TX12) (N := 79) hx hb hts hinX12 hown hc hw hI kl_60 sh_60 rfl (by decide) rfl bd_60_67 (hts (.fieldLink RX12 349 "RedTentModel" "fault" "I") (List.mem_cons_of_mem _ tw_5_187)) (fun _ h9 => h9) dX12_one_1 (fun x1 ex1 bx1 => ?_)
  refine fx_if_lt (tgt := 9) hx hb dX12_one_4 (by decide) rfl (fun c2 => ?_) (fun c2 => ?_)
  · refine lv_aload_n hx hb dX12_one_9 rfl (lv_at hl 0 rfl) ?_
    obtain ⟨q3, vq3, hQq3, hRq3⟩ := hc.2.2.2.2.1 (RX12, 396, "-", [45]) (by decide)
    refine va_ldcwS hx hb hown hRq3 dX12_one_10 ?_
    refine vp_callSi (va_Run.run (va_runV (As := [.ref q3]) (rest := []) ⟨hx, hb, hml, hown, hts⟩ (fc_X12_is l D ad C nb M hI q3 vq3 1 (fun j => ([45] : List Int32).getD j 0) (by decide)) (cwV 1 hts gX12_one_X12_is rfl rfl rfl (by decide +kernel) ⟨Nat.le_of_ble_eq_true rfl, Nat.le_of_ble_eq_true rfl⟩) (fm_preVS hc hw hS hQq3 kl_60 sh_60 rfl) rfl rfl hl.1 rfl (lv_room (Nat.le_of_ble_eq_true rfl)) dX12_one_13 ⟨by decide +kernel, by decide +kernel⟩)) (fun r4 hr4 => ?_)
    have ir4 := hr4.2
    have jr4 := hr4.1
    refine fx_if_eq (tgt := 46) hx hb dX12_one_16 (by decide) rfl (fun c5 => ?_) (fun c5 => ?_)
    · refine lv_aload_n hx hb dX12_one_46 rfl (lv_at hl 0 rfl) ?_
      obtain ⟨q6, vq6, hQq6, hRq6⟩ := hc.2.2.2.2.1 (RX12, 403, "(", [40]) (by decide)
      refine va_ldcwS hx hb hown hRq6 dX12_one_47 ?_
      refine vp_callSi (va_Run.run (va_runV (As := [.ref q6]) (rest := []) ⟨hx, hb, hml, hown, hts⟩ (fc_X12_is l D ad C nb M hI q6 vq6 1 (fun j => ([40] : List Int32).getD j 0) (by decide)) (cwV 1 hts gX12_one_X12_is rfl rfl rfl (by decide +kernel) ⟨Nat.le_of_ble_eq_true rfl, Nat.le_of_ble_eq_true rfl⟩) (fm_preVS hc hw hS hQq6 kl_60 sh_60 rfl) rfl rfl hl.1 rfl (lv_room (Nat.le_of_ble_eq_true rfl)) dX12_one_50 ⟨by decide +kernel, by decide +kernel⟩)) (fun r7 hr7 => ?_)
      have ir7 := hr7.2
      have jr7 := hr7.1
      refine fx_if_eq (tgt := 97) hx hb dX12_one_53 (by decide) rfl (fun c8 => ?_) (fun c8 => ?_)
      · refine lv_aload_n hx hb dX12_one_97 rfl (lv_at hl 0 rfl) ?_
        refine lv_aload_n hx hb dX12_one_98 rfl (lv_at hl 0 rfl) ?_
        refine fm_getI (a := 60) (j := 64) (T := TX12) (N := 79) hx hb hts hinX12 hown hc hw hI kl_60 sh_60 rfl (by decide) rfl bd_60_64 (hts (.fieldLink RX12 340 "RedTentModel" "from" "I") (List.mem_cons_of_mem _ tw_5_184)) (fun _ h9 => h9) dX12_one_99 (fun x9 ex9 bx9 => ?_)
        have wx9 : x9.toInt = (M.1 60 0 64).toInt := by rw [ex9]
        refine vp_callSi (va_Run.run (va_runV (As := [.int x9]) (rest := []) ⟨hx, hb, hml, hown, hts⟩ (fc_X12_isDigit l D ad C nb M hI x9 (by omega)) (cwV 1 hts gX12_one_X12_isDigit rfl rfl rfl (by decide +kernel) ⟨Nat.le_of_ble_eq_true rfl, Nat.le_of_ble_eq_true rfl⟩) (fm_preV hc hw hS kl_60 sh_60 rfl) rfl rfl hl.1 rfl (lv_room (Nat.le_of_ble_eq_true rfl)) dX12_one_102 ⟨by decide +kernel, by decide +kernel⟩)) (fun r10 hr10 => ?_)
        have bqq11 := hI.bd (k := 0) bd_60_63
        rcases hr10 with ⟨rfl, c12⟩ | ⟨rfl, c12⟩
        · refine fx_if_eq (tgt := 167) hx hb dX12_one_105 (by decide) zk_1 (fun c13 => by exfalso; omega) (fun c13 => ?_)
          refine lv_aload_n hx hb dX12_one_108 rfl (lv_at hl 0 rfl) ?_
          refine fm_getI (a := 60) (j := 65) (T := TX12) (N := 79) hx hb hts hinX12 hown hc hw hI kl_60 sh_60 rfl (by decide) rfl bd_60_65 (hts (.fieldLink RX12 337 "RedTentModel" "to" "I") (List.mem_cons_of_mem _ tw_5_185)) (fun _ h9 => h9) dX12_one_109 (fun x14 ex14 bx14 => ?_)
          have wx14 : x14.toInt = (M.1 60 0 65).toInt := by rw [ex14]
          refine lv_aload_n hx hb dX12_one_112 rfl (lv_at hl 0 rfl) ?_
          refine fm_getI (a := 60) (j := 64) (T := TX12) (N := 79) hx hb hts hinX12 hown hc hw hI kl_60 sh_60 rfl (by decide) rfl bd_60_64 (hts (.fieldLink RX12 340 "RedTentModel" "from" "I") (List.mem_cons_of_mem _ tw_5_184)) (fun _ h9 => h9) dX12_one_113 (fun x15 ex15 bx15 => ?_)
          have wx15 : x15.toInt = (M.1 60 0 64).toInt := by rw [ex15]
          obtain rfl : x9 = x15 := by rw [ex15]; exact ex9
          refine fx_isub hx hb dX12_one_116 rfl rfl (by omega) (fun y16 ey16 ty16 => ?_)
          refine lv_iconst (v := 4) hx hb dX12_one_117 (by decide) ?_
          refine fx_icmp_le (tgt := 126) hx hb dX12_one_118 (by decide) rfl zk_4 (fun c17 => ?_) (fun c17 => ?_)
          · refine lv_iconst (v := 0) hx hb dX12_one_126 (by decide) ?_
            refine lv_istore_n (lv' := [(1, .int 0), (0, .ref (ad 60 0))]) hx hb dX12_one_127 rfl hl (by decide) rfl (fun ls hl => ?_)
            refine lv_aload_n hx hb dX12_one_128 rfl (lv_at hl 1 rfl) ?_
            refine fm_getI (a := 60) (j := 64) (T := TX12) (N := 79) hx hb hts hinX12 hown hc hw hI kl_60 sh_60 rfl (by decide) rfl bd_60_64 (hts (.fieldLink RX12 340 "RedTentModel" "from" "I") (List.mem_cons_of_mem _ tw_5_184)) (fun _ h9 => h9) dX12_one_129 (fun x18 ex18 bx18 => ?_)
            have wx18 : x18.toInt = (M.1 60 0 64).toInt := by rw [ex18]
            obtain rfl : x9 = x18 := by rw [ex18]; exact ex9
            refine lv_istore_n (lv' := [(2, .int x9), (1, .int 0), (0, .ref (ad 60 0))]) hx hb dX12_one_132 rfl hl (by decide) rfl (fun ls hl => ?_)
            have lp : ∀ (n_lp : Nat) (lp_2 : Int32) (lp_1 : Int32), (160 - lp_2.toInt).toNat < n_lp → (0 ≤ lp_2.toInt ∧ lp_2.toInt ≤ 160) → ∀ (ls : Array Slot), lv_has ls 3 [(2, .int lp_2), (1, .int lp_1), (0, .ref (ad 60 0))] → W p l e (headSpec wsX12_one ({ frames := 35, cells := 0, slots := 0, locals := 758 })).room s m ([.ref (ad 60 0)] : List Value).toArray below meth c s.heap [] 0 0 (MQ below (va_Qi (fun (r : Int32) (u : fm_M) => fm_I nb ad u ∧ fm_same [60064, 60065, 60066, 60067] M u ∧ ((M.1 60 0 64).toInt ≤ (u.1 60 0 64).toInt ∧ (M.1 60 0 66).toInt ≤ (u.1 60 0 66).toInt ∧ (u.1 60 0 64).toInt ≤ (u.1 60 0 65).toInt)) (fun u t => fm_at D ad C nb u t.heap) (fm_A nb ad)) ([.ref (ad 60 0)] : List Value).toArray s 0 0 (fm_A nb ad)) (F0 m 133 ls []) := by
              intro n_lp
              induction n_lp with
              | zero => intro lp_2 lp_1 hm_lp b_lp_2 ls hl; exact absurd hm_lp (Nat.not_lt_zero _)
              | succ n_lp ih_lp =>
                intro lp_2 lp_1 hm_lp b_lp_2 ls hl
                refine lv_iload_n hx hb dX12_one_133 rfl (lv_at hl 0 rfl) ?_
                refine lv_aload_n hx hb dX12_one_134 rfl (lv_at hl 2 rfl) ?_
                refine fm_getI (a := 60) (j := 65) (T := TX12) (N := 79) hx hb hts hinX12 hown hc hw hI kl_60 sh_60 rfl (by decide) rfl bd_60_65 (hts (.fieldLink RX12 337 "RedTentModel" "to" "I") (List.mem_cons_of_mem _ tw_5_185)) (fun _ h9 => h9) dX12_one_135 (fun x19 ex19 bx19 => ?_)
                have wx19 : x19.toInt = (M.1 60 0 65).toInt := by rw [ex19]
                obtain rfl : x14 = x19 := by rw [ex19]; exact ex14
                refine fx_icmp_ge (tgt := 161) hx hb dX12_one_138 (by decide) rfl rfl (fun c20 => ?_) (fun c20 => ?_)
                · refine lv_aload_n hx hb dX12_one_161 rfl (lv_at hl 2 rfl) ?_
                  refine fm_cv (va_runV (As := []) (rest := []) ⟨hx, hb, hml, hown, hts⟩ (fc_X12_next l D ad C nb M hI) (cwV 0 hts gX12_one_X12_next rfl rfl rfl (by decide +kernel) ⟨Nat.le_of_ble_eq_true rfl, Nat.le_of_ble_eq_true rfl⟩) (fm_preV hc hw hS kl_60 sh_60 rfl) rfl rfl hl.1 rfl (lv_room (Nat.le_of_ble_eq_true rfl)) dX12_one_162 ⟨by decide +kernel, by decide +kernel⟩) hS hc (fun M22 H locs hr21 hw hS => ?_)
                  obtain ⟨hI, hEM22, hr21⟩ := hr21
                  have hE := hE.tr hEM22 (by decide)
                  have mM22_60_63 : (M22.1 60 0 63).toInt = (M.1 60 0 63).toInt := by rw [(hEM22 60 0 63 (by decide)).1]
                  have mM22_60_66 : (M22.1 60 0 66).toInt = (M.1 60 0 66).toInt := by rw [(hEM22 60 0 66 (by decide)).1]
                  refine lv_iload_n hx hb dX12_one_165 rfl (lv_at hl 1 rfl) ?_
                  have qx9 : x9.toInt = (M.1 60 0 64).toInt := by rw [ex9]
                  exact W.iret (v := lp_1) hx hb hr (fun t ht hW => ⟨⟨lp_1, M22, rfl, ⟨hI, hE, ⟨by omega, by omega, by omega⟩⟩, by show fm_at D ad C nb _ t.heap; rw [ht]; exact hw⟩, hS.F ht⟩) hS.2.2 dX12_one_166
                · refine lv_bipush (v := 10) hx hb dX12_one_141 (by decide) ?_
                  refine lv_iload_n hx hb dX12_one_143 rfl (lv_at hl 1 rfl) ?_
                  refine fx_imulU hx hb dX12_one_144 (fun y23 ey23 => ?_)
                  refine lv_aload_n hx hb dX12_one_145 rfl (lv_at hl 2 rfl) ?_
                  refine lv_iload_n hx hb dX12_one_146 rfl (lv_at hl 0 rfl) ?_
                  refine vp_callSi (va_Run.run (va_runV (As := [.int lp_2]) (rest := [.int y23]) ⟨hx, hb, hml, hown, hts⟩ (fc_X12_byteAt l D ad C nb M hI lp_2 (by omega)) (cwV 1 hts gX12_one_X12_byteAt rfl rfl rfl (by decide +kernel) ⟨Nat.le_of_ble_eq_true rfl, Nat.le_of_ble_eq_true rfl⟩) (fm_preV hc hw hS kl_60 sh_60 rfl) rfl rfl hl.1 rfl (lv_room (Nat.le_of_ble_eq_true rfl)) dX12_one_147 ⟨by decide +kernel, by decide +kernel⟩)) (fun r24 hr24 => ?_)
                  refine fx_iaddU hx hb dX12_one_150 (fun y25 ey25 => ?_)
                  refine lv_bipush (v := 48) hx hb dX12_one_151 (by decide) ?_
                  refine fx_isubU hx hb dX12_one_153 (fun y26 ey26 => ?_)
                  refine lv_istore_n (lv' := [(1, .int y26), (2, .int lp_2), (0, .ref (ad 60 0))]) hx hb dX12_one_154 rfl hl (by decide) rfl (fun ls hl => ?_)
                  obtain ⟨y27, ey27⟩ : ∃ y : Int32, y = lp_2 + 1 := ⟨_, rfl⟩
                  have ty27 : y27.toInt = lp_2.toInt + 1 := by rw [ey27, zi_add _ _ (by rw [zk_1]; omega) (by rw [zk_1]; omega), zk_1]
                  refine lv_iinc (v := y27) (lv' := [(2, .int y27), (1, .int y26), (0, .ref (ad 60 0))]) hx hb dX12_one_155 hl (k := 1) rfl (by rw [ey27]; rfl) (by decide) rfl (fun ls hl => ?_)
                  refine lv_goto (tgt := 133) hx hb dX12_one_158 (by decide) ?_
                  exact ih_lp y27 y26 (by omega) (by omega) ls (lv_sub hl [0, 1, 2] rfl)
            exact lp _ x9 0 (Nat.lt_succ_self _) (by omega) ls (lv_sub hl [0, 1, 2] rfl)
          · refine lv_aload_n hx hb dX12_one_121 rfl (lv_at hl 0 rfl) ?_
            refine fm_ci (va_runV (As := []) (rest := []) ⟨hx, hb, hml, hown, hts⟩ (fc_X12_wrong l D ad C nb M hI) (cwV 0 hts gX12_one_X12_wrong rfl rfl rfl (by decide +kernel) ⟨Nat.le_of_ble_eq_true rfl, Nat.le_of_ble_eq_true rfl⟩) (fm_preV hc hw hS kl_60 sh_60 rfl) rfl rfl hl.1 rfl (lv_room (Nat.le_of_ble_eq_true rfl)) dX12_one_122 ⟨by decide +kernel, by decide +kernel⟩) hS hc (fun r28 M29 H locs hr28 hw hS => ?_)
            obtain ⟨hI, hEM29, hr28⟩ := hr28
            have hE := hE.tr hEM29 (by decide)
            have mM29_60_63 : (M29.1 60 0 63).toInt = (M.1 60 0 63).toInt := by rw [(hEM29 60 0 63 (by decide)).1]
            have mM29_60_64 : (M29.1 60 0 64).toInt = (M.1 60 0 64).toInt := by rw [(hEM29 60 0 64 (by decide)).1]
            have mM29_60_65 : (M29.1 60 0 65).toInt = (M.1 60 0 65).toInt := by rw [(hEM29 60 0 65 (by decide)).1]
            have mM29_60_66 : (M29.1 60 0 66).toInt = (M.1 60 0 66).toInt := by rw [(hEM29 60 0 66 (by decide)).1]
            have qx9 : x9.toInt = (M.1 60 0 64).toInt := by rw [ex9]
            exact W.iret (v := r28) hx hb hr (fun t ht hW => ⟨⟨r28, M29, rfl, ⟨hI, hE, ⟨by omega, by omega, by omega⟩⟩, by show fm_at D ad C nb _ t.heap; rw [ht]; exact hw⟩, hS.F ht⟩) hS.2.2 dX12_one_125
        · refine fx_if_eq (tgt := 167) hx hb dX12_one_105 (by decide) zk_0 (fun c30 => ?_) (fun c30 => by exfalso; omega)
          have jt : ∀ (jt_1 : Int32), ((-1) ≤ jt_1.toInt ∧ jt_1.toInt ≤ 5) → ∀ (ls : Array Slot), lv_has ls 3 [(0, .ref (ad 60 0)), (1, .int jt_1)] → W p l e (headSpec wsX12_one ({ frames := 35, cells := 0, slots := 0, locals := 758 })).room s m ([.ref (ad 60 0)] : List Value).toArray below meth c s.heap [] 0 0 (MQ below (va_Qi (fun (r : Int32) (u : fm_M) => fm_I nb ad u ∧ fm_same [60064, 60065, 60066, 60067] M u ∧ ((M.1 60 0 64).toInt ≤ (u.1 60 0 64).toInt ∧ (M.1 60 0 66).toInt ≤ (u.1 60 0 66).toInt ∧ (u.1 60 0 64).toInt ≤ (u.1 60 0 65).toInt)) (fun u t => fm_at D ad C nb u t.heap) (fm_A nb ad)) ([.ref (ad 60 0)] : List Value).toArray s 0 0 (fm_A nb ad)) (F0 m 253 ls []) := by
            intro jt_1 b_jt_1 ls hl
            refine lv_iload_n hx hb dX12_one_253 rfl (lv_at hl 1 rfl) ?_
            refine fx_if_ge (tgt := 262) hx hb dX12_one_254 (by decide) rfl (fun c31 => ?_) (fun c31 => ?_)
            · refine lv_aload_n hx hb dX12_one_262 rfl (lv_at hl 0 rfl) ?_
              refine fm_cv (va_runV (As := []) (rest := []) ⟨hx, hb, hml, hown, hts⟩ (fc_X12_next l D ad C nb M hI) (cwV 0 hts gX12_one_X12_next rfl rfl rfl (by decide +kernel) ⟨Nat.le_of_ble_eq_true rfl, Nat.le_of_ble_eq_true rfl⟩) (fm_preV hc hw hS kl_60 sh_60 rfl) rfl rfl hl.1 rfl (lv_room (Nat.le_of_ble_eq_true rfl)) dX12_one_263 ⟨by decide +kernel, by decide +kernel⟩) hS hc (fun M33 H locs hr32 hw hS => ?_)
              obtain ⟨hI, hEM33, hr32⟩ := hr32
              have hE := hE.tr hEM33 (by decide)
              have mM33_60_63 : (M33.1 60 0 63).toInt = (M.1 60 0 63).toInt := by rw [(hEM33 60 0 63 (by decide)).1]
              have mM33_60_66 : (M33.1 60 0 66).toInt = (M.1 60 0 66).toInt := by rw [(hEM33 60 0 66 (by decide)).1]
              refine lv_aload_n hx hb dX12_one_266 rfl (lv_at hl 0 rfl) ?_
              refine fm_getG (a := 60) (j := 68) (T := TX12) (N := 79) hx hb hts hinX12 hown hc hw kl_60 sh_60 rfl (by decide) rfl (hI.to kl_60 tg_60_68) (hts (.fieldLink RX12 143 "RedTentModel" "names" "[I") (List.mem_cons_of_mem _ tw_5_188)) (fun _ h9 => h9) dX12_one_267 ?_
              refine lv_iload_n hx hb dX12_one_270 rfl (lv_at hl 1 rfl) ?_
              refine fm_iald (a := 168) hx hb hc hw hI kl_168 sh_168 ty_168 bd_168 (by omega) dX12_one_271 (fun x34 ex34 bx34 => ?_)
              have qx9 : x9.toInt = (M.1 60 0 64).toInt := by rw [ex9]
              exact W.iret (v := x34) hx hb hr (fun t ht hW => ⟨⟨x34, M33, rfl, ⟨hI, hE, ⟨by omega, by omega, by omega⟩⟩, by show fm_at D ad C nb _ t.heap; rw [ht]; exact hw⟩, hS.F ht⟩) hS.2.2 dX12_one_272
            · refine lv_aload_n hx hb dX12_one_257 rfl (lv_at hl 0 rfl) ?_
              refine fm_ci (va_runV (As := []) (rest := []) ⟨hx, hb, hml, hown, hts⟩ (fc_X12_wrong l D ad C nb M hI) (cwV 0 hts gX12_one_X12_wrong rfl rfl rfl (by decide +kernel) ⟨Nat.le_of_ble_eq_true rfl, Nat.le_of_ble_eq_true rfl⟩) (fm_preV hc hw hS kl_60 sh_60 rfl) rfl rfl hl.1 rfl (lv_room (Nat.le_of_ble_eq_true rfl)) dX12_one_258 ⟨by decide +kernel, by decide +kernel⟩) hS hc (fun r35 M36 H locs hr35 hw hS => ?_)
              obtain ⟨hI, hEM36, hr35⟩ := hr35
              have hE := hE.tr hEM36 (by decide)
              have mM36_60_63 : (M36.1 60 0 63).toInt = (M.1 60 0 63).toInt := by rw [(hEM36 60 0 63 (by decide)).1]
              have mM36_60_64 : (M36.1 60 0 64).toInt = (M.1 60 0 64).toInt := by rw [(hEM36 60 0 64 (by decide)).1]
              have mM36_60_65 : (M36.1 60 0 65).toInt = (M.1 60 0 65).toInt := by rw [(hEM36 60 0 65 (by decide)).1]
              have mM36_60_66 : (M36.1 60 0 66).toInt = (M.1 60 0 66).toInt := by rw [(hEM36 60 0 66 (by decide)).1]
              have qx9 : x9.toInt = (M.1 60 0 64).toInt := by rw [ex9]
              exact W.iret (v := r35) hx hb hr (fun t ht hW => ⟨⟨r35, M36, rfl, ⟨hI, hE, ⟨by omega, by omega, by omega⟩⟩, by show fm_at D ad C nb _ t.heap; rw [ht]; exact hw⟩, hS.F ht⟩) hS.2.2 dX12_one_261
          refine lv_aload_n hx hb dX12_one_167 rfl (lv_at hl 0 rfl) ?_
          obtain ⟨q37, vq37, hQq37, hRq37⟩ := hc.2.2.2.2.1 (RX12, 410, "strength", [115, 116, 114, 101, 110, 103, 116, 104]) (by decide)
          refine va_ldcwS hx hb hown hRq37 dX12_one_168 ?_
          refine vp_callSi (va_Run.run (va_runV (As := [.ref q37]) (rest := []) ⟨hx, hb, hml, hown, hts⟩ (fc_X12_is l D ad C nb M hI q37 vq37 8 (fun j => ([115, 116, 114, 101, 110, 103, 116, 104] : List Int32).getD j 0) (by decide)) (cwV 1 hts gX12_one_X12_is rfl rfl rfl (by decide +kernel) ⟨Nat.le_of_ble_eq_true rfl, Nat.le_of_ble_eq_true rfl⟩) (fm_preVS hc hw hS hQq37 kl_60 sh_60 rfl) rfl rfl hl.1 rfl (lv_room (Nat.le_of_ble_eq_true rfl)) dX12_one_171 ⟨by decide +kernel, by decide +kernel⟩)) (fun r38 hr38 => ?_)
          have ir38 := hr38.2
          have jr38 := hr38.1
          refine fx_if_eq (tgt := 181) hx hb dX12_one_174 (by decide) rfl (fun c39 => ?_) (fun c39 => ?_)
          · refine lv_aload_n hx hb dX12_one_181 rfl (lv_at hl 0 rfl) ?_
            obtain ⟨q40, vq40, hQq40, hRq40⟩ := hc.2.2.2.2.1 (RX12, 411, "hurt", [104, 117, 114, 116]) (by decide)
            refine va_ldcwS hx hb hown hRq40 dX12_one_182 ?_
            refine vp_callSi (va_Run.run (va_runV (As := [.ref q40]) (rest := []) ⟨hx, hb, hml, hown, hts⟩ (fc_X12_is l D ad C nb M hI q40 vq40 4 (fun j => ([104, 117, 114, 116] : List Int32).getD j 0) (by decide)) (cwV 1 hts gX12_one_X12_is rfl rfl rfl (by decide +kernel) ⟨Nat.le_of_ble_eq_true rfl, Nat.le_of_ble_eq_true rfl⟩) (fm_preVS hc hw hS hQq40 kl_60 sh_60 rfl) rfl rfl hl.1 rfl (lv_room (Nat.le_of_ble_eq_true rfl)) dX12_one_185 ⟨by decide +kernel, by decide +kernel⟩)) (fun r41 hr41 => ?_)
            have ir41 := hr41.2
            have jr41 := hr41.1
            refine fx_if_eq (tgt := 195) hx hb dX12_one_188 (by decide) rfl (fun c42 => ?_) (fun c42 => ?_)
            · refine lv_aload_n hx hb dX12_one_195 rfl (lv_at hl 0 rfl) ?_
              obtain ⟨q43, vq43, hQq43, hRq43⟩ := hc.2.2.2.2.1 (RX12, 412, "skill", [115, 107, 105, 108, 108]) (by decide)
              refine va_ldcwS hx hb hown hRq43 dX12_one_196 ?_
              refine vp_callSi (va_Run.run (va_runV (As := [.ref q43]) (rest := []) ⟨hx, hb, hml, hown, hts⟩ (fc_X12_is l D ad C nb M hI q43 vq43 5 (fun j => ([115, 107, 105, 108, 108] : List Int32).getD j 0) (by decide)) (cwV 1 hts gX12_one_X12_is rfl rfl rfl (by decide +kernel) ⟨Nat.le_of_ble_eq_true rfl, Nat.le_of_ble_eq_true rfl⟩) (fm_preVS hc hw hS hQq43 kl_60 sh_60 rfl) rfl rfl hl.1 rfl (lv_room (Nat.le_of_ble_eq_true rfl)) dX12_one_199 ⟨by decide +kernel, by decide +kernel⟩)) (fun r44 hr44 => ?_)
              have ir44 := hr44.2
              have jr44 := hr44.1
              refine fx_if_eq (tgt := 209) hx hb dX12_one_202 (by decide) rfl (fun c45 => ?_) (fun c45 => ?_)
              · refine lv_aload_n hx hb dX12_one_209 rfl (lv_at hl 0 rfl) ?_
                obtain ⟨q46, vq46, hQq46, hRq46⟩ := hc.2.2.2.2.1 (RX12, 413, "hour", [104, 111, 117, 114]) (by decide)
                refine va_ldcwS hx hb hown hRq46 dX12_one_210 ?_
                refine vp_callSi (va_Run.run (va_runV (As := [.ref q46]) (rest := []) ⟨hx, hb, hml, hown, hts⟩ (fc_X12_is l D ad C nb M hI q46 vq46 4 (fun j => ([104, 111, 117, 114] : List Int32).getD j 0) (by decide)) (cwV 1 hts gX12_one_X12_is rfl rfl rfl (by decide +kernel) ⟨Nat.le_of_ble_eq_true rfl, Nat.le_of_ble_eq_true rfl⟩) (fm_preVS hc hw hS hQq46 kl_60 sh_60 rfl) rfl rfl hl.1 rfl (lv_room (Nat.le_of_ble_eq_true rfl)) dX12_one_213 ⟨by decide +kernel, by decide +kernel⟩)) (fun r47 hr47 => ?_)
                have ir47 := hr47.2
                have jr47 := hr47.1
                refine fx_if_eq (tgt := 223) hx hb dX12_one_216 (by decide) rfl (fun c48 => ?_) (fun c48 => ?_)
                · refine lv_aload_n hx hb dX12_one_223 rfl (lv_at hl 0 rfl) ?_
                  obtain ⟨q49, vq49, hQq49, hRq49⟩ := hc.2.2.2.2.1 (RX12, 414, "fuel", [102, 117, 101, 108]) (by decide)
                  refine va_ldcwS hx hb hown hRq49 dX12_one_224 ?_
                  refine vp_callSi (va_Run.run (va_runV (As := [.ref q49]) (rest := []) ⟨hx, hb, hml, hown, hts⟩ (fc_X12_is l D ad C nb M hI q49 vq49 4 (fun j => ([102, 117, 101, 108] : List Int32).getD j 0) (by decide)) (cwV 1 hts gX12_one_X12_is rfl rfl rfl (by decide +kernel) ⟨Nat.le_of_ble_eq_true rfl, Nat.le_of_ble_eq_true rfl⟩) (fm_preVS hc hw hS hQq49 kl_60 sh_60 rfl) rfl rfl hl.1 rfl (lv_room (Nat.le_of_ble_eq_true rfl)) dX12_one_227 ⟨by decide +kernel, by decide +kernel⟩)) (fun r50 hr50 => ?_)
                  have ir50 := hr50.2
                  have jr50 := hr50.1
                  refine fx_if_eq (tgt := 237) hx hb dX12_one_230 (by decide) rfl (fun c51 => ?_) (fun c51 => ?_)
                  · refine lv_aload_n hx hb dX12_one_237 rfl (lv_at hl 0 rfl) ?_
                    obtain ⟨q52, vq52, hQq52, hRq52⟩ := hc.2.2.2.2.1 (RX12, 415, "far", [102, 97, 114]) (by decide)
                    refine va_ldcwS hx hb hown hRq52 dX12_one_238 ?_
                    refine vp_callSi (va_Run.run (va_runV (As := [.ref q52]) (rest := []) ⟨hx, hb, hml, hown, hts⟩ (fc_X12_is l D ad C nb M hI q52 vq52 3 (fun j => ([102, 97, 114] : List Int32).getD j 0) (by decide)) (cwV 1 hts gX12_one_X12_is rfl rfl rfl (by decide +kernel) ⟨Nat.le_of_ble_eq_true rfl, Nat.le_of_ble_eq_true rfl⟩) (fm_preVS hc hw hS hQq52 kl_60 sh_60 rfl) rfl rfl hl.1 rfl (lv_room (Nat.le_of_ble_eq_true rfl)) dX12_one_241 ⟨by decide +kernel, by decide +kernel⟩)) (fun r53 hr53 => ?_)
                    have ir53 := hr53.2
                    have jr53 := hr53.1
                    refine fx_if_eq (tgt := 251) hx hb dX12_one_244 (by decide) rfl (fun c54 => ?_) (fun c54 => ?_)
                    · refine lv_iconst (v := (-1)) hx hb dX12_one_251 (by decide) ?_
                      refine lv_istore_n (lv' := [(1, .int (-1)), (0, .ref (ad 60 0))]) hx hb dX12_one_252 rfl hl (by decide) rfl (fun ls hl => ?_)
                      exact jt (-1) (by decide) ls (lv_sub hl [1, 0] rfl)
                    · refine lv_iconst (v := 5) hx hb dX12_one_247 (by decide) ?_
                      refine lv_goto (tgt := 252) hx hb dX12_one_248 (by decide) ?_
                      refine lv_istore_n (lv' := [(1, .int 5), (0, .ref (ad 60 0))]) hx hb dX12_one_252 rfl hl (by decide) rfl (fun ls hl => ?_)
                      exact jt 5 (by decide) ls (lv_sub hl [1, 0] rfl)
                  · refine lv_iconst (v := 4) hx hb dX12_one_233 (by decide) ?_
                    refine lv_goto (tgt := 252) hx hb dX12_one_234 (by decide) ?_
                    refine lv_istore_n (lv' := [(1, .int 4), (0, .ref (ad 60 0))]) hx hb dX12_one_252 rfl hl (by decide) rfl (fun ls hl => ?_)
                    exact jt 4 (by decide) ls (lv_sub hl [1, 0] rfl)
                · refine lv_iconst (v := 3) hx hb dX12_one_219 (by decide) ?_
                  refine lv_goto (tgt := 252) hx hb dX12_one_220 (by decide) ?_
                  refine lv_istore_n (lv' := [(1, .int 3), (0, .ref (ad 60 0))]) hx hb dX12_one_252 rfl hl (by decide) rfl (fun ls hl => ?_)
                  exact jt 3 (by decide) ls (lv_sub hl [1, 0] rfl)
              · refine lv_iconst (v := 2) hx hb dX12_one_205 (by decide) ?_
                refine lv_goto (tgt := 252) hx hb dX12_one_206 (by decide) ?_
                refine lv_istore_n (lv' := [(1, .int 2), (0, .ref (ad 60 0))]) hx hb dX12_one_252 rfl hl (by decide) rfl (fun ls hl => ?_)
                exact jt 2 (by decide) ls (lv_sub hl [1, 0] rfl)
            · refine lv_iconst (v := 1) hx hb dX12_one_191 (by decide) ?_
              refine lv_goto (tgt := 252) hx hb dX12_one_192 (by decide) ?_
              refine lv_istore_n (lv' := [(1, .int 1), (0, .ref (ad 60 0))]) hx hb dX12_one_252 rfl hl (by decide) rfl (fun ls hl => ?_)
              exact jt 1 (by decide) ls (lv_sub hl [1, 0] rfl)
          · refine lv_iconst (v := 0) hx hb dX12_one_177 (by decide) ?_
            refine lv_goto (tgt := 252) hx hb dX12_one_178 (by decide) ?_
            refine lv_istore_n (lv' := [(1, .int 0), (0, .ref (ad 60 0))]) hx hb dX12_one_252 rfl hl (by decide) rfl (fun ls hl => ?_)
            exact jt 0 (by decide) ls (lv_sub hl [1, 0] rfl)
      · refine lv_aload_n hx hb dX12_one_56 rfl (lv_at hl 0 rfl) ?_
        refine fm_ci (va_runV (As := []) (rest := []) ⟨hx, hb, hml, hown, hts⟩ (fc_X12_opens l D ad C nb M hI) (cwV 0 hts gX12_one_X12_opens rfl rfl rfl (by decide +kernel) ⟨Nat.le_of_ble_eq_true rfl, Nat.le_of_ble_eq_true rfl⟩) (fm_preV hc hw hS kl_60 sh_60 rfl) rfl rfl hl.1 rfl (lv_room (Nat.le_of_ble_eq_true rfl)) dX12_one_57 ⟨by decide +kernel, by decide +kernel⟩) hS hc (fun r55 M56 H locs hr55 hw hS => ?_)
        obtain ⟨hI, hEM56, hr55⟩ := hr55
        have hE := hE.tr hEM56 (by decide)
        have mM56_60_63 : (M56.1 60 0 63).toInt = (M.1 60 0 63).toInt := by rw [(hEM56 60 0 63 (by decide)).1]
        rcases hr55 with ⟨rfl, ahr55, bhr55, dhr55⟩ | ⟨rfl, ahr55, bhr55, dhr55⟩
        · refine fx_if_ne (tgt := 65) hx hb dX12_one_60 (by decide) zk_1 (fun c57 => ?_) (fun c57 => by exfalso; omega)
          refine lv_aload_n hx hb dX12_one_65 rfl (lv_at hl 0 rfl) ?_
          have d58_63 := hI.bd (k := 0) bd_60_63
          have d58_64 := hI.bd (k := 0) bd_60_64
          have d58_65 := hI.bd (k := 0) bd_60_65
          have d58_66 := hI.bd (k := 0) bd_60_66
          refine fm_ci (va_runV (As := []) (rest := []) ⟨hx, hb, hml, hown, hts⟩ (fc_X12_either_1 l D ad C nb M56 hI (by omega) (by omega)) (cwV 0 hts gX12_one_X12_either rfl rfl rfl (by decide +kernel) ⟨Nat.le_of_ble_eq_true rfl, Nat.le_of_ble_eq_true rfl⟩) (fm_preV hc hw hS kl_60 sh_60 rfl) rfl rfl hl.1 rfl (lv_room (Nat.le_of_ble_eq_true rfl)) dX12_one_66 ⟨by decide +kernel, by decide +kernel⟩) hS hc (fun r59 M60 H locs hr59 hw hS => ?_)
          obtain ⟨hI, hEM60, hr59⟩ := hr59
          have hE := hE.tr hEM60 (by decide)
          have mM60_60_63 : (M60.1 60 0 63).toInt = (M56.1 60 0 63).toInt := by rw [(hEM60 60 0 63 (by decide)).1]
          obtain ⟨ahr59, bhr59, dhr59⟩ := hr59
          refine lv_istore_n (lv' := [(1, .int r59), (0, .ref (ad 60 0))]) hx hb dX12_one_69 rfl hl (by decide) rfl (fun ls hl => ?_)
          refine lv_aload_n hx hb dX12_one_70 rfl (lv_at hl 1 rfl) ?_
          obtain ⟨q61, vq61, hQq61, hRq61⟩ := hc.2.2.2.2.1 (RX12, 408, ")", [41]) (by decide)
          refine va_ldcwS hx hb hown hRq61 dX12_one_71 ?_
          refine fm_ci (va_runV (As := [.ref q61]) (rest := []) ⟨hx, hb, hml, hown, hts⟩ (fc_X12_take l D ad C nb M60 hI q61 vq61 1 (fun j => ([41] : List Int32).getD j 0) (by decide) (by omega)) (cwV 1 hts gX12_one_X12_take rfl rfl rfl (by decide +kernel) ⟨Nat.le_of_ble_eq_true rfl, Nat.le_of_ble_eq_true rfl⟩) (fm_preVS hc hw hS hQq61 kl_60 sh_60 rfl) rfl rfl hl.1 rfl (lv_room (Nat.le_of_ble_eq_true rfl)) dX12_one_74 ⟨by decide +kernel, by decide +kernel⟩) hS hc (fun r62 M63 H locs hr62 hw hS => ?_)
          obtain ⟨hI, hEM63, hr62⟩ := hr62
          have hE := hE.tr hEM63 (by decide)
          have mM63_60_63 : (M63.1 60 0 63).toInt = (M60.1 60 0 63).toInt := by rw [(hEM63 60 0 63 (by decide)).1]
          have mM63_60_66 : (M63.1 60 0 66).toInt = (M60.1 60 0 66).toInt := by rw [(hEM63 60 0 66 (by decide)).1]
          rcases hr62 with ⟨rfl, ahr62, bhr62⟩ | ⟨rfl, ahr62, bhr62⟩
          · refine fx_if_ne (tgt := 85) hx hb dX12_one_77 (by decide) zk_1 (fun c64 => ?_) (fun c64 => by exfalso; omega)
            refine lv_aload_n hx hb dX12_one_85 rfl (lv_at hl 1 rfl) ?_
            refine lv_dup hx hb dX12_one_86 rfl ?_
            refine fm_getI (a := 60) (j := 66) (T := TX12) (N := 79) hx hb hts hinX12 hown hc hw hI kl_60 sh_60 rfl (by decide) rfl bd_60_66 (hts (.fieldLink RX12 372 "RedTentModel" "open" "I") (List.mem_cons_of_mem _ tw_5_186)) (fun _ h9 => h9) dX12_one_87 (fun x65 ex65 bx65 => ?_)
            have wx65 : x65.toInt = (M63.1 60 0 66).toInt := by rw [ex65]
            refine lv_iconst (v := 1) hx hb dX12_one_90 (by decide) ?_
            refine fx_isub hx hb dX12_one_91 rfl zk_1 (by omega) (fun y66 ey66 ty66 => ?_)
            refine fm_putI (a := 60) (j := 66) (T := TX12) (N := 79) hx hb hts hinX12 tyX12 tyX12_ok nmX12 hown hc hw hI hE hS kl_60 sh_60 od_60 rfl (by decide) rfl bd_60_66 (hts (.fieldLink RX12 372 "RedTentModel" "open" "I") (List.mem_cons_of_mem _ tw_5_186)) (fun _ h9 => h9) rfl (by decide +kernel) (by omega) (by decide) (by decide) dX12_one_92 (fun M67 H locs eM67 hw hI hE hS => ?_)
            have mM67_60_63 : (M67.1 60 0 63).toInt = (M63.1 60 0 63).toInt := by rw [eM67, fm_wI_nj (fun z => absurd z.2.2 (by decide))]
            have mM67_60_64 : (M67.1 60 0 64).toInt = (M63.1 60 0 64).toInt := by rw [eM67, fm_wI_nj (fun z => absurd z.2.2 (by decide))]
            have mM67_60_65 : (M67.1 60 0 65).toInt = (M63.1 60 0 65).toInt := by rw [eM67, fm_wI_nj (fun z => absurd z.2.2 (by decide))]
            have mM67_60_66 : (M67.1 60 0 66).toInt = y66.toInt := by rw [eM67, fm_wI_at]
            refine lv_iload_n hx hb dX12_one_95 rfl (lv_at hl 0 rfl) ?_
            exact W.iret (v := r59) hx hb hr (fun t ht hW => ⟨⟨r59, M67, rfl, ⟨hI, hE, ⟨by omega, by omega, by omega⟩⟩, by show fm_at D ad C nb _ t.heap; rw [ht]; exact hw⟩, hS.F ht⟩) hS.2.2 dX12_one_96
          · refine fx_if_ne (tgt := 85) hx hb dX12_one_77 (by decide) zk_0 (fun c68 => by exfalso; omega) (fun c68 => ?_)
            refine lv_aload_n hx hb dX12_one_80 rfl (lv_at hl 1 rfl) ?_
            refine fm_ci (va_runV (As := []) (rest := []) ⟨hx, hb, hml, hown, hts⟩ (fc_X12_wrong l D ad C nb M63 hI) (cwV 0 hts gX12_one_X12_wrong rfl rfl rfl (by decide +kernel) ⟨Nat.le_of_ble_eq_true rfl, Nat.le_of_ble_eq_true rfl⟩) (fm_preV hc hw hS kl_60 sh_60 rfl) rfl rfl hl.1 rfl (lv_room (Nat.le_of_ble_eq_true rfl)) dX12_one_81 ⟨by decide +kernel, by decide +kernel⟩) hS hc (fun r69 M70 H locs hr69 hw hS => ?_)
            obtain ⟨hI, hEM70, hr69⟩ := hr69
            have hE := hE.tr hEM70 (by decide)
            have mM70_60_63 : (M70.1 60 0 63).toInt = (M63.1 60 0 63).toInt := by rw [(hEM70 60 0 63 (by decide)).1]
            have mM70_60_64 : (M70.1 60 0 64).toInt = (M63.1 60 0 64).toInt := by rw [(hEM70 60 0 64 (by decide)).1]
            have mM70_60_65 : (M70.1 60 0 65).toInt = (M63.1 60 0 65).toInt := by rw [(hEM70 60 0 65 (by decide)).1]
            have mM70_60_66 : (M70.1 60 0 66).toInt = (M63.1 60 0 66).toInt := by rw [(hEM70 60 0 66 (by decide)).1]
            exact W.iret (v := r69) hx hb hr (fun t ht hW => ⟨⟨r69, M70, rfl, ⟨hI, hE, ⟨by omega, by omega, by omega⟩⟩, by show fm_at D ad C nb _ t.heap; rw [ht]; exact hw⟩, hS.F ht⟩) hS.2.2 dX12_one_84
        · refine fx_if_ne (tgt := 65) hx hb dX12_one_60 (by decide) zk_0 (fun c71 => by exfalso; omega) (fun c71 => ?_)
          refine lv_iconst (v := 0) hx hb dX12_one_63 (by decide) ?_
          exact W.iret (v := 0) hx hb hr (fun t ht hW => ⟨⟨0, M56, rfl, ⟨hI, hE, ⟨by omega, by omega, by omega⟩⟩, by show fm_at D ad C nb _ t.heap; rw [ht]; exact hw⟩, hS.F ht⟩) hS.2.2 dX12_one_64
    · refine lv_aload_n hx hb dX12_one_19 rfl (lv_at hl 0 rfl) ?_
      refine fm_ci (va_runV (As := []) (rest := []) ⟨hx, hb, hml, hown, hts⟩ (fc_X12_opens l D ad C nb M hI) (cwV 0 hts gX12_one_X12_opens rfl rfl rfl (by decide +kernel) ⟨Nat.le_of_ble_eq_true rfl, Nat.le_of_ble_eq_true rfl⟩) (fm_preV hc hw hS kl_60 sh_60 rfl) rfl rfl hl.1 rfl (lv_room (Nat.le_of_ble_eq_true rfl)) dX12_one_20 ⟨by decide +kernel, by decide +kernel⟩) hS hc (fun r72 M73 H locs hr72 hw hS => ?_)
      obtain ⟨hI, hEM73, hr72⟩ := hr72
      have hE := hE.tr hEM73 (by decide)
      have mM73_60_63 : (M73.1 60 0 63).toInt = (M.1 60 0 63).toInt := by rw [(hEM73 60 0 63 (by decide)).1]
      rcases hr72 with ⟨rfl, ahr72, bhr72, dhr72⟩ | ⟨rfl, ahr72, bhr72, dhr72⟩
      · refine fx_if_ne (tgt := 28) hx hb dX12_one_23 (by decide) zk_1 (fun c74 => ?_) (fun c74 => by exfalso; omega)
        refine lv_aload_n hx hb dX12_one_28 rfl (lv_at hl 0 rfl) ?_
        have d75_63 := hI.bd (k := 0) bd_60_63
        have d75_64 := hI.bd (k := 0) bd_60_64
        have d75_65 := hI.bd (k := 0) bd_60_65
        have d75_66 := hI.bd (k := 0) bd_60_66
        refine fm_ci (va_runV (As := []) (rest := []) ⟨hx, hb, hml, hown, hts⟩ (fc_X12_one_1 l D ad C nb M73 hI (by omega) (by omega)) (cwV 0 hts gX12_one_X12_one rfl rfl rfl (by decide +kernel) ⟨Nat.le_of_ble_eq_true rfl, Nat.le_of_ble_eq_true rfl⟩) (fm_preV hc hw hS kl_60 sh_60 rfl) rfl rfl hl.1 rfl (lv_room (Nat.le_of_ble_eq_true rfl)) dX12_one_29 ⟨by decide +kernel, by decide +kernel⟩) hS hc (fun r76 M77 H locs hr76 hw hS => ?_)
        obtain ⟨hI, hEM77, hr76⟩ := hr76
        have hE := hE.tr hEM77 (by decide)
        have mM77_60_63 : (M77.1 60 0 63).toInt = (M73.1 60 0 63).toInt := by rw [(hEM77 60 0 63 (by decide)).1]
        obtain ⟨ahr76, bhr76, dhr76⟩ := hr76
        refine lv_istore_n (lv' := [(1, .int r76), (0, .ref (ad 60 0))]) hx hb dX12_one_32 rfl hl (by decide) rfl (fun ls hl => ?_)
        refine lv_aload_n hx hb dX12_one_33 rfl (lv_at hl 1 rfl) ?_
        refine lv_dup hx hb dX12_one_34 rfl ?_
        refine fm_getI (a := 60) (j := 66) (T := TX12) (N := 79) hx hb hts hinX12 hown hc hw hI kl_60 sh_60 rfl (by decide) rfl bd_60_66 (hts (.fieldLink RX12 372 "RedTentModel" "open" "I") (List.mem_cons_of_mem _ tw_5_186)) (fun _ h9 => h9) dX12_one_35 (fun x78 ex78 bx78 => ?_)
        have wx78 : x78.toInt = (M77.1 60 0 66).toInt := by rw [ex78]
        refine lv_iconst (v := 1) hx hb dX12_one_38 (by decide) ?_
        refine fx_isub hx hb dX12_one_39 rfl zk_1 (by omega) (fun y79 ey79 ty79 => ?_)
        refine fm_putI (a := 60) (j := 66) (T := TX12) (N := 79) hx hb hts hinX12 tyX12 tyX12_ok nmX12 hown hc hw hI hE hS kl_60 sh_60 od_60 rfl (by decide) rfl bd_60_66 (hts (.fieldLink RX12 372 "RedTentModel" "open" "I") (List.mem_cons_of_mem _ tw_5_186)) (fun _ h9 => h9) rfl (by decide +kernel) (by omega) (by decide) (by decide) dX12_one_40 (fun M80 H locs eM80 hw hI hE hS => ?_)
        have mM80_60_63 : (M80.1 60 0 63).toInt = (M77.1 60 0 63).toInt := by rw [eM80, fm_wI_nj (fun z => absurd z.2.2 (by decide))]
        have mM80_60_64 : (M80.1 60 0 64).toInt = (M77.1 60 0 64).toInt := by rw [eM80, fm_wI_nj (fun z => absurd z.2.2 (by decide))]
        have mM80_60_65 : (M80.1 60 0 65).toInt = (M77.1 60 0 65).toInt := by rw [eM80, fm_wI_nj (fun z => absurd z.2.2 (by decide))]
        have mM80_60_66 : (M80.1 60 0 66).toInt = y79.toInt := by rw [eM80, fm_wI_at]
        refine lv_iload_n hx hb dX12_one_43 rfl (lv_at hl 0 rfl) ?_
        refine lv_ineg hx hb dX12_one_44 ?_
        refine lv_topi (fun y81 ey81 => ?_)
        exact W.iret (v := y81) hx hb hr (fun t ht hW => ⟨⟨y81, M80, rfl, ⟨hI, hE, ⟨by omega, by omega, by omega⟩⟩, by show fm_at D ad C nb _ t.heap; rw [ht]; exact hw⟩, hS.F ht⟩) hS.2.2 dX12_one_45
      · refine fx_if_ne (tgt := 28) hx hb dX12_one_23 (by decide) zk_0 (fun c82 => by exfalso; omega) (fun c82 => ?_)
        refine lv_iconst (v := 0) hx hb dX12_one_26 (by decide) ?_
        exact W.iret (v := 0) hx hb hr (fun t ht hW => ⟨⟨0, M73, rfl, ⟨hI, hE, ⟨by omega, by omega, by omega⟩⟩, by show fm_at D ad C nb _ t.heap; rw [ht]; exact hw⟩, hS.F ht⟩) hS.2.2 dX12_one_27
  · refine lv_iconst (v := 0) hx hb dX12_one_7 (by decide) ?_
    exact W.iret (v := 0) hx hb hr (fun t ht hW => ⟨⟨0, M, rfl, ⟨hI, hE, ⟨by omega, by omega, by omega⟩⟩, by show fm_at D ad C nb _ t.heap; rw [ht]; exact hw⟩, hS.F ht⟩) hS.2.2 dX12_one_8
set_option maxHeartbeats 400000 in
set_option maxRecDepth 20000 in
theorem fc_X12_product_0 (l : Launch) (D : va_G) (ad : Nat → Nat → Nat) (C : Nat → Nat → ClassId) (nb : Nat) (M : fm_M) (hI : fm_I nb ad M) (hft : (M.1 60 0 64).toInt ≤ (M.1 60 0 65).toInt) (hop : 0 ≤ (M.1 60 0 66).toInt) : Met l yX12_product wsX12_product ({ frames := 36, cells := 0, slots := 0, locals := 780 }) (va_Pc [.ref (ad 60 0)] (fm_P D ad C nb M)) (va_Qi (fun (r : Int32) (u : fm_M) => fm_I nb ad u ∧ fm_same [60064, 60065, 60066, 60067] M u ∧ ((M.1 60 0 64).toInt ≤ (u.1 60 0 64).toInt ∧ (M.1 60 0 66).toInt ≤ (u.1 60 0 66).toInt ∧ (u.1 60 0 64).toInt ≤ (u.1 60 0 65).toInt)) (fun u t => fm_at D ad C nb u t.heap) (fm_A nb ad)) 0 0 (fm_A nb ad) := by
  refine Met.ofW (cc := cX12_product) (maxL := 2) (ret := (some .int)) (by decide) rfl ?_
  intro p e s m args below meth c s₁ B hml hv
  obtain ⟨rfl, hw, hc⟩ := hv
  have hx := B.exec
  have hb := B.bytes
  have hr := B.returns
  have hts := atoms_spec (ws := wsX12_product) B.pre
  have hown : s.vm.findClass RX12 = some m.cls := findClass_of_methodNamed B.named
  have hS : va_S (fm_A nb ad) s.heap s.heap [] := va_S.rf
  have hE : fm_same [60064, 60065, 60066, 60067] M M := fm_same.rf
  have hl := lv_entry ([.ref (ad 60 0)]) (n := 2) (Nat.le_of_ble_eq_true rfl)
  rw [lg_entry_eq]
  generalize (lg_sl ([.ref (ad 60 0)]) ++ List.replicate (2 - (lg_sl ([.ref (ad 60 0)])).length) Slot.unset).toArray = ls at hl ⊢
  have hl : lv_has ls 2 [(0, .ref (ad 60 0))] := hl
  refine lv_aload_n hx hb dX12_product_0 rfl (lv_at hl 0 rfl) ?_
  have d1_63 := hI.bd (k := 0) bd_60_63
  have d1_64 := hI.bd (k := 0) bd_60_64
  have d1_65 := hI.bd (k := 0) bd_60_65
  have d1_66 := hI.bd (k := 0) bd_60_66
  refine fm_ci (va_runV (As := []) (rest := []) ⟨hx, hb, hml, hown, hts⟩ (fc_X12_one_0 l D ad C nb M hI (by omega) (by omega)) (cwV 0 hts gX12_product_X12_one rfl rfl rfl (by decide +kernel) ⟨Nat.le_of_ble_eq_true rfl, Nat.le_of_ble_eq_true rfl⟩) (fm_preV hc hw hS kl_60 sh_60 rfl) rfl rfl hl.1 rfl (lv_room (Nat.le_of_ble_eq_true rfl)) dX12_product_1 ⟨by decide +kernel, by decide +kernel⟩) hS hc (fun r2 M3 H locs hr2 hw hS => ?_)
  obtain ⟨hI, hEM3, hr2⟩ := hr2
  have hE := hE.tr hEM3 (by decide)
  have mM3_60_63 : (M3.1 60 0 63).toInt = (M.1 60 0 63).toInt := by rw [(hEM3 60 0 63 (by decide)).1]
  obtain ⟨ahr2, bhr2, dhr2⟩ := hr2
  refine lv_istore_n (lv' := [(1, .int r2), (0, .ref (ad 60 0))]) hx hb dX12_product_4 rfl hl (by decide) rfl (fun ls hl => ?_)
  have lp : ∀ (n_lp : Nat) (lp_1 : Int32) (M_lp : fm_M), (161 - (M_lp.1 60 0 64).toInt).toNat < n_lp → ((M.1 60 0 64).toInt ≤ (M_lp.1 60 0 64).toInt ∧ (M.1 60 0 66).toInt ≤ (M_lp.1 60 0 66).toInt ∧ (M_lp.1 60 0 64).toInt ≤ (M_lp.1 60 0 65).toInt) → fm_I nb ad M_lp → fm_same [60064, 60065, 60066, 60067] M M_lp → ∀ (H : Heap) (locs : List Loc), fm_at D ad C nb M_lp H → va_S (fm_A nb ad) s.heap H locs → ∀ (ls : Array Slot), lv_has ls 2 [(1, .int lp_1), (0, .ref (ad 60 0))] → W p l e (headSpec wsX12_product ({ frames := 36, cells := 0, slots := 0, locals := 780 })).room s m ([.ref (ad 60 0)] : List Value).toArray below meth c H locs 0 0 (MQ below (va_Qi (fun (r : Int32) (u : fm_M) => fm_I nb ad u ∧ fm_same [60064, 60065, 60066, 60067] M u ∧ ((M.1 60 0 64).toInt ≤ (u.1 60 0 64).toInt ∧ (M.1 60 0 66).toInt ≤ (u.1 60 0 66).toInt ∧ (u.1 60 0 64).toInt ≤ (u.1 60 0 65).toInt)) (fun u t => fm_at D ad C nb u t.heap) (fm_A nb ad)) ([.ref (ad 60 0)] : List Value).toArray s 0 0 (fm_A nb ad)) (F0 m 5 ls []) := by
    intro n_lp
    induction n_lp with
    | zero => intro lp_1 M_lp hm_lp hv hI hE H locs hw hS ls hl; exact absurd hm_lp (Nat.not_lt_zero _)
    | succ n_lp ih_lp =>
      intro lp_1 M_lp hm_lp hv hI hE H locs hw hS ls hl
      refine lv_aload_n hx hb dX12_product_5 rfl (lv_at hl 1 rfl) ?_
      obtain ⟨q4, vq4, hQq4, hRq4⟩ := hc.2.2.2.2.1 (RX12, 401, "*", [42]) (by decide)
      refine va_ldcwS hx hb hown hRq4 dX12_product_6 ?_
      refine fm_ci (va_runV (As := [.ref q4]) (rest := []) ⟨hx, hb, hml, hown, hts⟩ (fc_X12_take l D ad C nb M_lp hI q4 vq4 1 (fun j => ([42] : List Int32).getD j 0) (by decide) (by omega)) (cwV 1 hts gX12_product_X12_take rfl rfl rfl (by decide +kernel) ⟨Nat.le_of_ble_eq_true rfl, Nat.le_of_ble_eq_true rfl⟩) (fm_preVS hc hw hS hQq4 kl_60 sh_60 rfl) rfl rfl hl.1 rfl (lv_room (Nat.le_of_ble_eq_true rfl)) dX12_product_9 ⟨by decide +kernel, by decide +kernel⟩) hS hc (fun r5 M6 H locs hr5 hw hS => ?_)
      obtain ⟨hI, hEM6, hr5⟩ := hr5
      have hE := hE.tr hEM6 (by decide)
      have mM6_60_63 : (M6.1 60 0 63).toInt = (M_lp.1 60 0 63).toInt := by rw [(hEM6 60 0 63 (by decide)).1]
      have mM6_60_66 : (M6.1 60 0 66).toInt = (M_lp.1 60 0 66).toInt := by rw [(hEM6 60 0 66 (by decide)).1]
      rcases hr5 with ⟨rfl, ahr5, bhr5⟩ | ⟨rfl, ahr5, bhr5⟩
      · refine fx_if_eq (tgt := 25) hx hb dX12_product_12 (by decide) zk_1 (fun c7 => by exfalso; omega) (fun c7 => ?_)
        refine lv_iload_n hx hb dX12_product_15 rfl (lv_at hl 0 rfl) ?_
        refine lv_aload_n hx hb dX12_product_16 rfl (lv_at hl 1 rfl) ?_
        have d8_63 := hI.bd (k := 0) bd_60_63
        have d8_64 := hI.bd (k := 0) bd_60_64
        have d8_65 := hI.bd (k := 0) bd_60_65
        have d8_66 := hI.bd (k := 0) bd_60_66
        refine fm_ci (va_runV (As := []) (rest := [.int lp_1]) ⟨hx, hb, hml, hown, hts⟩ (fc_X12_one_0 l D ad C nb M6 hI (by omega) (by omega)) (cwV 0 hts gX12_product_X12_one rfl rfl rfl (by decide +kernel) ⟨Nat.le_of_ble_eq_true rfl, Nat.le_of_ble_eq_true rfl⟩) (fm_preV hc hw hS kl_60 sh_60 rfl) rfl rfl hl.1 rfl (lv_room (Nat.le_of_ble_eq_true rfl)) dX12_product_17 ⟨by decide +kernel, by decide +kernel⟩) hS hc (fun r9 M10 H locs hr9 hw hS => ?_)
        obtain ⟨hI, hEM10, hr9⟩ := hr9
        have hE := hE.tr hEM10 (by decide)
        have mM10_60_63 : (M10.1 60 0 63).toInt = (M6.1 60 0 63).toInt := by rw [(hEM10 60 0 63 (by decide)).1]
        obtain ⟨ahr9, bhr9, dhr9⟩ := hr9
        refine fx_imulU hx hb dX12_product_20 (fun y11 ey11 => ?_)
        refine lv_istore_n (lv' := [(1, .int y11), (0, .ref (ad 60 0))]) hx hb dX12_product_21 rfl hl (by decide) rfl (fun ls hl => ?_)
        refine lv_goto (tgt := 5) hx hb dX12_product_22 (by decide) ?_
        exact ih_lp y11 M10 (by omega) (by omega) hI hE _ _ hw hS ls (lv_sub hl [0, 1] rfl)
      · refine fx_if_eq (tgt := 25) hx hb dX12_product_12 (by decide) zk_0 (fun c12 => ?_) (fun c12 => by exfalso; omega)
        refine lv_iload_n hx hb dX12_product_25 rfl (lv_at hl 0 rfl) ?_
        exact W.iret (v := lp_1) hx hb hr (fun t ht hW => ⟨⟨lp_1, M6, rfl, ⟨hI, hE, ⟨by omega, by omega, by omega⟩⟩, by show fm_at D ad C nb _ t.heap; rw [ht]; exact hw⟩, hS.F ht⟩) hS.2.2 dX12_product_26
  exact lp _ r2 M3 (Nat.lt_succ_self _) (by omega) hI hE _ _ hw hS ls (lv_sub hl [0, 1] rfl)
set_option maxHeartbeats 400000 in
set_option maxRecDepth 20000 in
theorem fc_X12_sum_0 (l : Launch) (D : va_G) (ad : Nat → Nat → Nat) (C : Nat → Nat → ClassId) (nb : Nat) (M : fm_M) (hI : fm_I nb ad M) (hft : (M.1 60 0 64).toInt ≤ (M.1 60 0 65).toInt) (hop : 0 ≤ (M.1 60 0 66).toInt) : Met l yX12_sum wsX12_sum ({ frames := 37, cells := 0, slots := 0, locals := 801 }) (va_Pc [.ref (ad 60 0)] (fm_P D ad C nb M)) (va_Qi (fun (r : Int32) (u : fm_M) => fm_I nb ad u ∧ fm_same [60064, 60065, 60066, 60067] M u ∧ ((M.1 60 0 64).toInt ≤ (u.1 60 0 64).toInt ∧ (M.1 60 0 66).toInt ≤ (u.1 60 0 66).toInt ∧ (u.1 60 0 64).toInt ≤ (u.1 60 0 65).toInt)) (fun u t => fm_at D ad C nb u t.heap) (fm_A nb ad)) 0 0 (fm_A nb ad) := by
  refine Met.ofW (cc := cX12_sum) (maxL := 3) (ret := (some .int)) (by decide) rfl ?_
  intro p e s m args below meth c s₁ B hml hv
  obtain ⟨rfl, hw, hc⟩ := hv
  have hx := B.exec
  have hb := B.bytes
  have hr := B.returns
  have hts := atoms_spec (ws := wsX12_sum) B.pre
  have hown : s.vm.findClass RX12 = some m.cls := findClass_of_methodNamed B.named
  have hS : va_S (fm_A nb ad) s.heap s.heap [] := va_S.rf
  have hE : fm_same [60064, 60065, 60066, 60067] M M := fm_same.rf
  have hl := lv_entry ([.ref (ad 60 0)]) (n := 3) (Nat.le_of_ble_eq_true rfl)
  rw [lg_entry_eq]
  generalize (lg_sl ([.ref (ad 60 0)]) ++ List.replicate (3 - (lg_sl ([.ref (ad 60 0)])).length) Slot.unset).toArray = ls at hl ⊢
  have hl : lv_has ls 3 [(0, .ref (ad 60 0))] := hl
  refine lv_aload_n hx hb dX12_sum_0 rfl (lv_at hl 0 rfl) ?_
  have d1_63 := hI.bd (k := 0) bd_60_63
  have d1_64 := hI.bd (k := 0) bd_60_64
  have d1_65 := hI.bd (k := 0) bd_60_65
  have d1_66 := hI.bd (k := 0) bd_60_66
  refine fm_ci (va_runV (As := []) (rest := []) ⟨hx, hb, hml, hown, hts⟩ (fc_X12_product_0 l D ad C nb M hI (by omega) (by omega)) (cwV 0 hts gX12_sum_X12_product rfl rfl rfl (by decide +kernel) ⟨Nat.le_of_ble_eq_true rfl, Nat.le_of_ble_eq_true rfl⟩) (fm_preV hc hw hS kl_60 sh_60 rfl) rfl rfl hl.1 rfl (lv_room (Nat.le_of_ble_eq_true rfl)) dX12_sum_1 ⟨by decide +kernel, by decide +kernel⟩) hS hc (fun r2 M3 H locs hr2 hw hS => ?_)
  obtain ⟨hI, hEM3, hr2⟩ := hr2
  have hE := hE.tr hEM3 (by decide)
  have mM3_60_63 : (M3.1 60 0 63).toInt = (M.1 60 0 63).toInt := by rw [(hEM3 60 0 63 (by decide)).1]
  obtain ⟨ahr2, bhr2, dhr2⟩ := hr2
  refine lv_istore_n (lv' := [(1, .int r2), (0, .ref (ad 60 0))]) hx hb dX12_sum_4 rfl hl (by decide) rfl (fun ls hl => ?_)
  refine lv_iconst (v := 1) hx hb dX12_sum_5 (by decide) ?_
  refine lv_istore_n (lv' := [(2, .int 1), (1, .int r2), (0, .ref (ad 60 0))]) hx hb dX12_sum_6 rfl hl (by decide) rfl (fun ls hl => ?_)
  have lp : ∀ (n_lp : Nat) (lp_2 : Int32) (lp_1 : Int32) (M_lp : fm_M), 2 * (161 - (M_lp.1 60 0 64).toInt).toNat + lp_2.toInt.toNat < n_lp → (0 ≤ lp_2.toInt ∧ lp_2.toInt ≤ 1) → ((M.1 60 0 64).toInt ≤ (M_lp.1 60 0 64).toInt ∧ (M.1 60 0 66).toInt ≤ (M_lp.1 60 0 66).toInt ∧ (M_lp.1 60 0 64).toInt ≤ (M_lp.1 60 0 65).toInt) → fm_I nb ad M_lp → fm_same [60064, 60065, 60066, 60067] M M_lp → ∀ (H : Heap) (locs : List Loc), fm_at D ad C nb M_lp H → va_S (fm_A nb ad) s.heap H locs → ∀ (ls : Array Slot), lv_has ls 3 [(2, .int lp_2), (1, .int lp_1), (0, .ref (ad 60 0))] → W p l e (headSpec wsX12_sum ({ frames := 37, cells := 0, slots := 0, locals := 801 })).room s m ([.ref (ad 60 0)] : List Value).toArray below meth c H locs 0 0 (MQ below (va_Qi (fun (r : Int32) (u : fm_M) => fm_I nb ad u ∧ fm_same [60064, 60065, 60066, 60067] M u ∧ ((M.1 60 0 64).toInt ≤ (u.1 60 0 64).toInt ∧ (M.1 60 0 66).toInt ≤ (u.1 60 0 66).toInt ∧ (u.1 60 0 64).toInt ≤ (u.1 60 0 65).toInt)) (fun u t => fm_at D ad C nb u t.heap) (fm_A nb ad)) ([.ref (ad 60 0)] : List Value).toArray s 0 0 (fm_A nb ad)) (F0 m 7 ls []) := by
    intro n_lp
    induction n_lp with
    | zero => intro lp_2 lp_1 M_lp hm_lp b_lp_2 hv hI hE H locs hw hS ls hl; exact absurd hm_lp (Nat.not_lt_zero _)
    | succ n_lp ih_lp =>
      intro lp_2 lp_1 M_lp hm_lp b_lp_2 hv hI hE H locs hw hS ls hl
      refine lv_iload_n hx hb dX12_sum_7 rfl (lv_at hl 0 rfl) ?_
      refine fx_if_eq (tgt := 56) hx hb dX12_sum_8 (by decide) rfl (fun c4 => ?_) (fun c4 => ?_)
      · refine lv_iload_n hx hb dX12_sum_56 rfl (lv_at hl 1 rfl) ?_
        exact W.iret (v := lp_1) hx hb hr (fun t ht hW => ⟨⟨lp_1, M_lp, rfl, ⟨hI, hE, ⟨by omega, by omega, by omega⟩⟩, by show fm_at D ad C nb _ t.heap; rw [ht]; exact hw⟩, hS.F ht⟩) hS.2.2 dX12_sum_57
      · refine lv_aload_n hx hb dX12_sum_11 rfl (lv_at hl 2 rfl) ?_
        obtain ⟨q5, vq5, hQq5, hRq5⟩ := hc.2.2.2.2.1 (RX12, 394, "+", [43]) (by decide)
        refine va_ldcwS hx hb hown hRq5 dX12_sum_12 ?_
        refine fm_ci (va_runV (As := [.ref q5]) (rest := []) ⟨hx, hb, hml, hown, hts⟩ (fc_X12_take l D ad C nb M_lp hI q5 vq5 1 (fun j => ([43] : List Int32).getD j 0) (by decide) (by omega)) (cwV 1 hts gX12_sum_X12_take rfl rfl rfl (by decide +kernel) ⟨Nat.le_of_ble_eq_true rfl, Nat.le_of_ble_eq_true rfl⟩) (fm_preVS hc hw hS hQq5 kl_60 sh_60 rfl) rfl rfl hl.1 rfl (lv_room (Nat.le_of_ble_eq_true rfl)) dX12_sum_15 ⟨by decide +kernel, by decide +kernel⟩) hS hc (fun r6 M7 H locs hr6 hw hS => ?_)
        obtain ⟨hI, hEM7, hr6⟩ := hr6
        have hE := hE.tr hEM7 (by decide)
        have mM7_60_63 : (M7.1 60 0 63).toInt = (M_lp.1 60 0 63).toInt := by rw [(hEM7 60 0 63 (by decide)).1]
        have mM7_60_66 : (M7.1 60 0 66).toInt = (M_lp.1 60 0 66).toInt := by rw [(hEM7 60 0 66 (by decide)).1]
        rcases hr6 with ⟨rfl, ahr6, bhr6⟩ | ⟨rfl, ahr6, bhr6⟩
        · refine fx_if_eq (tgt := 31) hx hb dX12_sum_18 (by decide) zk_1 (fun c8 => by exfalso; omega) (fun c8 => ?_)
          refine lv_iload_n hx hb dX12_sum_21 rfl (lv_at hl 1 rfl) ?_
          refine lv_aload_n hx hb dX12_sum_22 rfl (lv_at hl 2 rfl) ?_
          have d9_63 := hI.bd (k := 0) bd_60_63
          have d9_64 := hI.bd (k := 0) bd_60_64
          have d9_65 := hI.bd (k := 0) bd_60_65
          have d9_66 := hI.bd (k := 0) bd_60_66
          refine fm_ci (va_runV (As := []) (rest := [.int lp_1]) ⟨hx, hb, hml, hown, hts⟩ (fc_X12_product_0 l D ad C nb M7 hI (by omega) (by omega)) (cwV 0 hts gX12_sum_X12_product rfl rfl rfl (by decide +kernel) ⟨Nat.le_of_ble_eq_true rfl, Nat.le_of_ble_eq_true rfl⟩) (fm_preV hc hw hS kl_60 sh_60 rfl) rfl rfl hl.1 rfl (lv_room (Nat.le_of_ble_eq_true rfl)) dX12_sum_23 ⟨by decide +kernel, by decide +kernel⟩) hS hc (fun r10 M11 H locs hr10 hw hS => ?_)
          obtain ⟨hI, hEM11, hr10⟩ := hr10
          have hE := hE.tr hEM11 (by decide)
          have mM11_60_63 : (M11.1 60 0 63).toInt = (M7.1 60 0 63).toInt := by rw [(hEM11 60 0 63 (by decide)).1]
          obtain ⟨ahr10, bhr10, dhr10⟩ := hr10
          refine fx_iaddU hx hb dX12_sum_26 (fun y12 ey12 => ?_)
          refine lv_istore_n (lv' := [(1, .int y12), (2, .int lp_2), (0, .ref (ad 60 0))]) hx hb dX12_sum_27 rfl hl (by decide) rfl (fun ls hl => ?_)
          refine lv_goto (tgt := 7) hx hb dX12_sum_28 (by decide) ?_
          exact ih_lp lp_2 y12 M11 (by omega) (by omega) (by omega) hI hE _ _ hw hS ls (lv_sub hl [1, 0, 2] rfl)
        · refine fx_if_eq (tgt := 31) hx hb dX12_sum_18 (by decide) zk_0 (fun c13 => ?_) (fun c13 => by exfalso; omega)
          refine lv_aload_n hx hb dX12_sum_31 rfl (lv_at hl 2 rfl) ?_
          obtain ⟨q14, vq14, hQq14, hRq14⟩ := hc.2.2.2.2.1 (RX12, 396, "-", [45]) (by decide)
          refine va_ldcwS hx hb hown hRq14 dX12_sum_32 ?_
          refine fm_ci (va_runV (As := [.ref q14]) (rest := []) ⟨hx, hb, hml, hown, hts⟩ (fc_X12_take l D ad C nb M7 hI q14 vq14 1 (fun j => ([45] : List Int32).getD j 0) (by decide) (by omega)) (cwV 1 hts gX12_sum_X12_take rfl rfl rfl (by decide +kernel) ⟨Nat.le_of_ble_eq_true rfl, Nat.le_of_ble_eq_true rfl⟩) (fm_preVS hc hw hS hQq14 kl_60 sh_60 rfl) rfl rfl hl.1 rfl (lv_room (Nat.le_of_ble_eq_true rfl)) dX12_sum_35 ⟨by decide +kernel, by decide +kernel⟩) hS hc (fun r15 M16 H locs hr15 hw hS => ?_)
          obtain ⟨hI, hEM16, hr15⟩ := hr15
          have hE := hE.tr hEM16 (by decide)
          have mM16_60_63 : (M16.1 60 0 63).toInt = (M7.1 60 0 63).toInt := by rw [(hEM16 60 0 63 (by decide)).1]
          have mM16_60_66 : (M16.1 60 0 66).toInt = (M7.1 60 0 66).toInt := by rw [(hEM16 60 0 66 (by decide)).1]
          rcases hr15 with ⟨rfl, ahr15, bhr15⟩ | ⟨rfl, ahr15, bhr15⟩
          · refine fx_if_eq (tgt := 51) hx hb dX12_sum_38 (by decide) zk_1 (fun c17 => by exfalso; omega) (fun c17 => ?_)
            refine lv_iload_n hx hb dX12_sum_41 rfl (lv_at hl 1 rfl) ?_
            refine lv_aload_n hx hb dX12_sum_42 rfl (lv_at hl 2 rfl) ?_
            have d18_63 := hI.bd (k := 0) bd_60_63
            have d18_64 := hI.bd (k := 0) bd_60_64
            have d18_65 := hI.bd (k := 0) bd_60_65
            have d18_66 := hI.bd (k := 0) bd_60_66
            refine fm_ci (va_runV (As := []) (rest := [.int lp_1]) ⟨hx, hb, hml, hown, hts⟩ (fc_X12_product_0 l D ad C nb M16 hI (by omega) (by omega)) (cwV 0 hts gX12_sum_X12_product rfl rfl rfl (by decide +kernel) ⟨Nat.le_of_ble_eq_true rfl, Nat.le_of_ble_eq_true rfl⟩) (fm_preV hc hw hS kl_60 sh_60 rfl) rfl rfl hl.1 rfl (lv_room (Nat.le_of_ble_eq_true rfl)) dX12_sum_43 ⟨by decide +kernel, by decide +kernel⟩) hS hc (fun r19 M20 H locs hr19 hw hS => ?_)
            obtain ⟨hI, hEM20, hr19⟩ := hr19
            have hE := hE.tr hEM20 (by decide)
            have mM20_60_63 : (M20.1 60 0 63).toInt = (M16.1 60 0 63).toInt := by rw [(hEM20 60 0 63 (by decide)).1]
            obtain ⟨ahr19, bhr19, dhr19⟩ := hr19
            refine fx_isubU hx hb dX12_sum_46 (fun y21 ey21 => ?_)
            refine lv_istore_n (lv' := [(1, .int y21), (2, .int lp_2), (0, .ref (ad 60 0))]) hx hb dX12_sum_47 rfl hl (by decide) rfl (fun ls hl => ?_)
            refine lv_goto (tgt := 7) hx hb dX12_sum_48 (by decide) ?_
            exact ih_lp lp_2 y21 M20 (by omega) (by omega) (by omega) hI hE _ _ hw hS ls (lv_sub hl [1, 0, 2] rfl)
          · refine fx_if_eq (tgt := 51) hx hb dX12_sum_38 (by decide) zk_0 (fun c22 => ?_) (fun c22 => by exfalso; omega)
            refine lv_iconst (v := 0) hx hb dX12_sum_51 (by decide) ?_
            refine lv_istore_n (lv' := [(2, .int 0), (1, .int lp_1), (0, .ref (ad 60 0))]) hx hb dX12_sum_52 rfl hl (by decide) rfl (fun ls hl => ?_)
            refine lv_goto (tgt := 7) hx hb dX12_sum_53 (by decide) ?_
            exact ih_lp 0 lp_1 M16 (by have zlp_2 := zk_0; omega) (by decide) (by omega) hI hE _ _ hw hS ls (lv_sub hl [0, 1, 2] rfl)
  exact lp _ 1 r2 M3 (Nat.lt_succ_self _) (by decide) (by omega) hI hE _ _ hw hS ls (lv_sub hl [0, 1, 2] rfl)
set_option maxHeartbeats 400000 in
set_option maxRecDepth 20000 in
theorem fc_X12_turned_0 (l : Launch) (D : va_G) (ad : Nat → Nat → Nat) (C : Nat → Nat → ClassId) (nb : Nat) (M : fm_M) (hI : fm_I nb ad M) (hft : (M.1 60 0 64).toInt ≤ (M.1 60 0 65).toInt) (hop : 0 ≤ (M.1 60 0 66).toInt) : Met l yX12_turned wsX12_turned ({ frames := 38, cells := 0, slots := 0, locals := 823 }) (va_Pc [.ref (ad 60 0)] (fm_P D ad C nb M)) (va_Qi (fun (r : Int32) (u : fm_M) => fm_I nb ad u ∧ fm_same [60064, 60065, 60066, 60067] M u ∧ ((M.1 60 0 64).toInt ≤ (u.1 60 0 64).toInt ∧ (M.1 60 0 66).toInt ≤ (u.1 60 0 66).toInt ∧ (u.1 60 0 64).toInt ≤ (u.1 60 0 65).toInt)) (fun u t => fm_at D ad C nb u t.heap) (fm_A nb ad)) 0 0 (fm_A nb ad) := by
  refine Met.ofW (cc := cX12_turned) (maxL := 2) (ret := (some .int)) (by decide) rfl ?_
  intro p e s m args below meth c s₁ B hml hv
  obtain ⟨rfl, hw, hc⟩ := hv
  have hx := B.exec
  have hb := B.bytes
  have hr := B.returns
  have hts := atoms_spec (ws := wsX12_turned) B.pre
  have hown : s.vm.findClass RX12 = some m.cls := findClass_of_methodNamed B.named
  have hinX12 : ∀ w ∈ u_ws RX12 TX12 79, w ∈ wsX12_turned := fun w h => List.mem_cons_of_mem _ (iT_X12 w h)
  have hS : va_S (fm_A nb ad) s.heap s.heap [] := va_S.rf
  have hE : fm_same [60064, 60065, 60066, 60067] M M := fm_same.rf
  have hl := lv_entry ([.ref (ad 60 0)]) (n := 2) (Nat.le_of_ble_eq_true rfl)
  rw [lg_entry_eq]
  generalize (lg_sl ([.ref (ad 60 0)]) ++ List.replicate (2 - (lg_sl ([.ref (ad 60 0)])).length) Slot.unset).toArray = ls at hl ⊢
  have hl : lv_has ls 2 [(0, .ref (ad 60 0))] := hl
  refine lv_aload_n hx hb dX12_turned_0 rfl (lv_at hl 0 rfl) ?_
  refine fm_getI (a := 60) (j := 67) (T := TX12) (N := 79) hx hb hts hinX12 hown hc hw hI kl_60 sh_60 rfl (by decide) rfl bd_60_67 (hts (.fieldLink RX12 349 "RedTentModel" "fault" "I") (List.mem_cons_of_mem _ tw_5_187)) (fun _ h9 => h9) dX12_turned_1 (fun x1 ex1 bx1 => ?_)
  refine fx_if_lt (tgt := 9) hx hb dX12_turned_4 (by decide) rfl (fun c2 => ?_) (fun c2 => ?_)
  · refine lv_aload_n hx hb dX12_turned_9 rfl (lv_at hl 0 rfl) ?_
    obtain ⟨q3, vq3, hQq3, hRq3⟩ := hc.2.2.2.2.1 (RX12, 378, "not", [110, 111, 116]) (by decide)
    refine va_ldcwS hx hb hown hRq3 dX12_turned_10 ?_
    refine vp_callSi (va_Run.run (va_runV (As := [.ref q3]) (rest := []) ⟨hx, hb, hml, hown, hts⟩ (fc_X12_is l D ad C nb M hI q3 vq3 3 (fun j => ([110, 111, 116] : List Int32).getD j 0) (by decide)) (cwV 1 hts gX12_turned_X12_is rfl rfl rfl (by decide +kernel) ⟨Nat.le_of_ble_eq_true rfl, Nat.le_of_ble_eq_true rfl⟩) (fm_preVS hc hw hS hQq3 kl_60 sh_60 rfl) rfl rfl hl.1 rfl (lv_room (Nat.le_of_ble_eq_true rfl)) dX12_turned_13 ⟨by decide +kernel, by decide +kernel⟩)) (fun r4 hr4 => ?_)
    have ir4 := hr4.2
    have jr4 := hr4.1
    refine fx_if_eq (tgt := 53) hx hb dX12_turned_16 (by decide) rfl (fun c5 => ?_) (fun c5 => ?_)
    · refine lv_aload_n hx hb dX12_turned_53 rfl (lv_at hl 0 rfl) ?_
      have d6_63 := hI.bd (k := 0) bd_60_63
      have d6_64 := hI.bd (k := 0) bd_60_64
      have d6_65 := hI.bd (k := 0) bd_60_65
      have d6_66 := hI.bd (k := 0) bd_60_66
      refine fm_ci (va_runV (As := []) (rest := []) ⟨hx, hb, hml, hown, hts⟩ (fc_X12_sum_0 l D ad C nb M hI (by omega) (by omega)) (cwV 0 hts gX12_turned_X12_sum rfl rfl rfl (by decide +kernel) ⟨Nat.le_of_ble_eq_true rfl, Nat.le_of_ble_eq_true rfl⟩) (fm_preV hc hw hS kl_60 sh_60 rfl) rfl rfl hl.1 rfl (lv_room (Nat.le_of_ble_eq_true rfl)) dX12_turned_54 ⟨by decide +kernel, by decide +kernel⟩) hS hc (fun r7 M8 H locs hr7 hw hS => ?_)
      obtain ⟨hI, hEM8, hr7⟩ := hr7
      have hE := hE.tr hEM8 (by decide)
      have mM8_60_63 : (M8.1 60 0 63).toInt = (M.1 60 0 63).toInt := by rw [(hEM8 60 0 63 (by decide)).1]
      obtain ⟨ahr7, bhr7, dhr7⟩ := hr7
      refine lv_istore_n (lv' := [(1, .int r7), (0, .ref (ad 60 0))]) hx hb dX12_turned_57 rfl hl (by decide) rfl (fun ls hl => ?_)
      refine lv_aload_n hx hb dX12_turned_58 rfl (lv_at hl 1 rfl) ?_
      obtain ⟨q9, vq9, hQq9, hRq9⟩ := hc.2.2.2.2.1 (RX12, 387, "<", [60]) (by decide)
      refine va_ldcwS hx hb hown hRq9 dX12_turned_59 ?_
      refine fm_ci (va_runV (As := [.ref q9]) (rest := []) ⟨hx, hb, hml, hown, hts⟩ (fc_X12_take l D ad C nb M8 hI q9 vq9 1 (fun j => ([60] : List Int32).getD j 0) (by decide) (by omega)) (cwV 1 hts gX12_turned_X12_take rfl rfl rfl (by decide +kernel) ⟨Nat.le_of_ble_eq_true rfl, Nat.le_of_ble_eq_true rfl⟩) (fm_preVS hc hw hS hQq9 kl_60 sh_60 rfl) rfl rfl hl.1 rfl (lv_room (Nat.le_of_ble_eq_true rfl)) dX12_turned_62 ⟨by decide +kernel, by decide +kernel⟩) hS hc (fun r10 M11 H locs hr10 hw hS => ?_)
      obtain ⟨hI, hEM11, hr10⟩ := hr10
      have hE := hE.tr hEM11 (by decide)
      have mM11_60_63 : (M11.1 60 0 63).toInt = (M8.1 60 0 63).toInt := by rw [(hEM11 60 0 63 (by decide)).1]
      have mM11_60_66 : (M11.1 60 0 66).toInt = (M8.1 60 0 66).toInt := by rw [(hEM11 60 0 66 (by decide)).1]
      rcases hr10 with ⟨rfl, ahr10, bhr10⟩ | ⟨rfl, ahr10, bhr10⟩
      · refine fx_if_eq (tgt := 82) hx hb dX12_turned_65 (by decide) zk_1 (fun c12 => by exfalso; omega) (fun c12 => ?_)
        refine lv_iload_n hx hb dX12_turned_68 rfl (lv_at hl 0 rfl) ?_
        refine lv_aload_n hx hb dX12_turned_69 rfl (lv_at hl 1 rfl) ?_
        have d13_63 := hI.bd (k := 0) bd_60_63
        have d13_64 := hI.bd (k := 0) bd_60_64
        have d13_65 := hI.bd (k := 0) bd_60_65
        have d13_66 := hI.bd (k := 0) bd_60_66
        refine fm_ci (va_runV (As := []) (rest := [.int r7]) ⟨hx, hb, hml, hown, hts⟩ (fc_X12_sum_0 l D ad C nb M11 hI (by omega) (by omega)) (cwV 0 hts gX12_turned_X12_sum rfl rfl rfl (by decide +kernel) ⟨Nat.le_of_ble_eq_true rfl, Nat.le_of_ble_eq_true rfl⟩) (fm_preV hc hw hS kl_60 sh_60 rfl) rfl rfl hl.1 rfl (lv_room (Nat.le_of_ble_eq_true rfl)) dX12_turned_70 ⟨by decide +kernel, by decide +kernel⟩) hS hc (fun r14 M15 H locs hr14 hw hS => ?_)
        obtain ⟨hI, hEM15, hr14⟩ := hr14
        have hE := hE.tr hEM15 (by decide)
        have mM15_60_63 : (M15.1 60 0 63).toInt = (M11.1 60 0 63).toInt := by rw [(hEM15 60 0 63 (by decide)).1]
        obtain ⟨ahr14, bhr14, dhr14⟩ := hr14
        refine fx_icmp_ge (tgt := 80) hx hb dX12_turned_73 (by decide) rfl rfl (fun c16 => ?_) (fun c16 => ?_)
        · refine lv_iconst (v := 0) hx hb dX12_turned_80 (by decide) ?_
          exact W.iret (v := 0) hx hb hr (fun t ht hW => ⟨⟨0, M15, rfl, ⟨hI, hE, ⟨by omega, by omega, by omega⟩⟩, by show fm_at D ad C nb _ t.heap; rw [ht]; exact hw⟩, hS.F ht⟩) hS.2.2 dX12_turned_81
        · refine lv_iconst (v := 1) hx hb dX12_turned_76 (by decide) ?_
          refine lv_goto (tgt := 81) hx hb dX12_turned_77 (by decide) ?_
          exact W.iret (v := 1) hx hb hr (fun t ht hW => ⟨⟨1, M15, rfl, ⟨hI, hE, ⟨by omega, by omega, by omega⟩⟩, by show fm_at D ad C nb _ t.heap; rw [ht]; exact hw⟩, hS.F ht⟩) hS.2.2 dX12_turned_81
      · refine fx_if_eq (tgt := 82) hx hb dX12_turned_65 (by decide) zk_0 (fun c17 => ?_) (fun c17 => by exfalso; omega)
        refine lv_aload_n hx hb dX12_turned_82 rfl (lv_at hl 1 rfl) ?_
        obtain ⟨q18, vq18, hQq18, hRq18⟩ := hc.2.2.2.2.1 (RX12, 389, "=", [61]) (by decide)
        refine va_ldcwS hx hb hown hRq18 dX12_turned_83 ?_
        refine fm_ci (va_runV (As := [.ref q18]) (rest := []) ⟨hx, hb, hml, hown, hts⟩ (fc_X12_take l D ad C nb M11 hI q18 vq18 1 (fun j => ([61] : List Int32).getD j 0) (by decide) (by omega)) (cwV 1 hts gX12_turned_X12_take rfl rfl rfl (by decide +kernel) ⟨Nat.le_of_ble_eq_true rfl, Nat.le_of_ble_eq_true rfl⟩) (fm_preVS hc hw hS hQq18 kl_60 sh_60 rfl) rfl rfl hl.1 rfl (lv_room (Nat.le_of_ble_eq_true rfl)) dX12_turned_86 ⟨by decide +kernel, by decide +kernel⟩) hS hc (fun r19 M20 H locs hr19 hw hS => ?_)
        obtain ⟨hI, hEM20, hr19⟩ := hr19
        have hE := hE.tr hEM20 (by decide)
        have mM20_60_63 : (M20.1 60 0 63).toInt = (M11.1 60 0 63).toInt := by rw [(hEM20 60 0 63 (by decide)).1]
        have mM20_60_66 : (M20.1 60 0 66).toInt = (M11.1 60 0 66).toInt := by rw [(hEM20 60 0 66 (by decide)).1]
        rcases hr19 with ⟨rfl, ahr19, bhr19⟩ | ⟨rfl, ahr19, bhr19⟩
        · refine fx_if_eq (tgt := 106) hx hb dX12_turned_89 (by decide) zk_1 (fun c21 => by exfalso; omega) (fun c21 => ?_)
          refine lv_iload_n hx hb dX12_turned_92 rfl (lv_at hl 0 rfl) ?_
          refine lv_aload_n hx hb dX12_turned_93 rfl (lv_at hl 1 rfl) ?_
          have d22_63 := hI.bd (k := 0) bd_60_63
          have d22_64 := hI.bd (k := 0) bd_60_64
          have d22_65 := hI.bd (k := 0) bd_60_65
          have d22_66 := hI.bd (k := 0) bd_60_66
          refine fm_ci (va_runV (As := []) (rest := [.int r7]) ⟨hx, hb, hml, hown, hts⟩ (fc_X12_sum_0 l D ad C nb M20 hI (by omega) (by omega)) (cwV 0 hts gX12_turned_X12_sum rfl rfl rfl (by decide +kernel) ⟨Nat.le_of_ble_eq_true rfl, Nat.le_of_ble_eq_true rfl⟩) (fm_preV hc hw hS kl_60 sh_60 rfl) rfl rfl hl.1 rfl (lv_room (Nat.le_of_ble_eq_true rfl)) dX12_turned_94 ⟨by decide +kernel, by decide +kernel⟩) hS hc (fun r23 M24 H locs hr23 hw hS => ?_)
          obtain ⟨hI, hEM24, hr23⟩ := hr23
          have hE := hE.tr hEM24 (by decide)
          have mM24_60_63 : (M24.1 60 0 63).toInt = (M20.1 60 0 63).toInt := by rw [(hEM24 60 0 63 (by decide)).1]
          obtain ⟨ahr23, bhr23, dhr23⟩ := hr23
          refine fx_icmp_ne (tgt := 104) hx hb dX12_turned_97 (by decide) rfl rfl (fun c25 => ?_) (fun c25 => ?_)
          · refine lv_iconst (v := 0) hx hb dX12_turned_104 (by decide) ?_
            exact W.iret (v := 0) hx hb hr (fun t ht hW => ⟨⟨0, M24, rfl, ⟨hI, hE, ⟨by omega, by omega, by omega⟩⟩, by show fm_at D ad C nb _ t.heap; rw [ht]; exact hw⟩, hS.F ht⟩) hS.2.2 dX12_turned_105
          · refine lv_iconst (v := 1) hx hb dX12_turned_100 (by decide) ?_
            refine lv_goto (tgt := 105) hx hb dX12_turned_101 (by decide) ?_
            exact W.iret (v := 1) hx hb hr (fun t ht hW => ⟨⟨1, M24, rfl, ⟨hI, hE, ⟨by omega, by omega, by omega⟩⟩, by show fm_at D ad C nb _ t.heap; rw [ht]; exact hw⟩, hS.F ht⟩) hS.2.2 dX12_turned_105
        · refine fx_if_eq (tgt := 106) hx hb dX12_turned_89 (by decide) zk_0 (fun c26 => ?_) (fun c26 => by exfalso; omega)
          refine lv_iload_n hx hb dX12_turned_106 rfl (lv_at hl 0 rfl) ?_
          exact W.iret (v := r7) hx hb hr (fun t ht hW => ⟨⟨r7, M20, rfl, ⟨hI, hE, ⟨by omega, by omega, by omega⟩⟩, by show fm_at D ad C nb _ t.heap; rw [ht]; exact hw⟩, hS.F ht⟩) hS.2.2 dX12_turned_107
    · refine lv_aload_n hx hb dX12_turned_19 rfl (lv_at hl 0 rfl) ?_
      refine fm_ci (va_runV (As := []) (rest := []) ⟨hx, hb, hml, hown, hts⟩ (fc_X12_opens l D ad C nb M hI) (cwV 0 hts gX12_turned_X12_opens rfl rfl rfl (by decide +kernel) ⟨Nat.le_of_ble_eq_true rfl, Nat.le_of_ble_eq_true rfl⟩) (fm_preV hc hw hS kl_60 sh_60 rfl) rfl rfl hl.1 rfl (lv_room (Nat.le_of_ble_eq_true rfl)) dX12_turned_20 ⟨by decide +kernel, by decide +kernel⟩) hS hc (fun r27 M28 H locs hr27 hw hS => ?_)
      obtain ⟨hI, hEM28, hr27⟩ := hr27
      have hE := hE.tr hEM28 (by decide)
      have mM28_60_63 : (M28.1 60 0 63).toInt = (M.1 60 0 63).toInt := by rw [(hEM28 60 0 63 (by decide)).1]
      rcases hr27 with ⟨rfl, ahr27, bhr27, dhr27⟩ | ⟨rfl, ahr27, bhr27, dhr27⟩
      · refine fx_if_ne (tgt := 28) hx hb dX12_turned_23 (by decide) zk_1 (fun c29 => ?_) (fun c29 => by exfalso; omega)
        refine lv_aload_n hx hb dX12_turned_28 rfl (lv_at hl 0 rfl) ?_
        have d30_63 := hI.bd (k := 0) bd_60_63
        have d30_64 := hI.bd (k := 0) bd_60_64
        have d30_65 := hI.bd (k := 0) bd_60_65
        have d30_66 := hI.bd (k := 0) bd_60_66
        refine fm_ci (va_runV (As := []) (rest := []) ⟨hx, hb, hml, hown, hts⟩ (fc_X12_turned_1 l D ad C nb M28 hI (by omega) (by omega)) (cwV 0 hts gX12_turned_X12_turned rfl rfl rfl (by decide +kernel) ⟨Nat.le_of_ble_eq_true rfl, Nat.le_of_ble_eq_true rfl⟩) (fm_preV hc hw hS kl_60 sh_60 rfl) rfl rfl hl.1 rfl (lv_room (Nat.le_of_ble_eq_true rfl)) dX12_turned_29 ⟨by decide +kernel, by decide +kernel⟩) hS hc (fun r31 M32 H locs hr31 hw hS => ?_)
        obtain ⟨hI, hEM32, hr31⟩ := hr31
        have hE := hE.tr hEM32 (by decide)
        have mM32_60_63 : (M32.1 60 0 63).toInt = (M28.1 60 0 63).toInt := by rw [(hEM32 60 0 63 (by decide)).1]
        obtain ⟨ahr31, bhr31, dhr31⟩ := hr31
        refine lv_istore_n (lv' := [(1, .int r31), (0, .ref (ad 60 0))]) hx hb dX12_turned_32 rfl hl (by decide) rfl (fun ls hl => ?_)
        refine lv_aload_n hx hb dX12_turned_33 rfl (lv_at hl 1 rfl) ?_
        refine lv_dup hx hb dX12_turned_34 rfl ?_
        refine fm_getI (a := 60) (j := 66) (T := TX12) (N := 79) hx hb hts hinX12 hown hc hw hI kl_60 sh_60 rfl (by decide) rfl bd_60_66 (hts (.fieldLink RX12 372 "RedTentModel" "open" "I") (List.mem_cons_of_mem _ tw_5_186)) (fun _ h9 => h9) dX12_turned_35 (fun x33 ex33 bx33 => ?_)
        have wx33 : x33.toInt = (M32.1 60 0 66).toInt := by rw [ex33]
        refine lv_iconst (v := 1) hx hb dX12_turned_38 (by decide) ?_
        refine fx_isub hx hb dX12_turned_39 rfl zk_1 (by omega) (fun y34 ey34 ty34 => ?_)
        refine fm_putI (a := 60) (j := 66) (T := TX12) (N := 79) hx hb hts hinX12 tyX12 tyX12_ok nmX12 hown hc hw hI hE hS kl_60 sh_60 od_60 rfl (by decide) rfl bd_60_66 (hts (.fieldLink RX12 372 "RedTentModel" "open" "I") (List.mem_cons_of_mem _ tw_5_186)) (fun _ h9 => h9) rfl (by decide +kernel) (by omega) (by decide) (by decide) dX12_turned_40 (fun M35 H locs eM35 hw hI hE hS => ?_)
        have mM35_60_63 : (M35.1 60 0 63).toInt = (M32.1 60 0 63).toInt := by rw [eM35, fm_wI_nj (fun z => absurd z.2.2 (by decide))]
        have mM35_60_64 : (M35.1 60 0 64).toInt = (M32.1 60 0 64).toInt := by rw [eM35, fm_wI_nj (fun z => absurd z.2.2 (by decide))]
        have mM35_60_65 : (M35.1 60 0 65).toInt = (M32.1 60 0 65).toInt := by rw [eM35, fm_wI_nj (fun z => absurd z.2.2 (by decide))]
        have mM35_60_66 : (M35.1 60 0 66).toInt = y34.toInt := by rw [eM35, fm_wI_at]
        refine lv_iload_n hx hb dX12_turned_43 rfl (lv_at hl 0 rfl) ?_
        refine fx_if_ne (tgt := 51) hx hb dX12_turned_44 (by decide) rfl (fun c36 => ?_) (fun c36 => ?_)
        · refine lv_iconst (v := 0) hx hb dX12_turned_51 (by decide) ?_
          exact W.iret (v := 0) hx hb hr (fun t ht hW => ⟨⟨0, M35, rfl, ⟨hI, hE, ⟨by omega, by omega, by omega⟩⟩, by show fm_at D ad C nb _ t.heap; rw [ht]; exact hw⟩, hS.F ht⟩) hS.2.2 dX12_turned_52
        · refine lv_iconst (v := 1) hx hb dX12_turned_47 (by decide) ?_
          refine lv_goto (tgt := 52) hx hb dX12_turned_48 (by decide) ?_
          exact W.iret (v := 1) hx hb hr (fun t ht hW => ⟨⟨1, M35, rfl, ⟨hI, hE, ⟨by omega, by omega, by omega⟩⟩, by show fm_at D ad C nb _ t.heap; rw [ht]; exact hw⟩, hS.F ht⟩) hS.2.2 dX12_turned_52
      · refine fx_if_ne (tgt := 28) hx hb dX12_turned_23 (by decide) zk_0 (fun c37 => by exfalso; omega) (fun c37 => ?_)
        refine lv_iconst (v := 0) hx hb dX12_turned_26 (by decide) ?_
        exact W.iret (v := 0) hx hb hr (fun t ht hW => ⟨⟨0, M28, rfl, ⟨hI, hE, ⟨by omega, by omega, by omega⟩⟩, by show fm_at D ad C nb _ t.heap; rw [ht]; exact hw⟩, hS.F ht⟩) hS.2.2 dX12_turned_27
  · refine lv_iconst (v := 0) hx hb dX12_turned_7 (by decide) ?_
    exact W.iret (v := 0) hx hb hr (fun t ht hW => ⟨⟨0, M, rfl, ⟨hI, hE, ⟨by omega, by omega, by omega⟩⟩, by show fm_at D ad C nb _ t.heap; rw [ht]; exact hw⟩, hS.F ht⟩) hS.2.2 dX12_turned_8
set_option maxHeartbeats 400000 in
set_option maxRecDepth 20000 in
theorem fc_X12_both_0 (l : Launch) (D : va_G) (ad : Nat → Nat → Nat) (C : Nat → Nat → ClassId) (nb : Nat) (M : fm_M) (hI : fm_I nb ad M) (hft : (M.1 60 0 64).toInt ≤ (M.1 60 0 65).toInt) (hop : 0 ≤ (M.1 60 0 66).toInt) : Met l yX12_both wsX12_both ({ frames := 39, cells := 0, slots := 0, locals := 844 }) (va_Pc [.ref (ad 60 0)] (fm_P D ad C nb M)) (va_Qi (fun (r : Int32) (u : fm_M) => fm_I nb ad u ∧ fm_same [60064, 60065, 60066, 60067] M u ∧ ((M.1 60 0 64).toInt ≤ (u.1 60 0 64).toInt ∧ (M.1 60 0 66).toInt ≤ (u.1 60 0 66).toInt ∧ (u.1 60 0 64).toInt ≤ (u.1 60 0 65).toInt)) (fun u t => fm_at D ad C nb u t.heap) (fm_A nb ad)) 0 0 (fm_A nb ad) := by
  refine Met.ofW (cc := cX12_both) (maxL := 3) (ret := (some .int)) (by decide) rfl ?_
  intro p e s m args below meth c s₁ B hml hv
  obtain ⟨rfl, hw, hc⟩ := hv
  have hx := B.exec
  have hb := B.bytes
  have hr := B.returns
  have hts := atoms_spec (ws := wsX12_both) B.pre
  have hown : s.vm.findClass RX12 = some m.cls := findClass_of_methodNamed B.named
  have hS : va_S (fm_A nb ad) s.heap s.heap [] := va_S.rf
  have hE : fm_same [60064, 60065, 60066, 60067] M M := fm_same.rf
  have hl := lv_entry ([.ref (ad 60 0)]) (n := 3) (Nat.le_of_ble_eq_true rfl)
  rw [lg_entry_eq]
  generalize (lg_sl ([.ref (ad 60 0)]) ++ List.replicate (3 - (lg_sl ([.ref (ad 60 0)])).length) Slot.unset).toArray = ls at hl ⊢
  have hl : lv_has ls 3 [(0, .ref (ad 60 0))] := hl
  refine lv_aload_n hx hb dX12_both_0 rfl (lv_at hl 0 rfl) ?_
  have d1_63 := hI.bd (k := 0) bd_60_63
  have d1_64 := hI.bd (k := 0) bd_60_64
  have d1_65 := hI.bd (k := 0) bd_60_65
  have d1_66 := hI.bd (k := 0) bd_60_66
  refine fm_ci (va_runV (As := []) (rest := []) ⟨hx, hb, hml, hown, hts⟩ (fc_X12_turned_0 l D ad C nb M hI (by omega) (by omega)) (cwV 0 hts gX12_both_X12_turned rfl rfl rfl (by decide +kernel) ⟨Nat.le_of_ble_eq_true rfl, Nat.le_of_ble_eq_true rfl⟩) (fm_preV hc hw hS kl_60 sh_60 rfl) rfl rfl hl.1 rfl (lv_room (Nat.le_of_ble_eq_true rfl)) dX12_both_1 ⟨by decide +kernel, by decide +kernel⟩) hS hc (fun r2 M3 H locs hr2 hw hS => ?_)
  obtain ⟨hI, hEM3, hr2⟩ := hr2
  have hE := hE.tr hEM3 (by decide)
  have mM3_60_63 : (M3.1 60 0 63).toInt = (M.1 60 0 63).toInt := by rw [(hEM3 60 0 63 (by decide)).1]
  obtain ⟨ahr2, bhr2, dhr2⟩ := hr2
  refine lv_istore_n (lv' := [(1, .int r2), (0, .ref (ad 60 0))]) hx hb dX12_both_4 rfl hl (by decide) rfl (fun ls hl => ?_)
  have lp : ∀ (n_lp : Nat) (lp_1 : Int32) (M_lp : fm_M), (161 - (M_lp.1 60 0 64).toInt).toNat < n_lp → ((M.1 60 0 64).toInt ≤ (M_lp.1 60 0 64).toInt ∧ (M.1 60 0 66).toInt ≤ (M_lp.1 60 0 66).toInt ∧ (M_lp.1 60 0 64).toInt ≤ (M_lp.1 60 0 65).toInt) → fm_I nb ad M_lp → fm_same [60064, 60065, 60066, 60067] M M_lp → ∀ (H : Heap) (locs : List Loc), fm_at D ad C nb M_lp H → va_S (fm_A nb ad) s.heap H locs → ∀ (ls : Array Slot), lv_has ls 3 [(1, .int lp_1), (0, .ref (ad 60 0))] → W p l e (headSpec wsX12_both ({ frames := 39, cells := 0, slots := 0, locals := 844 })).room s m ([.ref (ad 60 0)] : List Value).toArray below meth c H locs 0 0 (MQ below (va_Qi (fun (r : Int32) (u : fm_M) => fm_I nb ad u ∧ fm_same [60064, 60065, 60066, 60067] M u ∧ ((M.1 60 0 64).toInt ≤ (u.1 60 0 64).toInt ∧ (M.1 60 0 66).toInt ≤ (u.1 60 0 66).toInt ∧ (u.1 60 0 64).toInt ≤ (u.1 60 0 65).toInt)) (fun u t => fm_at D ad C nb u t.heap) (fm_A nb ad)) ([.ref (ad 60 0)] : List Value).toArray s 0 0 (fm_A nb ad)) (F0 m 5 ls []) := by
    intro n_lp
    induction n_lp with
    | zero => intro lp_1 M_lp hm_lp hv hI hE H locs hw hS ls hl; exact absurd hm_lp (Nat.not_lt_zero _)
    | succ n_lp ih_lp =>
      intro lp_1 M_lp hm_lp hv hI hE H locs hw hS ls hl
      refine lv_aload_n hx hb dX12_both_5 rfl (lv_at hl 1 rfl) ?_
      obtain ⟨q4, vq4, hQq4, hRq4⟩ := hc.2.2.2.2.1 (RX12, 370, "and", [97, 110, 100]) (by decide)
      refine va_ldcwS hx hb hown hRq4 dX12_both_6 ?_
      refine fm_ci (va_runV (As := [.ref q4]) (rest := []) ⟨hx, hb, hml, hown, hts⟩ (fc_X12_take l D ad C nb M_lp hI q4 vq4 3 (fun j => ([97, 110, 100] : List Int32).getD j 0) (by decide) (by omega)) (cwV 1 hts gX12_both_X12_take rfl rfl rfl (by decide +kernel) ⟨Nat.le_of_ble_eq_true rfl, Nat.le_of_ble_eq_true rfl⟩) (fm_preVS hc hw hS hQq4 kl_60 sh_60 rfl) rfl rfl hl.1 rfl (lv_room (Nat.le_of_ble_eq_true rfl)) dX12_both_9 ⟨by decide +kernel, by decide +kernel⟩) hS hc (fun r5 M6 H locs hr5 hw hS => ?_)
      obtain ⟨hI, hEM6, hr5⟩ := hr5
      have hE := hE.tr hEM6 (by decide)
      have mM6_60_63 : (M6.1 60 0 63).toInt = (M_lp.1 60 0 63).toInt := by rw [(hEM6 60 0 63 (by decide)).1]
      have mM6_60_66 : (M6.1 60 0 66).toInt = (M_lp.1 60 0 66).toInt := by rw [(hEM6 60 0 66 (by decide)).1]
      rcases hr5 with ⟨rfl, ahr5, bhr5⟩ | ⟨rfl, ahr5, bhr5⟩
      · refine fx_if_eq (tgt := 37) hx hb dX12_both_12 (by decide) zk_1 (fun c7 => by exfalso; omega) (fun c7 => ?_)
        refine lv_aload_n hx hb dX12_both_15 rfl (lv_at hl 1 rfl) ?_
        have d8_63 := hI.bd (k := 0) bd_60_63
        have d8_64 := hI.bd (k := 0) bd_60_64
        have d8_65 := hI.bd (k := 0) bd_60_65
        have d8_66 := hI.bd (k := 0) bd_60_66
        refine fm_ci (va_runV (As := []) (rest := []) ⟨hx, hb, hml, hown, hts⟩ (fc_X12_turned_0 l D ad C nb M6 hI (by omega) (by omega)) (cwV 0 hts gX12_both_X12_turned rfl rfl rfl (by decide +kernel) ⟨Nat.le_of_ble_eq_true rfl, Nat.le_of_ble_eq_true rfl⟩) (fm_preV hc hw hS kl_60 sh_60 rfl) rfl rfl hl.1 rfl (lv_room (Nat.le_of_ble_eq_true rfl)) dX12_both_16 ⟨by decide +kernel, by decide +kernel⟩) hS hc (fun r9 M10 H locs hr9 hw hS => ?_)
        obtain ⟨hI, hEM10, hr9⟩ := hr9
        have hE := hE.tr hEM10 (by decide)
        have mM10_60_63 : (M10.1 60 0 63).toInt = (M6.1 60 0 63).toInt := by rw [(hEM10 60 0 63 (by decide)).1]
        obtain ⟨ahr9, bhr9, dhr9⟩ := hr9
        refine lv_istore_n (lv' := [(2, .int r9), (1, .int lp_1), (0, .ref (ad 60 0))]) hx hb dX12_both_19 rfl hl (by decide) rfl (fun ls hl => ?_)
        refine lv_iload_n hx hb dX12_both_20 rfl (lv_at hl 1 rfl) ?_
        refine fx_if_eq (tgt := 32) hx hb dX12_both_21 (by decide) rfl (fun c11 => ?_) (fun c11 => ?_)
        · refine lv_iconst (v := 0) hx hb dX12_both_32 (by decide) ?_
          refine lv_istore_n (lv' := [(1, .int 0), (2, .int r9), (0, .ref (ad 60 0))]) hx hb dX12_both_33 rfl hl (by decide) rfl (fun ls hl => ?_)
          refine lv_goto (tgt := 5) hx hb dX12_both_34 (by decide) ?_
          exact ih_lp 0 M10 (by omega) (by omega) hI hE _ _ hw hS ls (lv_sub hl [0, 2] rfl)
        · refine lv_iload_n hx hb dX12_both_24 rfl (lv_at hl 0 rfl) ?_
          refine fx_if_eq (tgt := 32) hx hb dX12_both_25 (by decide) rfl (fun c12 => ?_) (fun c12 => ?_)
          · refine lv_iconst (v := 0) hx hb dX12_both_32 (by decide) ?_
            refine lv_istore_n (lv' := [(1, .int 0), (2, .int r9), (0, .ref (ad 60 0))]) hx hb dX12_both_33 rfl hl (by decide) rfl (fun ls hl => ?_)
            refine lv_goto (tgt := 5) hx hb dX12_both_34 (by decide) ?_
            exact ih_lp 0 M10 (by omega) (by omega) hI hE _ _ hw hS ls (lv_sub hl [0, 2] rfl)
          · refine lv_iconst (v := 1) hx hb dX12_both_28 (by decide) ?_
            refine lv_goto (tgt := 33) hx hb dX12_both_29 (by decide) ?_
            refine lv_istore_n (lv' := [(1, .int 1), (2, .int r9), (0, .ref (ad 60 0))]) hx hb dX12_both_33 rfl hl (by decide) rfl (fun ls hl => ?_)
            refine lv_goto (tgt := 5) hx hb dX12_both_34 (by decide) ?_
            exact ih_lp 1 M10 (by omega) (by omega) hI hE _ _ hw hS ls (lv_sub hl [0, 2] rfl)
      · refine fx_if_eq (tgt := 37) hx hb dX12_both_12 (by decide) zk_0 (fun c13 => ?_) (fun c13 => by exfalso; omega)
        refine lv_iload_n hx hb dX12_both_37 rfl (lv_at hl 0 rfl) ?_
        exact W.iret (v := lp_1) hx hb hr (fun t ht hW => ⟨⟨lp_1, M6, rfl, ⟨hI, hE, ⟨by omega, by omega, by omega⟩⟩, by show fm_at D ad C nb _ t.heap; rw [ht]; exact hw⟩, hS.F ht⟩) hS.2.2 dX12_both_38
  exact lp _ r2 M3 (Nat.lt_succ_self _) (by omega) hI hE _ _ hw hS ls (lv_sub hl [0, 1] rfl)
set_option maxHeartbeats 400000 in
set_option maxRecDepth 20000 in
theorem fc_X12_either_0 (l : Launch) (D : va_G) (ad : Nat → Nat → Nat) (C : Nat → Nat → ClassId) (nb : Nat) (M : fm_M) (hI : fm_I nb ad M) (hft : (M.1 60 0 64).toInt ≤ (M.1 60 0 65).toInt) (hop : 0 ≤ (M.1 60 0 66).toInt) : Met l yX12_either wsX12_either ({ frames := 40, cells := 0, slots := 0, locals := 866 }) (va_Pc [.ref (ad 60 0)] (fm_P D ad C nb M)) (va_Qi (fun (r : Int32) (u : fm_M) => fm_I nb ad u ∧ fm_same [60064, 60065, 60066, 60067] M u ∧ ((M.1 60 0 64).toInt ≤ (u.1 60 0 64).toInt ∧ (M.1 60 0 66).toInt ≤ (u.1 60 0 66).toInt ∧ (u.1 60 0 64).toInt ≤ (u.1 60 0 65).toInt)) (fun u t => fm_at D ad C nb u t.heap) (fm_A nb ad)) 0 0 (fm_A nb ad) := by
  refine Met.ofW (cc := cX12_either) (maxL := 3) (ret := (some .int)) (by decide) rfl ?_
  intro p e s m args below meth c s₁ B hml hv
  obtain ⟨rfl, hw, hc⟩ := hv
  have hx := B.exec
  have hb := B.bytes
  have hr := B.returns
  have hts := atoms_spec (ws := wsX12_either) B.pre
  have hown : s.vm.findClass RX12 = some m.cls := findClass_of_methodNamed B.named
  have hS : va_S (fm_A nb ad) s.heap s.heap [] := va_S.rf
  have hE : fm_same [60064, 60065, 60066, 60067] M M := fm_same.rf
  have hl := lv_entry ([.ref (ad 60 0)]) (n := 3) (Nat.le_of_ble_eq_true rfl)
  rw [lg_entry_eq]
  generalize (lg_sl ([.ref (ad 60 0)]) ++ List.replicate (3 - (lg_sl ([.ref (ad 60 0)])).length) Slot.unset).toArray = ls at hl ⊢
  have hl : lv_has ls 3 [(0, .ref (ad 60 0))] := hl
  refine lv_aload_n hx hb dX12_either_0 rfl (lv_at hl 0 rfl) ?_
  have d1_63 := hI.bd (k := 0) bd_60_63
  have d1_64 := hI.bd (k := 0) bd_60_64
  have d1_65 := hI.bd (k := 0) bd_60_65
  have d1_66 := hI.bd (k := 0) bd_60_66
  refine fm_ci (va_runV (As := []) (rest := []) ⟨hx, hb, hml, hown, hts⟩ (fc_X12_both_0 l D ad C nb M hI (by omega) (by omega)) (cwV 0 hts gX12_either_X12_both rfl rfl rfl (by decide +kernel) ⟨Nat.le_of_ble_eq_true rfl, Nat.le_of_ble_eq_true rfl⟩) (fm_preV hc hw hS kl_60 sh_60 rfl) rfl rfl hl.1 rfl (lv_room (Nat.le_of_ble_eq_true rfl)) dX12_either_1 ⟨by decide +kernel, by decide +kernel⟩) hS hc (fun r2 M3 H locs hr2 hw hS => ?_)
  obtain ⟨hI, hEM3, hr2⟩ := hr2
  have hE := hE.tr hEM3 (by decide)
  have mM3_60_63 : (M3.1 60 0 63).toInt = (M.1 60 0 63).toInt := by rw [(hEM3 60 0 63 (by decide)).1]
  obtain ⟨ahr2, bhr2, dhr2⟩ := hr2
  refine lv_istore_n (lv' := [(1, .int r2), (0, .ref (ad 60 0))]) hx hb dX12_either_4 rfl hl (by decide) rfl (fun ls hl => ?_)
  have lp : ∀ (n_lp : Nat) (lp_1 : Int32) (M_lp : fm_M), (161 - (M_lp.1 60 0 64).toInt).toNat < n_lp → ((M.1 60 0 64).toInt ≤ (M_lp.1 60 0 64).toInt ∧ (M.1 60 0 66).toInt ≤ (M_lp.1 60 0 66).toInt ∧ (M_lp.1 60 0 64).toInt ≤ (M_lp.1 60 0 65).toInt) → fm_I nb ad M_lp → fm_same [60064, 60065, 60066, 60067] M M_lp → ∀ (H : Heap) (locs : List Loc), fm_at D ad C nb M_lp H → va_S (fm_A nb ad) s.heap H locs → ∀ (ls : Array Slot), lv_has ls 3 [(1, .int lp_1), (0, .ref (ad 60 0))] → W p l e (headSpec wsX12_either ({ frames := 40, cells := 0, slots := 0, locals := 866 })).room s m ([.ref (ad 60 0)] : List Value).toArray below meth c H locs 0 0 (MQ below (va_Qi (fun (r : Int32) (u : fm_M) => fm_I nb ad u ∧ fm_same [60064, 60065, 60066, 60067] M u ∧ ((M.1 60 0 64).toInt ≤ (u.1 60 0 64).toInt ∧ (M.1 60 0 66).toInt ≤ (u.1 60 0 66).toInt ∧ (u.1 60 0 64).toInt ≤ (u.1 60 0 65).toInt)) (fun u t => fm_at D ad C nb u t.heap) (fm_A nb ad)) ([.ref (ad 60 0)] : List Value).toArray s 0 0 (fm_A nb ad)) (F0 m 5 ls []) := by
    intro n_lp
    induction n_lp with
    | zero => intro lp_1 M_lp hm_lp hv hI hE H locs hw hS ls hl; exact absurd hm_lp (Nat.not_lt_zero _)
    | succ n_lp ih_lp =>
      intro lp_1 M_lp hm_lp hv hI hE H locs hw hS ls hl
      refine lv_aload_n hx hb dX12_either_5 rfl (lv_at hl 1 rfl) ?_
      obtain ⟨q4, vq4, hQq4, hRq4⟩ := hc.2.2.2.2.1 (RX12, 362, "or", [111, 114]) (by decide)
      refine va_ldcwS hx hb hown hRq4 dX12_either_6 ?_
      refine fm_ci (va_runV (As := [.ref q4]) (rest := []) ⟨hx, hb, hml, hown, hts⟩ (fc_X12_take l D ad C nb M_lp hI q4 vq4 2 (fun j => ([111, 114] : List Int32).getD j 0) (by decide) (by omega)) (cwV 1 hts gX12_either_X12_take rfl rfl rfl (by decide +kernel) ⟨Nat.le_of_ble_eq_true rfl, Nat.le_of_ble_eq_true rfl⟩) (fm_preVS hc hw hS hQq4 kl_60 sh_60 rfl) rfl rfl hl.1 rfl (lv_room (Nat.le_of_ble_eq_true rfl)) dX12_either_9 ⟨by decide +kernel, by decide +kernel⟩) hS hc (fun r5 M6 H locs hr5 hw hS => ?_)
      obtain ⟨hI, hEM6, hr5⟩ := hr5
      have hE := hE.tr hEM6 (by decide)
      have mM6_60_63 : (M6.1 60 0 63).toInt = (M_lp.1 60 0 63).toInt := by rw [(hEM6 60 0 63 (by decide)).1]
      have mM6_60_66 : (M6.1 60 0 66).toInt = (M_lp.1 60 0 66).toInt := by rw [(hEM6 60 0 66 (by decide)).1]
      rcases hr5 with ⟨rfl, ahr5, bhr5⟩ | ⟨rfl, ahr5, bhr5⟩
      · refine fx_if_eq (tgt := 37) hx hb dX12_either_12 (by decide) zk_1 (fun c7 => by exfalso; omega) (fun c7 => ?_)
        refine lv_aload_n hx hb dX12_either_15 rfl (lv_at hl 1 rfl) ?_
        have d8_63 := hI.bd (k := 0) bd_60_63
        have d8_64 := hI.bd (k := 0) bd_60_64
        have d8_65 := hI.bd (k := 0) bd_60_65
        have d8_66 := hI.bd (k := 0) bd_60_66
        refine fm_ci (va_runV (As := []) (rest := []) ⟨hx, hb, hml, hown, hts⟩ (fc_X12_both_0 l D ad C nb M6 hI (by omega) (by omega)) (cwV 0 hts gX12_either_X12_both rfl rfl rfl (by decide +kernel) ⟨Nat.le_of_ble_eq_true rfl, Nat.le_of_ble_eq_true rfl⟩) (fm_preV hc hw hS kl_60 sh_60 rfl) rfl rfl hl.1 rfl (lv_room (Nat.le_of_ble_eq_true rfl)) dX12_either_16 ⟨by decide +kernel, by decide +kernel⟩) hS hc (fun r9 M10 H locs hr9 hw hS => ?_)
        obtain ⟨hI, hEM10, hr9⟩ := hr9
        have hE := hE.tr hEM10 (by decide)
        have mM10_60_63 : (M10.1 60 0 63).toInt = (M6.1 60 0 63).toInt := by rw [(hEM10 60 0 63 (by decide)).1]
        obtain ⟨ahr9, bhr9, dhr9⟩ := hr9
        refine lv_istore_n (lv' := [(2, .int r9), (1, .int lp_1), (0, .ref (ad 60 0))]) hx hb dX12_either_19 rfl hl (by decide) rfl (fun ls hl => ?_)
        refine lv_iload_n hx hb dX12_either_20 rfl (lv_at hl 1 rfl) ?_
        refine fx_if_ne (tgt := 28) hx hb dX12_either_21 (by decide) rfl (fun c11 => ?_) (fun c11 => ?_)
        · refine lv_iconst (v := 1) hx hb dX12_either_28 (by decide) ?_
          refine lv_goto (tgt := 33) hx hb dX12_either_29 (by decide) ?_
          refine lv_istore_n (lv' := [(1, .int 1), (2, .int r9), (0, .ref (ad 60 0))]) hx hb dX12_either_33 rfl hl (by decide) rfl (fun ls hl => ?_)
          refine lv_goto (tgt := 5) hx hb dX12_either_34 (by decide) ?_
          exact ih_lp 1 M10 (by omega) (by omega) hI hE _ _ hw hS ls (lv_sub hl [0, 2] rfl)
        · refine lv_iload_n hx hb dX12_either_24 rfl (lv_at hl 0 rfl) ?_
          refine fx_if_eq (tgt := 32) hx hb dX12_either_25 (by decide) rfl (fun c12 => ?_) (fun c12 => ?_)
          · refine lv_iconst (v := 0) hx hb dX12_either_32 (by decide) ?_
            refine lv_istore_n (lv' := [(1, .int 0), (2, .int r9), (0, .ref (ad 60 0))]) hx hb dX12_either_33 rfl hl (by decide) rfl (fun ls hl => ?_)
            refine lv_goto (tgt := 5) hx hb dX12_either_34 (by decide) ?_
            exact ih_lp 0 M10 (by omega) (by omega) hI hE _ _ hw hS ls (lv_sub hl [0, 2] rfl)
          · refine lv_iconst (v := 1) hx hb dX12_either_28 (by decide) ?_
            refine lv_goto (tgt := 33) hx hb dX12_either_29 (by decide) ?_
            refine lv_istore_n (lv' := [(1, .int 1), (2, .int r9), (0, .ref (ad 60 0))]) hx hb dX12_either_33 rfl hl (by decide) rfl (fun ls hl => ?_)
            refine lv_goto (tgt := 5) hx hb dX12_either_34 (by decide) ?_
            exact ih_lp 1 M10 (by omega) (by omega) hI hE _ _ hw hS ls (lv_sub hl [0, 2] rfl)
      · refine fx_if_eq (tgt := 37) hx hb dX12_either_12 (by decide) zk_0 (fun c13 => ?_) (fun c13 => by exfalso; omega)
        refine lv_iload_n hx hb dX12_either_37 rfl (lv_at hl 0 rfl) ?_
        exact W.iret (v := lp_1) hx hb hr (fun t ht hW => ⟨⟨lp_1, M6, rfl, ⟨hI, hE, ⟨by omega, by omega, by omega⟩⟩, by show fm_at D ad C nb _ t.heap; rw [ht]; exact hw⟩, hS.F ht⟩) hS.2.2 dX12_either_38
  exact lp _ r2 M3 (Nat.lt_succ_self _) (by omega) hI hE _ _ hw hS ls (lv_sub hl [0, 1] rfl)

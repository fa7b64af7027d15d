theorem zb_X5_nthWord_0 : (decode cX5_nthWord 0 = .ok (.iload_n 0, 1)) ∧ (decode cX5_nthWord 1 = .ok (.tableswitch 85 1 10 #[55, 58, 61, 64, 67, 70, 73, 76, 79, 82], 55)) ∧ (decode cX5_nthWord 56 = .ok (.ldc 131, 2)) ∧ (decode cX5_nthWord 58 = .ok (.areturn, 1)) ∧ (decode cX5_nthWord 59 = .ok (.ldc 133, 2)) ∧ (decode cX5_nthWord 61 = .ok (.areturn, 1)) ∧ (decode cX5_nthWord 62 = .ok (.ldc 135, 2)) ∧ (decode cX5_nthWord 64 = .ok (.areturn, 1)) ∧ (decode cX5_nthWord 65 = .ok (.ldc 137, 2)) ∧ (decode cX5_nthWord 67 = .ok (.areturn, 1)) ∧ (decode cX5_nthWord 68 = .ok (.ldc 139, 2)) ∧ (decode cX5_nthWord 70 = .ok (.areturn, 1)) := by decide +kernel
theorem dX5_nthWord_0 : decode cX5_nthWord 0 = .ok (.iload_n 0, 1) := zb_X5_nthWord_0.1
theorem dX5_nthWord_1 : decode cX5_nthWord 1 = .ok (.tableswitch 85 1 10 #[55, 58, 61, 64, 67, 70, 73, 76, 79, 82], 55) := zb_X5_nthWord_0.2.1
theorem dX5_nthWord_56 : decode cX5_nthWord 56 = .ok (.ldc 131, 2) := zb_X5_nthWord_0.2.2.1
theorem dX5_nthWord_58 : decode cX5_nthWord 58 = .ok (.areturn, 1) := zb_X5_nthWord_0.2.2.2.1
theorem dX5_nthWord_59 : decode cX5_nthWord 59 = .ok (.ldc 133, 2) := zb_X5_nthWord_0.2.2.2.2.1
theorem dX5_nthWord_61 : decode cX5_nthWord 61 = .ok (.areturn, 1) := zb_X5_nthWord_0.2.2.2.2.2.1
theorem dX5_nthWord_62 : decode cX5_nthWord 62 = .ok (.ldc 135, 2) := zb_X5_nthWord_0.2.2.2.2.2.2.1
theorem dX5_nthWord_64 : decode cX5_nthWord 64 = .ok (.areturn, 1) := zb_X5_nthWord_0.2.2.2.2.2.2.2.1
theorem dX5_nthWord_65 : decode cX5_nthWord 65 = .ok (.ldc 137, 2) := zb_X5_nthWord_0.2.2.2.2.2.2.2.2.1
theorem dX5_nthWord_67 : decode cX5_nthWord 67 = .ok (.areturn, 1) := zb_X5_nthWord_0.2.2.2.2.2.2.2.2.2.1
theorem dX5_nthWord_68 : decode cX5_nthWord 68 = .ok (.ldc 139, 2) := zb_X5_nthWord_0.2.2.2.2.2.2.2.2.2.2.1
theorem dX5_nthWord_70 : decode cX5_nthWord 70 = .ok (.areturn, 1) := zb_X5_nthWord_0.2.2.2.2.2.2.2.2.2.2.2
theorem zb_X5_nthWord_71 : (decode cX5_nthWord 71 = .ok (.ldc 141, 2)) ∧ (decode cX5_nthWord 73 = .ok (.areturn, 1)) ∧ (decode cX5_nthWord 74 = .ok (.ldc 143, 2)) ∧ (decode cX5_nthWord 76 = .ok (.areturn, 1)) ∧ (decode cX5_nthWord 77 = .ok (.ldc 145, 2)) ∧ (decode cX5_nthWord 79 = .ok (.areturn, 1)) ∧ (decode cX5_nthWord 80 = .ok (.ldc 147, 2)) ∧ (decode cX5_nthWord 82 = .ok (.areturn, 1)) ∧ (decode cX5_nthWord 83 = .ok (.ldc 149, 2)) ∧ (decode cX5_nthWord 85 = .ok (.areturn, 1)) ∧ (decode cX5_nthWord 86 = .ok (.ldc 151, 2)) ∧ (decode cX5_nthWord 88 = .ok (.areturn, 1)) := by decide +kernel
theorem dX5_nthWord_71 : decode cX5_nthWord 71 = .ok (.ldc 141, 2) := zb_X5_nthWord_71.1
theorem dX5_nthWord_73 : decode cX5_nthWord 73 = .ok (.areturn, 1) := zb_X5_nthWord_71.2.1
theorem dX5_nthWord_74 : decode cX5_nthWord 74 = .ok (.ldc 143, 2) := zb_X5_nthWord_71.2.2.1
theorem dX5_nthWord_76 : decode cX5_nthWord 76 = .ok (.areturn, 1) := zb_X5_nthWord_71.2.2.2.1
theorem dX5_nthWord_77 : decode cX5_nthWord 77 = .ok (.ldc 145, 2) := zb_X5_nthWord_71.2.2.2.2.1
theorem dX5_nthWord_79 : decode cX5_nthWord 79 = .ok (.areturn, 1) := zb_X5_nthWord_71.2.2.2.2.2.1
theorem dX5_nthWord_80 : decode cX5_nthWord 80 = .ok (.ldc 147, 2) := zb_X5_nthWord_71.2.2.2.2.2.2.1
theorem dX5_nthWord_82 : decode cX5_nthWord 82 = .ok (.areturn, 1) := zb_X5_nthWord_71.2.2.2.2.2.2.2.1
theorem dX5_nthWord_83 : decode cX5_nthWord 83 = .ok (.ldc 149, 2) := zb_X5_nthWord_71.2.2.2.2.2.2.2.2.1
theorem dX5_nthWord_85 : decode cX5_nthWord 85 = .ok (.areturn, 1) := zb_X5_nthWord_71.2.2.2.2.2.2.2.2.2.1
theorem dX5_nthWord_86 : decode cX5_nthWord 86 = .ok (.ldc 151, 2) := zb_X5_nthWord_71.2.2.2.2.2.2.2.2.2.2.1
theorem dX5_nthWord_88 : decode cX5_nthWord 88 = .ok (.areturn, 1) := zb_X5_nthWord_71.2.2.2.2.2.2.2.2.2.2.2
theorem zb_X5_isSpelt_0 : (decode cX5_isSpelt 0 = .ok (.aload_n 1, 1)) ∧ (decode cX5_isSpelt 1 = .ok (.invokevirtual 121, 3)) ∧ (decode cX5_isSpelt 4 = .ok (.iload_n 3, 1)) ∧ (decode cX5_isSpelt 5 = .ok (.iload_n 2, 1)) ∧ (decode cX5_isSpelt 6 = .ok (.isub, 1)) ∧ (decode cX5_isSpelt 7 = .ok (.if_icmp .eq 5, 3)) ∧ (decode cX5_isSpelt 12 = .ok (.iconst 0, 1)) ∧ (decode cX5_isSpelt 13 = .ok (.istore 4, 2)) ∧ (decode cX5_isSpelt 15 = .ok (.iload 4, 2)) ∧ (decode cX5_isSpelt 17 = .ok (.aload_n 1, 1)) := by decide +kernel
theorem dX5_isSpelt_0 : decode cX5_isSpelt 0 = .ok (.aload_n 1, 1) := zb_X5_isSpelt_0.1
theorem dX5_isSpelt_1 : decode cX5_isSpelt 1 = .ok (.invokevirtual 121, 3) := zb_X5_isSpelt_0.2.1
theorem dX5_isSpelt_4 : decode cX5_isSpelt 4 = .ok (.iload_n 3, 1) := zb_X5_isSpelt_0.2.2.1
theorem dX5_isSpelt_5 : decode cX5_isSpelt 5 = .ok (.iload_n 2, 1) := zb_X5_isSpelt_0.2.2.2.1
theorem dX5_isSpelt_6 : decode cX5_isSpelt 6 = .ok (.isub, 1) := zb_X5_isSpelt_0.2.2.2.2.1
theorem dX5_isSpelt_7 : decode cX5_isSpelt 7 = .ok (.if_icmp .eq 5, 3) := zb_X5_isSpelt_0.2.2.2.2.2.1
theorem dX5_isSpelt_12 : decode cX5_isSpelt 12 = .ok (.iconst 0, 1) := zb_X5_isSpelt_0.2.2.2.2.2.2.1
theorem dX5_isSpelt_13 : decode cX5_isSpelt 13 = .ok (.istore 4, 2) := zb_X5_isSpelt_0.2.2.2.2.2.2.2.1
theorem dX5_isSpelt_15 : decode cX5_isSpelt 15 = .ok (.iload 4, 2) := zb_X5_isSpelt_0.2.2.2.2.2.2.2.2.1
theorem dX5_isSpelt_17 : decode cX5_isSpelt 17 = .ok (.aload_n 1, 1) := zb_X5_isSpelt_0.2.2.2.2.2.2.2.2.2
theorem zb_X5_isSpelt_18 : (decode cX5_isSpelt 18 = .ok (.invokevirtual 121, 3)) ∧ (decode cX5_isSpelt 21 = .ok (.if_icmp .ge 29, 3)) ∧ (decode cX5_isSpelt 50 = .ok (.iconst 1, 1)) ∧ (decode cX5_isSpelt 51 = .ok (.ireturn, 1)) ∧ (decode cX5_isSpelt 24 = .ok (.aload_n 1, 1)) ∧ (decode cX5_isSpelt 25 = .ok (.iload 4, 2)) ∧ (decode cX5_isSpelt 27 = .ok (.invokevirtual 127, 3)) ∧ (decode cX5_isSpelt 30 = .ok (.aload_n 0, 1)) ∧ (decode cX5_isSpelt 31 = .ok (.getfield 11, 3)) ∧ (decode cX5_isSpelt 34 = .ok (.iload_n 2, 1)) := by decide +kernel
theorem dX5_isSpelt_18 : decode cX5_isSpelt 18 = .ok (.invokevirtual 121, 3) := zb_X5_isSpelt_18.1
theorem dX5_isSpelt_21 : decode cX5_isSpelt 21 = .ok (.if_icmp .ge 29, 3) := zb_X5_isSpelt_18.2.1
theorem dX5_isSpelt_50 : decode cX5_isSpelt 50 = .ok (.iconst 1, 1) := zb_X5_isSpelt_18.2.2.1
theorem dX5_isSpelt_51 : decode cX5_isSpelt 51 = .ok (.ireturn, 1) := zb_X5_isSpelt_18.2.2.2.1
theorem dX5_isSpelt_24 : decode cX5_isSpelt 24 = .ok (.aload_n 1, 1) := zb_X5_isSpelt_18.2.2.2.2.1
theorem dX5_isSpelt_25 : decode cX5_isSpelt 25 = .ok (.iload 4, 2) := zb_X5_isSpelt_18.2.2.2.2.2.1
theorem dX5_isSpelt_27 : decode cX5_isSpelt 27 = .ok (.invokevirtual 127, 3) := zb_X5_isSpelt_18.2.2.2.2.2.2.1
theorem dX5_isSpelt_30 : decode cX5_isSpelt 30 = .ok (.aload_n 0, 1) := zb_X5_isSpelt_18.2.2.2.2.2.2.2.1
theorem dX5_isSpelt_31 : decode cX5_isSpelt 31 = .ok (.getfield 11, 3) := zb_X5_isSpelt_18.2.2.2.2.2.2.2.2.1
theorem dX5_isSpelt_34 : decode cX5_isSpelt 34 = .ok (.iload_n 2, 1) := zb_X5_isSpelt_18.2.2.2.2.2.2.2.2.2
theorem zb_X5_isSpelt_35 : (decode cX5_isSpelt 35 = .ok (.iload 4, 2)) ∧ (decode cX5_isSpelt 37 = .ok (.iadd, 1)) ∧ (decode cX5_isSpelt 38 = .ok (.iaload, 1)) ∧ (decode cX5_isSpelt 39 = .ok (.if_icmp .eq 5, 3)) ∧ (decode cX5_isSpelt 44 = .ok (.iinc 4 1, 3)) ∧ (decode cX5_isSpelt 47 = .ok (.goto (-32), 3)) ∧ (decode cX5_isSpelt 42 = .ok (.iconst 0, 1)) ∧ (decode cX5_isSpelt 43 = .ok (.ireturn, 1)) ∧ (decode cX5_isSpelt 10 = .ok (.iconst 0, 1)) ∧ (decode cX5_isSpelt 11 = .ok (.ireturn, 1)) := by decide +kernel
theorem dX5_isSpelt_35 : decode cX5_isSpelt 35 = .ok (.iload 4, 2) := zb_X5_isSpelt_35.1
theorem dX5_isSpelt_37 : decode cX5_isSpelt 37 = .ok (.iadd, 1) := zb_X5_isSpelt_35.2.1
theorem dX5_isSpelt_38 : decode cX5_isSpelt 38 = .ok (.iaload, 1) := zb_X5_isSpelt_35.2.2.1
theorem dX5_isSpelt_39 : decode cX5_isSpelt 39 = .ok (.if_icmp .eq 5, 3) := zb_X5_isSpelt_35.2.2.2.1
theorem dX5_isSpelt_44 : decode cX5_isSpelt 44 = .ok (.iinc 4 1, 3) := zb_X5_isSpelt_35.2.2.2.2.1
theorem dX5_isSpelt_47 : decode cX5_isSpelt 47 = .ok (.goto (-32), 3) := zb_X5_isSpelt_35.2.2.2.2.2.1
theorem dX5_isSpelt_42 : decode cX5_isSpelt 42 = .ok (.iconst 0, 1) := zb_X5_isSpelt_35.2.2.2.2.2.2.1
theorem dX5_isSpelt_43 : decode cX5_isSpelt 43 = .ok (.ireturn, 1) := zb_X5_isSpelt_35.2.2.2.2.2.2.2.1
theorem dX5_isSpelt_10 : decode cX5_isSpelt 10 = .ok (.iconst 0, 1) := zb_X5_isSpelt_35.2.2.2.2.2.2.2.2.1
theorem dX5_isSpelt_11 : decode cX5_isSpelt 11 = .ok (.ireturn, 1) := zb_X5_isSpelt_35.2.2.2.2.2.2.2.2.2
theorem zb_X5_wordOf_0 : (decode cX5_wordOf 0 = .ok (.iconst 1, 1)) ∧ (decode cX5_wordOf 1 = .ok (.istore_n 3, 1)) ∧ (decode cX5_wordOf 2 = .ok (.iload_n 3, 1)) ∧ (decode cX5_wordOf 3 = .ok (.bipush 11, 2)) ∧ (decode cX5_wordOf 5 = .ok (.if_icmp .gt 24, 3)) ∧ (decode cX5_wordOf 8 = .ok (.aload_n 0, 1)) ∧ (decode cX5_wordOf 9 = .ok (.iload_n 3, 1)) ∧ (decode cX5_wordOf 10 = .ok (.invokestatic 113, 3)) ∧ (decode cX5_wordOf 13 = .ok (.iload_n 1, 1)) := by decide +kernel
theorem dX5_wordOf_0 : decode cX5_wordOf 0 = .ok (.iconst 1, 1) := zb_X5_wordOf_0.1
theorem dX5_wordOf_1 : decode cX5_wordOf 1 = .ok (.istore_n 3, 1) := zb_X5_wordOf_0.2.1
theorem dX5_wordOf_2 : decode cX5_wordOf 2 = .ok (.iload_n 3, 1) := zb_X5_wordOf_0.2.2.1
theorem dX5_wordOf_3 : decode cX5_wordOf 3 = .ok (.bipush 11, 2) := zb_X5_wordOf_0.2.2.2.1
theorem dX5_wordOf_5 : decode cX5_wordOf 5 = .ok (.if_icmp .gt 24, 3) := zb_X5_wordOf_0.2.2.2.2.1
theorem dX5_wordOf_8 : decode cX5_wordOf 8 = .ok (.aload_n 0, 1) := zb_X5_wordOf_0.2.2.2.2.2.1
theorem dX5_wordOf_9 : decode cX5_wordOf 9 = .ok (.iload_n 3, 1) := zb_X5_wordOf_0.2.2.2.2.2.2.1
theorem dX5_wordOf_10 : decode cX5_wordOf 10 = .ok (.invokestatic 113, 3) := zb_X5_wordOf_0.2.2.2.2.2.2.2.1
theorem dX5_wordOf_13 : decode cX5_wordOf 13 = .ok (.iload_n 1, 1) := zb_X5_wordOf_0.2.2.2.2.2.2.2.2
theorem zb_X5_wordOf_14 : (decode cX5_wordOf 14 = .ok (.iload_n 2, 1)) ∧ (decode cX5_wordOf 15 = .ok (.invokevirtual 117, 3)) ∧ (decode cX5_wordOf 18 = .ok (.ifCond .eq 5, 3)) ∧ (decode cX5_wordOf 23 = .ok (.iinc 3 1, 3)) ∧ (decode cX5_wordOf 26 = .ok (.goto (-24), 3)) ∧ (decode cX5_wordOf 29 = .ok (.iconst (-1), 1)) ∧ (decode cX5_wordOf 30 = .ok (.ireturn, 1)) ∧ (decode cX5_wordOf 21 = .ok (.iload_n 3, 1)) ∧ (decode cX5_wordOf 22 = .ok (.ireturn, 1)) := by decide +kernel
theorem dX5_wordOf_14 : decode cX5_wordOf 14 = .ok (.iload_n 2, 1) := zb_X5_wordOf_14.1
theorem dX5_wordOf_15 : decode cX5_wordOf 15 = .ok (.invokevirtual 117, 3) := zb_X5_wordOf_14.2.1
theorem dX5_wordOf_18 : decode cX5_wordOf 18 = .ok (.ifCond .eq 5, 3) := zb_X5_wordOf_14.2.2.1
theorem dX5_wordOf_23 : decode cX5_wordOf 23 = .ok (.iinc 3 1, 3) := zb_X5_wordOf_14.2.2.2.1
theorem dX5_wordOf_26 : decode cX5_wordOf 26 = .ok (.goto (-24), 3) := zb_X5_wordOf_14.2.2.2.2.1
theorem dX5_wordOf_29 : decode cX5_wordOf 29 = .ok (.iconst (-1), 1) := zb_X5_wordOf_14.2.2.2.2.2.1
theorem dX5_wordOf_30 : decode cX5_wordOf 30 = .ok (.ireturn, 1) := zb_X5_wordOf_14.2.2.2.2.2.2.1
theorem dX5_wordOf_21 : decode cX5_wordOf 21 = .ok (.iload_n 3, 1) := zb_X5_wordOf_14.2.2.2.2.2.2.2.1
theorem dX5_wordOf_22 : decode cX5_wordOf 22 = .ok (.ireturn, 1) := zb_X5_wordOf_14.2.2.2.2.2.2.2.2
theorem zb_X5_cutOne_3 : (decode cX5_cutOne 3 = .ok (.istore 4, 2)) ∧ (decode cX5_cutOne 122 = .ok (.iload 4, 2)) ∧ (decode cX5_cutOne 70 = .ok (.iload 4, 2)) ∧ (decode cX5_cutOne 74 = .ok (.imul, 1)) ∧ (decode cX5_cutOne 85 = .ok (.istore 4, 2)) ∧ (decode cX5_cutOne 87 = .ok (.iinc 3 1, 3)) ∧ (decode cX5_cutOne 25 = .ok (.iinc 3 1, 3)) := by decide +kernel
theorem dX5_cutOne_3 : decode cX5_cutOne 3 = .ok (.istore 4, 2) := zb_X5_cutOne_3.1
theorem dX5_cutOne_122 : decode cX5_cutOne 122 = .ok (.iload 4, 2) := zb_X5_cutOne_3.2.1
theorem dX5_cutOne_70 : decode cX5_cutOne 70 = .ok (.iload 4, 2) := zb_X5_cutOne_3.2.2.1
theorem dX5_cutOne_74 : decode cX5_cutOne 74 = .ok (.imul, 1) := zb_X5_cutOne_3.2.2.2.1
theorem dX5_cutOne_85 : decode cX5_cutOne 85 = .ok (.istore 4, 2) := zb_X5_cutOne_3.2.2.2.2.1
theorem dX5_cutOne_87 : decode cX5_cutOne 87 = .ok (.iinc 3 1, 3) := zb_X5_cutOne_3.2.2.2.2.2.1
theorem dX5_cutOne_25 : decode cX5_cutOne 25 = .ok (.iinc 3 1, 3) := zb_X5_cutOne_3.2.2.2.2.2.2
theorem zb_X5_cutTokens_0 : (decode cX5_cutTokens 0 = .ok (.iconst 0, 1)) ∧ (decode cX5_cutTokens 1 = .ok (.istore_n 1, 1)) ∧ (decode cX5_cutTokens 2 = .ok (.iconst 0, 1)) ∧ (decode cX5_cutTokens 3 = .ok (.istore_n 2, 1)) ∧ (decode cX5_cutTokens 4 = .ok (.iload_n 2, 1)) ∧ (decode cX5_cutTokens 5 = .ok (.aload_n 0, 1)) ∧ (decode cX5_cutTokens 6 = .ok (.getfield 37, 3)) ∧ (decode cX5_cutTokens 9 = .ok (.if_icmp .ge 48, 3)) ∧ (decode cX5_cutTokens 57 = .ok (.aload_n 0, 1)) ∧ (decode cX5_cutTokens 58 = .ok (.getfield 15, 3)) ∧ (decode cX5_cutTokens 61 = .ok (.iload_n 1, 1)) := by decide +kernel
theorem dX5_cutTokens_0 : decode cX5_cutTokens 0 = .ok (.iconst 0, 1) := zb_X5_cutTokens_0.1
theorem dX5_cutTokens_1 : decode cX5_cutTokens 1 = .ok (.istore_n 1, 1) := zb_X5_cutTokens_0.2.1
theorem dX5_cutTokens_2 : decode cX5_cutTokens 2 = .ok (.iconst 0, 1) := zb_X5_cutTokens_0.2.2.1
theorem dX5_cutTokens_3 : decode cX5_cutTokens 3 = .ok (.istore_n 2, 1) := zb_X5_cutTokens_0.2.2.2.1
theorem dX5_cutTokens_4 : decode cX5_cutTokens 4 = .ok (.iload_n 2, 1) := zb_X5_cutTokens_0.2.2.2.2.1
theorem dX5_cutTokens_5 : decode cX5_cutTokens 5 = .ok (.aload_n 0, 1) := zb_X5_cutTokens_0.2.2.2.2.2.1
theorem dX5_cutTokens_6 : decode cX5_cutTokens 6 = .ok (.getfield 37, 3) := zb_X5_cutTokens_0.2.2.2.2.2.2.1
theorem dX5_cutTokens_9 : decode cX5_cutTokens 9 = .ok (.if_icmp .ge 48, 3) := zb_X5_cutTokens_0.2.2.2.2.2.2.2.1
theorem dX5_cutTokens_57 : decode cX5_cutTokens 57 = .ok (.aload_n 0, 1) := zb_X5_cutTokens_0.2.2.2.2.2.2.2.2.1
theorem dX5_cutTokens_58 : decode cX5_cutTokens 58 = .ok (.getfield 15, 3) := zb_X5_cutTokens_0.2.2.2.2.2.2.2.2.2.1
theorem dX5_cutTokens_61 : decode cX5_cutTokens 61 = .ok (.iload_n 1, 1) := zb_X5_cutTokens_0.2.2.2.2.2.2.2.2.2.2
theorem zb_X5_cutTokens_62 : (decode cX5_cutTokens 62 = .ok (.iconst 0, 1)) ∧ (decode cX5_cutTokens 63 = .ok (.iastore, 1)) ∧ (decode cX5_cutTokens 64 = .ok (.aload_n 0, 1)) ∧ (decode cX5_cutTokens 65 = .ok (.getfield 18, 3)) ∧ (decode cX5_cutTokens 68 = .ok (.iload_n 1, 1)) ∧ (decode cX5_cutTokens 69 = .ok (.aload_n 0, 1)) ∧ (decode cX5_cutTokens 70 = .ok (.getfield 37, 3)) ∧ (decode cX5_cutTokens 73 = .ok (.iastore, 1)) ∧ (decode cX5_cutTokens 74 = .ok (.return_, 1)) ∧ (decode cX5_cutTokens 12 = .ok (.iload_n 1, 1)) ∧ (decode cX5_cutTokens 13 = .ok (.sipush 160, 3)) := by decide +kernel
theorem dX5_cutTokens_62 : decode cX5_cutTokens 62 = .ok (.iconst 0, 1) := zb_X5_cutTokens_62.1
theorem dX5_cutTokens_63 : decode cX5_cutTokens 63 = .ok (.iastore, 1) := zb_X5_cutTokens_62.2.1
theorem dX5_cutTokens_64 : decode cX5_cutTokens 64 = .ok (.aload_n 0, 1) := zb_X5_cutTokens_62.2.2.1
theorem dX5_cutTokens_65 : decode cX5_cutTokens 65 = .ok (.getfield 18, 3) := zb_X5_cutTokens_62.2.2.2.1
theorem dX5_cutTokens_68 : decode cX5_cutTokens 68 = .ok (.iload_n 1, 1) := zb_X5_cutTokens_62.2.2.2.2.1
theorem dX5_cutTokens_69 : decode cX5_cutTokens 69 = .ok (.aload_n 0, 1) := zb_X5_cutTokens_62.2.2.2.2.2.1
theorem dX5_cutTokens_70 : decode cX5_cutTokens 70 = .ok (.getfield 37, 3) := zb_X5_cutTokens_62.2.2.2.2.2.2.1
theorem dX5_cutTokens_73 : decode cX5_cutTokens 73 = .ok (.iastore, 1) := zb_X5_cutTokens_62.2.2.2.2.2.2.2.1
theorem dX5_cutTokens_74 : decode cX5_cutTokens 74 = .ok (.return_, 1) := zb_X5_cutTokens_62.2.2.2.2.2.2.2.2.1
theorem dX5_cutTokens_12 : decode cX5_cutTokens 12 = .ok (.iload_n 1, 1) := zb_X5_cutTokens_62.2.2.2.2.2.2.2.2.2.1
theorem dX5_cutTokens_13 : decode cX5_cutTokens 13 = .ok (.sipush 160, 3) := zb_X5_cutTokens_62.2.2.2.2.2.2.2.2.2.2
theorem zb_X5_cutTokens_16 : (decode cX5_cutTokens 16 = .ok (.if_icmp .ge 41, 3)) ∧ (decode cX5_cutTokens 19 = .ok (.aload_n 0, 1)) ∧ (decode cX5_cutTokens 20 = .ok (.getfield 11, 3)) ∧ (decode cX5_cutTokens 23 = .ok (.iload_n 2, 1)) ∧ (decode cX5_cutTokens 24 = .ok (.iaload, 1)) ∧ (decode cX5_cutTokens 25 = .ok (.invokestatic 95, 3)) ∧ (decode cX5_cutTokens 28 = .ok (.ifCond .eq 9, 3)) ∧ (decode cX5_cutTokens 31 = .ok (.iinc 2 1, 3)) ∧ (decode cX5_cutTokens 34 = .ok (.goto (-30), 3)) ∧ (decode cX5_cutTokens 37 = .ok (.aload_n 0, 1)) ∧ (decode cX5_cutTokens 38 = .ok (.getfield 18, 3)) := by decide +kernel
theorem dX5_cutTokens_16 : decode cX5_cutTokens 16 = .ok (.if_icmp .ge 41, 3) := zb_X5_cutTokens_16.1
theorem dX5_cutTokens_19 : decode cX5_cutTokens 19 = .ok (.aload_n 0, 1) := zb_X5_cutTokens_16.2.1
theorem dX5_cutTokens_20 : decode cX5_cutTokens 20 = .ok (.getfield 11, 3) := zb_X5_cutTokens_16.2.2.1
theorem dX5_cutTokens_23 : decode cX5_cutTokens 23 = .ok (.iload_n 2, 1) := zb_X5_cutTokens_16.2.2.2.1
theorem dX5_cutTokens_24 : decode cX5_cutTokens 24 = .ok (.iaload, 1) := zb_X5_cutTokens_16.2.2.2.2.1
theorem dX5_cutTokens_25 : decode cX5_cutTokens 25 = .ok (.invokestatic 95, 3) := zb_X5_cutTokens_16.2.2.2.2.2.1
theorem dX5_cutTokens_28 : decode cX5_cutTokens 28 = .ok (.ifCond .eq 9, 3) := zb_X5_cutTokens_16.2.2.2.2.2.2.1
theorem dX5_cutTokens_31 : decode cX5_cutTokens 31 = .ok (.iinc 2 1, 3) := zb_X5_cutTokens_16.2.2.2.2.2.2.2.1
theorem dX5_cutTokens_34 : decode cX5_cutTokens 34 = .ok (.goto (-30), 3) := zb_X5_cutTokens_16.2.2.2.2.2.2.2.2.1
theorem dX5_cutTokens_37 : decode cX5_cutTokens 37 = .ok (.aload_n 0, 1) := zb_X5_cutTokens_16.2.2.2.2.2.2.2.2.2.1
theorem dX5_cutTokens_38 : decode cX5_cutTokens 38 = .ok (.getfield 18, 3) := zb_X5_cutTokens_16.2.2.2.2.2.2.2.2.2.2
theorem zb_X5_cutTokens_41 : (decode cX5_cutTokens 41 = .ok (.iload_n 1, 1)) ∧ (decode cX5_cutTokens 42 = .ok (.iload_n 2, 1)) ∧ (decode cX5_cutTokens 43 = .ok (.iastore, 1)) ∧ (decode cX5_cutTokens 44 = .ok (.aload_n 0, 1)) ∧ (decode cX5_cutTokens 45 = .ok (.iload_n 1, 1)) ∧ (decode cX5_cutTokens 46 = .ok (.iload_n 2, 1)) ∧ (decode cX5_cutTokens 47 = .ok (.invokevirtual 98, 3)) ∧ (decode cX5_cutTokens 50 = .ok (.istore_n 2, 1)) ∧ (decode cX5_cutTokens 51 = .ok (.iinc 1 1, 3)) ∧ (decode cX5_cutTokens 54 = .ok (.goto (-50), 3)) := by decide +kernel
theorem dX5_cutTokens_41 : decode cX5_cutTokens 41 = .ok (.iload_n 1, 1) := zb_X5_cutTokens_41.1
theorem dX5_cutTokens_42 : decode cX5_cutTokens 42 = .ok (.iload_n 2, 1) := zb_X5_cutTokens_41.2.1
theorem dX5_cutTokens_43 : decode cX5_cutTokens 43 = .ok (.iastore, 1) := zb_X5_cutTokens_41.2.2.1
theorem dX5_cutTokens_44 : decode cX5_cutTokens 44 = .ok (.aload_n 0, 1) := zb_X5_cutTokens_41.2.2.2.1
theorem dX5_cutTokens_45 : decode cX5_cutTokens 45 = .ok (.iload_n 1, 1) := zb_X5_cutTokens_41.2.2.2.2.1
theorem dX5_cutTokens_46 : decode cX5_cutTokens 46 = .ok (.iload_n 2, 1) := zb_X5_cutTokens_41.2.2.2.2.2.1
theorem dX5_cutTokens_47 : decode cX5_cutTokens 47 = .ok (.invokevirtual 98, 3) := zb_X5_cutTokens_41.2.2.2.2.2.2.1
theorem dX5_cutTokens_50 : decode cX5_cutTokens 50 = .ok (.istore_n 2, 1) := zb_X5_cutTokens_41.2.2.2.2.2.2.2.1
theorem dX5_cutTokens_51 : decode cX5_cutTokens 51 = .ok (.iinc 1 1, 3) := zb_X5_cutTokens_41.2.2.2.2.2.2.2.2.1
theorem dX5_cutTokens_54 : decode cX5_cutTokens 54 = .ok (.goto (-50), 3) := zb_X5_cutTokens_41.2.2.2.2.2.2.2.2.2
theorem zb_X5_sees_0 : (decode cX5_sees 0 = .ok (.aload_n 0, 1)) ∧ (decode cX5_sees 1 = .ok (.getfield 50, 3)) ∧ (decode cX5_sees 4 = .ok (.ifCond .ge 20, 3)) ∧ (decode cX5_sees 24 = .ok (.iconst 0, 1)) ∧ (decode cX5_sees 25 = .ok (.ireturn, 1)) ∧ (decode cX5_sees 7 = .ok (.aload_n 0, 1)) ∧ (decode cX5_sees 8 = .ok (.getfield 15, 3)) := by decide +kernel
theorem dX5_sees_0 : decode cX5_sees 0 = .ok (.aload_n 0, 1) := zb_X5_sees_0.1
theorem dX5_sees_1 : decode cX5_sees 1 = .ok (.getfield 50, 3) := zb_X5_sees_0.2.1
theorem dX5_sees_4 : decode cX5_sees 4 = .ok (.ifCond .ge 20, 3) := zb_X5_sees_0.2.2.1
theorem dX5_sees_24 : decode cX5_sees 24 = .ok (.iconst 0, 1) := zb_X5_sees_0.2.2.2.1
theorem dX5_sees_25 : decode cX5_sees 25 = .ok (.ireturn, 1) := zb_X5_sees_0.2.2.2.2.1
theorem dX5_sees_7 : decode cX5_sees 7 = .ok (.aload_n 0, 1) := zb_X5_sees_0.2.2.2.2.2.1
theorem dX5_sees_8 : decode cX5_sees 8 = .ok (.getfield 15, 3) := zb_X5_sees_0.2.2.2.2.2.2
theorem zb_X5_sees_11 : (decode cX5_sees 11 = .ok (.aload_n 0, 1)) ∧ (decode cX5_sees 12 = .ok (.getfield 47, 3)) ∧ (decode cX5_sees 15 = .ok (.iaload, 1)) ∧ (decode cX5_sees 16 = .ok (.iload_n 1, 1)) ∧ (decode cX5_sees 17 = .ok (.if_icmp .ne 7, 3)) ∧ (decode cX5_sees 20 = .ok (.iconst 1, 1)) ∧ (decode cX5_sees 21 = .ok (.goto 4, 3)) := by decide +kernel
theorem dX5_sees_11 : decode cX5_sees 11 = .ok (.aload_n 0, 1) := zb_X5_sees_11.1
theorem dX5_sees_12 : decode cX5_sees 12 = .ok (.getfield 47, 3) := zb_X5_sees_11.2.1
theorem dX5_sees_15 : decode cX5_sees 15 = .ok (.iaload, 1) := zb_X5_sees_11.2.2.1
theorem dX5_sees_16 : decode cX5_sees 16 = .ok (.iload_n 1, 1) := zb_X5_sees_11.2.2.2.1
theorem dX5_sees_17 : decode cX5_sees 17 = .ok (.if_icmp .ne 7, 3) := zb_X5_sees_11.2.2.2.2.1
theorem dX5_sees_20 : decode cX5_sees 20 = .ok (.iconst 1, 1) := zb_X5_sees_11.2.2.2.2.2.1
theorem dX5_sees_21 : decode cX5_sees 21 = .ok (.goto 4, 3) := zb_X5_sees_11.2.2.2.2.2.2
theorem zb_X5_advance_0 : (decode cX5_advance 0 = .ok (.aload_n 0, 1)) ∧ (decode cX5_advance 1 = .ok (.getfield 47, 3)) ∧ (decode cX5_advance 4 = .ok (.sipush 160, 3)) ∧ (decode cX5_advance 7 = .ok (.if_icmp .ge 25, 3)) ∧ (decode cX5_advance 32 = .ok (.return_, 1)) ∧ (decode cX5_advance 10 = .ok (.aload_n 0, 1)) ∧ (decode cX5_advance 11 = .ok (.getfield 15, 3)) ∧ (decode cX5_advance 14 = .ok (.aload_n 0, 1)) ∧ (decode cX5_advance 15 = .ok (.getfield 47, 3)) := by decide +kernel
theorem dX5_advance_0 : decode cX5_advance 0 = .ok (.aload_n 0, 1) := zb_X5_advance_0.1
theorem dX5_advance_1 : decode cX5_advance 1 = .ok (.getfield 47, 3) := zb_X5_advance_0.2.1
theorem dX5_advance_4 : decode cX5_advance 4 = .ok (.sipush 160, 3) := zb_X5_advance_0.2.2.1
theorem dX5_advance_7 : decode cX5_advance 7 = .ok (.if_icmp .ge 25, 3) := zb_X5_advance_0.2.2.2.1
theorem dX5_advance_32 : decode cX5_advance 32 = .ok (.return_, 1) := zb_X5_advance_0.2.2.2.2.1
theorem dX5_advance_10 : decode cX5_advance 10 = .ok (.aload_n 0, 1) := zb_X5_advance_0.2.2.2.2.2.1
theorem dX5_advance_11 : decode cX5_advance 11 = .ok (.getfield 15, 3) := zb_X5_advance_0.2.2.2.2.2.2.1
theorem dX5_advance_14 : decode cX5_advance 14 = .ok (.aload_n 0, 1) := zb_X5_advance_0.2.2.2.2.2.2.2.1
theorem dX5_advance_15 : decode cX5_advance 15 = .ok (.getfield 47, 3) := zb_X5_advance_0.2.2.2.2.2.2.2.2
theorem zb_X5_advance_18 : (decode cX5_advance 18 = .ok (.iaload, 1)) ∧ (decode cX5_advance 19 = .ok (.ifCond .eq 13, 3)) ∧ (decode cX5_advance 22 = .ok (.aload_n 0, 1)) ∧ (decode cX5_advance 23 = .ok (.dup, 1)) ∧ (decode cX5_advance 24 = .ok (.getfield 47, 3)) ∧ (decode cX5_advance 27 = .ok (.iconst 1, 1)) ∧ (decode cX5_advance 28 = .ok (.iadd, 1)) ∧ (decode cX5_advance 29 = .ok (.putfield 47, 3)) := by decide +kernel
theorem dX5_advance_18 : decode cX5_advance 18 = .ok (.iaload, 1) := zb_X5_advance_18.1
theorem dX5_advance_19 : decode cX5_advance 19 = .ok (.ifCond .eq 13, 3) := zb_X5_advance_18.2.1
theorem dX5_advance_22 : decode cX5_advance 22 = .ok (.aload_n 0, 1) := zb_X5_advance_18.2.2.1
theorem dX5_advance_23 : decode cX5_advance 23 = .ok (.dup, 1) := zb_X5_advance_18.2.2.2.1
theorem dX5_advance_24 : decode cX5_advance 24 = .ok (.getfield 47, 3) := zb_X5_advance_18.2.2.2.2.1
theorem dX5_advance_27 : decode cX5_advance 27 = .ok (.iconst 1, 1) := zb_X5_advance_18.2.2.2.2.2.1
theorem dX5_advance_28 : decode cX5_advance 28 = .ok (.iadd, 1) := zb_X5_advance_18.2.2.2.2.2.2.1
theorem dX5_advance_29 : decode cX5_advance 29 = .ok (.putfield 47, 3) := zb_X5_advance_18.2.2.2.2.2.2.2
theorem zb_X5_fail_0 : (decode cX5_fail 0 = .ok (.aload_n 0, 1)) ∧ (decode cX5_fail 1 = .ok (.getfield 50, 3)) ∧ (decode cX5_fail 4 = .ok (.ifCond .ge 16, 3)) ∧ (decode cX5_fail 20 = .ok (.return_, 1)) ∧ (decode cX5_fail 7 = .ok (.aload_n 0, 1)) ∧ (decode cX5_fail 8 = .ok (.aload_n 0, 1)) ∧ (decode cX5_fail 9 = .ok (.getfield 18, 3)) ∧ (decode cX5_fail 12 = .ok (.aload_n 0, 1)) ∧ (decode cX5_fail 13 = .ok (.getfield 47, 3)) ∧ (decode cX5_fail 16 = .ok (.iaload, 1)) ∧ (decode cX5_fail 17 = .ok (.putfield 50, 3)) := by decide +kernel
theorem dX5_fail_0 : decode cX5_fail 0 = .ok (.aload_n 0, 1) := zb_X5_fail_0.1
theorem dX5_fail_1 : decode cX5_fail 1 = .ok (.getfield 50, 3) := zb_X5_fail_0.2.1
theorem dX5_fail_4 : decode cX5_fail 4 = .ok (.ifCond .ge 16, 3) := zb_X5_fail_0.2.2.1
theorem dX5_fail_20 : decode cX5_fail 20 = .ok (.return_, 1) := zb_X5_fail_0.2.2.2.1
theorem dX5_fail_7 : decode cX5_fail 7 = .ok (.aload_n 0, 1) := zb_X5_fail_0.2.2.2.2.1
theorem dX5_fail_8 : decode cX5_fail 8 = .ok (.aload_n 0, 1) := zb_X5_fail_0.2.2.2.2.2.1
theorem dX5_fail_9 : decode cX5_fail 9 = .ok (.getfield 18, 3) := zb_X5_fail_0.2.2.2.2.2.2.1
theorem dX5_fail_12 : decode cX5_fail 12 = .ok (.aload_n 0, 1) := zb_X5_fail_0.2.2.2.2.2.2.2.1
theorem dX5_fail_13 : decode cX5_fail 13 = .ok (.getfield 47, 3) := zb_X5_fail_0.2.2.2.2.2.2.2.2.1
theorem dX5_fail_16 : decode cX5_fail 16 = .ok (.iaload, 1) := zb_X5_fail_0.2.2.2.2.2.2.2.2.2.1
theorem dX5_fail_17 : decode cX5_fail 17 = .ok (.putfield 50, 3) := zb_X5_fail_0.2.2.2.2.2.2.2.2.2.2
theorem zb_X5_need_0 : (decode cX5_need 0 = .ok (.aload_n 0, 1)) ∧ (decode cX5_need 1 = .ok (.iload_n 1, 1)) ∧ (decode cX5_need 2 = .ok (.invokevirtual 64, 3)) ∧ (decode cX5_need 5 = .ok (.ifCond .eq 10, 3)) ∧ (decode cX5_need 8 = .ok (.aload_n 0, 1)) ∧ (decode cX5_need 9 = .ok (.invokevirtual 68, 3)) ∧ (decode cX5_need 12 = .ok (.goto 7, 3)) ∧ (decode cX5_need 19 = .ok (.return_, 1)) ∧ (decode cX5_need 15 = .ok (.aload_n 0, 1)) ∧ (decode cX5_need 16 = .ok (.invokevirtual 71, 3)) := by decide +kernel
theorem dX5_need_0 : decode cX5_need 0 = .ok (.aload_n 0, 1) := zb_X5_need_0.1
theorem dX5_need_1 : decode cX5_need 1 = .ok (.iload_n 1, 1) := zb_X5_need_0.2.1
theorem dX5_need_2 : decode cX5_need 2 = .ok (.invokevirtual 64, 3) := zb_X5_need_0.2.2.1
theorem dX5_need_5 : decode cX5_need 5 = .ok (.ifCond .eq 10, 3) := zb_X5_need_0.2.2.2.1
theorem dX5_need_8 : decode cX5_need 8 = .ok (.aload_n 0, 1) := zb_X5_need_0.2.2.2.2.1
theorem dX5_need_9 : decode cX5_need 9 = .ok (.invokevirtual 68, 3) := zb_X5_need_0.2.2.2.2.2.1
theorem dX5_need_12 : decode cX5_need 12 = .ok (.goto 7, 3) := zb_X5_need_0.2.2.2.2.2.2.1
theorem dX5_need_19 : decode cX5_need 19 = .ok (.return_, 1) := zb_X5_need_0.2.2.2.2.2.2.2.1
theorem dX5_need_15 : decode cX5_need 15 = .ok (.aload_n 0, 1) := zb_X5_need_0.2.2.2.2.2.2.2.2.1
theorem dX5_need_16 : decode cX5_need 16 = .ok (.invokevirtual 71, 3) := zb_X5_need_0.2.2.2.2.2.2.2.2.2
theorem zb_X5_readTerm_0 : (decode cX5_readTerm 0 = .ok (.aload_n 0, 1)) ∧ (decode cX5_readTerm 1 = .ok (.iload_n 1, 1)) ∧ (decode cX5_readTerm 2 = .ok (.invokevirtual 92, 3)) ∧ (decode cX5_readTerm 5 = .ok (.iconst 0, 1)) ∧ (decode cX5_readTerm 6 = .ok (.istore_n 2, 1)) ∧ (decode cX5_readTerm 7 = .ok (.iload_n 2, 1)) ∧ (decode cX5_readTerm 8 = .ok (.sipush 160, 3)) ∧ (decode cX5_readTerm 11 = .ok (.if_icmp .ge 36, 3)) ∧ (decode cX5_readTerm 47 = .ok (.return_, 1)) ∧ (decode cX5_readTerm 14 = .ok (.aload_n 0, 1)) ∧ (decode cX5_readTerm 15 = .ok (.bipush 42, 2)) ∧ (decode cX5_readTerm 17 = .ok (.invokevirtual 64, 3)) := by decide +kernel
theorem dX5_readTerm_0 : decode cX5_readTerm 0 = .ok (.aload_n 0, 1) := zb_X5_readTerm_0.1
theorem dX5_readTerm_1 : decode cX5_readTerm 1 = .ok (.iload_n 1, 1) := zb_X5_readTerm_0.2.1
theorem dX5_readTerm_2 : decode cX5_readTerm 2 = .ok (.invokevirtual 92, 3) := zb_X5_readTerm_0.2.2.1
theorem dX5_readTerm_5 : decode cX5_readTerm 5 = .ok (.iconst 0, 1) := zb_X5_readTerm_0.2.2.2.1
theorem dX5_readTerm_6 : decode cX5_readTerm 6 = .ok (.istore_n 2, 1) := zb_X5_readTerm_0.2.2.2.2.1
theorem dX5_readTerm_7 : decode cX5_readTerm 7 = .ok (.iload_n 2, 1) := zb_X5_readTerm_0.2.2.2.2.2.1
theorem dX5_readTerm_8 : decode cX5_readTerm 8 = .ok (.sipush 160, 3) := zb_X5_readTerm_0.2.2.2.2.2.2.1
theorem dX5_readTerm_11 : decode cX5_readTerm 11 = .ok (.if_icmp .ge 36, 3) := zb_X5_readTerm_0.2.2.2.2.2.2.2.1
theorem dX5_readTerm_47 : decode cX5_readTerm 47 = .ok (.return_, 1) := zb_X5_readTerm_0.2.2.2.2.2.2.2.2.1
theorem dX5_readTerm_14 : decode cX5_readTerm 14 = .ok (.aload_n 0, 1) := zb_X5_readTerm_0.2.2.2.2.2.2.2.2.2.1
theorem dX5_readTerm_15 : decode cX5_readTerm 15 = .ok (.bipush 42, 2) := zb_X5_readTerm_0.2.2.2.2.2.2.2.2.2.2.1
theorem dX5_readTerm_17 : decode cX5_readTerm 17 = .ok (.invokevirtual 64, 3) := zb_X5_readTerm_0.2.2.2.2.2.2.2.2.2.2.2
theorem zb_X5_readTerm_20 : (decode cX5_readTerm 20 = .ok (.ifCond .eq 27, 3)) ∧ (decode cX5_readTerm 23 = .ok (.aload_n 0, 1)) ∧ (decode cX5_readTerm 24 = .ok (.invokevirtual 68, 3)) ∧ (decode cX5_readTerm 27 = .ok (.aload_n 0, 1)) ∧ (decode cX5_readTerm 28 = .ok (.iload_n 1, 1)) ∧ (decode cX5_readTerm 29 = .ok (.invokevirtual 92, 3)) ∧ (decode cX5_readTerm 32 = .ok (.aload_n 0, 1)) ∧ (decode cX5_readTerm 33 = .ok (.getfield 27, 3)) ∧ (decode cX5_readTerm 36 = .ok (.bipush (-18), 2)) ∧ (decode cX5_readTerm 38 = .ok (.invokevirtual 77, 3)) ∧ (decode cX5_readTerm 41 = .ok (.iinc 2 1, 3)) ∧ (decode cX5_readTerm 44 = .ok (.goto (-37), 3)) := by decide +kernel
theorem dX5_readTerm_20 : decode cX5_readTerm 20 = .ok (.ifCond .eq 27, 3) := zb_X5_readTerm_20.1
theorem dX5_readTerm_23 : decode cX5_readTerm 23 = .ok (.aload_n 0, 1) := zb_X5_readTerm_20.2.1
theorem dX5_readTerm_24 : decode cX5_readTerm 24 = .ok (.invokevirtual 68, 3) := zb_X5_readTerm_20.2.2.1
theorem dX5_readTerm_27 : decode cX5_readTerm 27 = .ok (.aload_n 0, 1) := zb_X5_readTerm_20.2.2.2.1
theorem dX5_readTerm_28 : decode cX5_readTerm 28 = .ok (.iload_n 1, 1) := zb_X5_readTerm_20.2.2.2.2.1
theorem dX5_readTerm_29 : decode cX5_readTerm 29 = .ok (.invokevirtual 92, 3) := zb_X5_readTerm_20.2.2.2.2.2.1
theorem dX5_readTerm_32 : decode cX5_readTerm 32 = .ok (.aload_n 0, 1) := zb_X5_readTerm_20.2.2.2.2.2.2.1
theorem dX5_readTerm_33 : decode cX5_readTerm 33 = .ok (.getfield 27, 3) := zb_X5_readTerm_20.2.2.2.2.2.2.2.1
theorem dX5_readTerm_36 : decode cX5_readTerm 36 = .ok (.bipush (-18), 2) := zb_X5_readTerm_20.2.2.2.2.2.2.2.2.1
theorem dX5_readTerm_38 : decode cX5_readTerm 38 = .ok (.invokevirtual 77, 3) := zb_X5_readTerm_20.2.2.2.2.2.2.2.2.2.1
theorem dX5_readTerm_41 : decode cX5_readTerm 41 = .ok (.iinc 2 1, 3) := zb_X5_readTerm_20.2.2.2.2.2.2.2.2.2.2.1
theorem dX5_readTerm_44 : decode cX5_readTerm 44 = .ok (.goto (-37), 3) := zb_X5_readTerm_20.2.2.2.2.2.2.2.2.2.2.2
theorem zb_X5_readSum_0 : (decode cX5_readSum 0 = .ok (.aload_n 0, 1)) ∧ (decode cX5_readSum 1 = .ok (.iload_n 1, 1)) ∧ (decode cX5_readSum 2 = .ok (.invokevirtual 89, 3)) ∧ (decode cX5_readSum 5 = .ok (.iconst 0, 1)) ∧ (decode cX5_readSum 6 = .ok (.istore_n 2, 1)) ∧ (decode cX5_readSum 7 = .ok (.iload_n 2, 1)) ∧ (decode cX5_readSum 8 = .ok (.sipush 160, 3)) ∧ (decode cX5_readSum 11 = .ok (.if_icmp .ge 61, 3)) ∧ (decode cX5_readSum 72 = .ok (.return_, 1)) ∧ (decode cX5_readSum 49 = .ok (.aload_n 0, 1)) ∧ (decode cX5_readSum 50 = .ok (.invokevirtual 68, 3)) ∧ (decode cX5_readSum 53 = .ok (.aload_n 0, 1)) := by decide +kernel
theorem dX5_readSum_0 : decode cX5_readSum 0 = .ok (.aload_n 0, 1) := zb_X5_readSum_0.1
theorem dX5_readSum_1 : decode cX5_readSum 1 = .ok (.iload_n 1, 1) := zb_X5_readSum_0.2.1
theorem dX5_readSum_2 : decode cX5_readSum 2 = .ok (.invokevirtual 89, 3) := zb_X5_readSum_0.2.2.1
theorem dX5_readSum_5 : decode cX5_readSum 5 = .ok (.iconst 0, 1) := zb_X5_readSum_0.2.2.2.1
theorem dX5_readSum_6 : decode cX5_readSum 6 = .ok (.istore_n 2, 1) := zb_X5_readSum_0.2.2.2.2.1
theorem dX5_readSum_7 : decode cX5_readSum 7 = .ok (.iload_n 2, 1) := zb_X5_readSum_0.2.2.2.2.2.1
theorem dX5_readSum_8 : decode cX5_readSum 8 = .ok (.sipush 160, 3) := zb_X5_readSum_0.2.2.2.2.2.2.1
theorem dX5_readSum_11 : decode cX5_readSum 11 = .ok (.if_icmp .ge 61, 3) := zb_X5_readSum_0.2.2.2.2.2.2.2.1
theorem dX5_readSum_72 : decode cX5_readSum 72 = .ok (.return_, 1) := zb_X5_readSum_0.2.2.2.2.2.2.2.2.1
theorem dX5_readSum_49 : decode cX5_readSum 49 = .ok (.aload_n 0, 1) := zb_X5_readSum_0.2.2.2.2.2.2.2.2.2.1
theorem dX5_readSum_50 : decode cX5_readSum 50 = .ok (.invokevirtual 68, 3) := zb_X5_readSum_0.2.2.2.2.2.2.2.2.2.2.1
theorem dX5_readSum_53 : decode cX5_readSum 53 = .ok (.aload_n 0, 1) := zb_X5_readSum_0.2.2.2.2.2.2.2.2.2.2.2
theorem zb_X5_readSum_54 : (decode cX5_readSum 54 = .ok (.iload_n 1, 1)) ∧ (decode cX5_readSum 55 = .ok (.invokevirtual 89, 3)) ∧ (decode cX5_readSum 58 = .ok (.aload_n 0, 1)) ∧ (decode cX5_readSum 59 = .ok (.getfield 27, 3)) ∧ (decode cX5_readSum 62 = .ok (.iload_n 3, 1)) ∧ (decode cX5_readSum 63 = .ok (.invokevirtual 77, 3)) ∧ (decode cX5_readSum 66 = .ok (.iinc 2 1, 3)) ∧ (decode cX5_readSum 69 = .ok (.goto (-62), 3)) ∧ (decode cX5_readSum 32 = .ok (.aload_n 0, 1)) ∧ (decode cX5_readSum 33 = .ok (.bipush 43, 2)) ∧ (decode cX5_readSum 35 = .ok (.invokevirtual 64, 3)) ∧ (decode cX5_readSum 38 = .ok (.ifCond .eq 8, 3)) := by decide +kernel
theorem dX5_readSum_54 : decode cX5_readSum 54 = .ok (.iload_n 1, 1) := zb_X5_readSum_54.1
theorem dX5_readSum_55 : decode cX5_readSum 55 = .ok (.invokevirtual 89, 3) := zb_X5_readSum_54.2.1
theorem dX5_readSum_58 : decode cX5_readSum 58 = .ok (.aload_n 0, 1) := zb_X5_readSum_54.2.2.1
theorem dX5_readSum_59 : decode cX5_readSum 59 = .ok (.getfield 27, 3) := zb_X5_readSum_54.2.2.2.1
theorem dX5_readSum_62 : decode cX5_readSum 62 = .ok (.iload_n 3, 1) := zb_X5_readSum_54.2.2.2.2.1
theorem dX5_readSum_63 : decode cX5_readSum 63 = .ok (.invokevirtual 77, 3) := zb_X5_readSum_54.2.2.2.2.2.1
theorem dX5_readSum_66 : decode cX5_readSum 66 = .ok (.iinc 2 1, 3) := zb_X5_readSum_54.2.2.2.2.2.2.1
theorem dX5_readSum_69 : decode cX5_readSum 69 = .ok (.goto (-62), 3) := zb_X5_readSum_54.2.2.2.2.2.2.2.1
theorem dX5_readSum_32 : decode cX5_readSum 32 = .ok (.aload_n 0, 1) := zb_X5_readSum_54.2.2.2.2.2.2.2.2.1
theorem dX5_readSum_33 : decode cX5_readSum 33 = .ok (.bipush 43, 2) := zb_X5_readSum_54.2.2.2.2.2.2.2.2.2.1
theorem dX5_readSum_35 : decode cX5_readSum 35 = .ok (.invokevirtual 64, 3) := zb_X5_readSum_54.2.2.2.2.2.2.2.2.2.2.1
theorem dX5_readSum_38 : decode cX5_readSum 38 = .ok (.ifCond .eq 8, 3) := zb_X5_readSum_54.2.2.2.2.2.2.2.2.2.2.2
theorem zb_X5_readSum_41 : (decode cX5_readSum 41 = .ok (.bipush (-16), 2)) ∧ (decode cX5_readSum 43 = .ok (.goto 5, 3)) ∧ (decode cX5_readSum 48 = .ok (.istore_n 3, 1)) ∧ (decode cX5_readSum 46 = .ok (.bipush (-17), 2)) ∧ (decode cX5_readSum 14 = .ok (.aload_n 0, 1)) ∧ (decode cX5_readSum 15 = .ok (.bipush 43, 2)) ∧ (decode cX5_readSum 17 = .ok (.invokevirtual 64, 3)) ∧ (decode cX5_readSum 20 = .ok (.ifCond .ne 12, 3)) ∧ (decode cX5_readSum 23 = .ok (.aload_n 0, 1)) ∧ (decode cX5_readSum 24 = .ok (.bipush 45, 2)) ∧ (decode cX5_readSum 26 = .ok (.invokevirtual 64, 3)) ∧ (decode cX5_readSum 29 = .ok (.ifCond .eq 43, 3)) := by decide +kernel
theorem dX5_readSum_41 : decode cX5_readSum 41 = .ok (.bipush (-16), 2) := zb_X5_readSum_41.1
theorem dX5_readSum_43 : decode cX5_readSum 43 = .ok (.goto 5, 3) := zb_X5_readSum_41.2.1
theorem dX5_readSum_48 : decode cX5_readSum 48 = .ok (.istore_n 3, 1) := zb_X5_readSum_41.2.2.1
theorem dX5_readSum_46 : decode cX5_readSum 46 = .ok (.bipush (-17), 2) := zb_X5_readSum_41.2.2.2.1
theorem dX5_readSum_14 : decode cX5_readSum 14 = .ok (.aload_n 0, 1) := zb_X5_readSum_41.2.2.2.2.1
theorem dX5_readSum_15 : decode cX5_readSum 15 = .ok (.bipush 43, 2) := zb_X5_readSum_41.2.2.2.2.2.1
theorem dX5_readSum_17 : decode cX5_readSum 17 = .ok (.invokevirtual 64, 3) := zb_X5_readSum_41.2.2.2.2.2.2.1
theorem dX5_readSum_20 : decode cX5_readSum 20 = .ok (.ifCond .ne 12, 3) := zb_X5_readSum_41.2.2.2.2.2.2.2.1
theorem dX5_readSum_23 : decode cX5_readSum 23 = .ok (.aload_n 0, 1) := zb_X5_readSum_41.2.2.2.2.2.2.2.2.1
theorem dX5_readSum_24 : decode cX5_readSum 24 = .ok (.bipush 45, 2) := zb_X5_readSum_41.2.2.2.2.2.2.2.2.2.1
theorem dX5_readSum_26 : decode cX5_readSum 26 = .ok (.invokevirtual 64, 3) := zb_X5_readSum_41.2.2.2.2.2.2.2.2.2.2.1
theorem dX5_readSum_29 : decode cX5_readSum 29 = .ok (.ifCond .eq 43, 3) := zb_X5_readSum_41.2.2.2.2.2.2.2.2.2.2.2
theorem zb_X5_readCompared_0 : (decode cX5_readCompared 0 = .ok (.aload_n 0, 1)) ∧ (decode cX5_readCompared 1 = .ok (.iload_n 1, 1)) ∧ (decode cX5_readCompared 2 = .ok (.invokevirtual 86, 3)) ∧ (decode cX5_readCompared 40 = .ok (.aload_n 0, 1)) ∧ (decode cX5_readCompared 41 = .ok (.invokevirtual 68, 3)) ∧ (decode cX5_readCompared 44 = .ok (.aload_n 0, 1)) ∧ (decode cX5_readCompared 45 = .ok (.iload_n 1, 1)) ∧ (decode cX5_readCompared 46 = .ok (.invokevirtual 86, 3)) ∧ (decode cX5_readCompared 49 = .ok (.aload_n 0, 1)) ∧ (decode cX5_readCompared 50 = .ok (.getfield 27, 3)) := by decide +kernel
theorem dX5_readCompared_0 : decode cX5_readCompared 0 = .ok (.aload_n 0, 1) := zb_X5_readCompared_0.1
theorem dX5_readCompared_1 : decode cX5_readCompared 1 = .ok (.iload_n 1, 1) := zb_X5_readCompared_0.2.1
theorem dX5_readCompared_2 : decode cX5_readCompared 2 = .ok (.invokevirtual 86, 3) := zb_X5_readCompared_0.2.2.1
theorem dX5_readCompared_40 : decode cX5_readCompared 40 = .ok (.aload_n 0, 1) := zb_X5_readCompared_0.2.2.2.1
theorem dX5_readCompared_41 : decode cX5_readCompared 41 = .ok (.invokevirtual 68, 3) := zb_X5_readCompared_0.2.2.2.2.1
theorem dX5_readCompared_44 : decode cX5_readCompared 44 = .ok (.aload_n 0, 1) := zb_X5_readCompared_0.2.2.2.2.2.1
theorem dX5_readCompared_45 : decode cX5_readCompared 45 = .ok (.iload_n 1, 1) := zb_X5_readCompared_0.2.2.2.2.2.2.1
theorem dX5_readCompared_46 : decode cX5_readCompared 46 = .ok (.invokevirtual 86, 3) := zb_X5_readCompared_0.2.2.2.2.2.2.2.1
theorem dX5_readCompared_49 : decode cX5_readCompared 49 = .ok (.aload_n 0, 1) := zb_X5_readCompared_0.2.2.2.2.2.2.2.2.1
theorem dX5_readCompared_50 : decode cX5_readCompared 50 = .ok (.getfield 27, 3) := zb_X5_readCompared_0.2.2.2.2.2.2.2.2.2
theorem zb_X5_readCompared_53 : (decode cX5_readCompared 53 = .ok (.iload_n 2, 1)) ∧ (decode cX5_readCompared 54 = .ok (.invokevirtual 77, 3)) ∧ (decode cX5_readCompared 57 = .ok (.return_, 1)) ∧ (decode cX5_readCompared 23 = .ok (.aload_n 0, 1)) ∧ (decode cX5_readCompared 24 = .ok (.bipush 60, 2)) ∧ (decode cX5_readCompared 26 = .ok (.invokevirtual 64, 3)) ∧ (decode cX5_readCompared 29 = .ok (.ifCond .eq 8, 3)) ∧ (decode cX5_readCompared 32 = .ok (.bipush (-14), 2)) ∧ (decode cX5_readCompared 34 = .ok (.goto 5, 3)) ∧ (decode cX5_readCompared 39 = .ok (.istore_n 2, 1)) := by decide +kernel
theorem dX5_readCompared_53 : decode cX5_readCompared 53 = .ok (.iload_n 2, 1) := zb_X5_readCompared_53.1
theorem dX5_readCompared_54 : decode cX5_readCompared 54 = .ok (.invokevirtual 77, 3) := zb_X5_readCompared_53.2.1
theorem dX5_readCompared_57 : decode cX5_readCompared 57 = .ok (.return_, 1) := zb_X5_readCompared_53.2.2.1
theorem dX5_readCompared_23 : decode cX5_readCompared 23 = .ok (.aload_n 0, 1) := zb_X5_readCompared_53.2.2.2.1
theorem dX5_readCompared_24 : decode cX5_readCompared 24 = .ok (.bipush 60, 2) := zb_X5_readCompared_53.2.2.2.2.1
theorem dX5_readCompared_26 : decode cX5_readCompared 26 = .ok (.invokevirtual 64, 3) := zb_X5_readCompared_53.2.2.2.2.2.1
theorem dX5_readCompared_29 : decode cX5_readCompared 29 = .ok (.ifCond .eq 8, 3) := zb_X5_readCompared_53.2.2.2.2.2.2.1
theorem dX5_readCompared_32 : decode cX5_readCompared 32 = .ok (.bipush (-14), 2) := zb_X5_readCompared_53.2.2.2.2.2.2.2.1
theorem dX5_readCompared_34 : decode cX5_readCompared 34 = .ok (.goto 5, 3) := zb_X5_readCompared_53.2.2.2.2.2.2.2.2.1
theorem dX5_readCompared_39 : decode cX5_readCompared 39 = .ok (.istore_n 2, 1) := zb_X5_readCompared_53.2.2.2.2.2.2.2.2.2
theorem zb_X5_readCompared_37 : (decode cX5_readCompared 37 = .ok (.bipush (-15), 2)) ∧ (decode cX5_readCompared 5 = .ok (.aload_n 0, 1)) ∧ (decode cX5_readCompared 6 = .ok (.bipush 60, 2)) ∧ (decode cX5_readCompared 8 = .ok (.invokevirtual 64, 3)) ∧ (decode cX5_readCompared 11 = .ok (.ifCond .ne 12, 3)) ∧ (decode cX5_readCompared 14 = .ok (.aload_n 0, 1)) ∧ (decode cX5_readCompared 15 = .ok (.bipush 61, 2)) ∧ (decode cX5_readCompared 17 = .ok (.invokevirtual 64, 3)) ∧ (decode cX5_readCompared 20 = .ok (.ifCond .eq 37, 3)) := by decide +kernel
theorem dX5_readCompared_37 : decode cX5_readCompared 37 = .ok (.bipush (-15), 2) := zb_X5_readCompared_37.1
theorem dX5_readCompared_5 : decode cX5_readCompared 5 = .ok (.aload_n 0, 1) := zb_X5_readCompared_37.2.1
theorem dX5_readCompared_6 : decode cX5_readCompared 6 = .ok (.bipush 60, 2) := zb_X5_readCompared_37.2.2.1
theorem dX5_readCompared_8 : decode cX5_readCompared 8 = .ok (.invokevirtual 64, 3) := zb_X5_readCompared_37.2.2.2.1
theorem dX5_readCompared_11 : decode cX5_readCompared 11 = .ok (.ifCond .ne 12, 3) := zb_X5_readCompared_37.2.2.2.2.1
theorem dX5_readCompared_14 : decode cX5_readCompared 14 = .ok (.aload_n 0, 1) := zb_X5_readCompared_37.2.2.2.2.2.1
theorem dX5_readCompared_15 : decode cX5_readCompared 15 = .ok (.bipush 61, 2) := zb_X5_readCompared_37.2.2.2.2.2.2.1
theorem dX5_readCompared_17 : decode cX5_readCompared 17 = .ok (.invokevirtual 64, 3) := zb_X5_readCompared_37.2.2.2.2.2.2.2.1
theorem dX5_readCompared_20 : decode cX5_readCompared 20 = .ok (.ifCond .eq 37, 3) := zb_X5_readCompared_37.2.2.2.2.2.2.2.2
theorem zb_X5_readNot_0 : (decode cX5_readNot 0 = .ok (.aload_n 0, 1)) ∧ (decode cX5_readNot 1 = .ok (.bipush 11, 2)) ∧ (decode cX5_readNot 3 = .ok (.invokevirtual 64, 3)) ∧ (decode cX5_readNot 6 = .ok (.ifCond .eq 15, 3)) ∧ (decode cX5_readNot 9 = .ok (.iload_n 1, 1)) ∧ (decode cX5_readNot 10 = .ok (.iconst 5, 1)) ∧ (decode cX5_readNot 11 = .ok (.if_icmp .lt 10, 3)) ∧ (decode cX5_readNot 14 = .ok (.aload_n 0, 1)) ∧ (decode cX5_readNot 15 = .ok (.invokevirtual 71, 3)) ∧ (decode cX5_readNot 18 = .ok (.goto 40, 3)) := by decide +kernel
theorem dX5_readNot_0 : decode cX5_readNot 0 = .ok (.aload_n 0, 1) := zb_X5_readNot_0.1
theorem dX5_readNot_1 : decode cX5_readNot 1 = .ok (.bipush 11, 2) := zb_X5_readNot_0.2.1
theorem dX5_readNot_3 : decode cX5_readNot 3 = .ok (.invokevirtual 64, 3) := zb_X5_readNot_0.2.2.1
theorem dX5_readNot_6 : decode cX5_readNot 6 = .ok (.ifCond .eq 15, 3) := zb_X5_readNot_0.2.2.2.1
theorem dX5_readNot_9 : decode cX5_readNot 9 = .ok (.iload_n 1, 1) := zb_X5_readNot_0.2.2.2.2.1
theorem dX5_readNot_10 : decode cX5_readNot 10 = .ok (.iconst 5, 1) := zb_X5_readNot_0.2.2.2.2.2.1
theorem dX5_readNot_11 : decode cX5_readNot 11 = .ok (.if_icmp .lt 10, 3) := zb_X5_readNot_0.2.2.2.2.2.2.1
theorem dX5_readNot_14 : decode cX5_readNot 14 = .ok (.aload_n 0, 1) := zb_X5_readNot_0.2.2.2.2.2.2.2.1
theorem dX5_readNot_15 : decode cX5_readNot 15 = .ok (.invokevirtual 71, 3) := zb_X5_readNot_0.2.2.2.2.2.2.2.2.1
theorem dX5_readNot_18 : decode cX5_readNot 18 = .ok (.goto 40, 3) := zb_X5_readNot_0.2.2.2.2.2.2.2.2.2
theorem zb_X5_readNot_58 : (decode cX5_readNot 58 = .ok (.return_, 1)) ∧ (decode cX5_readNot 21 = .ok (.aload_n 0, 1)) ∧ (decode cX5_readNot 22 = .ok (.bipush 11, 2)) ∧ (decode cX5_readNot 24 = .ok (.invokevirtual 64, 3)) ∧ (decode cX5_readNot 27 = .ok (.ifCond .eq 26, 3)) ∧ (decode cX5_readNot 30 = .ok (.aload_n 0, 1)) ∧ (decode cX5_readNot 31 = .ok (.invokevirtual 68, 3)) ∧ (decode cX5_readNot 34 = .ok (.aload_n 0, 1)) ∧ (decode cX5_readNot 35 = .ok (.iload_n 1, 1)) ∧ (decode cX5_readNot 36 = .ok (.iconst 1, 1)) := by decide +kernel
theorem dX5_readNot_58 : decode cX5_readNot 58 = .ok (.return_, 1) := zb_X5_readNot_58.1
theorem dX5_readNot_21 : decode cX5_readNot 21 = .ok (.aload_n 0, 1) := zb_X5_readNot_58.2.1
theorem dX5_readNot_22 : decode cX5_readNot 22 = .ok (.bipush 11, 2) := zb_X5_readNot_58.2.2.1
theorem dX5_readNot_24 : decode cX5_readNot 24 = .ok (.invokevirtual 64, 3) := zb_X5_readNot_58.2.2.2.1
theorem dX5_readNot_27 : decode cX5_readNot 27 = .ok (.ifCond .eq 26, 3) := zb_X5_readNot_58.2.2.2.2.1
theorem dX5_readNot_30 : decode cX5_readNot 30 = .ok (.aload_n 0, 1) := zb_X5_readNot_58.2.2.2.2.2.1
theorem dX5_readNot_31 : decode cX5_readNot 31 = .ok (.invokevirtual 68, 3) := zb_X5_readNot_58.2.2.2.2.2.2.1
theorem dX5_readNot_34 : decode cX5_readNot 34 = .ok (.aload_n 0, 1) := zb_X5_readNot_58.2.2.2.2.2.2.2.1
theorem dX5_readNot_35 : decode cX5_readNot 35 = .ok (.iload_n 1, 1) := zb_X5_readNot_58.2.2.2.2.2.2.2.2.1
theorem dX5_readNot_36 : decode cX5_readNot 36 = .ok (.iconst 1, 1) := zb_X5_readNot_58.2.2.2.2.2.2.2.2.2
theorem zb_X5_readNot_37 : (decode cX5_readNot 37 = .ok (.iadd, 1)) ∧ (decode cX5_readNot 53 = .ok (.aload_n 0, 1)) ∧ (decode cX5_readNot 54 = .ok (.iload_n 1, 1)) ∧ (decode cX5_readNot 55 = .ok (.invokevirtual 83, 3)) ∧ (decode cX5_readNot 38 = .ok (.invokevirtual 80, 3)) ∧ (decode cX5_readNot 41 = .ok (.aload_n 0, 1)) ∧ (decode cX5_readNot 42 = .ok (.getfield 27, 3)) ∧ (decode cX5_readNot 45 = .ok (.bipush (-13), 2)) ∧ (decode cX5_readNot 47 = .ok (.invokevirtual 77, 3)) ∧ (decode cX5_readNot 50 = .ok (.goto 8, 3)) := by decide +kernel
theorem dX5_readNot_37 : decode cX5_readNot 37 = .ok (.iadd, 1) := zb_X5_readNot_37.1
theorem dX5_readNot_53 : decode cX5_readNot 53 = .ok (.aload_n 0, 1) := zb_X5_readNot_37.2.1
theorem dX5_readNot_54 : decode cX5_readNot 54 = .ok (.iload_n 1, 1) := zb_X5_readNot_37.2.2.1
theorem dX5_readNot_55 : decode cX5_readNot 55 = .ok (.invokevirtual 83, 3) := zb_X5_readNot_37.2.2.2.1
theorem dX5_readNot_38 : decode cX5_readNot 38 = .ok (.invokevirtual 80, 3) := zb_X5_readNot_37.2.2.2.2.1
theorem dX5_readNot_41 : decode cX5_readNot 41 = .ok (.aload_n 0, 1) := zb_X5_readNot_37.2.2.2.2.2.1
theorem dX5_readNot_42 : decode cX5_readNot 42 = .ok (.getfield 27, 3) := zb_X5_readNot_37.2.2.2.2.2.2.1
theorem dX5_readNot_45 : decode cX5_readNot 45 = .ok (.bipush (-13), 2) := zb_X5_readNot_37.2.2.2.2.2.2.2.1
theorem dX5_readNot_47 : decode cX5_readNot 47 = .ok (.invokevirtual 77, 3) := zb_X5_readNot_37.2.2.2.2.2.2.2.2.1
theorem dX5_readNot_50 : decode cX5_readNot 50 = .ok (.goto 8, 3) := zb_X5_readNot_37.2.2.2.2.2.2.2.2.2
theorem zb_X5_readBoth_0 : (decode cX5_readBoth 0 = .ok (.aload_n 0, 1)) ∧ (decode cX5_readBoth 1 = .ok (.iload_n 1, 1)) ∧ (decode cX5_readBoth 2 = .ok (.invokevirtual 80, 3)) ∧ (decode cX5_readBoth 5 = .ok (.iconst 0, 1)) ∧ (decode cX5_readBoth 6 = .ok (.istore_n 2, 1)) ∧ (decode cX5_readBoth 7 = .ok (.iload_n 2, 1)) ∧ (decode cX5_readBoth 8 = .ok (.sipush 160, 3)) ∧ (decode cX5_readBoth 11 = .ok (.if_icmp .ge 36, 3)) ∧ (decode cX5_readBoth 47 = .ok (.return_, 1)) ∧ (decode cX5_readBoth 14 = .ok (.aload_n 0, 1)) ∧ (decode cX5_readBoth 15 = .ok (.bipush 10, 2)) ∧ (decode cX5_readBoth 17 = .ok (.invokevirtual 64, 3)) := by decide +kernel
theorem dX5_readBoth_0 : decode cX5_readBoth 0 = .ok (.aload_n 0, 1) := zb_X5_readBoth_0.1
theorem dX5_readBoth_1 : decode cX5_readBoth 1 = .ok (.iload_n 1, 1) := zb_X5_readBoth_0.2.1
theorem dX5_readBoth_2 : decode cX5_readBoth 2 = .ok (.invokevirtual 80, 3) := zb_X5_readBoth_0.2.2.1
theorem dX5_readBoth_5 : decode cX5_readBoth 5 = .ok (.iconst 0, 1) := zb_X5_readBoth_0.2.2.2.1
theorem dX5_readBoth_6 : decode cX5_readBoth 6 = .ok (.istore_n 2, 1) := zb_X5_readBoth_0.2.2.2.2.1
theorem dX5_readBoth_7 : decode cX5_readBoth 7 = .ok (.iload_n 2, 1) := zb_X5_readBoth_0.2.2.2.2.2.1
theorem dX5_readBoth_8 : decode cX5_readBoth 8 = .ok (.sipush 160, 3) := zb_X5_readBoth_0.2.2.2.2.2.2.1
theorem dX5_readBoth_11 : decode cX5_readBoth 11 = .ok (.if_icmp .ge 36, 3) := zb_X5_readBoth_0.2.2.2.2.2.2.2.1
theorem dX5_readBoth_47 : decode cX5_readBoth 47 = .ok (.return_, 1) := zb_X5_readBoth_0.2.2.2.2.2.2.2.2.1
theorem dX5_readBoth_14 : decode cX5_readBoth 14 = .ok (.aload_n 0, 1) := zb_X5_readBoth_0.2.2.2.2.2.2.2.2.2.1
theorem dX5_readBoth_15 : decode cX5_readBoth 15 = .ok (.bipush 10, 2) := zb_X5_readBoth_0.2.2.2.2.2.2.2.2.2.2.1
theorem dX5_readBoth_17 : decode cX5_readBoth 17 = .ok (.invokevirtual 64, 3) := zb_X5_readBoth_0.2.2.2.2.2.2.2.2.2.2.2
theorem zb_X5_readBoth_20 : (decode cX5_readBoth 20 = .ok (.ifCond .eq 27, 3)) ∧ (decode cX5_readBoth 23 = .ok (.aload_n 0, 1)) ∧ (decode cX5_readBoth 24 = .ok (.invokevirtual 68, 3)) ∧ (decode cX5_readBoth 27 = .ok (.aload_n 0, 1)) ∧ (decode cX5_readBoth 28 = .ok (.iload_n 1, 1)) ∧ (decode cX5_readBoth 29 = .ok (.invokevirtual 80, 3)) ∧ (decode cX5_readBoth 32 = .ok (.aload_n 0, 1)) ∧ (decode cX5_readBoth 33 = .ok (.getfield 27, 3)) ∧ (decode cX5_readBoth 36 = .ok (.bipush (-12), 2)) ∧ (decode cX5_readBoth 38 = .ok (.invokevirtual 77, 3)) ∧ (decode cX5_readBoth 41 = .ok (.iinc 2 1, 3)) ∧ (decode cX5_readBoth 44 = .ok (.goto (-37), 3)) := by decide +kernel
theorem dX5_readBoth_20 : decode cX5_readBoth 20 = .ok (.ifCond .eq 27, 3) := zb_X5_readBoth_20.1
theorem dX5_readBoth_23 : decode cX5_readBoth 23 = .ok (.aload_n 0, 1) := zb_X5_readBoth_20.2.1
theorem dX5_readBoth_24 : decode cX5_readBoth 24 = .ok (.invokevirtual 68, 3) := zb_X5_readBoth_20.2.2.1
theorem dX5_readBoth_27 : decode cX5_readBoth 27 = .ok (.aload_n 0, 1) := zb_X5_readBoth_20.2.2.2.1
theorem dX5_readBoth_28 : decode cX5_readBoth 28 = .ok (.iload_n 1, 1) := zb_X5_readBoth_20.2.2.2.2.1
theorem dX5_readBoth_29 : decode cX5_readBoth 29 = .ok (.invokevirtual 80, 3) := zb_X5_readBoth_20.2.2.2.2.2.1
theorem dX5_readBoth_32 : decode cX5_readBoth 32 = .ok (.aload_n 0, 1) := zb_X5_readBoth_20.2.2.2.2.2.2.1
theorem dX5_readBoth_33 : decode cX5_readBoth 33 = .ok (.getfield 27, 3) := zb_X5_readBoth_20.2.2.2.2.2.2.2.1
theorem dX5_readBoth_36 : decode cX5_readBoth 36 = .ok (.bipush (-12), 2) := zb_X5_readBoth_20.2.2.2.2.2.2.2.2.1
theorem dX5_readBoth_38 : decode cX5_readBoth 38 = .ok (.invokevirtual 77, 3) := zb_X5_readBoth_20.2.2.2.2.2.2.2.2.2.1
theorem dX5_readBoth_41 : decode cX5_readBoth 41 = .ok (.iinc 2 1, 3) := zb_X5_readBoth_20.2.2.2.2.2.2.2.2.2.2.1
theorem dX5_readBoth_44 : decode cX5_readBoth 44 = .ok (.goto (-37), 3) := zb_X5_readBoth_20.2.2.2.2.2.2.2.2.2.2.2
theorem zb_X5_readChoice_0 : (decode cX5_readChoice 0 = .ok (.aload_n 0, 1)) ∧ (decode cX5_readChoice 1 = .ok (.iload_n 1, 1)) ∧ (decode cX5_readChoice 2 = .ok (.invokevirtual 74, 3)) ∧ (decode cX5_readChoice 5 = .ok (.iconst 0, 1)) ∧ (decode cX5_readChoice 6 = .ok (.istore_n 2, 1)) ∧ (decode cX5_readChoice 7 = .ok (.iload_n 2, 1)) ∧ (decode cX5_readChoice 8 = .ok (.sipush 160, 3)) ∧ (decode cX5_readChoice 11 = .ok (.if_icmp .ge 36, 3)) ∧ (decode cX5_readChoice 47 = .ok (.return_, 1)) ∧ (decode cX5_readChoice 14 = .ok (.aload_n 0, 1)) ∧ (decode cX5_readChoice 15 = .ok (.bipush 9, 2)) ∧ (decode cX5_readChoice 17 = .ok (.invokevirtual 64, 3)) := by decide +kernel
theorem dX5_readChoice_0 : decode cX5_readChoice 0 = .ok (.aload_n 0, 1) := zb_X5_readChoice_0.1
theorem dX5_readChoice_1 : decode cX5_readChoice 1 = .ok (.iload_n 1, 1) := zb_X5_readChoice_0.2.1
theorem dX5_readChoice_2 : decode cX5_readChoice 2 = .ok (.invokevirtual 74, 3) := zb_X5_readChoice_0.2.2.1
theorem dX5_readChoice_5 : decode cX5_readChoice 5 = .ok (.iconst 0, 1) := zb_X5_readChoice_0.2.2.2.1
theorem dX5_readChoice_6 : decode cX5_readChoice 6 = .ok (.istore_n 2, 1) := zb_X5_readChoice_0.2.2.2.2.1
theorem dX5_readChoice_7 : decode cX5_readChoice 7 = .ok (.iload_n 2, 1) := zb_X5_readChoice_0.2.2.2.2.2.1
theorem dX5_readChoice_8 : decode cX5_readChoice 8 = .ok (.sipush 160, 3) := zb_X5_readChoice_0.2.2.2.2.2.2.1
theorem dX5_readChoice_11 : decode cX5_readChoice 11 = .ok (.if_icmp .ge 36, 3) := zb_X5_readChoice_0.2.2.2.2.2.2.2.1
theorem dX5_readChoice_47 : decode cX5_readChoice 47 = .ok (.return_, 1) := zb_X5_readChoice_0.2.2.2.2.2.2.2.2.1
theorem dX5_readChoice_14 : decode cX5_readChoice 14 = .ok (.aload_n 0, 1) := zb_X5_readChoice_0.2.2.2.2.2.2.2.2.2.1
theorem dX5_readChoice_15 : decode cX5_readChoice 15 = .ok (.bipush 9, 2) := zb_X5_readChoice_0.2.2.2.2.2.2.2.2.2.2.1
theorem dX5_readChoice_17 : decode cX5_readChoice 17 = .ok (.invokevirtual 64, 3) := zb_X5_readChoice_0.2.2.2.2.2.2.2.2.2.2.2
theorem zb_X5_readChoice_20 : (decode cX5_readChoice 20 = .ok (.ifCond .eq 27, 3)) ∧ (decode cX5_readChoice 23 = .ok (.aload_n 0, 1)) ∧ (decode cX5_readChoice 24 = .ok (.invokevirtual 68, 3)) ∧ (decode cX5_readChoice 27 = .ok (.aload_n 0, 1)) ∧ (decode cX5_readChoice 28 = .ok (.iload_n 1, 1)) ∧ (decode cX5_readChoice 29 = .ok (.invokevirtual 74, 3)) ∧ (decode cX5_readChoice 32 = .ok (.aload_n 0, 1)) ∧ (decode cX5_readChoice 33 = .ok (.getfield 27, 3)) ∧ (decode cX5_readChoice 36 = .ok (.bipush (-11), 2)) ∧ (decode cX5_readChoice 38 = .ok (.invokevirtual 77, 3)) ∧ (decode cX5_readChoice 41 = .ok (.iinc 2 1, 3)) ∧ (decode cX5_readChoice 44 = .ok (.goto (-37), 3)) := by decide +kernel
theorem dX5_readChoice_20 : decode cX5_readChoice 20 = .ok (.ifCond .eq 27, 3) := zb_X5_readChoice_20.1
theorem dX5_readChoice_23 : decode cX5_readChoice 23 = .ok (.aload_n 0, 1) := zb_X5_readChoice_20.2.1
theorem dX5_readChoice_24 : decode cX5_readChoice 24 = .ok (.invokevirtual 68, 3) := zb_X5_readChoice_20.2.2.1
theorem dX5_readChoice_27 : decode cX5_readChoice 27 = .ok (.aload_n 0, 1) := zb_X5_readChoice_20.2.2.2.1
theorem dX5_readChoice_28 : decode cX5_readChoice 28 = .ok (.iload_n 1, 1) := zb_X5_readChoice_20.2.2.2.2.1
theorem dX5_readChoice_29 : decode cX5_readChoice 29 = .ok (.invokevirtual 74, 3) := zb_X5_readChoice_20.2.2.2.2.2.1
theorem dX5_readChoice_32 : decode cX5_readChoice 32 = .ok (.aload_n 0, 1) := zb_X5_readChoice_20.2.2.2.2.2.2.1
theorem dX5_readChoice_33 : decode cX5_readChoice 33 = .ok (.getfield 27, 3) := zb_X5_readChoice_20.2.2.2.2.2.2.2.1
theorem dX5_readChoice_36 : decode cX5_readChoice 36 = .ok (.bipush (-11), 2) := zb_X5_readChoice_20.2.2.2.2.2.2.2.2.1
theorem dX5_readChoice_38 : decode cX5_readChoice 38 = .ok (.invokevirtual 77, 3) := zb_X5_readChoice_20.2.2.2.2.2.2.2.2.2.1
theorem dX5_readChoice_41 : decode cX5_readChoice 41 = .ok (.iinc 2 1, 3) := zb_X5_readChoice_20.2.2.2.2.2.2.2.2.2.2.1
theorem dX5_readChoice_44 : decode cX5_readChoice 44 = .ok (.goto (-37), 3) := zb_X5_readChoice_20.2.2.2.2.2.2.2.2.2.2.2
theorem ck_X5_cutOne_0_20re : ((cX5_cutOne.data.toList).drop 0).take 16 = [28, 62, 3, 54, 4, 29, 42, 180, 0, 37, 162, 0, 21, 42, 180, 0] := by decide +kernel
theorem ck_X5_cutOne_1_20re : ((cX5_cutOne.data.toList).drop 16).take 16 = [11, 29, 46, 184, 0, 101, 153, 0, 9, 132, 3, 1, 167, 255, 233, 29] := by decide +kernel
theorem ck_X5_cutOne_2_20re : ((cX5_cutOne.data.toList).drop 32).take 16 = [28, 164, 0, 17, 42, 180, 0, 15, 27, 42, 28, 29, 182, 0, 104, 79] := by decide +kernel
theorem ck_X5_cutOne_3_20re : ((cX5_cutOne.data.toList).drop 48).take 16 = [29, 172, 29, 42, 180, 0, 37, 162, 0, 38, 42, 180, 0, 11, 29, 46] := by decide +kernel
theorem ck_X5_cutOne_4_20re : ((cX5_cutOne.data.toList).drop 64).take 16 = [184, 0, 107, 153, 0, 26, 21, 4, 16, 10, 104, 42, 180, 0, 11, 29] := by decide +kernel
theorem ck_X5_cutOne_5_20re : ((cX5_cutOne.data.toList).drop 80).take 16 = [46, 96, 16, 48, 100, 54, 4, 132, 3, 1, 167, 255, 216, 29, 28, 164] := by decide +kernel
theorem ck_X5_cutOne_6_20re : ((cX5_cutOne.data.toList).drop 96).take 16 = [0, 32, 42, 180, 0, 15, 27, 29, 28, 100, 7, 163, 0, 8, 16, 12] := by decide +kernel
theorem ck_X5_cutOne_7_20re : ((cX5_cutOne.data.toList).drop 112).take 16 = [167, 0, 4, 2, 79, 42, 180, 0, 21, 27, 21, 4, 79, 29, 172, 42] := by decide +kernel
theorem ck_X5_cutOne_8_20re : ((cX5_cutOne.data.toList).drop 128).take 16 = [180, 0, 15, 27, 42, 180, 0, 11, 28, 46, 184, 0, 110, 153, 0, 12] := by decide +kernel
theorem ck_X5_cutOne_9_20re : ((cX5_cutOne.data.toList).drop 144).take 16 = [42, 180, 0, 11, 28, 46, 167, 0, 4, 2, 79, 28, 4, 96, 172] := by decide +kernel
theorem ck_X5_readOne_0_20re : ((cX5_readOne.data.toList).drop 0).take 16 = [42, 16, 12, 182, 0, 64, 153, 0, 26, 42, 180, 0, 27, 42, 180, 0] := by decide +kernel
theorem ck_X5_readOne_1_20re : ((cX5_readOne.data.toList).drop 16).take 16 = [21, 42, 180, 0, 47, 46, 182, 0, 77, 42, 182, 0, 68, 167, 0, 135] := by decide +kernel
theorem ck_X5_readOne_2_20re : ((cX5_readOne.data.toList).drop 32).take 16 = [42, 180, 0, 50, 156, 0, 53, 42, 180, 0, 15, 42, 180, 0, 47, 46] := by decide +kernel
theorem ck_X5_readOne_3_20re : ((cX5_readOne.data.toList).drop 48).take 16 = [158, 0, 41, 42, 180, 0, 15, 42, 180, 0, 47, 46, 16, 6, 163, 0] := by decide +kernel
theorem ck_X5_readOne_4_20re : ((cX5_readOne.data.toList).drop 64).take 16 = [27, 42, 180, 0, 27, 42, 180, 0, 15, 42, 180, 0, 47, 46, 116, 182] := by decide +kernel
theorem ck_X5_readOne_5_20re : ((cX5_readOne.data.toList).drop 80).take 16 = [0, 77, 42, 182, 0, 68, 167, 0, 78, 42, 16, 45, 182, 0, 64, 153] := by decide +kernel
theorem ck_X5_readOne_6_20re : ((cX5_readOne.data.toList).drop 96).take 16 = [0, 31, 27, 8, 162, 0, 26, 42, 182, 0, 68, 42, 27, 4, 96, 182] := by decide +kernel
theorem ck_X5_readOne_7_20re : ((cX5_readOne.data.toList).drop 112).take 16 = [0, 92, 42, 180, 0, 27, 16, 237, 182, 0, 77, 167, 0, 41, 42, 16] := by decide +kernel
theorem ck_X5_readOne_8_20re : ((cX5_readOne.data.toList).drop 128).take 16 = [40, 182, 0, 64, 153, 0, 28, 27, 8, 162, 0, 23, 42, 182, 0, 68] := by decide +kernel
theorem ck_X5_readOne_9_20re : ((cX5_readOne.data.toList).drop 144).take 16 = [42, 27, 4, 96, 182, 0, 57, 42, 16, 41, 182, 0, 53, 167, 0, 7] := by decide +kernel
theorem ck_X5_readOne_10_20re : ((cX5_readOne.data.toList).drop 160).take 16 = [42, 182, 0, 71, 177] := by decide +kernel
theorem gX5_isSpelt_J0_length_8abf5 : GoodIn wsX5_isSpelt (wsV RX5 121 RJ0 yJ0_length_8abf5 wsJ0_length_8abf5) := ru_gG (ru_gV tw_4_95 tw_4_96 tw_4_97 tw_1_13 mT_J0_length_8abf5)
theorem gX5_isSpelt_J0_charAt_5068e : GoodIn wsX5_isSpelt (wsV RX5 127 RJ0 yJ0_charAt_5068e wsJ0_charAt_5068e) := ru_gG (ru_gV tw_4_105 tw_4_106 tw_4_107 tw_1_13 mT_J0_charAt_5068e)
theorem gX5_wordOf_X5_nthWord : GoodIn wsX5_wordOf (va_wsS RX5 113 yX5_nthWord wsX5_nthWord) := ru_gG (ru_gS tw_4_77 tw_4_78 tw_1_7 mT_X5_nthWord)
theorem gX5_wordOf_X5_isSpelt : GoodIn wsX5_wordOf (wsV RX5 117 RX5 yX5_isSpelt wsX5_isSpelt) := ru_gG (ru_gV tw_4_91 tw_4_93 tw_0_12 tw_1_7 mT_X5_isSpelt)
theorem dX5_cutOne_0 : decode cX5_cutOne 0 = .ok (.iload_n 2, 1) := dk_0 (dk_k28 0) (dk_by (j := 0) rfl ck_X5_cutOne_0_20re rfl rfl rfl)
theorem dX5_cutOne_1 : decode cX5_cutOne 1 = .ok (.istore_n 3, 1) := dk_0 (dk_k62 1) (dk_by (j := 1) rfl ck_X5_cutOne_0_20re rfl rfl rfl)
theorem dX5_cutOne_2 : decode cX5_cutOne 2 = .ok (.iconst 0, 1) := dk_0 (dk_k3 2) (dk_by (j := 2) rfl ck_X5_cutOne_0_20re rfl rfl rfl)
theorem dX5_cutOne_5 : decode cX5_cutOne 5 = .ok (.iload_n 3, 1) := dk_0 (dk_k29 5) (dk_by (j := 5) rfl ck_X5_cutOne_0_20re rfl rfl rfl)
theorem dX5_cutOne_6 : decode cX5_cutOne 6 = .ok (.aload_n 0, 1) := dk_0 (dk_k42 6) (dk_by (j := 6) rfl ck_X5_cutOne_0_20re rfl rfl rfl)
theorem dX5_cutOne_7 : decode cX5_cutOne 7 = .ok (.getfield 37, 3) := dk_2 (dk_k180 7) (dk_by (j := 7) rfl ck_X5_cutOne_0_20re rfl rfl rfl) (dk_by (j := 8) rfl ck_X5_cutOne_0_20re rfl rfl rfl) (dk_by (j := 9) rfl ck_X5_cutOne_0_20re rfl rfl rfl) (by decide)
theorem dX5_cutOne_10 : decode cX5_cutOne 10 = .ok (.if_icmp .ge 21, 3) := dk_s (dk_k162 10) (dk_by (j := 10) rfl ck_X5_cutOne_0_20re rfl rfl rfl) (dk_by (j := 11) rfl ck_X5_cutOne_0_20re rfl rfl rfl) (dk_by (j := 12) rfl ck_X5_cutOne_0_20re rfl rfl rfl) (by decide)
theorem dX5_cutOne_31 : decode cX5_cutOne 31 = .ok (.iload_n 3, 1) := dk_0 (dk_k29 31) (dk_by (j := 15) rfl ck_X5_cutOne_1_20re rfl rfl rfl)
theorem dX5_cutOne_32 : decode cX5_cutOne 32 = .ok (.iload_n 2, 1) := dk_0 (dk_k28 32) (dk_by (j := 0) rfl ck_X5_cutOne_2_20re rfl rfl rfl)
theorem dX5_cutOne_33 : decode cX5_cutOne 33 = .ok (.if_icmp .le 17, 3) := dk_s (dk_k164 33) (dk_by (j := 1) rfl ck_X5_cutOne_2_20re rfl rfl rfl) (dk_by (j := 2) rfl ck_X5_cutOne_2_20re rfl rfl rfl) (dk_by (j := 3) rfl ck_X5_cutOne_2_20re rfl rfl rfl) (by decide)
theorem dX5_cutOne_50 : decode cX5_cutOne 50 = .ok (.iload_n 3, 1) := dk_0 (dk_k29 50) (dk_by (j := 2) rfl ck_X5_cutOne_3_20re rfl rfl rfl)
theorem dX5_cutOne_51 : decode cX5_cutOne 51 = .ok (.aload_n 0, 1) := dk_0 (dk_k42 51) (dk_by (j := 3) rfl ck_X5_cutOne_3_20re rfl rfl rfl)
theorem dX5_cutOne_52 : decode cX5_cutOne 52 = .ok (.getfield 37, 3) := dk_2 (dk_k180 52) (dk_by (j := 4) rfl ck_X5_cutOne_3_20re rfl rfl rfl) (dk_by (j := 5) rfl ck_X5_cutOne_3_20re rfl rfl rfl) (dk_by (j := 6) rfl ck_X5_cutOne_3_20re rfl rfl rfl) (by decide)
theorem dX5_cutOne_55 : decode cX5_cutOne 55 = .ok (.if_icmp .ge 38, 3) := dk_s (dk_k162 55) (dk_by (j := 7) rfl ck_X5_cutOne_3_20re rfl rfl rfl) (dk_by (j := 8) rfl ck_X5_cutOne_3_20re rfl rfl rfl) (dk_by (j := 9) rfl ck_X5_cutOne_3_20re rfl rfl rfl) (by decide)
theorem dX5_cutOne_93 : decode cX5_cutOne 93 = .ok (.iload_n 3, 1) := dk_0 (dk_k29 93) (dk_by (j := 13) rfl ck_X5_cutOne_5_20re rfl rfl rfl)
theorem dX5_cutOne_94 : decode cX5_cutOne 94 = .ok (.iload_n 2, 1) := dk_0 (dk_k28 94) (dk_by (j := 14) rfl ck_X5_cutOne_5_20re rfl rfl rfl)
theorem dX5_cutOne_95 : decode cX5_cutOne 95 = .ok (.if_icmp .le 32, 3) := dk_s (dk_k164 95) (dk_by (j := 15) rfl ck_X5_cutOne_5_20re rfl rfl rfl) (dk_by (j := 0) rfl ck_X5_cutOne_6_20re rfl rfl rfl) (dk_by (j := 1) rfl ck_X5_cutOne_6_20re rfl rfl rfl) (by decide)
theorem dX5_cutOne_127 : decode cX5_cutOne 127 = .ok (.aload_n 0, 1) := dk_0 (dk_k42 127) (dk_by (j := 15) rfl ck_X5_cutOne_7_20re rfl rfl rfl)
theorem dX5_cutOne_128 : decode cX5_cutOne 128 = .ok (.getfield 15, 3) := dk_2 (dk_k180 128) (dk_by (j := 0) rfl ck_X5_cutOne_8_20re rfl rfl rfl) (dk_by (j := 1) rfl ck_X5_cutOne_8_20re rfl rfl rfl) (dk_by (j := 2) rfl ck_X5_cutOne_8_20re rfl rfl rfl) (by decide)
theorem dX5_cutOne_131 : decode cX5_cutOne 131 = .ok (.iload_n 1, 1) := dk_0 (dk_k27 131) (dk_by (j := 3) rfl ck_X5_cutOne_8_20re rfl rfl rfl)
theorem dX5_cutOne_132 : decode cX5_cutOne 132 = .ok (.aload_n 0, 1) := dk_0 (dk_k42 132) (dk_by (j := 4) rfl ck_X5_cutOne_8_20re rfl rfl rfl)
theorem dX5_cutOne_133 : decode cX5_cutOne 133 = .ok (.getfield 11, 3) := dk_2 (dk_k180 133) (dk_by (j := 5) rfl ck_X5_cutOne_8_20re rfl rfl rfl) (dk_by (j := 6) rfl ck_X5_cutOne_8_20re rfl rfl rfl) (dk_by (j := 7) rfl ck_X5_cutOne_8_20re rfl rfl rfl) (by decide)
theorem dX5_cutOne_136 : decode cX5_cutOne 136 = .ok (.iload_n 2, 1) := dk_0 (dk_k28 136) (dk_by (j := 8) rfl ck_X5_cutOne_8_20re rfl rfl rfl)
theorem dX5_cutOne_137 : decode cX5_cutOne 137 = .ok (.iaload, 1) := dk_0 (dk_k46 137) (dk_by (j := 9) rfl ck_X5_cutOne_8_20re rfl rfl rfl)
theorem gX5_cutOne_X5_isSign : GoodIn wsX5_cutOne (va_wsS RX5 110 yX5_isSign wsX5_isSign) := ru_gG (ru_gS tw_4_146 tw_4_147 tw_1_7 mT_X5_isSign)
theorem dX5_cutOne_138 : decode cX5_cutOne 138 = .ok (.invokestatic 110, 3) := dk_2 (dk_k184 138) (dk_by (j := 10) rfl ck_X5_cutOne_8_20re rfl rfl rfl) (dk_by (j := 11) rfl ck_X5_cutOne_8_20re rfl rfl rfl) (dk_by (j := 12) rfl ck_X5_cutOne_8_20re rfl rfl rfl) (by decide)
theorem dX5_cutOne_141 : decode cX5_cutOne 141 = .ok (.ifCond .eq 12, 3) := dk_s (dk_k153 141) (dk_by (j := 13) rfl ck_X5_cutOne_8_20re rfl rfl rfl) (dk_by (j := 14) rfl ck_X5_cutOne_8_20re rfl rfl rfl) (dk_by (j := 15) rfl ck_X5_cutOne_8_20re rfl rfl rfl) (by decide)
theorem dX5_cutOne_144 : decode cX5_cutOne 144 = .ok (.aload_n 0, 1) := dk_0 (dk_k42 144) (dk_by (j := 0) rfl ck_X5_cutOne_9_20re rfl rfl rfl)
theorem dX5_cutOne_145 : decode cX5_cutOne 145 = .ok (.getfield 11, 3) := dk_2 (dk_k180 145) (dk_by (j := 1) rfl ck_X5_cutOne_9_20re rfl rfl rfl) (dk_by (j := 2) rfl ck_X5_cutOne_9_20re rfl rfl rfl) (dk_by (j := 3) rfl ck_X5_cutOne_9_20re rfl rfl rfl) (by decide)
theorem dX5_cutOne_148 : decode cX5_cutOne 148 = .ok (.iload_n 2, 1) := dk_0 (dk_k28 148) (dk_by (j := 4) rfl ck_X5_cutOne_9_20re rfl rfl rfl)
theorem dX5_cutOne_149 : decode cX5_cutOne 149 = .ok (.iaload, 1) := dk_0 (dk_k46 149) (dk_by (j := 5) rfl ck_X5_cutOne_9_20re rfl rfl rfl)
theorem dX5_cutOne_150 : decode cX5_cutOne 150 = .ok (.goto 4, 3) := dk_s (dk_k167 150) (dk_by (j := 6) rfl ck_X5_cutOne_9_20re rfl rfl rfl) (dk_by (j := 7) rfl ck_X5_cutOne_9_20re rfl rfl rfl) (dk_by (j := 8) rfl ck_X5_cutOne_9_20re rfl rfl rfl) (by decide)
theorem dX5_cutOne_154 : decode cX5_cutOne 154 = .ok (.iastore, 1) := dk_0 (dk_k79 154) (dk_by (j := 10) rfl ck_X5_cutOne_9_20re rfl rfl rfl)
theorem dX5_cutOne_155 : decode cX5_cutOne 155 = .ok (.iload_n 2, 1) := dk_0 (dk_k28 155) (dk_by (j := 11) rfl ck_X5_cutOne_9_20re rfl rfl rfl)
theorem dX5_cutOne_156 : decode cX5_cutOne 156 = .ok (.iconst 1, 1) := dk_0 (dk_k4 156) (dk_by (j := 12) rfl ck_X5_cutOne_9_20re rfl rfl rfl)
theorem dX5_cutOne_157 : decode cX5_cutOne 157 = .ok (.iadd, 1) := dk_0 (dk_k96 157) (dk_by (j := 13) rfl ck_X5_cutOne_9_20re rfl rfl rfl)
theorem dX5_cutOne_158 : decode cX5_cutOne 158 = .ok (.ireturn, 1) := dk_0 (dk_k172 158) (dk_by (j := 14) rfl ck_X5_cutOne_9_20re rfl rfl rfl)
theorem dX5_cutOne_153 : decode cX5_cutOne 153 = .ok (.iconst (-1), 1) := dk_0 (dk_k2 153) (dk_by (j := 9) rfl ck_X5_cutOne_9_20re rfl rfl rfl)
theorem dX5_cutOne_98 : decode cX5_cutOne 98 = .ok (.aload_n 0, 1) := dk_0 (dk_k42 98) (dk_by (j := 2) rfl ck_X5_cutOne_6_20re rfl rfl rfl)
theorem dX5_cutOne_99 : decode cX5_cutOne 99 = .ok (.getfield 15, 3) := dk_2 (dk_k180 99) (dk_by (j := 3) rfl ck_X5_cutOne_6_20re rfl rfl rfl) (dk_by (j := 4) rfl ck_X5_cutOne_6_20re rfl rfl rfl) (dk_by (j := 5) rfl ck_X5_cutOne_6_20re rfl rfl rfl) (by decide)
theorem dX5_cutOne_102 : decode cX5_cutOne 102 = .ok (.iload_n 1, 1) := dk_0 (dk_k27 102) (dk_by (j := 6) rfl ck_X5_cutOne_6_20re rfl rfl rfl)
theorem dX5_cutOne_103 : decode cX5_cutOne 103 = .ok (.iload_n 3, 1) := dk_0 (dk_k29 103) (dk_by (j := 7) rfl ck_X5_cutOne_6_20re rfl rfl rfl)
theorem dX5_cutOne_104 : decode cX5_cutOne 104 = .ok (.iload_n 2, 1) := dk_0 (dk_k28 104) (dk_by (j := 8) rfl ck_X5_cutOne_6_20re rfl rfl rfl)
theorem dX5_cutOne_105 : decode cX5_cutOne 105 = .ok (.isub, 1) := dk_0 (dk_k100 105) (dk_by (j := 9) rfl ck_X5_cutOne_6_20re rfl rfl rfl)
theorem dX5_cutOne_106 : decode cX5_cutOne 106 = .ok (.iconst 4, 1) := dk_0 (dk_k7 106) (dk_by (j := 10) rfl ck_X5_cutOne_6_20re rfl rfl rfl)
theorem dX5_cutOne_107 : decode cX5_cutOne 107 = .ok (.if_icmp .gt 8, 3) := dk_s (dk_k163 107) (dk_by (j := 11) rfl ck_X5_cutOne_6_20re rfl rfl rfl) (dk_by (j := 12) rfl ck_X5_cutOne_6_20re rfl rfl rfl) (dk_by (j := 13) rfl ck_X5_cutOne_6_20re rfl rfl rfl) (by decide)
theorem dX5_cutOne_115 : decode cX5_cutOne 115 = .ok (.iconst (-1), 1) := dk_0 (dk_k2 115) (dk_by (j := 3) rfl ck_X5_cutOne_7_20re rfl rfl rfl)
theorem dX5_cutOne_116 : decode cX5_cutOne 116 = .ok (.iastore, 1) := dk_0 (dk_k79 116) (dk_by (j := 4) rfl ck_X5_cutOne_7_20re rfl rfl rfl)
theorem dX5_cutOne_117 : decode cX5_cutOne 117 = .ok (.aload_n 0, 1) := dk_0 (dk_k42 117) (dk_by (j := 5) rfl ck_X5_cutOne_7_20re rfl rfl rfl)
theorem dX5_cutOne_118 : decode cX5_cutOne 118 = .ok (.getfield 21, 3) := dk_2 (dk_k180 118) (dk_by (j := 6) rfl ck_X5_cutOne_7_20re rfl rfl rfl) (dk_by (j := 7) rfl ck_X5_cutOne_7_20re rfl rfl rfl) (dk_by (j := 8) rfl ck_X5_cutOne_7_20re rfl rfl rfl) (by decide)
theorem dX5_cutOne_121 : decode cX5_cutOne 121 = .ok (.iload_n 1, 1) := dk_0 (dk_k27 121) (dk_by (j := 9) rfl ck_X5_cutOne_7_20re rfl rfl rfl)
theorem dX5_cutOne_124 : decode cX5_cutOne 124 = .ok (.iastore, 1) := dk_0 (dk_k79 124) (dk_by (j := 12) rfl ck_X5_cutOne_7_20re rfl rfl rfl)
theorem dX5_cutOne_125 : decode cX5_cutOne 125 = .ok (.iload_n 3, 1) := dk_0 (dk_k29 125) (dk_by (j := 13) rfl ck_X5_cutOne_7_20re rfl rfl rfl)
theorem dX5_cutOne_126 : decode cX5_cutOne 126 = .ok (.ireturn, 1) := dk_0 (dk_k172 126) (dk_by (j := 14) rfl ck_X5_cutOne_7_20re rfl rfl rfl)
theorem dX5_cutOne_110 : decode cX5_cutOne 110 = .ok (.bipush 12, 2) := dk_1 (dk_k16 110) (dk_by (j := 14) rfl ck_X5_cutOne_6_20re rfl rfl rfl) (dk_by (j := 15) rfl ck_X5_cutOne_6_20re rfl rfl rfl) (by decide)
theorem dX5_cutOne_112 : decode cX5_cutOne 112 = .ok (.goto 4, 3) := dk_s (dk_k167 112) (dk_by (j := 0) rfl ck_X5_cutOne_7_20re rfl rfl rfl) (dk_by (j := 1) rfl ck_X5_cutOne_7_20re rfl rfl rfl) (dk_by (j := 2) rfl ck_X5_cutOne_7_20re rfl rfl rfl) (by decide)
theorem dX5_cutOne_58 : decode cX5_cutOne 58 = .ok (.aload_n 0, 1) := dk_0 (dk_k42 58) (dk_by (j := 10) rfl ck_X5_cutOne_3_20re rfl rfl rfl)
theorem dX5_cutOne_59 : decode cX5_cutOne 59 = .ok (.getfield 11, 3) := dk_2 (dk_k180 59) (dk_by (j := 11) rfl ck_X5_cutOne_3_20re rfl rfl rfl) (dk_by (j := 12) rfl ck_X5_cutOne_3_20re rfl rfl rfl) (dk_by (j := 13) rfl ck_X5_cutOne_3_20re rfl rfl rfl) (by decide)
theorem dX5_cutOne_62 : decode cX5_cutOne 62 = .ok (.iload_n 3, 1) := dk_0 (dk_k29 62) (dk_by (j := 14) rfl ck_X5_cutOne_3_20re rfl rfl rfl)
theorem dX5_cutOne_63 : decode cX5_cutOne 63 = .ok (.iaload, 1) := dk_0 (dk_k46 63) (dk_by (j := 15) rfl ck_X5_cutOne_3_20re rfl rfl rfl)
theorem gX5_cutOne_X5_isDigit : GoodIn wsX5_cutOne (va_wsS RX5 107 yX5_isDigit wsX5_isDigit) := ru_gG (ru_gS tw_4_143 tw_4_144 tw_1_7 mT_X5_isDigit)
theorem dX5_cutOne_64 : decode cX5_cutOne 64 = .ok (.invokestatic 107, 3) := dk_2 (dk_k184 64) (dk_by (j := 0) rfl ck_X5_cutOne_4_20re rfl rfl rfl) (dk_by (j := 1) rfl ck_X5_cutOne_4_20re rfl rfl rfl) (dk_by (j := 2) rfl ck_X5_cutOne_4_20re rfl rfl rfl) (by decide)
theorem dX5_cutOne_67 : decode cX5_cutOne 67 = .ok (.ifCond .eq 26, 3) := dk_s (dk_k153 67) (dk_by (j := 3) rfl ck_X5_cutOne_4_20re rfl rfl rfl) (dk_by (j := 4) rfl ck_X5_cutOne_4_20re rfl rfl rfl) (dk_by (j := 5) rfl ck_X5_cutOne_4_20re rfl rfl rfl) (by decide)
theorem dX5_cutOne_72 : decode cX5_cutOne 72 = .ok (.bipush 10, 2) := dk_1 (dk_k16 72) (dk_by (j := 8) rfl ck_X5_cutOne_4_20re rfl rfl rfl) (dk_by (j := 9) rfl ck_X5_cutOne_4_20re rfl rfl rfl) (by decide)
theorem dX5_cutOne_75 : decode cX5_cutOne 75 = .ok (.aload_n 0, 1) := dk_0 (dk_k42 75) (dk_by (j := 11) rfl ck_X5_cutOne_4_20re rfl rfl rfl)
theorem dX5_cutOne_76 : decode cX5_cutOne 76 = .ok (.getfield 11, 3) := dk_2 (dk_k180 76) (dk_by (j := 12) rfl ck_X5_cutOne_4_20re rfl rfl rfl) (dk_by (j := 13) rfl ck_X5_cutOne_4_20re rfl rfl rfl) (dk_by (j := 14) rfl ck_X5_cutOne_4_20re rfl rfl rfl) (by decide)
theorem dX5_cutOne_79 : decode cX5_cutOne 79 = .ok (.iload_n 3, 1) := dk_0 (dk_k29 79) (dk_by (j := 15) rfl ck_X5_cutOne_4_20re rfl rfl rfl)
theorem dX5_cutOne_80 : decode cX5_cutOne 80 = .ok (.iaload, 1) := dk_0 (dk_k46 80) (dk_by (j := 0) rfl ck_X5_cutOne_5_20re rfl rfl rfl)
theorem dX5_cutOne_81 : decode cX5_cutOne 81 = .ok (.iadd, 1) := dk_0 (dk_k96 81) (dk_by (j := 1) rfl ck_X5_cutOne_5_20re rfl rfl rfl)
theorem dX5_cutOne_82 : decode cX5_cutOne 82 = .ok (.bipush 48, 2) := dk_1 (dk_k16 82) (dk_by (j := 2) rfl ck_X5_cutOne_5_20re rfl rfl rfl) (dk_by (j := 3) rfl ck_X5_cutOne_5_20re rfl rfl rfl) (by decide)
theorem dX5_cutOne_84 : decode cX5_cutOne 84 = .ok (.isub, 1) := dk_0 (dk_k100 84) (dk_by (j := 4) rfl ck_X5_cutOne_5_20re rfl rfl rfl)
theorem dX5_cutOne_90 : decode cX5_cutOne 90 = .ok (.goto (-40), 3) := dk_s (dk_k167 90) (dk_by (j := 10) rfl ck_X5_cutOne_5_20re rfl rfl rfl) (dk_by (j := 11) rfl ck_X5_cutOne_5_20re rfl rfl rfl) (dk_by (j := 12) rfl ck_X5_cutOne_5_20re rfl rfl rfl) (by decide)
theorem dX5_cutOne_36 : decode cX5_cutOne 36 = .ok (.aload_n 0, 1) := dk_0 (dk_k42 36) (dk_by (j := 4) rfl ck_X5_cutOne_2_20re rfl rfl rfl)
theorem dX5_cutOne_37 : decode cX5_cutOne 37 = .ok (.getfield 15, 3) := dk_2 (dk_k180 37) (dk_by (j := 5) rfl ck_X5_cutOne_2_20re rfl rfl rfl) (dk_by (j := 6) rfl ck_X5_cutOne_2_20re rfl rfl rfl) (dk_by (j := 7) rfl ck_X5_cutOne_2_20re rfl rfl rfl) (by decide)
theorem dX5_cutOne_40 : decode cX5_cutOne 40 = .ok (.iload_n 1, 1) := dk_0 (dk_k27 40) (dk_by (j := 8) rfl ck_X5_cutOne_2_20re rfl rfl rfl)
theorem dX5_cutOne_41 : decode cX5_cutOne 41 = .ok (.aload_n 0, 1) := dk_0 (dk_k42 41) (dk_by (j := 9) rfl ck_X5_cutOne_2_20re rfl rfl rfl)
theorem dX5_cutOne_42 : decode cX5_cutOne 42 = .ok (.iload_n 2, 1) := dk_0 (dk_k28 42) (dk_by (j := 10) rfl ck_X5_cutOne_2_20re rfl rfl rfl)
theorem dX5_cutOne_43 : decode cX5_cutOne 43 = .ok (.iload_n 3, 1) := dk_0 (dk_k29 43) (dk_by (j := 11) rfl ck_X5_cutOne_2_20re rfl rfl rfl)
theorem gX5_cutOne_X5_wordOf : GoodIn wsX5_cutOne (wsV RX5 104 RX5 yX5_wordOf wsX5_wordOf) := ru_gG (ru_gV tw_4_73 tw_4_75 tw_0_11 tw_1_7 mT_X5_wordOf)
theorem dX5_cutOne_44 : decode cX5_cutOne 44 = .ok (.invokevirtual 104, 3) := dk_2 (dk_k182 44) (dk_by (j := 12) rfl ck_X5_cutOne_2_20re rfl rfl rfl) (dk_by (j := 13) rfl ck_X5_cutOne_2_20re rfl rfl rfl) (dk_by (j := 14) rfl ck_X5_cutOne_2_20re rfl rfl rfl) (by decide)
theorem dX5_cutOne_47 : decode cX5_cutOne 47 = .ok (.iastore, 1) := dk_0 (dk_k79 47) (dk_by (j := 15) rfl ck_X5_cutOne_2_20re rfl rfl rfl)
theorem dX5_cutOne_48 : decode cX5_cutOne 48 = .ok (.iload_n 3, 1) := dk_0 (dk_k29 48) (dk_by (j := 0) rfl ck_X5_cutOne_3_20re rfl rfl rfl)
theorem dX5_cutOne_49 : decode cX5_cutOne 49 = .ok (.ireturn, 1) := dk_0 (dk_k172 49) (dk_by (j := 1) rfl ck_X5_cutOne_3_20re rfl rfl rfl)
theorem dX5_cutOne_13 : decode cX5_cutOne 13 = .ok (.aload_n 0, 1) := dk_0 (dk_k42 13) (dk_by (j := 13) rfl ck_X5_cutOne_0_20re rfl rfl rfl)
theorem dX5_cutOne_14 : decode cX5_cutOne 14 = .ok (.getfield 11, 3) := dk_2 (dk_k180 14) (dk_by (j := 14) rfl ck_X5_cutOne_0_20re rfl rfl rfl) (dk_by (j := 15) rfl ck_X5_cutOne_0_20re rfl rfl rfl) (dk_by (j := 0) rfl ck_X5_cutOne_1_20re rfl rfl rfl) (by decide)
theorem dX5_cutOne_17 : decode cX5_cutOne 17 = .ok (.iload_n 3, 1) := dk_0 (dk_k29 17) (dk_by (j := 1) rfl ck_X5_cutOne_1_20re rfl rfl rfl)
theorem dX5_cutOne_18 : decode cX5_cutOne 18 = .ok (.iaload, 1) := dk_0 (dk_k46 18) (dk_by (j := 2) rfl ck_X5_cutOne_1_20re rfl rfl rfl)
theorem gX5_cutOne_X5_isLetter : GoodIn wsX5_cutOne (va_wsS RX5 101 yX5_isLetter wsX5_isLetter) := ru_gG (ru_gS tw_4_70 tw_4_71 tw_1_7 mT_X5_isLetter)
theorem dX5_cutOne_19 : decode cX5_cutOne 19 = .ok (.invokestatic 101, 3) := dk_2 (dk_k184 19) (dk_by (j := 3) rfl ck_X5_cutOne_1_20re rfl rfl rfl) (dk_by (j := 4) rfl ck_X5_cutOne_1_20re rfl rfl rfl) (dk_by (j := 5) rfl ck_X5_cutOne_1_20re rfl rfl rfl) (by decide)
theorem dX5_cutOne_22 : decode cX5_cutOne 22 = .ok (.ifCond .eq 9, 3) := dk_s (dk_k153 22) (dk_by (j := 6) rfl ck_X5_cutOne_1_20re rfl rfl rfl) (dk_by (j := 7) rfl ck_X5_cutOne_1_20re rfl rfl rfl) (dk_by (j := 8) rfl ck_X5_cutOne_1_20re rfl rfl rfl) (by decide)
theorem dX5_cutOne_28 : decode cX5_cutOne 28 = .ok (.goto (-23), 3) := dk_s (dk_k167 28) (dk_by (j := 12) rfl ck_X5_cutOne_1_20re rfl rfl rfl) (dk_by (j := 13) rfl ck_X5_cutOne_1_20re rfl rfl rfl) (dk_by (j := 14) rfl ck_X5_cutOne_1_20re rfl rfl rfl) (by decide)
theorem gX5_cutTokens_X5_isBlank : GoodIn wsX5_cutTokens (va_wsS RX5 95 yX5_isBlank wsX5_isBlank) := ru_gG (ru_gS tw_4_63 tw_4_64 tw_1_7 mT_X5_isBlank)
theorem gX5_cutTokens_X5_cutOne : GoodIn wsX5_cutTokens (wsV RX5 98 RX5 yX5_cutOne wsX5_cutOne) := ru_gG (ru_gV tw_4_66 tw_4_68 tw_0_10 tw_1_7 mT_X5_cutOne)
theorem gX5_need_X5_sees : GoodIn wsX5_need (wsV RX5 64 RX5 yX5_sees wsX5_sees) := ru_gG (ru_gV tw_4_154 tw_4_156 tw_0_14 tw_1_7 mT_X5_sees)
theorem gX5_need_X5_advance : GoodIn wsX5_need (wsV RX5 68 RX5 yX5_advance wsX5_advance) := ru_gG (ru_gV tw_4_158 tw_4_160 tw_0_15 tw_1_7 mT_X5_advance)
theorem gX5_need_X5_fail : GoodIn wsX5_need (wsV RX5 71 RX5 yX5_fail wsX5_fail) := ru_gG (ru_gV tw_4_162 tw_4_164 tw_0_16 tw_1_7 mT_X5_fail)
theorem dX5_readOne_160 : decode cX5_readOne 160 = .ok (.aload_n 0, 1) := dk_0 (dk_k42 160) (dk_by (j := 0) rfl ck_X5_readOne_10_20re rfl rfl rfl)
theorem gX5_readOne_X5_fail : GoodIn wsX5_readOne (wsV RX5 71 RX5 yX5_fail wsX5_fail) := ru_gG (ru_gV tw_4_162 tw_4_164 tw_0_16 tw_1_7 mT_X5_fail)
theorem dX5_readOne_161 : decode cX5_readOne 161 = .ok (.invokevirtual 71, 3) := dk_2 (dk_k182 161) (dk_by (j := 1) rfl ck_X5_readOne_10_20re rfl rfl rfl) (dk_by (j := 2) rfl ck_X5_readOne_10_20re rfl rfl rfl) (dk_by (j := 3) rfl ck_X5_readOne_10_20re rfl rfl rfl) (by decide)
theorem dX5_readOne_164 : decode cX5_readOne 164 = .ok (.return_, 1) := dk_0 (dk_k177 164) (dk_by (j := 4) rfl ck_X5_readOne_10_20re rfl rfl rfl)
theorem dX5_readOne_126 : decode cX5_readOne 126 = .ok (.aload_n 0, 1) := dk_0 (dk_k42 126) (dk_by (j := 14) rfl ck_X5_readOne_7_20re rfl rfl rfl)
theorem dX5_readOne_127 : decode cX5_readOne 127 = .ok (.bipush 40, 2) := dk_1 (dk_k16 127) (dk_by (j := 15) rfl ck_X5_readOne_7_20re rfl rfl rfl) (dk_by (j := 0) rfl ck_X5_readOne_8_20re rfl rfl rfl) (by decide)
theorem gX5_readOne_X5_sees : GoodIn wsX5_readOne (wsV RX5 64 RX5 yX5_sees wsX5_sees) := ru_gG (ru_gV tw_4_154 tw_4_156 tw_0_14 tw_1_7 mT_X5_sees)
theorem dX5_readOne_129 : decode cX5_readOne 129 = .ok (.invokevirtual 64, 3) := dk_2 (dk_k182 129) (dk_by (j := 1) rfl ck_X5_readOne_8_20re rfl rfl rfl) (dk_by (j := 2) rfl ck_X5_readOne_8_20re rfl rfl rfl) (dk_by (j := 3) rfl ck_X5_readOne_8_20re rfl rfl rfl) (by decide)
theorem dX5_readOne_132 : decode cX5_readOne 132 = .ok (.ifCond .eq 28, 3) := dk_s (dk_k153 132) (dk_by (j := 4) rfl ck_X5_readOne_8_20re rfl rfl rfl) (dk_by (j := 5) rfl ck_X5_readOne_8_20re rfl rfl rfl) (dk_by (j := 6) rfl ck_X5_readOne_8_20re rfl rfl rfl) (by decide)
theorem dX5_readOne_135 : decode cX5_readOne 135 = .ok (.iload_n 1, 1) := dk_0 (dk_k27 135) (dk_by (j := 7) rfl ck_X5_readOne_8_20re rfl rfl rfl)
theorem dX5_readOne_136 : decode cX5_readOne 136 = .ok (.iconst 5, 1) := dk_0 (dk_k8 136) (dk_by (j := 8) rfl ck_X5_readOne_8_20re rfl rfl rfl)
theorem dX5_readOne_137 : decode cX5_readOne 137 = .ok (.if_icmp .ge 23, 3) := dk_s (dk_k162 137) (dk_by (j := 9) rfl ck_X5_readOne_8_20re rfl rfl rfl) (dk_by (j := 10) rfl ck_X5_readOne_8_20re rfl rfl rfl) (dk_by (j := 11) rfl ck_X5_readOne_8_20re rfl rfl rfl) (by decide)
theorem dX5_readOne_89 : decode cX5_readOne 89 = .ok (.aload_n 0, 1) := dk_0 (dk_k42 89) (dk_by (j := 9) rfl ck_X5_readOne_5_20re rfl rfl rfl)
theorem dX5_readOne_90 : decode cX5_readOne 90 = .ok (.bipush 45, 2) := dk_1 (dk_k16 90) (dk_by (j := 10) rfl ck_X5_readOne_5_20re rfl rfl rfl) (dk_by (j := 11) rfl ck_X5_readOne_5_20re rfl rfl rfl) (by decide)
theorem dX5_readOne_92 : decode cX5_readOne 92 = .ok (.invokevirtual 64, 3) := dk_2 (dk_k182 92) (dk_by (j := 12) rfl ck_X5_readOne_5_20re rfl rfl rfl) (dk_by (j := 13) rfl ck_X5_readOne_5_20re rfl rfl rfl) (dk_by (j := 14) rfl ck_X5_readOne_5_20re rfl rfl rfl) (by decide)
theorem dX5_readOne_95 : decode cX5_readOne 95 = .ok (.ifCond .eq 31, 3) := dk_s (dk_k153 95) (dk_by (j := 15) rfl ck_X5_readOne_5_20re rfl rfl rfl) (dk_by (j := 0) rfl ck_X5_readOne_6_20re rfl rfl rfl) (dk_by (j := 1) rfl ck_X5_readOne_6_20re rfl rfl rfl) (by decide)
theorem dX5_readOne_98 : decode cX5_readOne 98 = .ok (.iload_n 1, 1) := dk_0 (dk_k27 98) (dk_by (j := 2) rfl ck_X5_readOne_6_20re rfl rfl rfl)
theorem dX5_readOne_99 : decode cX5_readOne 99 = .ok (.iconst 5, 1) := dk_0 (dk_k8 99) (dk_by (j := 3) rfl ck_X5_readOne_6_20re rfl rfl rfl)
theorem dX5_readOne_100 : decode cX5_readOne 100 = .ok (.if_icmp .ge 26, 3) := dk_s (dk_k162 100) (dk_by (j := 4) rfl ck_X5_readOne_6_20re rfl rfl rfl) (dk_by (j := 5) rfl ck_X5_readOne_6_20re rfl rfl rfl) (dk_by (j := 6) rfl ck_X5_readOne_6_20re rfl rfl rfl) (by decide)
theorem dX5_readOne_0 : decode cX5_readOne 0 = .ok (.aload_n 0, 1) := dk_0 (dk_k42 0) (dk_by (j := 0) rfl ck_X5_readOne_0_20re rfl rfl rfl)
theorem dX5_readOne_1 : decode cX5_readOne 1 = .ok (.bipush 12, 2) := dk_1 (dk_k16 1) (dk_by (j := 1) rfl ck_X5_readOne_0_20re rfl rfl rfl) (dk_by (j := 2) rfl ck_X5_readOne_0_20re rfl rfl rfl) (by decide)
theorem dX5_readOne_3 : decode cX5_readOne 3 = .ok (.invokevirtual 64, 3) := dk_2 (dk_k182 3) (dk_by (j := 3) rfl ck_X5_readOne_0_20re rfl rfl rfl) (dk_by (j := 4) rfl ck_X5_readOne_0_20re rfl rfl rfl) (dk_by (j := 5) rfl ck_X5_readOne_0_20re rfl rfl rfl) (by decide)
theorem dX5_readOne_6 : decode cX5_readOne 6 = .ok (.ifCond .eq 26, 3) := dk_s (dk_k153 6) (dk_by (j := 6) rfl ck_X5_readOne_0_20re rfl rfl rfl) (dk_by (j := 7) rfl ck_X5_readOne_0_20re rfl rfl rfl) (dk_by (j := 8) rfl ck_X5_readOne_0_20re rfl rfl rfl) (by decide)
theorem dX5_readOne_9 : decode cX5_readOne 9 = .ok (.aload_n 0, 1) := dk_0 (dk_k42 9) (dk_by (j := 9) rfl ck_X5_readOne_0_20re rfl rfl rfl)
theorem dX5_readOne_10 : decode cX5_readOne 10 = .ok (.getfield 27, 3) := dk_2 (dk_k180 10) (dk_by (j := 10) rfl ck_X5_readOne_0_20re rfl rfl rfl) (dk_by (j := 11) rfl ck_X5_readOne_0_20re rfl rfl rfl) (dk_by (j := 12) rfl ck_X5_readOne_0_20re rfl rfl rfl) (by decide)
theorem dX5_readOne_13 : decode cX5_readOne 13 = .ok (.aload_n 0, 1) := dk_0 (dk_k42 13) (dk_by (j := 13) rfl ck_X5_readOne_0_20re rfl rfl rfl)
theorem dX5_readOne_14 : decode cX5_readOne 14 = .ok (.getfield 21, 3) := dk_2 (dk_k180 14) (dk_by (j := 14) rfl ck_X5_readOne_0_20re rfl rfl rfl) (dk_by (j := 15) rfl ck_X5_readOne_0_20re rfl rfl rfl) (dk_by (j := 0) rfl ck_X5_readOne_1_20re rfl rfl rfl) (by decide)
theorem dX5_readOne_17 : decode cX5_readOne 17 = .ok (.aload_n 0, 1) := dk_0 (dk_k42 17) (dk_by (j := 1) rfl ck_X5_readOne_1_20re rfl rfl rfl)
theorem dX5_readOne_18 : decode cX5_readOne 18 = .ok (.getfield 47, 3) := dk_2 (dk_k180 18) (dk_by (j := 2) rfl ck_X5_readOne_1_20re rfl rfl rfl) (dk_by (j := 3) rfl ck_X5_readOne_1_20re rfl rfl rfl) (dk_by (j := 4) rfl ck_X5_readOne_1_20re rfl rfl rfl) (by decide)
theorem dX5_readOne_21 : decode cX5_readOne 21 = .ok (.iaload, 1) := dk_0 (dk_k46 21) (dk_by (j := 5) rfl ck_X5_readOne_1_20re rfl rfl rfl)
theorem gX5_readOne_X9_addStep : GoodIn wsX5_readOne (wsV RX5 77 RX9 yX9_addStep wsX9_addStep) := ru_gG (ru_gV tw_4_178 tw_1_236 tw_1_237 tw_1_8 mT_X9_addStep)
theorem dX5_readOne_22 : decode cX5_readOne 22 = .ok (.invokevirtual 77, 3) := dk_2 (dk_k182 22) (dk_by (j := 6) rfl ck_X5_readOne_1_20re rfl rfl rfl) (dk_by (j := 7) rfl ck_X5_readOne_1_20re rfl rfl rfl) (dk_by (j := 8) rfl ck_X5_readOne_1_20re rfl rfl rfl) (by decide)
theorem dX5_readOne_25 : decode cX5_readOne 25 = .ok (.aload_n 0, 1) := dk_0 (dk_k42 25) (dk_by (j := 9) rfl ck_X5_readOne_1_20re rfl rfl rfl)
theorem gX5_readOne_X5_advance : GoodIn wsX5_readOne (wsV RX5 68 RX5 yX5_advance wsX5_advance) := ru_gG (ru_gV tw_4_158 tw_4_160 tw_0_15 tw_1_7 mT_X5_advance)
theorem dX5_readOne_26 : decode cX5_readOne 26 = .ok (.invokevirtual 68, 3) := dk_2 (dk_k182 26) (dk_by (j := 10) rfl ck_X5_readOne_1_20re rfl rfl rfl) (dk_by (j := 11) rfl ck_X5_readOne_1_20re rfl rfl rfl) (dk_by (j := 12) rfl ck_X5_readOne_1_20re rfl rfl rfl) (by decide)
theorem dX5_readOne_29 : decode cX5_readOne 29 = .ok (.goto 135, 3) := dk_s (dk_k167 29) (dk_by (j := 13) rfl ck_X5_readOne_1_20re rfl rfl rfl) (dk_by (j := 14) rfl ck_X5_readOne_1_20re rfl rfl rfl) (dk_by (j := 15) rfl ck_X5_readOne_1_20re rfl rfl rfl) (by decide)
theorem dX5_readOne_32 : decode cX5_readOne 32 = .ok (.aload_n 0, 1) := dk_0 (dk_k42 32) (dk_by (j := 0) rfl ck_X5_readOne_2_20re rfl rfl rfl)
theorem dX5_readOne_33 : decode cX5_readOne 33 = .ok (.getfield 50, 3) := dk_2 (dk_k180 33) (dk_by (j := 1) rfl ck_X5_readOne_2_20re rfl rfl rfl) (dk_by (j := 2) rfl ck_X5_readOne_2_20re rfl rfl rfl) (dk_by (j := 3) rfl ck_X5_readOne_2_20re rfl rfl rfl) (by decide)
theorem dX5_readOne_36 : decode cX5_readOne 36 = .ok (.ifCond .ge 53, 3) := dk_s (dk_k156 36) (dk_by (j := 4) rfl ck_X5_readOne_2_20re rfl rfl rfl) (dk_by (j := 5) rfl ck_X5_readOne_2_20re rfl rfl rfl) (dk_by (j := 6) rfl ck_X5_readOne_2_20re rfl rfl rfl) (by decide)
theorem dX5_readOne_39 : decode cX5_readOne 39 = .ok (.aload_n 0, 1) := dk_0 (dk_k42 39) (dk_by (j := 7) rfl ck_X5_readOne_2_20re rfl rfl rfl)
theorem dX5_readOne_40 : decode cX5_readOne 40 = .ok (.getfield 15, 3) := dk_2 (dk_k180 40) (dk_by (j := 8) rfl ck_X5_readOne_2_20re rfl rfl rfl) (dk_by (j := 9) rfl ck_X5_readOne_2_20re rfl rfl rfl) (dk_by (j := 10) rfl ck_X5_readOne_2_20re rfl rfl rfl) (by decide)
theorem dX5_readOne_43 : decode cX5_readOne 43 = .ok (.aload_n 0, 1) := dk_0 (dk_k42 43) (dk_by (j := 11) rfl ck_X5_readOne_2_20re rfl rfl rfl)
theorem dX5_readOne_44 : decode cX5_readOne 44 = .ok (.getfield 47, 3) := dk_2 (dk_k180 44) (dk_by (j := 12) rfl ck_X5_readOne_2_20re rfl rfl rfl) (dk_by (j := 13) rfl ck_X5_readOne_2_20re rfl rfl rfl) (dk_by (j := 14) rfl ck_X5_readOne_2_20re rfl rfl rfl) (by decide)
theorem dX5_readOne_47 : decode cX5_readOne 47 = .ok (.iaload, 1) := dk_0 (dk_k46 47) (dk_by (j := 15) rfl ck_X5_readOne_2_20re rfl rfl rfl)
theorem dX5_readOne_48 : decode cX5_readOne 48 = .ok (.ifCond .le 41, 3) := dk_s (dk_k158 48) (dk_by (j := 0) rfl ck_X5_readOne_3_20re rfl rfl rfl) (dk_by (j := 1) rfl ck_X5_readOne_3_20re rfl rfl rfl) (dk_by (j := 2) rfl ck_X5_readOne_3_20re rfl rfl rfl) (by decide)
theorem dX5_readOne_51 : decode cX5_readOne 51 = .ok (.aload_n 0, 1) := dk_0 (dk_k42 51) (dk_by (j := 3) rfl ck_X5_readOne_3_20re rfl rfl rfl)
theorem dX5_readOne_52 : decode cX5_readOne 52 = .ok (.getfield 15, 3) := dk_2 (dk_k180 52) (dk_by (j := 4) rfl ck_X5_readOne_3_20re rfl rfl rfl) (dk_by (j := 5) rfl ck_X5_readOne_3_20re rfl rfl rfl) (dk_by (j := 6) rfl ck_X5_readOne_3_20re rfl rfl rfl) (by decide)
theorem dX5_readOne_55 : decode cX5_readOne 55 = .ok (.aload_n 0, 1) := dk_0 (dk_k42 55) (dk_by (j := 7) rfl ck_X5_readOne_3_20re rfl rfl rfl)
theorem dX5_readOne_56 : decode cX5_readOne 56 = .ok (.getfield 47, 3) := dk_2 (dk_k180 56) (dk_by (j := 8) rfl ck_X5_readOne_3_20re rfl rfl rfl) (dk_by (j := 9) rfl ck_X5_readOne_3_20re rfl rfl rfl) (dk_by (j := 10) rfl ck_X5_readOne_3_20re rfl rfl rfl) (by decide)
theorem dX5_readOne_59 : decode cX5_readOne 59 = .ok (.iaload, 1) := dk_0 (dk_k46 59) (dk_by (j := 11) rfl ck_X5_readOne_3_20re rfl rfl rfl)
theorem dX5_readOne_60 : decode cX5_readOne 60 = .ok (.bipush 6, 2) := dk_1 (dk_k16 60) (dk_by (j := 12) rfl ck_X5_readOne_3_20re rfl rfl rfl) (dk_by (j := 13) rfl ck_X5_readOne_3_20re rfl rfl rfl) (by decide)
theorem dX5_readOne_62 : decode cX5_readOne 62 = .ok (.if_icmp .gt 27, 3) := dk_s (dk_k163 62) (dk_by (j := 14) rfl ck_X5_readOne_3_20re rfl rfl rfl) (dk_by (j := 15) rfl ck_X5_readOne_3_20re rfl rfl rfl) (dk_by (j := 0) rfl ck_X5_readOne_4_20re rfl rfl rfl) (by decide)
theorem dX5_readOne_65 : decode cX5_readOne 65 = .ok (.aload_n 0, 1) := dk_0 (dk_k42 65) (dk_by (j := 1) rfl ck_X5_readOne_4_20re rfl rfl rfl)
theorem dX5_readOne_66 : decode cX5_readOne 66 = .ok (.getfield 27, 3) := dk_2 (dk_k180 66) (dk_by (j := 2) rfl ck_X5_readOne_4_20re rfl rfl rfl) (dk_by (j := 3) rfl ck_X5_readOne_4_20re rfl rfl rfl) (dk_by (j := 4) rfl ck_X5_readOne_4_20re rfl rfl rfl) (by decide)
theorem dX5_readOne_69 : decode cX5_readOne 69 = .ok (.aload_n 0, 1) := dk_0 (dk_k42 69) (dk_by (j := 5) rfl ck_X5_readOne_4_20re rfl rfl rfl)
theorem dX5_readOne_70 : decode cX5_readOne 70 = .ok (.getfield 15, 3) := dk_2 (dk_k180 70) (dk_by (j := 6) rfl ck_X5_readOne_4_20re rfl rfl rfl) (dk_by (j := 7) rfl ck_X5_readOne_4_20re rfl rfl rfl) (dk_by (j := 8) rfl ck_X5_readOne_4_20re rfl rfl rfl) (by decide)
theorem dX5_readOne_73 : decode cX5_readOne 73 = .ok (.aload_n 0, 1) := dk_0 (dk_k42 73) (dk_by (j := 9) rfl ck_X5_readOne_4_20re rfl rfl rfl)
theorem dX5_readOne_74 : decode cX5_readOne 74 = .ok (.getfield 47, 3) := dk_2 (dk_k180 74) (dk_by (j := 10) rfl ck_X5_readOne_4_20re rfl rfl rfl) (dk_by (j := 11) rfl ck_X5_readOne_4_20re rfl rfl rfl) (dk_by (j := 12) rfl ck_X5_readOne_4_20re rfl rfl rfl) (by decide)
theorem dX5_readOne_77 : decode cX5_readOne 77 = .ok (.iaload, 1) := dk_0 (dk_k46 77) (dk_by (j := 13) rfl ck_X5_readOne_4_20re rfl rfl rfl)
theorem dX5_readOne_78 : decode cX5_readOne 78 = .ok (.ineg, 1) := by decide +kernel
theorem dX5_readOne_79 : decode cX5_readOne 79 = .ok (.invokevirtual 77, 3) := dk_2 (dk_k182 79) (dk_by (j := 15) rfl ck_X5_readOne_4_20re rfl rfl rfl) (dk_by (j := 0) rfl ck_X5_readOne_5_20re rfl rfl rfl) (dk_by (j := 1) rfl ck_X5_readOne_5_20re rfl rfl rfl) (by decide)
theorem dX5_readOne_82 : decode cX5_readOne 82 = .ok (.aload_n 0, 1) := dk_0 (dk_k42 82) (dk_by (j := 2) rfl ck_X5_readOne_5_20re rfl rfl rfl)
theorem dX5_readOne_83 : decode cX5_readOne 83 = .ok (.invokevirtual 68, 3) := dk_2 (dk_k182 83) (dk_by (j := 3) rfl ck_X5_readOne_5_20re rfl rfl rfl) (dk_by (j := 4) rfl ck_X5_readOne_5_20re rfl rfl rfl) (dk_by (j := 5) rfl ck_X5_readOne_5_20re rfl rfl rfl) (by decide)
theorem dX5_readOne_86 : decode cX5_readOne 86 = .ok (.goto 78, 3) := dk_s (dk_k167 86) (dk_by (j := 6) rfl ck_X5_readOne_5_20re rfl rfl rfl) (dk_by (j := 7) rfl ck_X5_readOne_5_20re rfl rfl rfl) (dk_by (j := 8) rfl ck_X5_readOne_5_20re rfl rfl rfl) (by decide)
theorem gX5_readTerm_X5_readOne : GoodIn wsX5_readTerm (wsV RX5 92 RX5 yX5_readOne wsX5_readOne) := ru_gG (ru_gV tw_4_191 tw_4_193 tw_0_23 tw_1_7 mT_X5_readOne)
theorem gX5_readTerm_X5_sees : GoodIn wsX5_readTerm (wsV RX5 64 RX5 yX5_sees wsX5_sees) := ru_gG (ru_gV tw_4_154 tw_4_156 tw_0_14 tw_1_7 mT_X5_sees)
theorem gX5_readTerm_X5_advance : GoodIn wsX5_readTerm (wsV RX5 68 RX5 yX5_advance wsX5_advance) := ru_gG (ru_gV tw_4_158 tw_4_160 tw_0_15 tw_1_7 mT_X5_advance)
theorem gX5_readTerm_X9_addStep : GoodIn wsX5_readTerm (wsV RX5 77 RX9 yX9_addStep wsX9_addStep) := ru_gG (ru_gV tw_4_178 tw_1_236 tw_1_237 tw_1_8 mT_X9_addStep)
theorem gX5_readSum_X5_readTerm : GoodIn wsX5_readSum (wsV RX5 89 RX5 yX5_readTerm wsX5_readTerm) := ru_gG (ru_gV tw_4_187 tw_4_189 tw_0_22 tw_1_7 mT_X5_readTerm)
theorem gX5_readSum_X5_advance : GoodIn wsX5_readSum (wsV RX5 68 RX5 yX5_advance wsX5_advance) := ru_gG (ru_gV tw_4_158 tw_4_160 tw_0_15 tw_1_7 mT_X5_advance)
theorem gX5_readSum_X9_addStep : GoodIn wsX5_readSum (wsV RX5 77 RX9 yX9_addStep wsX9_addStep) := ru_gG (ru_gV tw_4_178 tw_1_236 tw_1_237 tw_1_8 mT_X9_addStep)
theorem gX5_readSum_X5_sees : GoodIn wsX5_readSum (wsV RX5 64 RX5 yX5_sees wsX5_sees) := ru_gG (ru_gV tw_4_154 tw_4_156 tw_0_14 tw_1_7 mT_X5_sees)
theorem gX5_readCompared_X5_readSum : GoodIn wsX5_readCompared (wsV RX5 86 RX5 yX5_readSum wsX5_readSum) := ru_gG (ru_gV tw_4_183 tw_4_185 tw_0_21 tw_1_7 mT_X5_readSum)
theorem gX5_readCompared_X5_advance : GoodIn wsX5_readCompared (wsV RX5 68 RX5 yX5_advance wsX5_advance) := ru_gG (ru_gV tw_4_158 tw_4_160 tw_0_15 tw_1_7 mT_X5_advance)
theorem gX5_readCompared_X9_addStep : GoodIn wsX5_readCompared (wsV RX5 77 RX9 yX9_addStep wsX9_addStep) := ru_gG (ru_gV tw_4_178 tw_1_236 tw_1_237 tw_1_8 mT_X9_addStep)
theorem gX5_readCompared_X5_sees : GoodIn wsX5_readCompared (wsV RX5 64 RX5 yX5_sees wsX5_sees) := ru_gG (ru_gV tw_4_154 tw_4_156 tw_0_14 tw_1_7 mT_X5_sees)
theorem gX5_readNot_X5_sees : GoodIn wsX5_readNot (wsV RX5 64 RX5 yX5_sees wsX5_sees) := ru_gG (ru_gV tw_4_154 tw_4_156 tw_0_14 tw_1_7 mT_X5_sees)
theorem gX5_readNot_X5_fail : GoodIn wsX5_readNot (wsV RX5 71 RX5 yX5_fail wsX5_fail) := ru_gG (ru_gV tw_4_162 tw_4_164 tw_0_16 tw_1_7 mT_X5_fail)
theorem gX5_readNot_X5_advance : GoodIn wsX5_readNot (wsV RX5 68 RX5 yX5_advance wsX5_advance) := ru_gG (ru_gV tw_4_158 tw_4_160 tw_0_15 tw_1_7 mT_X5_advance)
theorem gX5_readNot_X5_readCompared : GoodIn wsX5_readNot (wsV RX5 83 RX5 yX5_readCompared wsX5_readCompared) := ru_gG (ru_gV tw_4_179 tw_4_181 tw_0_20 tw_1_7 mT_X5_readCompared)
theorem gX5_readBoth_X5_readNot : GoodIn wsX5_readBoth (wsV RX5 80 RX5 yX5_readNot wsX5_readNot) := ru_gG (ru_gV tw_4_174 tw_4_176 tw_0_19 tw_1_7 mT_X5_readNot)
theorem gX5_readBoth_X5_sees : GoodIn wsX5_readBoth (wsV RX5 64 RX5 yX5_sees wsX5_sees) := ru_gG (ru_gV tw_4_154 tw_4_156 tw_0_14 tw_1_7 mT_X5_sees)
theorem gX5_readBoth_X5_advance : GoodIn wsX5_readBoth (wsV RX5 68 RX5 yX5_advance wsX5_advance) := ru_gG (ru_gV tw_4_158 tw_4_160 tw_0_15 tw_1_7 mT_X5_advance)
theorem gX5_readBoth_X9_addStep : GoodIn wsX5_readBoth (wsV RX5 77 RX9 yX9_addStep wsX9_addStep) := ru_gG (ru_gV tw_4_178 tw_1_236 tw_1_237 tw_1_8 mT_X9_addStep)
theorem gX5_readChoice_X5_readBoth : GoodIn wsX5_readChoice (wsV RX5 74 RX5 yX5_readBoth wsX5_readBoth) := ru_gG (ru_gV tw_4_170 tw_4_172 tw_0_18 tw_1_7 mT_X5_readBoth)
theorem gX5_readChoice_X5_sees : GoodIn wsX5_readChoice (wsV RX5 64 RX5 yX5_sees wsX5_sees) := ru_gG (ru_gV tw_4_154 tw_4_156 tw_0_14 tw_1_7 mT_X5_sees)
theorem gX5_readChoice_X5_advance : GoodIn wsX5_readChoice (wsV RX5 68 RX5 yX5_advance wsX5_advance) := ru_gG (ru_gV tw_4_158 tw_4_160 tw_0_15 tw_1_7 mT_X5_advance)
theorem gX5_readChoice_X9_addStep : GoodIn wsX5_readChoice (wsV RX5 77 RX9 yX9_addStep wsX9_addStep) := ru_gG (ru_gV tw_4_178 tw_1_236 tw_1_237 tw_1_8 mT_X9_addStep)
theorem dX5_readOne_140 : decode cX5_readOne 140 = .ok (.aload_n 0, 1) := dk_0 (dk_k42 140) (dk_by (j := 12) rfl ck_X5_readOne_8_20re rfl rfl rfl)
theorem dX5_readOne_141 : decode cX5_readOne 141 = .ok (.invokevirtual 68, 3) := dk_2 (dk_k182 141) (dk_by (j := 13) rfl ck_X5_readOne_8_20re rfl rfl rfl) (dk_by (j := 14) rfl ck_X5_readOne_8_20re rfl rfl rfl) (dk_by (j := 15) rfl ck_X5_readOne_8_20re rfl rfl rfl) (by decide)
theorem dX5_readOne_144 : decode cX5_readOne 144 = .ok (.aload_n 0, 1) := dk_0 (dk_k42 144) (dk_by (j := 0) rfl ck_X5_readOne_9_20re rfl rfl rfl)
theorem dX5_readOne_145 : decode cX5_readOne 145 = .ok (.iload_n 1, 1) := dk_0 (dk_k27 145) (dk_by (j := 1) rfl ck_X5_readOne_9_20re rfl rfl rfl)
theorem dX5_readOne_146 : decode cX5_readOne 146 = .ok (.iconst 1, 1) := dk_0 (dk_k4 146) (dk_by (j := 2) rfl ck_X5_readOne_9_20re rfl rfl rfl)
theorem dX5_readOne_147 : decode cX5_readOne 147 = .ok (.iadd, 1) := dk_0 (dk_k96 147) (dk_by (j := 3) rfl ck_X5_readOne_9_20re rfl rfl rfl)
theorem gX5_readOne_X5_readChoice : GoodIn wsX5_readOne (wsV RX5 57 RX5 yX5_readChoice wsX5_readChoice) := ru_gG (ru_gV tw_4_166 tw_4_168 tw_0_17 tw_1_7 mT_X5_readChoice)
theorem dX5_readOne_148 : decode cX5_readOne 148 = .ok (.invokevirtual 57, 3) := dk_2 (dk_k182 148) (dk_by (j := 4) rfl ck_X5_readOne_9_20re rfl rfl rfl) (dk_by (j := 5) rfl ck_X5_readOne_9_20re rfl rfl rfl) (dk_by (j := 6) rfl ck_X5_readOne_9_20re rfl rfl rfl) (by decide)
theorem dX5_readOne_151 : decode cX5_readOne 151 = .ok (.aload_n 0, 1) := dk_0 (dk_k42 151) (dk_by (j := 7) rfl ck_X5_readOne_9_20re rfl rfl rfl)
theorem dX5_readOne_152 : decode cX5_readOne 152 = .ok (.bipush 41, 2) := dk_1 (dk_k16 152) (dk_by (j := 8) rfl ck_X5_readOne_9_20re rfl rfl rfl) (dk_by (j := 9) rfl ck_X5_readOne_9_20re rfl rfl rfl) (by decide)
theorem gX5_readOne_X5_need : GoodIn wsX5_readOne (wsV RX5 53 RX5 yX5_need wsX5_need) := ru_gG (ru_gV tw_4_150 tw_4_152 tw_0_13 tw_1_7 mT_X5_need)
theorem dX5_readOne_154 : decode cX5_readOne 154 = .ok (.invokevirtual 53, 3) := dk_2 (dk_k182 154) (dk_by (j := 10) rfl ck_X5_readOne_9_20re rfl rfl rfl) (dk_by (j := 11) rfl ck_X5_readOne_9_20re rfl rfl rfl) (dk_by (j := 12) rfl ck_X5_readOne_9_20re rfl rfl rfl) (by decide)
theorem dX5_readOne_157 : decode cX5_readOne 157 = .ok (.goto 7, 3) := dk_s (dk_k167 157) (dk_by (j := 13) rfl ck_X5_readOne_9_20re rfl rfl rfl) (dk_by (j := 14) rfl ck_X5_readOne_9_20re rfl rfl rfl) (dk_by (j := 15) rfl ck_X5_readOne_9_20re rfl rfl rfl) (by decide)
theorem dX5_readOne_103 : decode cX5_readOne 103 = .ok (.aload_n 0, 1) := dk_0 (dk_k42 103) (dk_by (j := 7) rfl ck_X5_readOne_6_20re rfl rfl rfl)
theorem dX5_readOne_104 : decode cX5_readOne 104 = .ok (.invokevirtual 68, 3) := dk_2 (dk_k182 104) (dk_by (j := 8) rfl ck_X5_readOne_6_20re rfl rfl rfl) (dk_by (j := 9) rfl ck_X5_readOne_6_20re rfl rfl rfl) (dk_by (j := 10) rfl ck_X5_readOne_6_20re rfl rfl rfl) (by decide)
theorem dX5_readOne_107 : decode cX5_readOne 107 = .ok (.aload_n 0, 1) := dk_0 (dk_k42 107) (dk_by (j := 11) rfl ck_X5_readOne_6_20re rfl rfl rfl)
theorem dX5_readOne_108 : decode cX5_readOne 108 = .ok (.iload_n 1, 1) := dk_0 (dk_k27 108) (dk_by (j := 12) rfl ck_X5_readOne_6_20re rfl rfl rfl)
theorem dX5_readOne_109 : decode cX5_readOne 109 = .ok (.iconst 1, 1) := dk_0 (dk_k4 109) (dk_by (j := 13) rfl ck_X5_readOne_6_20re rfl rfl rfl)
theorem dX5_readOne_110 : decode cX5_readOne 110 = .ok (.iadd, 1) := dk_0 (dk_k96 110) (dk_by (j := 14) rfl ck_X5_readOne_6_20re rfl rfl rfl)
theorem gX5_readOne_X5_readOne : GoodIn wsX5_readOne (wsV RX5 92 RX5 yX5_readOne wsX5_readOne) := ru_gG (ru_gV tw_4_191 tw_4_193 tw_0_23 tw_1_7 mT_X5_readOne)
theorem dX5_readOne_111 : decode cX5_readOne 111 = .ok (.invokevirtual 92, 3) := dk_2 (dk_k182 111) (dk_by (j := 15) rfl ck_X5_readOne_6_20re rfl rfl rfl) (dk_by (j := 0) rfl ck_X5_readOne_7_20re rfl rfl rfl) (dk_by (j := 1) rfl ck_X5_readOne_7_20re rfl rfl rfl) (by decide)
theorem dX5_readOne_114 : decode cX5_readOne 114 = .ok (.aload_n 0, 1) := dk_0 (dk_k42 114) (dk_by (j := 2) rfl ck_X5_readOne_7_20re rfl rfl rfl)
theorem dX5_readOne_115 : decode cX5_readOne 115 = .ok (.getfield 27, 3) := dk_2 (dk_k180 115) (dk_by (j := 3) rfl ck_X5_readOne_7_20re rfl rfl rfl) (dk_by (j := 4) rfl ck_X5_readOne_7_20re rfl rfl rfl) (dk_by (j := 5) rfl ck_X5_readOne_7_20re rfl rfl rfl) (by decide)
theorem dX5_readOne_118 : decode cX5_readOne 118 = .ok (.bipush (-19), 2) := dk_1 (dk_k16 118) (dk_by (j := 6) rfl ck_X5_readOne_7_20re rfl rfl rfl) (dk_by (j := 7) rfl ck_X5_readOne_7_20re rfl rfl rfl) (by decide)
theorem dX5_readOne_120 : decode cX5_readOne 120 = .ok (.invokevirtual 77, 3) := dk_2 (dk_k182 120) (dk_by (j := 8) rfl ck_X5_readOne_7_20re rfl rfl rfl) (dk_by (j := 9) rfl ck_X5_readOne_7_20re rfl rfl rfl) (dk_by (j := 10) rfl ck_X5_readOne_7_20re rfl rfl rfl) (by decide)
theorem dX5_readOne_123 : decode cX5_readOne 123 = .ok (.goto 41, 3) := dk_s (dk_k167 123) (dk_by (j := 11) rfl ck_X5_readOne_7_20re rfl rfl rfl) (dk_by (j := 12) rfl ck_X5_readOne_7_20re rfl rfl rfl) (dk_by (j := 13) rfl ck_X5_readOne_7_20re rfl rfl rfl) (by decide)
theorem gX5_readNot_X5_readNot : GoodIn wsX5_readNot (wsV RX5 80 RX5 yX5_readNot wsX5_readNot) := ru_gG (ru_gV tw_4_174 tw_4_176 tw_0_19 tw_1_7 mT_X5_readNot)
theorem gX5_readNot_X9_addStep : GoodIn wsX5_readNot (wsV RX5 77 RX9 yX9_addStep wsX9_addStep) := ru_gG (ru_gV tw_4_178 tw_1_236 tw_1_237 tw_1_8 mT_X9_addStep)
theorem zi_ofN {N : Nat} (h : N ≤ 50) : (Int32.ofNat N).toInt = N := Int32.toInt_ofNat_of_lt (by omega)
theorem fm_preVS {D : va_G} {ad : Nat → Nat → Nat} {C : Nat → Nat → ClassId} {nb : Nat} {M : fm_M} {av : List Value} {A : Nat → Prop} {s : State} {H : Heap} {locs : List Loc} {q v N : Nat} {f : Nat → Int32} (hc : fm_Cx D ad C nb A s) (hw : fm_at D ad C nb M H) (hS : va_S A s.heap H locs) (hQ : rt_Str q v N f A s s.heap) {a k ci : Nat} {fl : List (Nat × Nat)} {E : String} {x : u_T × Nat} (hk : k < fm_ct nb a) (hsh : fm_sh a = (3, ci, fl)) (hcl : vwCl[ci]? = some (E, x)) : PreV s H E (ad a k) (va_Pc (.ref (ad a k) :: av) (fun U => fm_P D ad C nb M U ∧ rt_Str q v N f (fm_A nb ad) U U.heap)) av :=
  ⟨fun a U g mk z => ⟨z.1, (fm_blind (av := a.toList) a U g mk ⟨by simp, z.2.1⟩).2, rt_Str.same z.2.2⟩, va_recv (q := (E, x)) hc.2.1.1 (hw.one hk (x := .inr (ci, fl.map (fm_fv (M.1 a k) (M.2.1 a k) (M.2.2 a k)))) (by rw [hsh]; rfl)) hcl (q0 := 0) rfl, fun U hU hW => ⟨rfl, (fm_pre (av := []) hc hw hS U hU hW).2, rt_Str.give hQ hS hc.2.2.2.2.2 hU hW.alike⟩⟩
theorem fm_wG_1 {M : fm_M} {q k j : Nat} {x : Option Nat} : (fm_wG M q k j x).1 = M.1 := rfl
theorem fm_putG {p : Program} {l : Launch} {e : Env} {R : Room} {s : State} {m : MethodId} {args : Array Value} {below : List Frame} {meth : Method} {c : Code} {H : Heap} {locs : List Loc} {cells slots : Nat} {Q : State → Prop} {cc : ByteArray} {pc : Nat} {ls : Array Slot} {rest : List Value} {D : va_G} {ad : Nat → Nat → Nat} {C : Nat → Nat → ClassId} {nb : Nat} {M M0 : fm_M} {A : Nat → Prop} {H0 : Heap} {es : List Nat} (hexec : p.tables.exec = Jvm.exec) (hb : c.code = cc) {own ref E : String} {T : u_T} {N ci index : Nat} {Ts : List Cond} (hts : ∀ w ∈ Ts, w.before args s = true) (hin : ∀ w ∈ u_ws E T N, w ∈ Ts) (ty0 : Nat → FieldType) (hty : ∀ k, k < N → parseFieldDescriptor (T k).2.2.1 = some (ty0 k)) (hnm : ∀ a, a < N → ∀ b, b < N → a ≠ b → (T a).2.1 ≠ (T b).2.1) (hown : s.vm.findClass own = some m.cls) (hc : fm_Cx D ad C nb A s) (hw : fm_at D ad C nb M H) (hI : fm_I nb ad M) (hE : fm_same es M0 M) (hS : va_S A H0 H locs) {fl : List (Nat × Nat)} (hk : 0 < fm_ct nb 32) (hsh : fm_sh 32 = (3, ci, fl)) (hord : ∀ i, i < fl.length → (fl.getD i (0, 0)).1 = i) (hcl : vwCl[ci]? = some (E, T, N)) (hjN : 0 < N) (hfl : fl[0]? = some (0, 2)) (hlink : (Cond.fieldLink own index ref (T 0).2.1 (T 0).2.2.1).before args s = true) (hsame : ∀ x, s.fieldFound? (T 0).1 (T 0).2.1 (T 0).2.2.1 = some x → s.fieldFound? ref (T 0).2.1 (T 0).2.2.1 = some x) (hfin : (T 0).2.2.2 = false) (hd : parseFieldDescriptor (T 0).2.2.1 = some (.array .int)) {x : Nat} (hcd : fm_cd 32 0 ∈ es) (hdg : decode cc pc = .ok (.putfield index, 3))
    (kk : ∀ (M1 : fm_M) (H1 : Heap) (locs1 : List Loc), M1 = fm_wG M 32 0 0 (some x) → fm_at D ad C nb M1 H1 → fm_I nb ad M1 → fm_same es M0 M1 → va_S A H0 H1 locs1 → W p l e R s m args below meth c H1 locs1 cells slots Q (F0 m (pc + 3) ls rest)) : W p l e R s m args below meth c H locs cells slots Q (F0 m pc ls (.ref x :: .ref (ad 32 0) :: rest)) := by
  have h0 := hw 32 0 hk
  rw [hsh] at h0
  refine fm_put0 (ci := ci) (fs := fl.map (fm_fv (M.1 32 0) (M.2.1 32 0) (M.2.2 32 0))) hexec hb hts hin ty0 hty hnm hown hc.2.1.1 h0 hcl hjN hlink hsame hfin hd rfl rfl (by rw [List.length_map]; exact (List.getElem?_eq_some_iff.mp hfl).1) hdg fun H1 q g1 g2 g3 => ?_
  refine kk _ H1 _ rfl (hw.set hc.1 hk g3 ?_ (fun b i hbi => ⟨rfl, rfl, fm_wG_ne hbi⟩)) ?_ (hE.wG hcd) (hS.put g2 g3 (hc.2.2.2.2.2 _ ⟨32, 0, hk, rfl⟩))
  · rw [hsh]
    rw [fm_setl (V1 := M.1 32 0) (L1 := M.2.1 32 0) (G1 := (fm_wG M 32 0 0 (some x)).2.2 32 0) hord hfl (by show va_rf ((fm_wG M 32 0 0 (some x)).2.2 32 0 0) = _; rw [fm_wG_at]; rfl) (fun i hi => ⟨rfl, rfl, fm_wG_nj (fun z => hi z.2.2)⟩)] at g1
    exact g1
  · obtain ⟨h1, h2, h3, h4, h5, h6, h7, h8⟩ := hI
    exact ⟨h1, fun a k j ht hk2 => by
      rw [fm_wG_nj (fun z => ht (by rw [z.1, z.2.2]; rfl))]
      exact h2 a k j ht hk2, fun j => by rw [fm_wG_nj (fun z => absurd z.1 (by decide))]; exact h3 j, fun j hj => by rw [fm_wG_nj (fun z => absurd z.1 (by decide))]; exact h4 j hj, fun j hj => by rw [fm_wG_nj (fun z => absurd z.1 (by decide))]; exact h5 j hj, fun j hj => by rw [fm_wG_nj (fun z => absurd z.1 (by decide))]; exact h6 j hj, h7, h8⟩
set_option maxRecDepth 20000 in
theorem fc_X5_nthWord1 (l : Launch) (q : Nat) : Met l yX5_nthWord wsX5_nthWord ({ frames := 0, cells := 0, slots := 0, locals := 0 }) (va_Pc [.int 1] (fun U => vk_R RX5 131 "strength" q U)) (va_Sq (fun r : Option Nat => r = some q)) 0 0 (fun _ => False) := by
  refine Met.ofW (cc := cX5_nthWord) (maxL := 1) (ret := (some (.object "java/lang/String"))) (by decide) rfl ?_
  intro p e s m args below meth c s₁ B hml hv
  obtain ⟨rfl, hR⟩ := hv
  have hx := B.exec
  have hb := B.bytes
  have hr := B.returns
  have hown : s.vm.findClass RX5 = some m.cls := findClass_of_methodNamed B.named
  have hl := lv_entry ([.int 1]) (n := 1) (Nat.le_of_ble_eq_true rfl)
  rw [lg_entry_eq]
  generalize (lg_sl ([.int 1]) ++ List.replicate (1 - (lg_sl ([.int 1])).length) Slot.unset).toArray = ls at hl ⊢
  have hl : lv_has ls 1 [(0, .int 1)] := hl
  refine lv_iload_n hx hb dX5_nthWord_0 rfl (lv_at hl 0 rfl) ?_
  refine lv_tableIn (off := 55) (tgt := 56) hx hb dX5_nthWord_1 (by decide) (by decide) (by decide) (by decide) ?_
  refine va_ldcS hx hb hown hR dX5_nthWord_56 ?_
  exact W.aret (v := .ref q) hx hb hr (Or.inl ⟨_, rfl⟩) (Or.inr ⟨_, rfl⟩) (fun t ht hW => ⟨some q, rfl, rfl, ht⟩) (fun _ h => absurd h List.not_mem_nil) dX5_nthWord_58
set_option maxRecDepth 20000 in
theorem fc_X5_nthWord2 (l : Launch) (q : Nat) : Met l yX5_nthWord wsX5_nthWord ({ frames := 0, cells := 0, slots := 0, locals := 0 }) (va_Pc [.int 2] (fun U => vk_R RX5 133 "hurt" q U)) (va_Sq (fun r : Option Nat => r = some q)) 0 0 (fun _ => False) := by
  refine Met.ofW (cc := cX5_nthWord) (maxL := 1) (ret := (some (.object "java/lang/String"))) (by decide) rfl ?_
  intro p e s m args below meth c s₁ B hml hv
  obtain ⟨rfl, hR⟩ := hv
  have hx := B.exec
  have hb := B.bytes
  have hr := B.returns
  have hown : s.vm.findClass RX5 = some m.cls := findClass_of_methodNamed B.named
  have hl := lv_entry ([.int 2]) (n := 1) (Nat.le_of_ble_eq_true rfl)
  rw [lg_entry_eq]
  generalize (lg_sl ([.int 2]) ++ List.replicate (1 - (lg_sl ([.int 2])).length) Slot.unset).toArray = ls at hl ⊢
  have hl : lv_has ls 1 [(0, .int 2)] := hl
  refine lv_iload_n hx hb dX5_nthWord_0 rfl (lv_at hl 0 rfl) ?_
  refine lv_tableIn (off := 58) (tgt := 59) hx hb dX5_nthWord_1 (by decide) (by decide) (by decide) (by decide) ?_
  refine va_ldcS hx hb hown hR dX5_nthWord_59 ?_
  exact W.aret (v := .ref q) hx hb hr (Or.inl ⟨_, rfl⟩) (Or.inr ⟨_, rfl⟩) (fun t ht hW => ⟨some q, rfl, rfl, ht⟩) (fun _ h => absurd h List.not_mem_nil) dX5_nthWord_61
set_option maxRecDepth 20000 in
theorem fc_X5_nthWord3 (l : Launch) (q : Nat) : Met l yX5_nthWord wsX5_nthWord ({ frames := 0, cells := 0, slots := 0, locals := 0 }) (va_Pc [.int 3] (fun U => vk_R RX5 135 "skill" q U)) (va_Sq (fun r : Option Nat => r = some q)) 0 0 (fun _ => False) := by
  refine Met.ofW (cc := cX5_nthWord) (maxL := 1) (ret := (some (.object "java/lang/String"))) (by decide) rfl ?_
  intro p e s m args below meth c s₁ B hml hv
  obtain ⟨rfl, hR⟩ := hv
  have hx := B.exec
  have hb := B.bytes
  have hr := B.returns
  have hown : s.vm.findClass RX5 = some m.cls := findClass_of_methodNamed B.named
  have hl := lv_entry ([.int 3]) (n := 1) (Nat.le_of_ble_eq_true rfl)
  rw [lg_entry_eq]
  generalize (lg_sl ([.int 3]) ++ List.replicate (1 - (lg_sl ([.int 3])).length) Slot.unset).toArray = ls at hl ⊢
  have hl : lv_has ls 1 [(0, .int 3)] := hl
  refine lv_iload_n hx hb dX5_nthWord_0 rfl (lv_at hl 0 rfl) ?_
  refine lv_tableIn (off := 61) (tgt := 62) hx hb dX5_nthWord_1 (by decide) (by decide) (by decide) (by decide) ?_
  refine va_ldcS hx hb hown hR dX5_nthWord_62 ?_
  exact W.aret (v := .ref q) hx hb hr (Or.inl ⟨_, rfl⟩) (Or.inr ⟨_, rfl⟩) (fun t ht hW => ⟨some q, rfl, rfl, ht⟩) (fun _ h => absurd h List.not_mem_nil) dX5_nthWord_64
set_option maxRecDepth 20000 in
theorem fc_X5_nthWord4 (l : Launch) (q : Nat) : Met l yX5_nthWord wsX5_nthWord ({ frames := 0, cells := 0, slots := 0, locals := 0 }) (va_Pc [.int 4] (fun U => vk_R RX5 137 "hour" q U)) (va_Sq (fun r : Option Nat => r = some q)) 0 0 (fun _ => False) := by
  refine Met.ofW (cc := cX5_nthWord) (maxL := 1) (ret := (some (.object "java/lang/String"))) (by decide) rfl ?_
  intro p e s m args below meth c s₁ B hml hv
  obtain ⟨rfl, hR⟩ := hv
  have hx := B.exec
  have hb := B.bytes
  have hr := B.returns
  have hown : s.vm.findClass RX5 = some m.cls := findClass_of_methodNamed B.named
  have hl := lv_entry ([.int 4]) (n := 1) (Nat.le_of_ble_eq_true rfl)
  rw [lg_entry_eq]
  generalize (lg_sl ([.int 4]) ++ List.replicate (1 - (lg_sl ([.int 4])).length) Slot.unset).toArray = ls at hl ⊢
  have hl : lv_has ls 1 [(0, .int 4)] := hl
  refine lv_iload_n hx hb dX5_nthWord_0 rfl (lv_at hl 0 rfl) ?_
  refine lv_tableIn (off := 64) (tgt := 65) hx hb dX5_nthWord_1 (by decide) (by decide) (by decide) (by decide) ?_
  refine va_ldcS hx hb hown hR dX5_nthWord_65 ?_
  exact W.aret (v := .ref q) hx hb hr (Or.inl ⟨_, rfl⟩) (Or.inr ⟨_, rfl⟩) (fun t ht hW => ⟨some q, rfl, rfl, ht⟩) (fun _ h => absurd h List.not_mem_nil) dX5_nthWord_67
set_option maxRecDepth 20000 in
theorem fc_X5_nthWord5 (l : Launch) (q : Nat) : Met l yX5_nthWord wsX5_nthWord ({ frames := 0, cells := 0, slots := 0, locals := 0 }) (va_Pc [.int 5] (fun U => vk_R RX5 139 "fuel" q U)) (va_Sq (fun r : Option Nat => r = some q)) 0 0 (fun _ => False) := by
  refine Met.ofW (cc := cX5_nthWord) (maxL := 1) (ret := (some (.object "java/lang/String"))) (by decide) rfl ?_
  intro p e s m args below meth c s₁ B hml hv
  obtain ⟨rfl, hR⟩ := hv
  have hx := B.exec
  have hb := B.bytes
  have hr := B.returns
  have hown : s.vm.findClass RX5 = some m.cls := findClass_of_methodNamed B.named
  have hl := lv_entry ([.int 5]) (n := 1) (Nat.le_of_ble_eq_true rfl)
  rw [lg_entry_eq]
  generalize (lg_sl ([.int 5]) ++ List.replicate (1 - (lg_sl ([.int 5])).length) Slot.unset).toArray = ls at hl ⊢
  have hl : lv_has ls 1 [(0, .int 5)] := hl
  refine lv_iload_n hx hb dX5_nthWord_0 rfl (lv_at hl 0 rfl) ?_
  refine lv_tableIn (off := 67) (tgt := 68) hx hb dX5_nthWord_1 (by decide) (by decide) (by decide) (by decide) ?_
  refine va_ldcS hx hb hown hR dX5_nthWord_68 ?_
  exact W.aret (v := .ref q) hx hb hr (Or.inl ⟨_, rfl⟩) (Or.inr ⟨_, rfl⟩) (fun t ht hW => ⟨some q, rfl, rfl, ht⟩) (fun _ h => absurd h List.not_mem_nil) dX5_nthWord_70
set_option maxRecDepth 20000 in
theorem fc_X5_nthWord6 (l : Launch) (q : Nat) : Met l yX5_nthWord wsX5_nthWord ({ frames := 0, cells := 0, slots := 0, locals := 0 }) (va_Pc [.int 6] (fun U => vk_R RX5 141 "far" q U)) (va_Sq (fun r : Option Nat => r = some q)) 0 0 (fun _ => False) := by
  refine Met.ofW (cc := cX5_nthWord) (maxL := 1) (ret := (some (.object "java/lang/String"))) (by decide) rfl ?_
  intro p e s m args below meth c s₁ B hml hv
  obtain ⟨rfl, hR⟩ := hv
  have hx := B.exec
  have hb := B.bytes
  have hr := B.returns
  have hown : s.vm.findClass RX5 = some m.cls := findClass_of_methodNamed B.named
  have hl := lv_entry ([.int 6]) (n := 1) (Nat.le_of_ble_eq_true rfl)
  rw [lg_entry_eq]
  generalize (lg_sl ([.int 6]) ++ List.replicate (1 - (lg_sl ([.int 6])).length) Slot.unset).toArray = ls at hl ⊢
  have hl : lv_has ls 1 [(0, .int 6)] := hl
  refine lv_iload_n hx hb dX5_nthWord_0 rfl (lv_at hl 0 rfl) ?_
  refine lv_tableIn (off := 70) (tgt := 71) hx hb dX5_nthWord_1 (by decide) (by decide) (by decide) (by decide) ?_
  refine va_ldcS hx hb hown hR dX5_nthWord_71 ?_
  exact W.aret (v := .ref q) hx hb hr (Or.inl ⟨_, rfl⟩) (Or.inr ⟨_, rfl⟩) (fun t ht hW => ⟨some q, rfl, rfl, ht⟩) (fun _ h => absurd h List.not_mem_nil) dX5_nthWord_73
set_option maxRecDepth 20000 in
theorem fc_X5_nthWord7 (l : Launch) (q : Nat) : Met l yX5_nthWord wsX5_nthWord ({ frames := 0, cells := 0, slots := 0, locals := 0 }) (va_Pc [.int 7] (fun U => vk_R RX5 143 "take" q U)) (va_Sq (fun r : Option Nat => r = some q)) 0 0 (fun _ => False) := by
  refine Met.ofW (cc := cX5_nthWord) (maxL := 1) (ret := (some (.object "java/lang/String"))) (by decide) rfl ?_
  intro p e s m args below meth c s₁ B hml hv
  obtain ⟨rfl, hR⟩ := hv
  have hx := B.exec
  have hb := B.bytes
  have hr := B.returns
  have hown : s.vm.findClass RX5 = some m.cls := findClass_of_methodNamed B.named
  have hl := lv_entry ([.int 7]) (n := 1) (Nat.le_of_ble_eq_true rfl)
  rw [lg_entry_eq]
  generalize (lg_sl ([.int 7]) ++ List.replicate (1 - (lg_sl ([.int 7])).length) Slot.unset).toArray = ls at hl ⊢
  have hl : lv_has ls 1 [(0, .int 7)] := hl
  refine lv_iload_n hx hb dX5_nthWord_0 rfl (lv_at hl 0 rfl) ?_
  refine lv_tableIn (off := 73) (tgt := 74) hx hb dX5_nthWord_1 (by decide) (by decide) (by decide) (by decide) ?_
  refine va_ldcS hx hb hown hR dX5_nthWord_74 ?_
  exact W.aret (v := .ref q) hx hb hr (Or.inl ⟨_, rfl⟩) (Or.inr ⟨_, rfl⟩) (fun t ht hW => ⟨some q, rfl, rfl, ht⟩) (fun _ h => absurd h List.not_mem_nil) dX5_nthWord_76
set_option maxRecDepth 20000 in
theorem fc_X5_nthWord8 (l : Launch) (q : Nat) : Met l yX5_nthWord wsX5_nthWord ({ frames := 0, cells := 0, slots := 0, locals := 0 }) (va_Pc [.int 8] (fun U => vk_R RX5 145 "go" q U)) (va_Sq (fun r : Option Nat => r = some q)) 0 0 (fun _ => False) := by
  refine Met.ofW (cc := cX5_nthWord) (maxL := 1) (ret := (some (.object "java/lang/String"))) (by decide) rfl ?_
  intro p e s m args below meth c s₁ B hml hv
  obtain ⟨rfl, hR⟩ := hv
  have hx := B.exec
  have hb := B.bytes
  have hr := B.returns
  have hown : s.vm.findClass RX5 = some m.cls := findClass_of_methodNamed B.named
  have hl := lv_entry ([.int 8]) (n := 1) (Nat.le_of_ble_eq_true rfl)
  rw [lg_entry_eq]
  generalize (lg_sl ([.int 8]) ++ List.replicate (1 - (lg_sl ([.int 8])).length) Slot.unset).toArray = ls at hl ⊢
  have hl : lv_has ls 1 [(0, .int 8)] := hl
  refine lv_iload_n hx hb dX5_nthWord_0 rfl (lv_at hl 0 rfl) ?_
  refine lv_tableIn (off := 76) (tgt := 77) hx hb dX5_nthWord_1 (by decide) (by decide) (by decide) (by decide) ?_
  refine va_ldcS hx hb hown hR dX5_nthWord_77 ?_
  exact W.aret (v := .ref q) hx hb hr (Or.inl ⟨_, rfl⟩) (Or.inr ⟨_, rfl⟩) (fun t ht hW => ⟨some q, rfl, rfl, ht⟩) (fun _ h => absurd h List.not_mem_nil) dX5_nthWord_79
set_option maxRecDepth 20000 in
theorem fc_X5_nthWord9 (l : Launch) (q : Nat) : Met l yX5_nthWord wsX5_nthWord ({ frames := 0, cells := 0, slots := 0, locals := 0 }) (va_Pc [.int 9] (fun U => vk_R RX5 147 "or" q U)) (va_Sq (fun r : Option Nat => r = some q)) 0 0 (fun _ => False) := by
  refine Met.ofW (cc := cX5_nthWord) (maxL := 1) (ret := (some (.object "java/lang/String"))) (by decide) rfl ?_
  intro p e s m args below meth c s₁ B hml hv
  obtain ⟨rfl, hR⟩ := hv
  have hx := B.exec
  have hb := B.bytes
  have hr := B.returns
  have hown : s.vm.findClass RX5 = some m.cls := findClass_of_methodNamed B.named
  have hl := lv_entry ([.int 9]) (n := 1) (Nat.le_of_ble_eq_true rfl)
  rw [lg_entry_eq]
  generalize (lg_sl ([.int 9]) ++ List.replicate (1 - (lg_sl ([.int 9])).length) Slot.unset).toArray = ls at hl ⊢
  have hl : lv_has ls 1 [(0, .int 9)] := hl
  refine lv_iload_n hx hb dX5_nthWord_0 rfl (lv_at hl 0 rfl) ?_
  refine lv_tableIn (off := 79) (tgt := 80) hx hb dX5_nthWord_1 (by decide) (by decide) (by decide) (by decide) ?_
  refine va_ldcS hx hb hown hR dX5_nthWord_80 ?_
  exact W.aret (v := .ref q) hx hb hr (Or.inl ⟨_, rfl⟩) (Or.inr ⟨_, rfl⟩) (fun t ht hW => ⟨some q, rfl, rfl, ht⟩) (fun _ h => absurd h List.not_mem_nil) dX5_nthWord_82
set_option maxRecDepth 20000 in
theorem fc_X5_nthWord10 (l : Launch) (q : Nat) : Met l yX5_nthWord wsX5_nthWord ({ frames := 0, cells := 0, slots := 0, locals := 0 }) (va_Pc [.int 10] (fun U => vk_R RX5 149 "and" q U)) (va_Sq (fun r : Option Nat => r = some q)) 0 0 (fun _ => False) := by
  refine Met.ofW (cc := cX5_nthWord) (maxL := 1) (ret := (some (.object "java/lang/String"))) (by decide) rfl ?_
  intro p e s m args below meth c s₁ B hml hv
  obtain ⟨rfl, hR⟩ := hv
  have hx := B.exec
  have hb := B.bytes
  have hr := B.returns
  have hown : s.vm.findClass RX5 = some m.cls := findClass_of_methodNamed B.named
  have hl := lv_entry ([.int 10]) (n := 1) (Nat.le_of_ble_eq_true rfl)
  rw [lg_entry_eq]
  generalize (lg_sl ([.int 10]) ++ List.replicate (1 - (lg_sl ([.int 10])).length) Slot.unset).toArray = ls at hl ⊢
  have hl : lv_has ls 1 [(0, .int 10)] := hl
  refine lv_iload_n hx hb dX5_nthWord_0 rfl (lv_at hl 0 rfl) ?_
  refine lv_tableIn (off := 82) (tgt := 83) hx hb dX5_nthWord_1 (by decide) (by decide) (by decide) (by decide) ?_
  refine va_ldcS hx hb hown hR dX5_nthWord_83 ?_
  exact W.aret (v := .ref q) hx hb hr (Or.inl ⟨_, rfl⟩) (Or.inr ⟨_, rfl⟩) (fun t ht hW => ⟨some q, rfl, rfl, ht⟩) (fun _ h => absurd h List.not_mem_nil) dX5_nthWord_85
set_option maxRecDepth 20000 in
theorem fc_X5_nthWord11 (l : Launch) (q : Nat) : Met l yX5_nthWord wsX5_nthWord ({ frames := 0, cells := 0, slots := 0, locals := 0 }) (va_Pc [.int 11] (fun U => vk_R RX5 151 "not" q U)) (va_Sq (fun r : Option Nat => r = some q)) 0 0 (fun _ => False) := by
  refine Met.ofW (cc := cX5_nthWord) (maxL := 1) (ret := (some (.object "java/lang/String"))) (by decide) rfl ?_
  intro p e s m args below meth c s₁ B hml hv
  obtain ⟨rfl, hR⟩ := hv
  have hx := B.exec
  have hb := B.bytes
  have hr := B.returns
  have hown : s.vm.findClass RX5 = some m.cls := findClass_of_methodNamed B.named
  have hl := lv_entry ([.int 11]) (n := 1) (Nat.le_of_ble_eq_true rfl)
  rw [lg_entry_eq]
  generalize (lg_sl ([.int 11]) ++ List.replicate (1 - (lg_sl ([.int 11])).length) Slot.unset).toArray = ls at hl ⊢
  have hl : lv_has ls 1 [(0, .int 11)] := hl
  refine lv_iload_n hx hb dX5_nthWord_0 rfl (lv_at hl 0 rfl) ?_
  refine lv_tableOut (tgt := 86) hx hb dX5_nthWord_1 (by decide) (by decide) ?_
  refine va_ldcS hx hb hown hR dX5_nthWord_86 ?_
  exact W.aret (v := .ref q) hx hb hr (Or.inl ⟨_, rfl⟩) (Or.inr ⟨_, rfl⟩) (fun t ht hW => ⟨some q, rfl, rfl, ht⟩) (fun _ h => absurd h List.not_mem_nil) dX5_nthWord_88
set_option maxHeartbeats 400000 in
set_option maxRecDepth 20000 in
theorem fc_X5_isSpelt (l : Launch) (D : va_G) (ad : Nat → Nat → Nat) (C : Nat → Nat → ClassId) (nb : Nat) (M : fm_M) (hI : fm_I nb ad M) (q v N : Nat) (f : Nat → Int32) (hN : 1 ≤ N ∧ N ≤ 50) (p0 p1 : Int32) (b_p0 : 0 ≤ p0.toInt ∧ p0.toInt ≤ 160) (b_p1 : 0 ≤ p1.toInt ∧ p1.toInt ≤ 160) (hby : M.2.2 32 0 0 = some (ad 28 0)) : Met l yX5_isSpelt wsX5_isSpelt ({ frames := 4, cells := 0, slots := 0, locals := 85 }) (va_Pc [.ref (ad 32 0), .ref q, .int p0, .int p1] (fun U => fm_P D ad C nb M U ∧ rt_Str q v N f (fm_A nb ad) U U.heap)) (vp_Si (fun r : Int32 => (0 ≤ r.toInt ∧ r.toInt ≤ 1))) 0 0 (fun _ => False) := by
  refine Met.ofW (cc := cX5_isSpelt) (maxL := 5) (ret := (some .boolean)) (by decide) rfl ?_
  intro p e s m args below meth c s₁ B hml hv
  obtain ⟨rfl, ⟨hw, hc⟩, hQq⟩ := hv
  have hx := B.exec
  have hb := B.bytes
  have hr := B.returns
  have hts := atoms_spec (ws := wsX5_isSpelt) B.pre
  have hown : s.vm.findClass RX5 = some m.cls := findClass_of_methodNamed B.named
  have hinX5 : ∀ w ∈ u_ws RX5 TX5 8, w ∈ wsX5_isSpelt := fun w h => List.mem_cons_of_mem _ (iT_X5 w h)
  have hS : va_S (fm_A nb ad) s.heap s.heap [] := va_S.rf
  have hl := lv_entry ([.ref (ad 32 0), .ref q, .int p0, .int p1]) (n := 5) (Nat.le_of_ble_eq_true rfl)
  rw [lg_entry_eq]
  generalize (lg_sl ([.ref (ad 32 0), .ref q, .int p0, .int p1]) ++ List.replicate (5 - (lg_sl ([.ref (ad 32 0), .ref q, .int p0, .int p1])).length) Slot.unset).toArray = ls at hl ⊢
  have hl : lv_has ls 5 [(0, .ref (ad 32 0)), (1, .ref q), (2, .int p0), (3, .int p1)] := hl
  refine lv_aload_n hx hb dX5_isSpelt_0 rfl (lv_at hl 1 rfl) ?_
  refine vp_callSi (va_Run.run (va_runV (As := []) (rest := []) ⟨hx, hb, hml, hown, hts⟩ (rt_J0_length l D.1 D.2 q v N f) (cwV 0 hts gX5_isSpelt_J0_length_8abf5 rfl rfl rfl (by decide +kernel) ⟨Nat.le_of_ble_eq_true rfl, Nat.le_of_ble_eq_true rfl⟩) ⟨fun a U g mk q => by obtain ⟨q0, qP, qK, qe0⟩ := q; exact ⟨q0, qP, va_K.moved (u := U) (U := U.calling g mk a) (Vm.Alike.refl U.vm) qK, rt_Str.same qe0⟩, rt_recv hQq.1 hS, fun U hU hW => ⟨rfl, fun i z hz => by simp at hz, va_K.moved hW.alike hc.2.1.1, rt_Str.give hQq hS (fun _ h => h.elim) hU hW.alike⟩⟩ rfl rfl hl.1 rfl (lv_room (Nat.le_of_ble_eq_true rfl)) dX5_isSpelt_1 ⟨by decide +kernel, by decide +kernel⟩)) (fun r1 hr1 => ?_)
  have tr1 : r1.toInt = N := by rw [hr1]; exact zi_ofN (by omega)
  refine lv_iload_n hx hb dX5_isSpelt_4 rfl (lv_at hl 3 rfl) ?_
  refine lv_iload_n hx hb dX5_isSpelt_5 rfl (lv_at hl 2 rfl) ?_
  refine fx_isub hx hb dX5_isSpelt_6 rfl rfl (by omega) (fun y2 ey2 ty2 => ?_)
  refine fx_icmp_eq (tgt := 12) hx hb dX5_isSpelt_7 (by decide) rfl rfl (fun c3 => ?_) (fun c3 => ?_)
  · refine lv_iconst (v := 0) hx hb dX5_isSpelt_12 (by decide) ?_
    refine lv_istore (lv' := [(4, .int 0), (0, .ref (ad 32 0)), (1, .ref q), (2, .int p0), (3, .int p1)]) hx hb dX5_isSpelt_13 hl (by decide) rfl (fun ls hl => ?_)
    have lp : ∀ (n_lp : Nat) (lp_4 : Int32), (50 - lp_4.toInt).toNat < n_lp → (0 ≤ lp_4.toInt ∧ lp_4.toInt ≤ 50) → ∀ (ls : Array Slot), lv_has ls 5 [(4, .int lp_4), (0, .ref (ad 32 0)), (1, .ref q), (2, .int p0), (3, .int p1)] → W p l e (headSpec wsX5_isSpelt ({ frames := 4, cells := 0, slots := 0, locals := 85 })).room s m ([.ref (ad 32 0), .ref q, .int p0, .int p1] : List Value).toArray below meth c s.heap [] 0 0 (MQ below (vp_Si (fun r : Int32 => (0 ≤ r.toInt ∧ r.toInt ≤ 1))) ([.ref (ad 32 0), .ref q, .int p0, .int p1] : List Value).toArray s 0 0 (fun _ => False)) (F0 m 15 ls []) := by
      intro n_lp
      induction n_lp with
      | zero => intro lp_4 hm_lp b_lp_4 ls hl; exact absurd hm_lp (Nat.not_lt_zero _)
      | succ n_lp ih_lp =>
        intro lp_4 hm_lp b_lp_4 ls hl
        refine lv_iload hx hb dX5_isSpelt_15 (lv_at hl 0 rfl) ?_
        refine lv_aload_n hx hb dX5_isSpelt_17 rfl (lv_at hl 2 rfl) ?_
        refine vp_callSi (va_Run.run (va_runV (As := []) (rest := [.int lp_4]) ⟨hx, hb, hml, hown, hts⟩ (rt_J0_length l D.1 D.2 q v N f) (cwV 0 hts gX5_isSpelt_J0_length_8abf5 rfl rfl rfl (by decide +kernel) ⟨Nat.le_of_ble_eq_true rfl, Nat.le_of_ble_eq_true rfl⟩) ⟨fun a U g mk q => by obtain ⟨q0, qP, qK, qe0⟩ := q; exact ⟨q0, qP, va_K.moved (u := U) (U := U.calling g mk a) (Vm.Alike.refl U.vm) qK, rt_Str.same qe0⟩, rt_recv hQq.1 hS, fun U hU hW => ⟨rfl, fun i z hz => by simp at hz, va_K.moved hW.alike hc.2.1.1, rt_Str.give hQq hS (fun _ h => h.elim) hU hW.alike⟩⟩ rfl rfl hl.1 rfl (lv_room (Nat.le_of_ble_eq_true rfl)) dX5_isSpelt_18 ⟨by decide +kernel, by decide +kernel⟩)) (fun r4 hr4 => ?_)
        have tr4 : r4.toInt = N := by rw [hr4]; exact zi_ofN (by omega)
        refine fx_icmp_ge (tgt := 50) hx hb dX5_isSpelt_21 (by decide) rfl rfl (fun c5 => ?_) (fun c5 => ?_)
        · refine lv_iconst (v := 1) hx hb dX5_isSpelt_50 (by decide) ?_
          exact W.zret (v := 1) hx hb hr rfl (fun t ht hW => ⟨1, rfl, (by decide), ht⟩) (fun _ h => absurd h List.not_mem_nil) dX5_isSpelt_51
        · refine lv_aload_n hx hb dX5_isSpelt_24 rfl (lv_at hl 2 rfl) ?_
          refine lv_iload hx hb dX5_isSpelt_25 (lv_at hl 0 rfl) ?_
          refine vp_callSi (va_Run.run (va_runV (As := [.int lp_4]) (rest := []) ⟨hx, hb, hml, hown, hts⟩ (rt_J0_charAt l D.1 D.2 q v N f lp_4 (by omega) (by omega)) (cwV 1 hts gX5_isSpelt_J0_charAt_5068e rfl rfl rfl (by decide +kernel) ⟨Nat.le_of_ble_eq_true rfl, Nat.le_of_ble_eq_true rfl⟩) ⟨fun a U g mk q => by obtain ⟨q0, qP, qK, qe0⟩ := q; exact ⟨q0, qP, va_K.moved (u := U) (U := U.calling g mk a) (Vm.Alike.refl U.vm) qK, rt_Str.same qe0⟩, rt_recv hQq.1 hS, fun U hU hW => ⟨rfl, fun i z hz => by simp at hz, va_K.moved hW.alike hc.2.1.1, rt_Str.give hQq hS (fun _ h => h.elim) hU hW.alike⟩⟩ rfl rfl hl.1 rfl (lv_room (Nat.le_of_ble_eq_true rfl)) dX5_isSpelt_27 ⟨by decide +kernel, by decide +kernel⟩)) (fun r6 hr6 => ?_)
          refine lv_aload_n hx hb dX5_isSpelt_30 rfl (lv_at hl 1 rfl) ?_
          refine fm_getG (a := 32) (j := 0) (T := TX5) (N := 8) hx hb hts hinX5 hown hc hw kl_32 sh_32 rfl (by decide) rfl hby (hts (.fieldLink RX5 11 "RedTent$Reader" "bytes" "[I") (List.mem_cons_of_mem _ tw_1_198)) (fun _ h9 => h9) dX5_isSpelt_31 ?_
          refine lv_iload_n hx hb dX5_isSpelt_34 rfl (lv_at hl 3 rfl) ?_
          refine lv_iload hx hb dX5_isSpelt_35 (lv_at hl 0 rfl) ?_
          refine fx_iadd hx hb dX5_isSpelt_37 rfl rfl (by omega) (fun y7 ey7 ty7 => ?_)
          refine fm_iald (a := 28) hx hb hc hw hI kl_28 sh_28 ty_28 bd_28 (by omega) dX5_isSpelt_38 (fun x8 ex8 bx8 => ?_)
          refine fx_icmp_eq (tgt := 44) hx hb dX5_isSpelt_39 (by decide) rfl rfl (fun c9 => ?_) (fun c9 => ?_)
          · obtain ⟨y10, ey10⟩ : ∃ y : Int32, y = lp_4 + 1 := ⟨_, rfl⟩
            have ty10 : y10.toInt = lp_4.toInt + 1 := by rw [ey10, zi_add _ _ (by rw [zk_1]; omega) (by rw [zk_1]; omega), zk_1]
            refine lv_iinc (v := y10) (lv' := [(4, .int y10), (0, .ref (ad 32 0)), (1, .ref q), (2, .int p0), (3, .int p1)]) hx hb dX5_isSpelt_44 hl (k := 0) rfl (by rw [ey10]; rfl) (by decide) rfl (fun ls hl => ?_)
            refine lv_goto (tgt := 15) hx hb dX5_isSpelt_47 (by decide) ?_
            exact ih_lp y10 (by omega) (by omega) ls (lv_sub hl [0, 1, 2, 3, 4] rfl)
          · refine lv_iconst (v := 0) hx hb dX5_isSpelt_42 (by decide) ?_
            exact W.zret (v := 0) hx hb hr rfl (fun t ht hW => ⟨0, rfl, (by decide), ht⟩) (fun _ h => absurd h List.not_mem_nil) dX5_isSpelt_43
    exact lp _ 0 (Nat.lt_succ_self _) (by decide) ls (lv_sub hl [0, 1, 2, 3, 4] rfl)
  · refine lv_iconst (v := 0) hx hb dX5_isSpelt_10 (by decide) ?_
    exact W.zret (v := 0) hx hb hr rfl (fun t ht hW => ⟨0, rfl, (by decide), ht⟩) (fun _ h => absurd h List.not_mem_nil) dX5_isSpelt_11
set_option maxHeartbeats 400000 in
set_option maxRecDepth 20000 in
theorem fc_X5_wordOf (l : Launch) (D : va_G) (ad : Nat → Nat → Nat) (C : Nat → Nat → ClassId) (nb : Nat) (M : fm_M) (hI : fm_I nb ad M) (p0 p1 : Int32) (b_p0 : 0 ≤ p0.toInt ∧ p0.toInt ≤ 160) (b_p1 : 0 ≤ p1.toInt ∧ p1.toInt ≤ 160) (hby : M.2.2 32 0 0 = some (ad 28 0)) : Met l yX5_wordOf wsX5_wordOf ({ frames := 5, cells := 0, slots := 0, locals := 109 }) (va_Pc [.ref (ad 32 0), .int p0, .int p1] (fm_P D ad C nb M)) (vp_Si (fun r : Int32 => ((-1) ≤ r.toInt ∧ r.toInt ≤ 11))) 0 0 (fun _ => False) := by
  refine Met.ofW (cc := cX5_wordOf) (maxL := 4) (ret := (some .int)) (by decide) rfl ?_
  intro p e s m args below meth c s₁ B hml hv
  obtain ⟨rfl, hw, hc⟩ := hv
  have hx := B.exec
  have hb := B.bytes
  have hr := B.returns
  have hts := atoms_spec (ws := wsX5_wordOf) B.pre
  have hown : s.vm.findClass RX5 = some m.cls := findClass_of_methodNamed B.named
  have hS : va_S (fm_A nb ad) s.heap s.heap [] := va_S.rf
  have hl := lv_entry ([.ref (ad 32 0), .int p0, .int p1]) (n := 4) (Nat.le_of_ble_eq_true rfl)
  rw [lg_entry_eq]
  generalize (lg_sl ([.ref (ad 32 0), .int p0, .int p1]) ++ List.replicate (4 - (lg_sl ([.ref (ad 32 0), .int p0, .int p1])).length) Slot.unset).toArray = ls at hl ⊢
  have hl : lv_has ls 4 [(0, .ref (ad 32 0)), (1, .int p0), (2, .int p1)] := hl
  refine lv_iconst (v := 1) hx hb dX5_wordOf_0 (by decide) ?_
  refine lv_istore_n (lv' := [(3, .int 1), (0, .ref (ad 32 0)), (1, .int p0), (2, .int p1)]) hx hb dX5_wordOf_1 rfl hl (by decide) rfl (fun ls hl => ?_)
  refine lv_iload_n hx hb dX5_wordOf_2 rfl (lv_at hl 0 rfl) ?_
  refine lv_bipush (v := 11) hx hb dX5_wordOf_3 (by decide) ?_
  refine fx_icmp_gt (tgt := 29) hx hb dX5_wordOf_5 (by decide) zk_1 zk_11 (fun c1 => by exfalso; omega) (fun c1 => ?_)
  refine lv_aload_n hx hb dX5_wordOf_8 rfl (lv_at hl 1 rfl) ?_
  refine lv_iload_n hx hb dX5_wordOf_9 rfl (lv_at hl 0 rfl) ?_
  obtain ⟨q2, vq2, hQq2, hRq2⟩ := hc.2.2.2.2.1 (RX5, 131, "strength", [115, 116, 114, 101, 110, 103, 116, 104]) (by decide)
  refine va_csq (va_Run.run (va_runS (As := [.int 1]) (rest := [.ref (ad 32 0)]) ⟨hx, hb, hml, hown, hts⟩ (fc_X5_nthWord1 l q2) (va_cwS 1 hts gX5_wordOf_X5_nthWord rfl rfl rfl (by decide +kernel) ⟨Nat.le_of_ble_eq_true rfl, Nat.le_of_ble_eq_true rfl⟩) ⟨fun a U g mk z => ⟨z.1, vk_R.same rfl z.2⟩, fun U hU hW => ⟨rfl, vk_R.warm hW hRq2⟩⟩ rfl rfl hl.1 rfl (lv_room (Nat.le_of_ble_eq_true rfl)) dX5_wordOf_10 ⟨by decide +kernel, by decide +kernel⟩)) (fun r3 hr3 => ?_)
  obtain rfl := hr3
  refine lv_iload_n hx hb dX5_wordOf_13 rfl (lv_at hl 2 rfl) ?_
  refine lv_iload_n hx hb dX5_wordOf_14 rfl (lv_at hl 3 rfl) ?_
  refine vp_callSi (va_Run.run (va_runV (As := [.ref q2, .int p0, .int p1]) (rest := []) ⟨hx, hb, hml, hown, hts⟩ (fc_X5_isSpelt l D ad C nb M hI q2 vq2 8 (fun j => ([115, 116, 114, 101, 110, 103, 116, 104] : List Int32).getD j 0) (by decide) p0 p1 (by omega) (by omega) hby) (cwV 3 hts gX5_wordOf_X5_isSpelt rfl rfl rfl (by decide +kernel) ⟨Nat.le_of_ble_eq_true rfl, Nat.le_of_ble_eq_true rfl⟩) (fm_preVS hc hw hS hQq2 kl_32 sh_32 rfl) rfl rfl hl.1 rfl (lv_room (Nat.le_of_ble_eq_true rfl)) dX5_wordOf_15 ⟨by decide +kernel, by decide +kernel⟩)) (fun r4 hr4 => ?_)
  refine fx_if_eq (tgt := 23) hx hb dX5_wordOf_18 (by decide) rfl (fun c5 => ?_) (fun c5 => ?_)
  · refine lv_iinc (v := 2) (lv' := [(3, .int 2), (0, .ref (ad 32 0)), (1, .int p0), (2, .int p1)]) hx hb dX5_wordOf_23 hl (k := 0) rfl (by decide) (by decide) rfl (fun ls hl => ?_)
    refine lv_goto (tgt := 2) hx hb dX5_wordOf_26 (by decide) ?_
    refine lv_iload_n hx hb dX5_wordOf_2 rfl (lv_at hl 0 rfl) ?_
    refine lv_bipush (v := 11) hx hb dX5_wordOf_3 (by decide) ?_
    refine fx_icmp_gt (tgt := 29) hx hb dX5_wordOf_5 (by decide) zk_2 zk_11 (fun c6 => by exfalso; omega) (fun c6 => ?_)
    refine lv_aload_n hx hb dX5_wordOf_8 rfl (lv_at hl 1 rfl) ?_
    refine lv_iload_n hx hb dX5_wordOf_9 rfl (lv_at hl 0 rfl) ?_
    obtain ⟨q7, vq7, hQq7, hRq7⟩ := hc.2.2.2.2.1 (RX5, 133, "hurt", [104, 117, 114, 116]) (by decide)
    refine va_csq (va_Run.run (va_runS (As := [.int 2]) (rest := [.ref (ad 32 0)]) ⟨hx, hb, hml, hown, hts⟩ (fc_X5_nthWord2 l q7) (va_cwS 1 hts gX5_wordOf_X5_nthWord rfl rfl rfl (by decide +kernel) ⟨Nat.le_of_ble_eq_true rfl, Nat.le_of_ble_eq_true rfl⟩) ⟨fun a U g mk z => ⟨z.1, vk_R.same rfl z.2⟩, fun U hU hW => ⟨rfl, vk_R.warm hW hRq7⟩⟩ rfl rfl hl.1 rfl (lv_room (Nat.le_of_ble_eq_true rfl)) dX5_wordOf_10 ⟨by decide +kernel, by decide +kernel⟩)) (fun r8 hr8 => ?_)
    obtain rfl := hr8
    refine lv_iload_n hx hb dX5_wordOf_13 rfl (lv_at hl 2 rfl) ?_
    refine lv_iload_n hx hb dX5_wordOf_14 rfl (lv_at hl 3 rfl) ?_
    refine vp_callSi (va_Run.run (va_runV (As := [.ref q7, .int p0, .int p1]) (rest := []) ⟨hx, hb, hml, hown, hts⟩ (fc_X5_isSpelt l D ad C nb M hI q7 vq7 4 (fun j => ([104, 117, 114, 116] : List Int32).getD j 0) (by decide) p0 p1 (by omega) (by omega) hby) (cwV 3 hts gX5_wordOf_X5_isSpelt rfl rfl rfl (by decide +kernel) ⟨Nat.le_of_ble_eq_true rfl, Nat.le_of_ble_eq_true rfl⟩) (fm_preVS hc hw hS hQq7 kl_32 sh_32 rfl) rfl rfl hl.1 rfl (lv_room (Nat.le_of_ble_eq_true rfl)) dX5_wordOf_15 ⟨by decide +kernel, by decide +kernel⟩)) (fun r9 hr9 => ?_)
    refine fx_if_eq (tgt := 23) hx hb dX5_wordOf_18 (by decide) rfl (fun c10 => ?_) (fun c10 => ?_)
    · refine lv_iinc (v := 3) (lv' := [(3, .int 3), (0, .ref (ad 32 0)), (1, .int p0), (2, .int p1)]) hx hb dX5_wordOf_23 hl (k := 0) rfl (by decide) (by decide) rfl (fun ls hl => ?_)
      refine lv_goto (tgt := 2) hx hb dX5_wordOf_26 (by decide) ?_
      refine lv_iload_n hx hb dX5_wordOf_2 rfl (lv_at hl 0 rfl) ?_
      refine lv_bipush (v := 11) hx hb dX5_wordOf_3 (by decide) ?_
      refine fx_icmp_gt (tgt := 29) hx hb dX5_wordOf_5 (by decide) zk_3 zk_11 (fun c11 => by exfalso; omega) (fun c11 => ?_)
      refine lv_aload_n hx hb dX5_wordOf_8 rfl (lv_at hl 1 rfl) ?_
      refine lv_iload_n hx hb dX5_wordOf_9 rfl (lv_at hl 0 rfl) ?_
      obtain ⟨q12, vq12, hQq12, hRq12⟩ := hc.2.2.2.2.1 (RX5, 135, "skill", [115, 107, 105, 108, 108]) (by decide)
      refine va_csq (va_Run.run (va_runS (As := [.int 3]) (rest := [.ref (ad 32 0)]) ⟨hx, hb, hml, hown, hts⟩ (fc_X5_nthWord3 l q12) (va_cwS 1 hts gX5_wordOf_X5_nthWord rfl rfl rfl (by decide +kernel) ⟨Nat.le_of_ble_eq_true rfl, Nat.le_of_ble_eq_true rfl⟩) ⟨fun a U g mk z => ⟨z.1, vk_R.same rfl z.2⟩, fun U hU hW => ⟨rfl, vk_R.warm hW hRq12⟩⟩ rfl rfl hl.1 rfl (lv_room (Nat.le_of_ble_eq_true rfl)) dX5_wordOf_10 ⟨by decide +kernel, by decide +kernel⟩)) (fun r13 hr13 => ?_)
      obtain rfl := hr13
      refine lv_iload_n hx hb dX5_wordOf_13 rfl (lv_at hl 2 rfl) ?_
      refine lv_iload_n hx hb dX5_wordOf_14 rfl (lv_at hl 3 rfl) ?_
      refine vp_callSi (va_Run.run (va_runV (As := [.ref q12, .int p0, .int p1]) (rest := []) ⟨hx, hb, hml, hown, hts⟩ (fc_X5_isSpelt l D ad C nb M hI q12 vq12 5 (fun j => ([115, 107, 105, 108, 108] : List Int32).getD j 0) (by decide) p0 p1 (by omega) (by omega) hby) (cwV 3 hts gX5_wordOf_X5_isSpelt rfl rfl rfl (by decide +kernel) ⟨Nat.le_of_ble_eq_true rfl, Nat.le_of_ble_eq_true rfl⟩) (fm_preVS hc hw hS hQq12 kl_32 sh_32 rfl) rfl rfl hl.1 rfl (lv_room (Nat.le_of_ble_eq_true rfl)) dX5_wordOf_15 ⟨by decide +kernel, by decide +kernel⟩)) (fun r14 hr14 => ?_)
      refine fx_if_eq (tgt := 23) hx hb dX5_wordOf_18 (by decide) rfl (fun c15 => ?_) (fun c15 => ?_)
      · refine lv_iinc (v := 4) (lv' := [(3, .int 4), (0, .ref (ad 32 0)), (1, .int p0), (2, .int p1)]) hx hb dX5_wordOf_23 hl (k := 0) rfl (by decide) (by decide) rfl (fun ls hl => ?_)
        refine lv_goto (tgt := 2) hx hb dX5_wordOf_26 (by decide) ?_
        refine lv_iload_n hx hb dX5_wordOf_2 rfl (lv_at hl 0 rfl) ?_
        refine lv_bipush (v := 11) hx hb dX5_wordOf_3 (by decide) ?_
        refine fx_icmp_gt (tgt := 29) hx hb dX5_wordOf_5 (by decide) zk_4 zk_11 (fun c16 => by exfalso; omega) (fun c16 => ?_)
        refine lv_aload_n hx hb dX5_wordOf_8 rfl (lv_at hl 1 rfl) ?_
        refine lv_iload_n hx hb dX5_wordOf_9 rfl (lv_at hl 0 rfl) ?_
        obtain ⟨q17, vq17, hQq17, hRq17⟩ := hc.2.2.2.2.1 (RX5, 137, "hour", [104, 111, 117, 114]) (by decide)
        refine va_csq (va_Run.run (va_runS (As := [.int 4]) (rest := [.ref (ad 32 0)]) ⟨hx, hb, hml, hown, hts⟩ (fc_X5_nthWord4 l q17) (va_cwS 1 hts gX5_wordOf_X5_nthWord rfl rfl rfl (by decide +kernel) ⟨Nat.le_of_ble_eq_true rfl, Nat.le_of_ble_eq_true rfl⟩) ⟨fun a U g mk z => ⟨z.1, vk_R.same rfl z.2⟩, fun U hU hW => ⟨rfl, vk_R.warm hW hRq17⟩⟩ rfl rfl hl.1 rfl (lv_room (Nat.le_of_ble_eq_true rfl)) dX5_wordOf_10 ⟨by decide +kernel, by decide +kernel⟩)) (fun r18 hr18 => ?_)
        obtain rfl := hr18
        refine lv_iload_n hx hb dX5_wordOf_13 rfl (lv_at hl 2 rfl) ?_
        refine lv_iload_n hx hb dX5_wordOf_14 rfl (lv_at hl 3 rfl) ?_
        refine vp_callSi (va_Run.run (va_runV (As := [.ref q17, .int p0, .int p1]) (rest := []) ⟨hx, hb, hml, hown, hts⟩ (fc_X5_isSpelt l D ad C nb M hI q17 vq17 4 (fun j => ([104, 111, 117, 114] : List Int32).getD j 0) (by decide) p0 p1 (by omega) (by omega) hby) (cwV 3 hts gX5_wordOf_X5_isSpelt rfl rfl rfl (by decide +kernel) ⟨Nat.le_of_ble_eq_true rfl, Nat.le_of_ble_eq_true rfl⟩) (fm_preVS hc hw hS hQq17 kl_32 sh_32 rfl) rfl rfl hl.1 rfl (lv_room (Nat.le_of_ble_eq_true rfl)) dX5_wordOf_15 ⟨by decide +kernel, by decide +kernel⟩)) (fun r19 hr19 => ?_)
        refine fx_if_eq (tgt := 23) hx hb dX5_wordOf_18 (by decide) rfl (fun c20 => ?_) (fun c20 => ?_)
        · refine lv_iinc (v := 5) (lv' := [(3, .int 5), (0, .ref (ad 32 0)), (1, .int p0), (2, .int p1)]) hx hb dX5_wordOf_23 hl (k := 0) rfl (by decide) (by decide) rfl (fun ls hl => ?_)
          refine lv_goto (tgt := 2) hx hb dX5_wordOf_26 (by decide) ?_
          refine lv_iload_n hx hb dX5_wordOf_2 rfl (lv_at hl 0 rfl) ?_
          refine lv_bipush (v := 11) hx hb dX5_wordOf_3 (by decide) ?_
          refine fx_icmp_gt (tgt := 29) hx hb dX5_wordOf_5 (by decide) zk_5 zk_11 (fun c21 => by exfalso; omega) (fun c21 => ?_)
          refine lv_aload_n hx hb dX5_wordOf_8 rfl (lv_at hl 1 rfl) ?_
          refine lv_iload_n hx hb dX5_wordOf_9 rfl (lv_at hl 0 rfl) ?_
          obtain ⟨q22, vq22, hQq22, hRq22⟩ := hc.2.2.2.2.1 (RX5, 139, "fuel", [102, 117, 101, 108]) (by decide)
          refine va_csq (va_Run.run (va_runS (As := [.int 5]) (rest := [.ref (ad 32 0)]) ⟨hx, hb, hml, hown, hts⟩ (fc_X5_nthWord5 l q22) (va_cwS 1 hts gX5_wordOf_X5_nthWord rfl rfl rfl (by decide +kernel) ⟨Nat.le_of_ble_eq_true rfl, Nat.le_of_ble_eq_true rfl⟩) ⟨fun a U g mk z => ⟨z.1, vk_R.same rfl z.2⟩, fun U hU hW => ⟨rfl, vk_R.warm hW hRq22⟩⟩ rfl rfl hl.1 rfl (lv_room (Nat.le_of_ble_eq_true rfl)) dX5_wordOf_10 ⟨by decide +kernel, by decide +kernel⟩)) (fun r23 hr23 => ?_)
          obtain rfl := hr23
          refine lv_iload_n hx hb dX5_wordOf_13 rfl (lv_at hl 2 rfl) ?_
          refine lv_iload_n hx hb dX5_wordOf_14 rfl (lv_at hl 3 rfl) ?_
          refine vp_callSi (va_Run.run (va_runV (As := [.ref q22, .int p0, .int p1]) (rest := []) ⟨hx, hb, hml, hown, hts⟩ (fc_X5_isSpelt l D ad C nb M hI q22 vq22 4 (fun j => ([102, 117, 101, 108] : List Int32).getD j 0) (by decide) p0 p1 (by omega) (by omega) hby) (cwV 3 hts gX5_wordOf_X5_isSpelt rfl rfl rfl (by decide +kernel) ⟨Nat.le_of_ble_eq_true rfl, Nat.le_of_ble_eq_true rfl⟩) (fm_preVS hc hw hS hQq22 kl_32 sh_32 rfl) rfl rfl hl.1 rfl (lv_room (Nat.le_of_ble_eq_true rfl)) dX5_wordOf_15 ⟨by decide +kernel, by decide +kernel⟩)) (fun r24 hr24 => ?_)
          refine fx_if_eq (tgt := 23) hx hb dX5_wordOf_18 (by decide) rfl (fun c25 => ?_) (fun c25 => ?_)
          · refine lv_iinc (v := 6) (lv' := [(3, .int 6), (0, .ref (ad 32 0)), (1, .int p0), (2, .int p1)]) hx hb dX5_wordOf_23 hl (k := 0) rfl (by decide) (by decide) rfl (fun ls hl => ?_)
            refine lv_goto (tgt := 2) hx hb dX5_wordOf_26 (by decide) ?_
            refine lv_iload_n hx hb dX5_wordOf_2 rfl (lv_at hl 0 rfl) ?_
            refine lv_bipush (v := 11) hx hb dX5_wordOf_3 (by decide) ?_
            refine fx_icmp_gt (tgt := 29) hx hb dX5_wordOf_5 (by decide) zk_6 zk_11 (fun c26 => by exfalso; omega) (fun c26 => ?_)
            refine lv_aload_n hx hb dX5_wordOf_8 rfl (lv_at hl 1 rfl) ?_
            refine lv_iload_n hx hb dX5_wordOf_9 rfl (lv_at hl 0 rfl) ?_
            obtain ⟨q27, vq27, hQq27, hRq27⟩ := hc.2.2.2.2.1 (RX5, 141, "far", [102, 97, 114]) (by decide)
            refine va_csq (va_Run.run (va_runS (As := [.int 6]) (rest := [.ref (ad 32 0)]) ⟨hx, hb, hml, hown, hts⟩ (fc_X5_nthWord6 l q27) (va_cwS 1 hts gX5_wordOf_X5_nthWord rfl rfl rfl (by decide +kernel) ⟨Nat.le_of_ble_eq_true rfl, Nat.le_of_ble_eq_true rfl⟩) ⟨fun a U g mk z => ⟨z.1, vk_R.same rfl z.2⟩, fun U hU hW => ⟨rfl, vk_R.warm hW hRq27⟩⟩ rfl rfl hl.1 rfl (lv_room (Nat.le_of_ble_eq_true rfl)) dX5_wordOf_10 ⟨by decide +kernel, by decide +kernel⟩)) (fun r28 hr28 => ?_)
            obtain rfl := hr28
            refine lv_iload_n hx hb dX5_wordOf_13 rfl (lv_at hl 2 rfl) ?_
            refine lv_iload_n hx hb dX5_wordOf_14 rfl (lv_at hl 3 rfl) ?_
            refine vp_callSi (va_Run.run (va_runV (As := [.ref q27, .int p0, .int p1]) (rest := []) ⟨hx, hb, hml, hown, hts⟩ (fc_X5_isSpelt l D ad C nb M hI q27 vq27 3 (fun j => ([102, 97, 114] : List Int32).getD j 0) (by decide) p0 p1 (by omega) (by omega) hby) (cwV 3 hts gX5_wordOf_X5_isSpelt rfl rfl rfl (by decide +kernel) ⟨Nat.le_of_ble_eq_true rfl, Nat.le_of_ble_eq_true rfl⟩) (fm_preVS hc hw hS hQq27 kl_32 sh_32 rfl) rfl rfl hl.1 rfl (lv_room (Nat.le_of_ble_eq_true rfl)) dX5_wordOf_15 ⟨by decide +kernel, by decide +kernel⟩)) (fun r29 hr29 => ?_)
            refine fx_if_eq (tgt := 23) hx hb dX5_wordOf_18 (by decide) rfl (fun c30 => ?_) (fun c30 => ?_)
            · refine lv_iinc (v := 7) (lv' := [(3, .int 7), (0, .ref (ad 32 0)), (1, .int p0), (2, .int p1)]) hx hb dX5_wordOf_23 hl (k := 0) rfl (by decide) (by decide) rfl (fun ls hl => ?_)
              refine lv_goto (tgt := 2) hx hb dX5_wordOf_26 (by decide) ?_
              refine lv_iload_n hx hb dX5_wordOf_2 rfl (lv_at hl 0 rfl) ?_
              refine lv_bipush (v := 11) hx hb dX5_wordOf_3 (by decide) ?_
              refine fx_icmp_gt (tgt := 29) hx hb dX5_wordOf_5 (by decide) zk_7 zk_11 (fun c31 => by exfalso; omega) (fun c31 => ?_)
              refine lv_aload_n hx hb dX5_wordOf_8 rfl (lv_at hl 1 rfl) ?_
              refine lv_iload_n hx hb dX5_wordOf_9 rfl (lv_at hl 0 rfl) ?_
              obtain ⟨q32, vq32, hQq32, hRq32⟩ := hc.2.2.2.2.1 (RX5, 143, "take", [116, 97, 107, 101]) (by decide)
              refine va_csq (va_Run.run (va_runS (As := [.int 7]) (rest := [.ref (ad 32 0)]) ⟨hx, hb, hml, hown, hts⟩ (fc_X5_nthWord7 l q32) (va_cwS 1 hts gX5_wordOf_X5_nthWord rfl rfl rfl (by decide +kernel) ⟨Nat.le_of_ble_eq_true rfl, Nat.le_of_ble_eq_true rfl⟩) ⟨fun a U g mk z => ⟨z.1, vk_R.same rfl z.2⟩, fun U hU hW => ⟨rfl, vk_R.warm hW hRq32⟩⟩ rfl rfl hl.1 rfl (lv_room (Nat.le_of_ble_eq_true rfl)) dX5_wordOf_10 ⟨by decide +kernel, by decide +kernel⟩)) (fun r33 hr33 => ?_)
              obtain rfl := hr33
              refine lv_iload_n hx hb dX5_wordOf_13 rfl (lv_at hl 2 rfl) ?_
              refine lv_iload_n hx hb dX5_wordOf_14 rfl (lv_at hl 3 rfl) ?_
              refine vp_callSi (va_Run.run (va_runV (As := [.ref q32, .int p0, .int p1]) (rest := []) ⟨hx, hb, hml, hown, hts⟩ (fc_X5_isSpelt l D ad C nb M hI q32 vq32 4 (fun j => ([116, 97, 107, 101] : List Int32).getD j 0) (by decide) p0 p1 (by omega) (by omega) hby) (cwV 3 hts gX5_wordOf_X5_isSpelt rfl rfl rfl (by decide +kernel) ⟨Nat.le_of_ble_eq_true rfl, Nat.le_of_ble_eq_true rfl⟩) (fm_preVS hc hw hS hQq32 kl_32 sh_32 rfl) rfl rfl hl.1 rfl (lv_room (Nat.le_of_ble_eq_true rfl)) dX5_wordOf_15 ⟨by decide +kernel, by decide +kernel⟩)) (fun r34 hr34 => ?_)
              refine fx_if_eq (tgt := 23) hx hb dX5_wordOf_18 (by decide) rfl (fun c35 => ?_) (fun c35 => ?_)
              · refine lv_iinc (v := 8) (lv' := [(3, .int 8), (0, .ref (ad 32 0)), (1, .int p0), (2, .int p1)]) hx hb dX5_wordOf_23 hl (k := 0) rfl (by decide) (by decide) rfl (fun ls hl => ?_)
                refine lv_goto (tgt := 2) hx hb dX5_wordOf_26 (by decide) ?_
                refine lv_iload_n hx hb dX5_wordOf_2 rfl (lv_at hl 0 rfl) ?_
                refine lv_bipush (v := 11) hx hb dX5_wordOf_3 (by decide) ?_
                refine fx_icmp_gt (tgt := 29) hx hb dX5_wordOf_5 (by decide) zk_8 zk_11 (fun c36 => by exfalso; omega) (fun c36 => ?_)
                refine lv_aload_n hx hb dX5_wordOf_8 rfl (lv_at hl 1 rfl) ?_
                refine lv_iload_n hx hb dX5_wordOf_9 rfl (lv_at hl 0 rfl) ?_
                obtain ⟨q37, vq37, hQq37, hRq37⟩ := hc.2.2.2.2.1 (RX5, 145, "go", [103, 111]) (by decide)
                refine va_csq (va_Run.run (va_runS (As := [.int 8]) (rest := [.ref (ad 32 0)]) ⟨hx, hb, hml, hown, hts⟩ (fc_X5_nthWord8 l q37) (va_cwS 1 hts gX5_wordOf_X5_nthWord rfl rfl rfl (by decide +kernel) ⟨Nat.le_of_ble_eq_true rfl, Nat.le_of_ble_eq_true rfl⟩) ⟨fun a U g mk z => ⟨z.1, vk_R.same rfl z.2⟩, fun U hU hW => ⟨rfl, vk_R.warm hW hRq37⟩⟩ rfl rfl hl.1 rfl (lv_room (Nat.le_of_ble_eq_true rfl)) dX5_wordOf_10 ⟨by decide +kernel, by decide +kernel⟩)) (fun r38 hr38 => ?_)
                obtain rfl := hr38
                refine lv_iload_n hx hb dX5_wordOf_13 rfl (lv_at hl 2 rfl) ?_
                refine lv_iload_n hx hb dX5_wordOf_14 rfl (lv_at hl 3 rfl) ?_
                refine vp_callSi (va_Run.run (va_runV (As := [.ref q37, .int p0, .int p1]) (rest := []) ⟨hx, hb, hml, hown, hts⟩ (fc_X5_isSpelt l D ad C nb M hI q37 vq37 2 (fun j => ([103, 111] : List Int32).getD j 0) (by decide) p0 p1 (by omega) (by omega) hby) (cwV 3 hts gX5_wordOf_X5_isSpelt rfl rfl rfl (by decide +kernel) ⟨Nat.le_of_ble_eq_true rfl, Nat.le_of_ble_eq_true rfl⟩) (fm_preVS hc hw hS hQq37 kl_32 sh_32 rfl) rfl rfl hl.1 rfl (lv_room (Nat.le_of_ble_eq_true rfl)) dX5_wordOf_15 ⟨by decide +kernel, by decide +kernel⟩)) (fun r39 hr39 => ?_)
                refine fx_if_eq (tgt := 23) hx hb dX5_wordOf_18 (by decide) rfl (fun c40 => ?_) (fun c40 => ?_)
                · refine lv_iinc (v := 9) (lv' := [(3, .int 9), (0, .ref (ad 32 0)), (1, .int p0), (2, .int p1)]) hx hb dX5_wordOf_23 hl (k := 0) rfl (by decide) (by decide) rfl (fun ls hl => ?_)
                  refine lv_goto (tgt := 2) hx hb dX5_wordOf_26 (by decide) ?_
                  refine lv_iload_n hx hb dX5_wordOf_2 rfl (lv_at hl 0 rfl) ?_
                  refine lv_bipush (v := 11) hx hb dX5_wordOf_3 (by decide) ?_
                  refine fx_icmp_gt (tgt := 29) hx hb dX5_wordOf_5 (by decide) zk_9 zk_11 (fun c41 => by exfalso; omega) (fun c41 => ?_)
                  refine lv_aload_n hx hb dX5_wordOf_8 rfl (lv_at hl 1 rfl) ?_
                  refine lv_iload_n hx hb dX5_wordOf_9 rfl (lv_at hl 0 rfl) ?_
                  obtain ⟨q42, vq42, hQq42, hRq42⟩ := hc.2.2.2.2.1 (RX5, 147, "or", [111, 114]) (by decide)
                  refine va_csq (va_Run.run (va_runS (As := [.int 9]) (rest := [.ref (ad 32 0)]) ⟨hx, hb, hml, hown, hts⟩ (fc_X5_nthWord9 l q42) (va_cwS 1 hts gX5_wordOf_X5_nthWord rfl rfl rfl (by decide +kernel) ⟨Nat.le_of_ble_eq_true rfl, Nat.le_of_ble_eq_true rfl⟩) ⟨fun a U g mk z => ⟨z.1, vk_R.same rfl z.2⟩, fun U hU hW => ⟨rfl, vk_R.warm hW hRq42⟩⟩ rfl rfl hl.1 rfl (lv_room (Nat.le_of_ble_eq_true rfl)) dX5_wordOf_10 ⟨by decide +kernel, by decide +kernel⟩)) (fun r43 hr43 => ?_)
                  obtain rfl := hr43
                  refine lv_iload_n hx hb dX5_wordOf_13 rfl (lv_at hl 2 rfl) ?_
                  refine lv_iload_n hx hb dX5_wordOf_14 rfl (lv_at hl 3 rfl) ?_
                  refine vp_callSi (va_Run.run (va_runV (As := [.ref q42, .int p0, .int p1]) (rest := []) ⟨hx, hb, hml, hown, hts⟩ (fc_X5_isSpelt l D ad C nb M hI q42 vq42 2 (fun j => ([111, 114] : List Int32).getD j 0) (by decide) p0 p1 (by omega) (by omega) hby) (cwV 3 hts gX5_wordOf_X5_isSpelt rfl rfl rfl (by decide +kernel) ⟨Nat.le_of_ble_eq_true rfl, Nat.le_of_ble_eq_true rfl⟩) (fm_preVS hc hw hS hQq42 kl_32 sh_32 rfl) rfl rfl hl.1 rfl (lv_room (Nat.le_of_ble_eq_true rfl)) dX5_wordOf_15 ⟨by decide +kernel, by decide +kernel⟩)) (fun r44 hr44 => ?_)
                  refine fx_if_eq (tgt := 23) hx hb dX5_wordOf_18 (by decide) rfl (fun c45 => ?_) (fun c45 => ?_)
                  · refine lv_iinc (v := 10) (lv' := [(3, .int 10), (0, .ref (ad 32 0)), (1, .int p0), (2, .int p1)]) hx hb dX5_wordOf_23 hl (k := 0) rfl (by decide) (by decide) rfl (fun ls hl => ?_)
                    refine lv_goto (tgt := 2) hx hb dX5_wordOf_26 (by decide) ?_
                    refine lv_iload_n hx hb dX5_wordOf_2 rfl (lv_at hl 0 rfl) ?_
                    refine lv_bipush (v := 11) hx hb dX5_wordOf_3 (by decide) ?_
                    refine fx_icmp_gt (tgt := 29) hx hb dX5_wordOf_5 (by decide) zk_10 zk_11 (fun c46 => by exfalso; omega) (fun c46 => ?_)
                    refine lv_aload_n hx hb dX5_wordOf_8 rfl (lv_at hl 1 rfl) ?_
                    refine lv_iload_n hx hb dX5_wordOf_9 rfl (lv_at hl 0 rfl) ?_
                    obtain ⟨q47, vq47, hQq47, hRq47⟩ := hc.2.2.2.2.1 (RX5, 149, "and", [97, 110, 100]) (by decide)
                    refine va_csq (va_Run.run (va_runS (As := [.int 10]) (rest := [.ref (ad 32 0)]) ⟨hx, hb, hml, hown, hts⟩ (fc_X5_nthWord10 l q47) (va_cwS 1 hts gX5_wordOf_X5_nthWord rfl rfl rfl (by decide +kernel) ⟨Nat.le_of_ble_eq_true rfl, Nat.le_of_ble_eq_true rfl⟩) ⟨fun a U g mk z => ⟨z.1, vk_R.same rfl z.2⟩, fun U hU hW => ⟨rfl, vk_R.warm hW hRq47⟩⟩ rfl rfl hl.1 rfl (lv_room (Nat.le_of_ble_eq_true rfl)) dX5_wordOf_10 ⟨by decide +kernel, by decide +kernel⟩)) (fun r48 hr48 => ?_)
                    obtain rfl := hr48
                    refine lv_iload_n hx hb dX5_wordOf_13 rfl (lv_at hl 2 rfl) ?_
                    refine lv_iload_n hx hb dX5_wordOf_14 rfl (lv_at hl 3 rfl) ?_
                    refine vp_callSi (va_Run.run (va_runV (As := [.ref q47, .int p0, .int p1]) (rest := []) ⟨hx, hb, hml, hown, hts⟩ (fc_X5_isSpelt l D ad C nb M hI q47 vq47 3 (fun j => ([97, 110, 100] : List Int32).getD j 0) (by decide) p0 p1 (by omega) (by omega) hby) (cwV 3 hts gX5_wordOf_X5_isSpelt rfl rfl rfl (by decide +kernel) ⟨Nat.le_of_ble_eq_true rfl, Nat.le_of_ble_eq_true rfl⟩) (fm_preVS hc hw hS hQq47 kl_32 sh_32 rfl) rfl rfl hl.1 rfl (lv_room (Nat.le_of_ble_eq_true rfl)) dX5_wordOf_15 ⟨by decide +kernel, by decide +kernel⟩)) (fun r49 hr49 => ?_)
                    refine fx_if_eq (tgt := 23) hx hb dX5_wordOf_18 (by decide) rfl (fun c50 => ?_) (fun c50 => ?_)
                    · refine lv_iinc (v := 11) (lv' := [(3, .int 11), (0, .ref (ad 32 0)), (1, .int p0), (2, .int p1)]) hx hb dX5_wordOf_23 hl (k := 0) rfl (by decide) (by decide) rfl (fun ls hl => ?_)
                      refine lv_goto (tgt := 2) hx hb dX5_wordOf_26 (by decide) ?_
                      refine lv_iload_n hx hb dX5_wordOf_2 rfl (lv_at hl 0 rfl) ?_
                      refine lv_bipush (v := 11) hx hb dX5_wordOf_3 (by decide) ?_
                      refine fx_icmp_gt (tgt := 29) hx hb dX5_wordOf_5 (by decide) zk_11 zk_11 (fun c51 => by exfalso; omega) (fun c51 => ?_)
                      refine lv_aload_n hx hb dX5_wordOf_8 rfl (lv_at hl 1 rfl) ?_
                      refine lv_iload_n hx hb dX5_wordOf_9 rfl (lv_at hl 0 rfl) ?_
                      obtain ⟨q52, vq52, hQq52, hRq52⟩ := hc.2.2.2.2.1 (RX5, 151, "not", [110, 111, 116]) (by decide)
                      refine va_csq (va_Run.run (va_runS (As := [.int 11]) (rest := [.ref (ad 32 0)]) ⟨hx, hb, hml, hown, hts⟩ (fc_X5_nthWord11 l q52) (va_cwS 1 hts gX5_wordOf_X5_nthWord rfl rfl rfl (by decide +kernel) ⟨Nat.le_of_ble_eq_true rfl, Nat.le_of_ble_eq_true rfl⟩) ⟨fun a U g mk z => ⟨z.1, vk_R.same rfl z.2⟩, fun U hU hW => ⟨rfl, vk_R.warm hW hRq52⟩⟩ rfl rfl hl.1 rfl (lv_room (Nat.le_of_ble_eq_true rfl)) dX5_wordOf_10 ⟨by decide +kernel, by decide +kernel⟩)) (fun r53 hr53 => ?_)
                      obtain rfl := hr53
                      refine lv_iload_n hx hb dX5_wordOf_13 rfl (lv_at hl 2 rfl) ?_
                      refine lv_iload_n hx hb dX5_wordOf_14 rfl (lv_at hl 3 rfl) ?_
                      refine vp_callSi (va_Run.run (va_runV (As := [.ref q52, .int p0, .int p1]) (rest := []) ⟨hx, hb, hml, hown, hts⟩ (fc_X5_isSpelt l D ad C nb M hI q52 vq52 3 (fun j => ([110, 111, 116] : List Int32).getD j 0) (by decide) p0 p1 (by omega) (by omega) hby) (cwV 3 hts gX5_wordOf_X5_isSpelt rfl rfl rfl (by decide +kernel) ⟨Nat.le_of_ble_eq_true rfl, Nat.le_of_ble_eq_true rfl⟩) (fm_preVS hc hw hS hQq52 kl_32 sh_32 rfl) rfl rfl hl.1 rfl (lv_room (Nat.le_of_ble_eq_true rfl)) dX5_wordOf_15 ⟨by decide +kernel, by decide +kernel⟩)) (fun r54 hr54 => ?_)
                      refine fx_if_eq (tgt := 23) hx hb dX5_wordOf_18 (by decide) rfl (fun c55 => ?_) (fun c55 => ?_)
                      · refine lv_iinc (v := 12) (lv' := [(3, .int 12), (0, .ref (ad 32 0)), (1, .int p0), (2, .int p1)]) hx hb dX5_wordOf_23 hl (k := 0) rfl (by decide) (by decide) rfl (fun ls hl => ?_)
                        refine lv_goto (tgt := 2) hx hb dX5_wordOf_26 (by decide) ?_
                        refine lv_iload_n hx hb dX5_wordOf_2 rfl (lv_at hl 0 rfl) ?_
                        refine lv_bipush (v := 11) hx hb dX5_wordOf_3 (by decide) ?_
                        refine fx_icmp_gt (tgt := 29) hx hb dX5_wordOf_5 (by decide) zk_12 zk_11 (fun c56 => ?_) (fun c56 => by exfalso; omega)
                        refine lv_iconst (v := (-1)) hx hb dX5_wordOf_29 (by decide) ?_
                        exact W.iret (v := (-1)) hx hb hr (fun t ht hW => ⟨(-1), rfl, (by decide), ht⟩) (fun _ h => absurd h List.not_mem_nil) dX5_wordOf_30
                      · refine lv_iload_n hx hb dX5_wordOf_21 rfl (lv_at hl 0 rfl) ?_
                        exact W.iret (v := 11) hx hb hr (fun t ht hW => ⟨11, rfl, (by decide), ht⟩) (fun _ h => absurd h List.not_mem_nil) dX5_wordOf_22
                    · refine lv_iload_n hx hb dX5_wordOf_21 rfl (lv_at hl 0 rfl) ?_
                      exact W.iret (v := 10) hx hb hr (fun t ht hW => ⟨10, rfl, (by decide), ht⟩) (fun _ h => absurd h List.not_mem_nil) dX5_wordOf_22
                  · refine lv_iload_n hx hb dX5_wordOf_21 rfl (lv_at hl 0 rfl) ?_
                    exact W.iret (v := 9) hx hb hr (fun t ht hW => ⟨9, rfl, (by decide), ht⟩) (fun _ h => absurd h List.not_mem_nil) dX5_wordOf_22
                · refine lv_iload_n hx hb dX5_wordOf_21 rfl (lv_at hl 0 rfl) ?_
                  exact W.iret (v := 8) hx hb hr (fun t ht hW => ⟨8, rfl, (by decide), ht⟩) (fun _ h => absurd h List.not_mem_nil) dX5_wordOf_22
              · refine lv_iload_n hx hb dX5_wordOf_21 rfl (lv_at hl 0 rfl) ?_
                exact W.iret (v := 7) hx hb hr (fun t ht hW => ⟨7, rfl, (by decide), ht⟩) (fun _ h => absurd h List.not_mem_nil) dX5_wordOf_22
            · refine lv_iload_n hx hb dX5_wordOf_21 rfl (lv_at hl 0 rfl) ?_
              exact W.iret (v := 6) hx hb hr (fun t ht hW => ⟨6, rfl, (by decide), ht⟩) (fun _ h => absurd h List.not_mem_nil) dX5_wordOf_22
          · refine lv_iload_n hx hb dX5_wordOf_21 rfl (lv_at hl 0 rfl) ?_
            exact W.iret (v := 5) hx hb hr (fun t ht hW => ⟨5, rfl, (by decide), ht⟩) (fun _ h => absurd h List.not_mem_nil) dX5_wordOf_22
        · refine lv_iload_n hx hb dX5_wordOf_21 rfl (lv_at hl 0 rfl) ?_
          exact W.iret (v := 4) hx hb hr (fun t ht hW => ⟨4, rfl, (by decide), ht⟩) (fun _ h => absurd h List.not_mem_nil) dX5_wordOf_22
      · refine lv_iload_n hx hb dX5_wordOf_21 rfl (lv_at hl 0 rfl) ?_
        exact W.iret (v := 3) hx hb hr (fun t ht hW => ⟨3, rfl, (by decide), ht⟩) (fun _ h => absurd h List.not_mem_nil) dX5_wordOf_22
    · refine lv_iload_n hx hb dX5_wordOf_21 rfl (lv_at hl 0 rfl) ?_
      exact W.iret (v := 2) hx hb hr (fun t ht hW => ⟨2, rfl, (by decide), ht⟩) (fun _ h => absurd h List.not_mem_nil) dX5_wordOf_22
  · refine lv_iload_n hx hb dX5_wordOf_21 rfl (lv_at hl 0 rfl) ?_
    exact W.iret (v := 1) hx hb hr (fun t ht hW => ⟨1, rfl, (by decide), ht⟩) (fun _ h => absurd h List.not_mem_nil) dX5_wordOf_22
set_option maxHeartbeats 400000 in
set_option maxRecDepth 20000 in
theorem fc_X5_cutOne (l : Launch) (D : va_G) (ad : Nat → Nat → Nat) (C : Nat → Nat → ClassId) (nb : Nat) (M : fm_M) (hI : fm_I nb ad M) (p0 p1 : Int32) (b_p0 : 0 ≤ p0.toInt ∧ p0.toInt ≤ 159) (b_p1 : 0 ≤ p1.toInt ∧ p1.toInt ≤ 159) (hby : M.2.2 32 0 0 = some (ad 28 0)) : Met l yX5_cutOne wsX5_cutOne ({ frames := 6, cells := 0, slots := 0, locals := 132 }) (va_Pc [.ref (ad 32 0), .int p0, .int p1] (fm_P D ad C nb M)) (va_Qi (fun (r : Int32) (u : fm_M) => fm_I nb ad u ∧ fm_same [33000, 35000] M u ∧ (1 ≤ r.toInt ∧ r.toInt ≤ 160) ∧ (p1.toInt < r.toInt)) (fun u t => fm_at D ad C nb u t.heap) (fm_A nb ad)) 0 0 (fm_A nb ad) := by
  refine Met.ofW (cc := cX5_cutOne) (maxL := 5) (ret := (some .int)) (by decide) rfl ?_
  intro p e s m args below meth c s₁ B hml hv
  obtain ⟨rfl, hw, hc⟩ := hv
  have hx := B.exec
  have hb := B.bytes
  have hr := B.returns
  have hts := atoms_spec (ws := wsX5_cutOne) B.pre
  have hown : s.vm.findClass RX5 = some m.cls := findClass_of_methodNamed B.named
  have hinX5 : ∀ w ∈ u_ws RX5 TX5 8, w ∈ wsX5_cutOne := fun w h => List.mem_cons_of_mem _ (iT_X5 w h)
  have hS : va_S (fm_A nb ad) s.heap s.heap [] := va_S.rf
  have hE : fm_same [33000, 35000] M M := fm_same.rf
  have hl := lv_entry ([.ref (ad 32 0), .int p0, .int p1]) (n := 5) (Nat.le_of_ble_eq_true rfl)
  rw [lg_entry_eq]
  generalize (lg_sl ([.ref (ad 32 0), .int p0, .int p1]) ++ List.replicate (5 - (lg_sl ([.ref (ad 32 0), .int p0, .int p1])).length) Slot.unset).toArray = ls at hl ⊢
  have hl : lv_has ls 5 [(0, .ref (ad 32 0)), (1, .int p0), (2, .int p1)] := hl
  refine lv_iload_n hx hb dX5_cutOne_0 rfl (lv_at hl 2 rfl) ?_
  refine lv_istore_n (lv' := [(3, .int p1), (0, .ref (ad 32 0)), (1, .int p0), (2, .int p1)]) hx hb dX5_cutOne_1 rfl hl (by decide) rfl (fun ls hl => ?_)
  refine lv_iconst (v := 0) hx hb dX5_cutOne_2 (by decide) ?_
  refine lv_istore (lv' := [(4, .int 0), (3, .int p1), (0, .ref (ad 32 0)), (1, .int p0), (2, .int p1)]) hx hb dX5_cutOne_3 hl (by decide) rfl (fun ls hl => ?_)
  have lp : ∀ (n_lp : Nat) (lp_3 : Int32) (M_lp : fm_M), (160 - lp_3.toInt).toNat < n_lp → (0 ≤ lp_3.toInt ∧ lp_3.toInt ≤ 160) → (M_lp.2.2 32 0 0 = some (ad 28 0)) → (p1.toInt ≤ lp_3.toInt) → fm_I nb ad M_lp → fm_same [33000, 35000] M M_lp → ∀ (H : Heap) (locs : List Loc), fm_at D ad C nb M_lp H → va_S (fm_A nb ad) s.heap H locs → ∀ (ls : Array Slot), lv_has ls 5 [(4, .int 0), (3, .int lp_3), (0, .ref (ad 32 0)), (1, .int p0), (2, .int p1)] → W p l e (headSpec wsX5_cutOne ({ frames := 6, cells := 0, slots := 0, locals := 132 })).room s m ([.ref (ad 32 0), .int p0, .int p1] : List Value).toArray below meth c H locs 0 0 (MQ below (va_Qi (fun (r : Int32) (u : fm_M) => fm_I nb ad u ∧ fm_same [33000, 35000] M u ∧ (1 ≤ r.toInt ∧ r.toInt ≤ 160) ∧ (p1.toInt < r.toInt)) (fun u t => fm_at D ad C nb u t.heap) (fm_A nb ad)) ([.ref (ad 32 0), .int p0, .int p1] : List Value).toArray s 0 0 (fm_A nb ad)) (F0 m 5 ls []) := by
    intro n_lp
    induction n_lp with
    | zero => intro lp_3 M_lp hm_lp b_lp_3 hby hq hI hE H locs hw hS ls hl; exact absurd hm_lp (Nat.not_lt_zero _)
    | succ n_lp ih_lp =>
      intro lp_3 M_lp hm_lp b_lp_3 hby hq hI hE H locs hw hS ls hl
      refine lv_iload_n hx hb dX5_cutOne_5 rfl (lv_at hl 1 rfl) ?_
      refine lv_aload_n hx hb dX5_cutOne_6 rfl (lv_at hl 2 rfl) ?_
      refine fm_getI (a := 32) (j := 1) (T := TX5) (N := 8) hx hb hts hinX5 hown hc hw hI kl_32 sh_32 rfl (by decide) rfl bd_32_1 (hts (.fieldLink RX5 37 "RedTent$Reader" "size" "I") (List.mem_cons_of_mem _ tw_1_199)) (fun _ h9 => h9) dX5_cutOne_7 (fun x1 ex1 bx1 => ?_)
      refine fx_icmp_ge (tgt := 31) hx hb dX5_cutOne_10 (by decide) rfl rfl (fun c2 => ?_) (fun c2 => ?_)
      · refine lv_iload_n hx hb dX5_cutOne_31 rfl (lv_at hl 1 rfl) ?_
        refine lv_iload_n hx hb dX5_cutOne_32 rfl (lv_at hl 4 rfl) ?_
        refine fx_icmp_le (tgt := 50) hx hb dX5_cutOne_33 (by decide) rfl rfl (fun c3 => ?_) (fun c3 => ?_)
        · have lq : ∀ (n_lq : Nat) (lq_4 : Int32) (lq_3 : Int32) (M_lq : fm_M), (160 - lq_3.toInt).toNat < n_lq → (0 ≤ lq_3.toInt ∧ lq_3.toInt ≤ 160) → (M_lq.2.2 32 0 0 = some (ad 28 0)) → (p1.toInt ≤ lq_3.toInt) → fm_I nb ad M_lq → fm_same [33000, 35000] M M_lq → ∀ (H : Heap) (locs : List Loc), fm_at D ad C nb M_lq H → va_S (fm_A nb ad) s.heap H locs → ∀ (ls : Array Slot), lv_has ls 5 [(4, .int lq_4), (3, .int lq_3), (0, .ref (ad 32 0)), (1, .int p0), (2, .int p1)] → W p l e (headSpec wsX5_cutOne ({ frames := 6, cells := 0, slots := 0, locals := 132 })).room s m ([.ref (ad 32 0), .int p0, .int p1] : List Value).toArray below meth c H locs 0 0 (MQ below (va_Qi (fun (r : Int32) (u : fm_M) => fm_I nb ad u ∧ fm_same [33000, 35000] M u ∧ (1 ≤ r.toInt ∧ r.toInt ≤ 160) ∧ (p1.toInt < r.toInt)) (fun u t => fm_at D ad C nb u t.heap) (fm_A nb ad)) ([.ref (ad 32 0), .int p0, .int p1] : List Value).toArray s 0 0 (fm_A nb ad)) (F0 m 50 ls []) := by
            intro n_lq
            induction n_lq with
            | zero => intro lq_4 lq_3 M_lq hm_lq b_lq_3 hby hq hI hE H locs hw hS ls hl; exact absurd hm_lq (Nat.not_lt_zero _)
            | succ n_lq ih_lq =>
              intro lq_4 lq_3 M_lq hm_lq b_lq_3 hby hq hI hE H locs hw hS ls hl
              refine lv_iload_n hx hb dX5_cutOne_50 rfl (lv_at hl 1 rfl) ?_
              refine lv_aload_n hx hb dX5_cutOne_51 rfl (lv_at hl 2 rfl) ?_
              refine fm_getI (a := 32) (j := 1) (T := TX5) (N := 8) hx hb hts hinX5 hown hc hw hI kl_32 sh_32 rfl (by decide) rfl bd_32_1 (hts (.fieldLink RX5 37 "RedTent$Reader" "size" "I") (List.mem_cons_of_mem _ tw_1_199)) (fun _ h9 => h9) dX5_cutOne_52 (fun x4 ex4 bx4 => ?_)
              refine fx_icmp_ge (tgt := 93) hx hb dX5_cutOne_55 (by decide) rfl rfl (fun c5 => ?_) (fun c5 => ?_)
              · refine lv_iload_n hx hb dX5_cutOne_93 rfl (lv_at hl 1 rfl) ?_
                refine lv_iload_n hx hb dX5_cutOne_94 rfl (lv_at hl 4 rfl) ?_
                refine fx_icmp_le (tgt := 127) hx hb dX5_cutOne_95 (by decide) rfl rfl (fun c6 => ?_) (fun c6 => ?_)
                · refine lv_aload_n hx hb dX5_cutOne_127 rfl (lv_at hl 2 rfl) ?_
                  refine fm_getG (a := 32) (j := 2) (T := TX5) (N := 8) hx hb hts hinX5 hown hc hw kl_32 sh_32 rfl (by decide) rfl (hI.to kl_32 tg_32_2) (hts (.fieldLink RX5 15 "RedTent$Reader" "tokens" "[I") (List.mem_cons_of_mem _ tw_1_200)) (fun _ h9 => h9) dX5_cutOne_128 ?_
                  refine lv_iload_n hx hb dX5_cutOne_131 rfl (lv_at hl 3 rfl) ?_
                  refine lv_aload_n hx hb dX5_cutOne_132 rfl (lv_at hl 2 rfl) ?_
                  refine fm_getG (a := 32) (j := 0) (T := TX5) (N := 8) hx hb hts hinX5 hown hc hw kl_32 sh_32 rfl (by decide) rfl hby (hts (.fieldLink RX5 11 "RedTent$Reader" "bytes" "[I") (List.mem_cons_of_mem _ tw_1_198)) (fun _ h9 => h9) dX5_cutOne_133 ?_
                  refine lv_iload_n hx hb dX5_cutOne_136 rfl (lv_at hl 4 rfl) ?_
                  refine fm_iald (a := 28) hx hb hc hw hI kl_28 sh_28 ty_28 bd_28 (by omega) dX5_cutOne_137 (fun x7 ex7 bx7 => ?_)
                  refine vp_callSi (va_Run.run (va_runS (As := [.int x7]) (rest := [.int p0, .ref (ad 33 0)]) ⟨hx, hb, hml, hown, hts⟩ (fc_X5_isSign l x7) (va_cwS 1 hts gX5_cutOne_X5_isSign rfl rfl rfl (by decide +kernel) ⟨Nat.le_of_ble_eq_true rfl, Nat.le_of_ble_eq_true rfl⟩) ⟨fun a U g mk q => q, fun U hU hW => ⟨rfl, trivial⟩⟩ rfl rfl hl.1 rfl (lv_room (Nat.le_of_ble_eq_true rfl)) dX5_cutOne_138 ⟨by decide +kernel, by decide +kernel⟩)) (fun r8 hr8 => ?_)
                  rcases hr8 with ⟨rfl, c9⟩ | ⟨rfl, c9⟩
                  · refine fx_if_eq (tgt := 153) hx hb dX5_cutOne_141 (by decide) zk_1 (fun c10 => by exfalso; omega) (fun c10 => ?_)
                    refine lv_aload_n hx hb dX5_cutOne_144 rfl (lv_at hl 2 rfl) ?_
                    refine fm_getG (a := 32) (j := 0) (T := TX5) (N := 8) hx hb hts hinX5 hown hc hw kl_32 sh_32 rfl (by decide) rfl hby (hts (.fieldLink RX5 11 "RedTent$Reader" "bytes" "[I") (List.mem_cons_of_mem _ tw_1_198)) (fun _ h9 => h9) dX5_cutOne_145 ?_
                    refine lv_iload_n hx hb dX5_cutOne_148 rfl (lv_at hl 4 rfl) ?_
                    refine fm_iald (a := 28) hx hb hc hw hI kl_28 sh_28 ty_28 bd_28 (by omega) dX5_cutOne_149 (fun x11 ex11 bx11 => ?_)
                    obtain rfl : x7 = x11 := by rw [ex11]; exact ex7
                    refine lv_goto (tgt := 154) hx hb dX5_cutOne_150 (by decide) ?_
                    refine fm_iast (a := 33) hx hb hc hw hI hE hS kl_33 sh_33 ty_33 bd_33 (by omega) (zi_lt _) cd_33 (by decide) dX5_cutOne_154 (fun M12 H locs eM12 hw hI hE hS => ?_)
                    refine lv_iload_n hx hb dX5_cutOne_155 rfl (lv_at hl 4 rfl) ?_
                    refine lv_iconst (v := 1) hx hb dX5_cutOne_156 (by decide) ?_
                    refine fx_iadd hx hb dX5_cutOne_157 rfl zk_1 (by omega) (fun y13 ey13 ty13 => ?_)
                    exact W.iret (v := y13) hx hb hr (fun t ht hW => ⟨⟨y13, M12, rfl, ⟨hI, hE, ⟨(by omega), (by omega)⟩⟩, by show fm_at D ad C nb _ t.heap; rw [ht]; exact hw⟩, hS.F ht⟩) hS.2.2 dX5_cutOne_158
                  · refine fx_if_eq (tgt := 153) hx hb dX5_cutOne_141 (by decide) zk_0 (fun c14 => ?_) (fun c14 => by exfalso; omega)
                    refine lv_iconst (v := (-1)) hx hb dX5_cutOne_153 (by decide) ?_
                    refine fm_iast (a := 33) hx hb hc hw hI hE hS kl_33 sh_33 ty_33 bd_33 (by omega) (by decide) cd_33 (by decide) dX5_cutOne_154 (fun M15 H locs eM15 hw hI hE hS => ?_)
                    refine lv_iload_n hx hb dX5_cutOne_155 rfl (lv_at hl 4 rfl) ?_
                    refine lv_iconst (v := 1) hx hb dX5_cutOne_156 (by decide) ?_
                    refine fx_iadd hx hb dX5_cutOne_157 rfl zk_1 (by omega) (fun y16 ey16 ty16 => ?_)
                    exact W.iret (v := y16) hx hb hr (fun t ht hW => ⟨⟨y16, M15, rfl, ⟨hI, hE, ⟨(by omega), (by omega)⟩⟩, by show fm_at D ad C nb _ t.heap; rw [ht]; exact hw⟩, hS.F ht⟩) hS.2.2 dX5_cutOne_158
                · refine lv_aload_n hx hb dX5_cutOne_98 rfl (lv_at hl 2 rfl) ?_
                  refine fm_getG (a := 32) (j := 2) (T := TX5) (N := 8) hx hb hts hinX5 hown hc hw kl_32 sh_32 rfl (by decide) rfl (hI.to kl_32 tg_32_2) (hts (.fieldLink RX5 15 "RedTent$Reader" "tokens" "[I") (List.mem_cons_of_mem _ tw_1_200)) (fun _ h9 => h9) dX5_cutOne_99 ?_
                  refine lv_iload_n hx hb dX5_cutOne_102 rfl (lv_at hl 3 rfl) ?_
                  refine lv_iload_n hx hb dX5_cutOne_103 rfl (lv_at hl 1 rfl) ?_
                  refine lv_iload_n hx hb dX5_cutOne_104 rfl (lv_at hl 4 rfl) ?_
                  refine fx_isub hx hb dX5_cutOne_105 rfl rfl (by omega) (fun y17 ey17 ty17 => ?_)
                  refine lv_iconst (v := 4) hx hb dX5_cutOne_106 (by decide) ?_
                  refine fx_icmp_gt (tgt := 115) hx hb dX5_cutOne_107 (by decide) rfl zk_4 (fun c18 => ?_) (fun c18 => ?_)
                  · refine lv_iconst (v := (-1)) hx hb dX5_cutOne_115 (by decide) ?_
                    refine fm_iast (a := 33) hx hb hc hw hI hE hS kl_33 sh_33 ty_33 bd_33 (by omega) (by decide) cd_33 (by decide) dX5_cutOne_116 (fun M19 H locs eM19 hw hI hE hS => ?_)
                    refine lv_aload_n hx hb dX5_cutOne_117 rfl (lv_at hl 2 rfl) ?_
                    refine fm_getG (a := 32) (j := 4) (T := TX5) (N := 8) hx hb hts hinX5 hown hc hw kl_32 sh_32 rfl (by decide) rfl (hI.to kl_32 tg_32_4) (hts (.fieldLink RX5 21 "RedTent$Reader" "numbers" "[I") (List.mem_cons_of_mem _ tw_1_202)) (fun _ h9 => h9) dX5_cutOne_118 ?_
                    refine lv_iload_n hx hb dX5_cutOne_121 rfl (lv_at hl 3 rfl) ?_
                    refine lv_iload hx hb dX5_cutOne_122 (lv_at hl 0 rfl) ?_
                    refine fm_iast (a := 35) hx hb hc hw hI hE hS kl_35 sh_35 ty_35 bd_35 (by omega) (zi_lt _) cd_35 (by decide) dX5_cutOne_124 (fun M20 H locs eM20 hw hI hE hS => ?_)
                    refine lv_iload_n hx hb dX5_cutOne_125 rfl (lv_at hl 1 rfl) ?_
                    exact W.iret (v := lq_3) hx hb hr (fun t ht hW => ⟨⟨lq_3, M20, rfl, ⟨hI, hE, ⟨(by omega), (by omega)⟩⟩, by show fm_at D ad C nb _ t.heap; rw [ht]; exact hw⟩, hS.F ht⟩) hS.2.2 dX5_cutOne_126
                  · refine lv_bipush (v := 12) hx hb dX5_cutOne_110 (by decide) ?_
                    refine lv_goto (tgt := 116) hx hb dX5_cutOne_112 (by decide) ?_
                    refine fm_iast (a := 33) hx hb hc hw hI hE hS kl_33 sh_33 ty_33 bd_33 (by omega) (by decide) cd_33 (by decide) dX5_cutOne_116 (fun M21 H locs eM21 hw hI hE hS => ?_)
                    refine lv_aload_n hx hb dX5_cutOne_117 rfl (lv_at hl 2 rfl) ?_
                    refine fm_getG (a := 32) (j := 4) (T := TX5) (N := 8) hx hb hts hinX5 hown hc hw kl_32 sh_32 rfl (by decide) rfl (hI.to kl_32 tg_32_4) (hts (.fieldLink RX5 21 "RedTent$Reader" "numbers" "[I") (List.mem_cons_of_mem _ tw_1_202)) (fun _ h9 => h9) dX5_cutOne_118 ?_
                    refine lv_iload_n hx hb dX5_cutOne_121 rfl (lv_at hl 3 rfl) ?_
                    refine lv_iload hx hb dX5_cutOne_122 (lv_at hl 0 rfl) ?_
                    refine fm_iast (a := 35) hx hb hc hw hI hE hS kl_35 sh_35 ty_35 bd_35 (by omega) (zi_lt _) cd_35 (by decide) dX5_cutOne_124 (fun M22 H locs eM22 hw hI hE hS => ?_)
                    refine lv_iload_n hx hb dX5_cutOne_125 rfl (lv_at hl 1 rfl) ?_
                    exact W.iret (v := lq_3) hx hb hr (fun t ht hW => ⟨⟨lq_3, M22, rfl, ⟨hI, hE, ⟨(by omega), (by omega)⟩⟩, by show fm_at D ad C nb _ t.heap; rw [ht]; exact hw⟩, hS.F ht⟩) hS.2.2 dX5_cutOne_126
              · refine lv_aload_n hx hb dX5_cutOne_58 rfl (lv_at hl 2 rfl) ?_
                refine fm_getG (a := 32) (j := 0) (T := TX5) (N := 8) hx hb hts hinX5 hown hc hw kl_32 sh_32 rfl (by decide) rfl hby (hts (.fieldLink RX5 11 "RedTent$Reader" "bytes" "[I") (List.mem_cons_of_mem _ tw_1_198)) (fun _ h9 => h9) dX5_cutOne_59 ?_
                refine lv_iload_n hx hb dX5_cutOne_62 rfl (lv_at hl 1 rfl) ?_
                refine fm_iald (a := 28) hx hb hc hw hI kl_28 sh_28 ty_28 bd_28 (by omega) dX5_cutOne_63 (fun x23 ex23 bx23 => ?_)
                refine vp_callSi (va_Run.run (va_runS (As := [.int x23]) (rest := []) ⟨hx, hb, hml, hown, hts⟩ (fc_X5_isDigit l x23) (va_cwS 1 hts gX5_cutOne_X5_isDigit rfl rfl rfl (by decide +kernel) ⟨Nat.le_of_ble_eq_true rfl, Nat.le_of_ble_eq_true rfl⟩) ⟨fun a U g mk q => q, fun U hU hW => ⟨rfl, trivial⟩⟩ rfl rfl hl.1 rfl (lv_room (Nat.le_of_ble_eq_true rfl)) dX5_cutOne_64 ⟨by decide +kernel, by decide +kernel⟩)) (fun r24 hr24 => ?_)
                rcases hr24 with ⟨rfl, c25⟩ | ⟨rfl, c25⟩
                · refine fx_if_eq (tgt := 93) hx hb dX5_cutOne_67 (by decide) zk_1 (fun c26 => by exfalso; omega) (fun c26 => ?_)
                  refine lv_iload hx hb dX5_cutOne_70 (lv_at hl 0 rfl) ?_
                  refine lv_bipush (v := 10) hx hb dX5_cutOne_72 (by decide) ?_
                  refine fx_imulU hx hb dX5_cutOne_74 (fun y27 ey27 => ?_)
                  refine lv_aload_n hx hb dX5_cutOne_75 rfl (lv_at hl 2 rfl) ?_
                  refine fm_getG (a := 32) (j := 0) (T := TX5) (N := 8) hx hb hts hinX5 hown hc hw kl_32 sh_32 rfl (by decide) rfl hby (hts (.fieldLink RX5 11 "RedTent$Reader" "bytes" "[I") (List.mem_cons_of_mem _ tw_1_198)) (fun _ h9 => h9) dX5_cutOne_76 ?_
                  refine lv_iload_n hx hb dX5_cutOne_79 rfl (lv_at hl 1 rfl) ?_
                  refine fm_iald (a := 28) hx hb hc hw hI kl_28 sh_28 ty_28 bd_28 (by omega) dX5_cutOne_80 (fun x28 ex28 bx28 => ?_)
                  obtain rfl : x23 = x28 := by rw [ex28]; exact ex23
                  refine fx_iaddU hx hb dX5_cutOne_81 (fun y29 ey29 => ?_)
                  refine lv_bipush (v := 48) hx hb dX5_cutOne_82 (by decide) ?_
                  refine fx_isubU hx hb dX5_cutOne_84 (fun y30 ey30 => ?_)
                  refine lv_istore (lv' := [(4, .int y30), (3, .int lq_3), (0, .ref (ad 32 0)), (1, .int p0), (2, .int p1)]) hx hb dX5_cutOne_85 hl (by decide) rfl (fun ls hl => ?_)
                  obtain ⟨y31, ey31⟩ : ∃ y : Int32, y = lq_3 + 1 := ⟨_, rfl⟩
                  have ty31 : y31.toInt = lq_3.toInt + 1 := by rw [ey31, zi_add _ _ (by rw [zk_1]; omega) (by rw [zk_1]; omega), zk_1]
                  refine lv_iinc (v := y31) (lv' := [(3, .int y31), (4, .int y30), (0, .ref (ad 32 0)), (1, .int p0), (2, .int p1)]) hx hb dX5_cutOne_87 hl (k := 1) rfl (by rw [ey31]; rfl) (by decide) rfl (fun ls hl => ?_)
                  refine lv_goto (tgt := 50) hx hb dX5_cutOne_90 (by decide) ?_
                  exact ih_lq y30 y31 M_lq (by omega) (by omega) hby (by omega) hI hE _ _ hw hS ls (lv_sub hl [1, 0, 2, 3, 4] rfl)
                · refine fx_if_eq (tgt := 93) hx hb dX5_cutOne_67 (by decide) zk_0 (fun c32 => ?_) (fun c32 => by exfalso; omega)
                  refine lv_iload_n hx hb dX5_cutOne_93 rfl (lv_at hl 1 rfl) ?_
                  refine lv_iload_n hx hb dX5_cutOne_94 rfl (lv_at hl 4 rfl) ?_
                  refine fx_icmp_le (tgt := 127) hx hb dX5_cutOne_95 (by decide) rfl rfl (fun c33 => ?_) (fun c33 => ?_)
                  · refine lv_aload_n hx hb dX5_cutOne_127 rfl (lv_at hl 2 rfl) ?_
                    refine fm_getG (a := 32) (j := 2) (T := TX5) (N := 8) hx hb hts hinX5 hown hc hw kl_32 sh_32 rfl (by decide) rfl (hI.to kl_32 tg_32_2) (hts (.fieldLink RX5 15 "RedTent$Reader" "tokens" "[I") (List.mem_cons_of_mem _ tw_1_200)) (fun _ h9 => h9) dX5_cutOne_128 ?_
                    refine lv_iload_n hx hb dX5_cutOne_131 rfl (lv_at hl 3 rfl) ?_
                    refine lv_aload_n hx hb dX5_cutOne_132 rfl (lv_at hl 2 rfl) ?_
                    refine fm_getG (a := 32) (j := 0) (T := TX5) (N := 8) hx hb hts hinX5 hown hc hw kl_32 sh_32 rfl (by decide) rfl hby (hts (.fieldLink RX5 11 "RedTent$Reader" "bytes" "[I") (List.mem_cons_of_mem _ tw_1_198)) (fun _ h9 => h9) dX5_cutOne_133 ?_
                    refine lv_iload_n hx hb dX5_cutOne_136 rfl (lv_at hl 4 rfl) ?_
                    refine fm_iald (a := 28) hx hb hc hw hI kl_28 sh_28 ty_28 bd_28 (by omega) dX5_cutOne_137 (fun x34 ex34 bx34 => ?_)
                    refine vp_callSi (va_Run.run (va_runS (As := [.int x34]) (rest := [.int p0, .ref (ad 33 0)]) ⟨hx, hb, hml, hown, hts⟩ (fc_X5_isSign l x34) (va_cwS 1 hts gX5_cutOne_X5_isSign rfl rfl rfl (by decide +kernel) ⟨Nat.le_of_ble_eq_true rfl, Nat.le_of_ble_eq_true rfl⟩) ⟨fun a U g mk q => q, fun U hU hW => ⟨rfl, trivial⟩⟩ rfl rfl hl.1 rfl (lv_room (Nat.le_of_ble_eq_true rfl)) dX5_cutOne_138 ⟨by decide +kernel, by decide +kernel⟩)) (fun r35 hr35 => ?_)
                    rcases hr35 with ⟨rfl, c36⟩ | ⟨rfl, c36⟩
                    · refine fx_if_eq (tgt := 153) hx hb dX5_cutOne_141 (by decide) zk_1 (fun c37 => by exfalso; omega) (fun c37 => ?_)
                      refine lv_aload_n hx hb dX5_cutOne_144 rfl (lv_at hl 2 rfl) ?_
                      refine fm_getG (a := 32) (j := 0) (T := TX5) (N := 8) hx hb hts hinX5 hown hc hw kl_32 sh_32 rfl (by decide) rfl hby (hts (.fieldLink RX5 11 "RedTent$Reader" "bytes" "[I") (List.mem_cons_of_mem _ tw_1_198)) (fun _ h9 => h9) dX5_cutOne_145 ?_
                      refine lv_iload_n hx hb dX5_cutOne_148 rfl (lv_at hl 4 rfl) ?_
                      refine fm_iald (a := 28) hx hb hc hw hI kl_28 sh_28 ty_28 bd_28 (by omega) dX5_cutOne_149 (fun x38 ex38 bx38 => ?_)
                      obtain rfl : x34 = x38 := by rw [ex38]; exact ex34
                      refine lv_goto (tgt := 154) hx hb dX5_cutOne_150 (by decide) ?_
                      refine fm_iast (a := 33) hx hb hc hw hI hE hS kl_33 sh_33 ty_33 bd_33 (by omega) (zi_lt _) cd_33 (by decide) dX5_cutOne_154 (fun M39 H locs eM39 hw hI hE hS => ?_)
                      refine lv_iload_n hx hb dX5_cutOne_155 rfl (lv_at hl 4 rfl) ?_
                      refine lv_iconst (v := 1) hx hb dX5_cutOne_156 (by decide) ?_
                      refine fx_iadd hx hb dX5_cutOne_157 rfl zk_1 (by omega) (fun y40 ey40 ty40 => ?_)
                      exact W.iret (v := y40) hx hb hr (fun t ht hW => ⟨⟨y40, M39, rfl, ⟨hI, hE, ⟨(by omega), (by omega)⟩⟩, by show fm_at D ad C nb _ t.heap; rw [ht]; exact hw⟩, hS.F ht⟩) hS.2.2 dX5_cutOne_158
                    · refine fx_if_eq (tgt := 153) hx hb dX5_cutOne_141 (by decide) zk_0 (fun c41 => ?_) (fun c41 => by exfalso; omega)
                      refine lv_iconst (v := (-1)) hx hb dX5_cutOne_153 (by decide) ?_
                      refine fm_iast (a := 33) hx hb hc hw hI hE hS kl_33 sh_33 ty_33 bd_33 (by omega) (by decide) cd_33 (by decide) dX5_cutOne_154 (fun M42 H locs eM42 hw hI hE hS => ?_)
                      refine lv_iload_n hx hb dX5_cutOne_155 rfl (lv_at hl 4 rfl) ?_
                      refine lv_iconst (v := 1) hx hb dX5_cutOne_156 (by decide) ?_
                      refine fx_iadd hx hb dX5_cutOne_157 rfl zk_1 (by omega) (fun y43 ey43 ty43 => ?_)
                      exact W.iret (v := y43) hx hb hr (fun t ht hW => ⟨⟨y43, M42, rfl, ⟨hI, hE, ⟨(by omega), (by omega)⟩⟩, by show fm_at D ad C nb _ t.heap; rw [ht]; exact hw⟩, hS.F ht⟩) hS.2.2 dX5_cutOne_158
                  · refine lv_aload_n hx hb dX5_cutOne_98 rfl (lv_at hl 2 rfl) ?_
                    refine fm_getG (a := 32) (j := 2) (T := TX5) (N := 8) hx hb hts hinX5 hown hc hw kl_32 sh_32 rfl (by decide) rfl (hI.to kl_32 tg_32_2) (hts (.fieldLink RX5 15 "RedTent$Reader" "tokens" "[I") (List.mem_cons_of_mem _ tw_1_200)) (fun _ h9 => h9) dX5_cutOne_99 ?_
                    refine lv_iload_n hx hb dX5_cutOne_102 rfl (lv_at hl 3 rfl) ?_
                    refine lv_iload_n hx hb dX5_cutOne_103 rfl (lv_at hl 1 rfl) ?_
                    refine lv_iload_n hx hb dX5_cutOne_104 rfl (lv_at hl 4 rfl) ?_
                    refine fx_isub hx hb dX5_cutOne_105 rfl rfl (by omega) (fun y44 ey44 ty44 => ?_)
                    refine lv_iconst (v := 4) hx hb dX5_cutOne_106 (by decide) ?_
                    refine fx_icmp_gt (tgt := 115) hx hb dX5_cutOne_107 (by decide) rfl zk_4 (fun c45 => ?_) (fun c45 => ?_)
                    · refine lv_iconst (v := (-1)) hx hb dX5_cutOne_115 (by decide) ?_
                      refine fm_iast (a := 33) hx hb hc hw hI hE hS kl_33 sh_33 ty_33 bd_33 (by omega) (by decide) cd_33 (by decide) dX5_cutOne_116 (fun M46 H locs eM46 hw hI hE hS => ?_)
                      refine lv_aload_n hx hb dX5_cutOne_117 rfl (lv_at hl 2 rfl) ?_
                      refine fm_getG (a := 32) (j := 4) (T := TX5) (N := 8) hx hb hts hinX5 hown hc hw kl_32 sh_32 rfl (by decide) rfl (hI.to kl_32 tg_32_4) (hts (.fieldLink RX5 21 "RedTent$Reader" "numbers" "[I") (List.mem_cons_of_mem _ tw_1_202)) (fun _ h9 => h9) dX5_cutOne_118 ?_
                      refine lv_iload_n hx hb dX5_cutOne_121 rfl (lv_at hl 3 rfl) ?_
                      refine lv_iload hx hb dX5_cutOne_122 (lv_at hl 0 rfl) ?_
                      refine fm_iast (a := 35) hx hb hc hw hI hE hS kl_35 sh_35 ty_35 bd_35 (by omega) (zi_lt _) cd_35 (by decide) dX5_cutOne_124 (fun M47 H locs eM47 hw hI hE hS => ?_)
                      refine lv_iload_n hx hb dX5_cutOne_125 rfl (lv_at hl 1 rfl) ?_
                      exact W.iret (v := lq_3) hx hb hr (fun t ht hW => ⟨⟨lq_3, M47, rfl, ⟨hI, hE, ⟨(by omega), (by omega)⟩⟩, by show fm_at D ad C nb _ t.heap; rw [ht]; exact hw⟩, hS.F ht⟩) hS.2.2 dX5_cutOne_126
                    · refine lv_bipush (v := 12) hx hb dX5_cutOne_110 (by decide) ?_
                      refine lv_goto (tgt := 116) hx hb dX5_cutOne_112 (by decide) ?_
                      refine fm_iast (a := 33) hx hb hc hw hI hE hS kl_33 sh_33 ty_33 bd_33 (by omega) (by decide) cd_33 (by decide) dX5_cutOne_116 (fun M48 H locs eM48 hw hI hE hS => ?_)
                      refine lv_aload_n hx hb dX5_cutOne_117 rfl (lv_at hl 2 rfl) ?_
                      refine fm_getG (a := 32) (j := 4) (T := TX5) (N := 8) hx hb hts hinX5 hown hc hw kl_32 sh_32 rfl (by decide) rfl (hI.to kl_32 tg_32_4) (hts (.fieldLink RX5 21 "RedTent$Reader" "numbers" "[I") (List.mem_cons_of_mem _ tw_1_202)) (fun _ h9 => h9) dX5_cutOne_118 ?_
                      refine lv_iload_n hx hb dX5_cutOne_121 rfl (lv_at hl 3 rfl) ?_
                      refine lv_iload hx hb dX5_cutOne_122 (lv_at hl 0 rfl) ?_
                      refine fm_iast (a := 35) hx hb hc hw hI hE hS kl_35 sh_35 ty_35 bd_35 (by omega) (zi_lt _) cd_35 (by decide) dX5_cutOne_124 (fun M49 H locs eM49 hw hI hE hS => ?_)
                      refine lv_iload_n hx hb dX5_cutOne_125 rfl (lv_at hl 1 rfl) ?_
                      exact W.iret (v := lq_3) hx hb hr (fun t ht hW => ⟨⟨lq_3, M49, rfl, ⟨hI, hE, ⟨(by omega), (by omega)⟩⟩, by show fm_at D ad C nb _ t.heap; rw [ht]; exact hw⟩, hS.F ht⟩) hS.2.2 dX5_cutOne_126
          exact lq _ 0 lp_3 M_lp (Nat.lt_succ_self _) (by omega) hby (by omega) hI hE _ _ hw hS ls (lv_sub hl [0, 1, 2, 3, 4] rfl)
        · refine lv_aload_n hx hb dX5_cutOne_36 rfl (lv_at hl 2 rfl) ?_
          refine fm_getG (a := 32) (j := 2) (T := TX5) (N := 8) hx hb hts hinX5 hown hc hw kl_32 sh_32 rfl (by decide) rfl (hI.to kl_32 tg_32_2) (hts (.fieldLink RX5 15 "RedTent$Reader" "tokens" "[I") (List.mem_cons_of_mem _ tw_1_200)) (fun _ h9 => h9) dX5_cutOne_37 ?_
          refine lv_iload_n hx hb dX5_cutOne_40 rfl (lv_at hl 3 rfl) ?_
          refine lv_aload_n hx hb dX5_cutOne_41 rfl (lv_at hl 2 rfl) ?_
          refine lv_iload_n hx hb dX5_cutOne_42 rfl (lv_at hl 4 rfl) ?_
          refine lv_iload_n hx hb dX5_cutOne_43 rfl (lv_at hl 1 rfl) ?_
          refine vp_callSi (va_Run.run (va_runV (As := [.int p1, .int lp_3]) (rest := [.int p0, .ref (ad 33 0)]) ⟨hx, hb, hml, hown, hts⟩ (fc_X5_wordOf l D ad C nb M_lp hI p1 lp_3 (by omega) (by omega) hby) (cwV 2 hts gX5_cutOne_X5_wordOf rfl rfl rfl (by decide +kernel) ⟨Nat.le_of_ble_eq_true rfl, Nat.le_of_ble_eq_true rfl⟩) (fm_preV hc hw hS kl_32 sh_32 rfl) rfl rfl hl.1 rfl (lv_room (Nat.le_of_ble_eq_true rfl)) dX5_cutOne_44 ⟨by decide +kernel, by decide +kernel⟩)) (fun r50 hr50 => ?_)
          refine fm_iast (a := 33) hx hb hc hw hI hE hS kl_33 sh_33 ty_33 bd_33 (by omega) (zi_lt _) cd_33 (by decide) dX5_cutOne_47 (fun M51 H locs eM51 hw hI hE hS => ?_)
          refine lv_iload_n hx hb dX5_cutOne_48 rfl (lv_at hl 1 rfl) ?_
          exact W.iret (v := lp_3) hx hb hr (fun t ht hW => ⟨⟨lp_3, M51, rfl, ⟨hI, hE, ⟨(by omega), (by omega)⟩⟩, by show fm_at D ad C nb _ t.heap; rw [ht]; exact hw⟩, hS.F ht⟩) hS.2.2 dX5_cutOne_49
      · refine lv_aload_n hx hb dX5_cutOne_13 rfl (lv_at hl 2 rfl) ?_
        refine fm_getG (a := 32) (j := 0) (T := TX5) (N := 8) hx hb hts hinX5 hown hc hw kl_32 sh_32 rfl (by decide) rfl hby (hts (.fieldLink RX5 11 "RedTent$Reader" "bytes" "[I") (List.mem_cons_of_mem _ tw_1_198)) (fun _ h9 => h9) dX5_cutOne_14 ?_
        refine lv_iload_n hx hb dX5_cutOne_17 rfl (lv_at hl 1 rfl) ?_
        refine fm_iald (a := 28) hx hb hc hw hI kl_28 sh_28 ty_28 bd_28 (by omega) dX5_cutOne_18 (fun x52 ex52 bx52 => ?_)
        refine vp_callSi (va_Run.run (va_runS (As := [.int x52]) (rest := []) ⟨hx, hb, hml, hown, hts⟩ (fc_X5_isLetter l x52) (va_cwS 1 hts gX5_cutOne_X5_isLetter rfl rfl rfl (by decide +kernel) ⟨Nat.le_of_ble_eq_true rfl, Nat.le_of_ble_eq_true rfl⟩) ⟨fun a U g mk q => q, fun U hU hW => ⟨rfl, trivial⟩⟩ rfl rfl hl.1 rfl (lv_room (Nat.le_of_ble_eq_true rfl)) dX5_cutOne_19 ⟨by decide +kernel, by decide +kernel⟩)) (fun r53 hr53 => ?_)
        rcases hr53 with ⟨rfl, c54⟩ | ⟨rfl, c54⟩
        · refine fx_if_eq (tgt := 31) hx hb dX5_cutOne_22 (by decide) zk_1 (fun c55 => by exfalso; omega) (fun c55 => ?_)
          obtain ⟨y56, ey56⟩ : ∃ y : Int32, y = lp_3 + 1 := ⟨_, rfl⟩
          have ty56 : y56.toInt = lp_3.toInt + 1 := by rw [ey56, zi_add _ _ (by rw [zk_1]; omega) (by rw [zk_1]; omega), zk_1]
          refine lv_iinc (v := y56) (lv' := [(3, .int y56), (4, .int 0), (0, .ref (ad 32 0)), (1, .int p0), (2, .int p1)]) hx hb dX5_cutOne_25 hl (k := 1) rfl (by rw [ey56]; rfl) (by decide) rfl (fun ls hl => ?_)
          refine lv_goto (tgt := 5) hx hb dX5_cutOne_28 (by decide) ?_
          exact ih_lp y56 M_lp (by omega) (by omega) hby (by omega) hI hE _ _ hw hS ls (lv_sub hl [1, 0, 2, 3, 4] rfl)
        · refine fx_if_eq (tgt := 31) hx hb dX5_cutOne_22 (by decide) zk_0 (fun c57 => ?_) (fun c57 => by exfalso; omega)
          refine lv_iload_n hx hb dX5_cutOne_31 rfl (lv_at hl 1 rfl) ?_
          refine lv_iload_n hx hb dX5_cutOne_32 rfl (lv_at hl 4 rfl) ?_
          refine fx_icmp_le (tgt := 50) hx hb dX5_cutOne_33 (by decide) rfl rfl (fun c58 => ?_) (fun c58 => ?_)
          · have lq : ∀ (n_lq : Nat) (lq_4 : Int32) (lq_3 : Int32) (M_lq : fm_M), (160 - lq_3.toInt).toNat < n_lq → (0 ≤ lq_3.toInt ∧ lq_3.toInt ≤ 160) → (M_lq.2.2 32 0 0 = some (ad 28 0)) → (p1.toInt ≤ lq_3.toInt) → fm_I nb ad M_lq → fm_same [33000, 35000] M M_lq → ∀ (H : Heap) (locs : List Loc), fm_at D ad C nb M_lq H → va_S (fm_A nb ad) s.heap H locs → ∀ (ls : Array Slot), lv_has ls 5 [(4, .int lq_4), (3, .int lq_3), (0, .ref (ad 32 0)), (1, .int p0), (2, .int p1)] → W p l e (headSpec wsX5_cutOne ({ frames := 6, cells := 0, slots := 0, locals := 132 })).room s m ([.ref (ad 32 0), .int p0, .int p1] : List Value).toArray below meth c H locs 0 0 (MQ below (va_Qi (fun (r : Int32) (u : fm_M) => fm_I nb ad u ∧ fm_same [33000, 35000] M u ∧ (1 ≤ r.toInt ∧ r.toInt ≤ 160) ∧ (p1.toInt < r.toInt)) (fun u t => fm_at D ad C nb u t.heap) (fm_A nb ad)) ([.ref (ad 32 0), .int p0, .int p1] : List Value).toArray s 0 0 (fm_A nb ad)) (F0 m 50 ls []) := by
              intro n_lq
              induction n_lq with
              | zero => intro lq_4 lq_3 M_lq hm_lq b_lq_3 hby hq hI hE H locs hw hS ls hl; exact absurd hm_lq (Nat.not_lt_zero _)
              | succ n_lq ih_lq =>
                intro lq_4 lq_3 M_lq hm_lq b_lq_3 hby hq hI hE H locs hw hS ls hl
                refine lv_iload_n hx hb dX5_cutOne_50 rfl (lv_at hl 1 rfl) ?_
                refine lv_aload_n hx hb dX5_cutOne_51 rfl (lv_at hl 2 rfl) ?_
                refine fm_getI (a := 32) (j := 1) (T := TX5) (N := 8) hx hb hts hinX5 hown hc hw hI kl_32 sh_32 rfl (by decide) rfl bd_32_1 (hts (.fieldLink RX5 37 "RedTent$Reader" "size" "I") (List.mem_cons_of_mem _ tw_1_199)) (fun _ h9 => h9) dX5_cutOne_52 (fun x59 ex59 bx59 => ?_)
                refine fx_icmp_ge (tgt := 93) hx hb dX5_cutOne_55 (by decide) rfl rfl (fun c60 => ?_) (fun c60 => ?_)
                · refine lv_iload_n hx hb dX5_cutOne_93 rfl (lv_at hl 1 rfl) ?_
                  refine lv_iload_n hx hb dX5_cutOne_94 rfl (lv_at hl 4 rfl) ?_
                  refine fx_icmp_le (tgt := 127) hx hb dX5_cutOne_95 (by decide) rfl rfl (fun c61 => ?_) (fun c61 => ?_)
                  · refine lv_aload_n hx hb dX5_cutOne_127 rfl (lv_at hl 2 rfl) ?_
                    refine fm_getG (a := 32) (j := 2) (T := TX5) (N := 8) hx hb hts hinX5 hown hc hw kl_32 sh_32 rfl (by decide) rfl (hI.to kl_32 tg_32_2) (hts (.fieldLink RX5 15 "RedTent$Reader" "tokens" "[I") (List.mem_cons_of_mem _ tw_1_200)) (fun _ h9 => h9) dX5_cutOne_128 ?_
                    refine lv_iload_n hx hb dX5_cutOne_131 rfl (lv_at hl 3 rfl) ?_
                    refine lv_aload_n hx hb dX5_cutOne_132 rfl (lv_at hl 2 rfl) ?_
                    refine fm_getG (a := 32) (j := 0) (T := TX5) (N := 8) hx hb hts hinX5 hown hc hw kl_32 sh_32 rfl (by decide) rfl hby (hts (.fieldLink RX5 11 "RedTent$Reader" "bytes" "[I") (List.mem_cons_of_mem _ tw_1_198)) (fun _ h9 => h9) dX5_cutOne_133 ?_
                    refine lv_iload_n hx hb dX5_cutOne_136 rfl (lv_at hl 4 rfl) ?_
                    refine fm_iald (a := 28) hx hb hc hw hI kl_28 sh_28 ty_28 bd_28 (by omega) dX5_cutOne_137 (fun x62 ex62 bx62 => ?_)
                    refine vp_callSi (va_Run.run (va_runS (As := [.int x62]) (rest := [.int p0, .ref (ad 33 0)]) ⟨hx, hb, hml, hown, hts⟩ (fc_X5_isSign l x62) (va_cwS 1 hts gX5_cutOne_X5_isSign rfl rfl rfl (by decide +kernel) ⟨Nat.le_of_ble_eq_true rfl, Nat.le_of_ble_eq_true rfl⟩) ⟨fun a U g mk q => q, fun U hU hW => ⟨rfl, trivial⟩⟩ rfl rfl hl.1 rfl (lv_room (Nat.le_of_ble_eq_true rfl)) dX5_cutOne_138 ⟨by decide +kernel, by decide +kernel⟩)) (fun r63 hr63 => ?_)
                    rcases hr63 with ⟨rfl, c64⟩ | ⟨rfl, c64⟩
                    · refine fx_if_eq (tgt := 153) hx hb dX5_cutOne_141 (by decide) zk_1 (fun c65 => by exfalso; omega) (fun c65 => ?_)
                      refine lv_aload_n hx hb dX5_cutOne_144 rfl (lv_at hl 2 rfl) ?_
                      refine fm_getG (a := 32) (j := 0) (T := TX5) (N := 8) hx hb hts hinX5 hown hc hw kl_32 sh_32 rfl (by decide) rfl hby (hts (.fieldLink RX5 11 "RedTent$Reader" "bytes" "[I") (List.mem_cons_of_mem _ tw_1_198)) (fun _ h9 => h9) dX5_cutOne_145 ?_
                      refine lv_iload_n hx hb dX5_cutOne_148 rfl (lv_at hl 4 rfl) ?_
                      refine fm_iald (a := 28) hx hb hc hw hI kl_28 sh_28 ty_28 bd_28 (by omega) dX5_cutOne_149 (fun x66 ex66 bx66 => ?_)
                      obtain rfl : x62 = x66 := by rw [ex66]; exact ex62
                      refine lv_goto (tgt := 154) hx hb dX5_cutOne_150 (by decide) ?_
                      refine fm_iast (a := 33) hx hb hc hw hI hE hS kl_33 sh_33 ty_33 bd_33 (by omega) (zi_lt _) cd_33 (by decide) dX5_cutOne_154 (fun M67 H locs eM67 hw hI hE hS => ?_)
                      refine lv_iload_n hx hb dX5_cutOne_155 rfl (lv_at hl 4 rfl) ?_
                      refine lv_iconst (v := 1) hx hb dX5_cutOne_156 (by decide) ?_
                      refine fx_iadd hx hb dX5_cutOne_157 rfl zk_1 (by omega) (fun y68 ey68 ty68 => ?_)
                      exact W.iret (v := y68) hx hb hr (fun t ht hW => ⟨⟨y68, M67, rfl, ⟨hI, hE, ⟨(by omega), (by omega)⟩⟩, by show fm_at D ad C nb _ t.heap; rw [ht]; exact hw⟩, hS.F ht⟩) hS.2.2 dX5_cutOne_158
                    · refine fx_if_eq (tgt := 153) hx hb dX5_cutOne_141 (by decide) zk_0 (fun c69 => ?_) (fun c69 => by exfalso; omega)
                      refine lv_iconst (v := (-1)) hx hb dX5_cutOne_153 (by decide) ?_
                      refine fm_iast (a := 33) hx hb hc hw hI hE hS kl_33 sh_33 ty_33 bd_33 (by omega) (by decide) cd_33 (by decide) dX5_cutOne_154 (fun M70 H locs eM70 hw hI hE hS => ?_)
                      refine lv_iload_n hx hb dX5_cutOne_155 rfl (lv_at hl 4 rfl) ?_
                      refine lv_iconst (v := 1) hx hb dX5_cutOne_156 (by decide) ?_
                      refine fx_iadd hx hb dX5_cutOne_157 rfl zk_1 (by omega) (fun y71 ey71 ty71 => ?_)
                      exact W.iret (v := y71) hx hb hr (fun t ht hW => ⟨⟨y71, M70, rfl, ⟨hI, hE, ⟨(by omega), (by omega)⟩⟩, by show fm_at D ad C nb _ t.heap; rw [ht]; exact hw⟩, hS.F ht⟩) hS.2.2 dX5_cutOne_158
                  · refine lv_aload_n hx hb dX5_cutOne_98 rfl (lv_at hl 2 rfl) ?_
                    refine fm_getG (a := 32) (j := 2) (T := TX5) (N := 8) hx hb hts hinX5 hown hc hw kl_32 sh_32 rfl (by decide) rfl (hI.to kl_32 tg_32_2) (hts (.fieldLink RX5 15 "RedTent$Reader" "tokens" "[I") (List.mem_cons_of_mem _ tw_1_200)) (fun _ h9 => h9) dX5_cutOne_99 ?_
                    refine lv_iload_n hx hb dX5_cutOne_102 rfl (lv_at hl 3 rfl) ?_
                    refine lv_iload_n hx hb dX5_cutOne_103 rfl (lv_at hl 1 rfl) ?_
                    refine lv_iload_n hx hb dX5_cutOne_104 rfl (lv_at hl 4 rfl) ?_
                    refine fx_isub hx hb dX5_cutOne_105 rfl rfl (by omega) (fun y72 ey72 ty72 => ?_)
                    refine lv_iconst (v := 4) hx hb dX5_cutOne_106 (by decide) ?_
                    refine fx_icmp_gt (tgt := 115) hx hb dX5_cutOne_107 (by decide) rfl zk_4 (fun c73 => ?_) (fun c73 => ?_)
                    · refine lv_iconst (v := (-1)) hx hb dX5_cutOne_115 (by decide) ?_
                      refine fm_iast (a := 33) hx hb hc hw hI hE hS kl_33 sh_33 ty_33 bd_33 (by omega) (by decide) cd_33 (by decide) dX5_cutOne_116 (fun M74 H locs eM74 hw hI hE hS => ?_)
                      refine lv_aload_n hx hb dX5_cutOne_117 rfl (lv_at hl 2 rfl) ?_
                      refine fm_getG (a := 32) (j := 4) (T := TX5) (N := 8) hx hb hts hinX5 hown hc hw kl_32 sh_32 rfl (by decide) rfl (hI.to kl_32 tg_32_4) (hts (.fieldLink RX5 21 "RedTent$Reader" "numbers" "[I") (List.mem_cons_of_mem _ tw_1_202)) (fun _ h9 => h9) dX5_cutOne_118 ?_
                      refine lv_iload_n hx hb dX5_cutOne_121 rfl (lv_at hl 3 rfl) ?_
                      refine lv_iload hx hb dX5_cutOne_122 (lv_at hl 0 rfl) ?_
                      refine fm_iast (a := 35) hx hb hc hw hI hE hS kl_35 sh_35 ty_35 bd_35 (by omega) (zi_lt _) cd_35 (by decide) dX5_cutOne_124 (fun M75 H locs eM75 hw hI hE hS => ?_)
                      refine lv_iload_n hx hb dX5_cutOne_125 rfl (lv_at hl 1 rfl) ?_
                      exact W.iret (v := lq_3) hx hb hr (fun t ht hW => ⟨⟨lq_3, M75, rfl, ⟨hI, hE, ⟨(by omega), (by omega)⟩⟩, by show fm_at D ad C nb _ t.heap; rw [ht]; exact hw⟩, hS.F ht⟩) hS.2.2 dX5_cutOne_126
                    · refine lv_bipush (v := 12) hx hb dX5_cutOne_110 (by decide) ?_
                      refine lv_goto (tgt := 116) hx hb dX5_cutOne_112 (by decide) ?_
                      refine fm_iast (a := 33) hx hb hc hw hI hE hS kl_33 sh_33 ty_33 bd_33 (by omega) (by decide) cd_33 (by decide) dX5_cutOne_116 (fun M76 H locs eM76 hw hI hE hS => ?_)
                      refine lv_aload_n hx hb dX5_cutOne_117 rfl (lv_at hl 2 rfl) ?_
                      refine fm_getG (a := 32) (j := 4) (T := TX5) (N := 8) hx hb hts hinX5 hown hc hw kl_32 sh_32 rfl (by decide) rfl (hI.to kl_32 tg_32_4) (hts (.fieldLink RX5 21 "RedTent$Reader" "numbers" "[I") (List.mem_cons_of_mem _ tw_1_202)) (fun _ h9 => h9) dX5_cutOne_118 ?_
                      refine lv_iload_n hx hb dX5_cutOne_121 rfl (lv_at hl 3 rfl) ?_
                      refine lv_iload hx hb dX5_cutOne_122 (lv_at hl 0 rfl) ?_
                      refine fm_iast (a := 35) hx hb hc hw hI hE hS kl_35 sh_35 ty_35 bd_35 (by omega) (zi_lt _) cd_35 (by decide) dX5_cutOne_124 (fun M77 H locs eM77 hw hI hE hS => ?_)
                      refine lv_iload_n hx hb dX5_cutOne_125 rfl (lv_at hl 1 rfl) ?_
                      exact W.iret (v := lq_3) hx hb hr (fun t ht hW => ⟨⟨lq_3, M77, rfl, ⟨hI, hE, ⟨(by omega), (by omega)⟩⟩, by show fm_at D ad C nb _ t.heap; rw [ht]; exact hw⟩, hS.F ht⟩) hS.2.2 dX5_cutOne_126
                · refine lv_aload_n hx hb dX5_cutOne_58 rfl (lv_at hl 2 rfl) ?_
                  refine fm_getG (a := 32) (j := 0) (T := TX5) (N := 8) hx hb hts hinX5 hown hc hw kl_32 sh_32 rfl (by decide) rfl hby (hts (.fieldLink RX5 11 "RedTent$Reader" "bytes" "[I") (List.mem_cons_of_mem _ tw_1_198)) (fun _ h9 => h9) dX5_cutOne_59 ?_
                  refine lv_iload_n hx hb dX5_cutOne_62 rfl (lv_at hl 1 rfl) ?_
                  refine fm_iald (a := 28) hx hb hc hw hI kl_28 sh_28 ty_28 bd_28 (by omega) dX5_cutOne_63 (fun x78 ex78 bx78 => ?_)
                  refine vp_callSi (va_Run.run (va_runS (As := [.int x78]) (rest := []) ⟨hx, hb, hml, hown, hts⟩ (fc_X5_isDigit l x78) (va_cwS 1 hts gX5_cutOne_X5_isDigit rfl rfl rfl (by decide +kernel) ⟨Nat.le_of_ble_eq_true rfl, Nat.le_of_ble_eq_true rfl⟩) ⟨fun a U g mk q => q, fun U hU hW => ⟨rfl, trivial⟩⟩ rfl rfl hl.1 rfl (lv_room (Nat.le_of_ble_eq_true rfl)) dX5_cutOne_64 ⟨by decide +kernel, by decide +kernel⟩)) (fun r79 hr79 => ?_)
                  rcases hr79 with ⟨rfl, c80⟩ | ⟨rfl, c80⟩
                  · refine fx_if_eq (tgt := 93) hx hb dX5_cutOne_67 (by decide) zk_1 (fun c81 => by exfalso; omega) (fun c81 => ?_)
                    refine lv_iload hx hb dX5_cutOne_70 (lv_at hl 0 rfl) ?_
                    refine lv_bipush (v := 10) hx hb dX5_cutOne_72 (by decide) ?_
                    refine fx_imulU hx hb dX5_cutOne_74 (fun y82 ey82 => ?_)
                    refine lv_aload_n hx hb dX5_cutOne_75 rfl (lv_at hl 2 rfl) ?_
                    refine fm_getG (a := 32) (j := 0) (T := TX5) (N := 8) hx hb hts hinX5 hown hc hw kl_32 sh_32 rfl (by decide) rfl hby (hts (.fieldLink RX5 11 "RedTent$Reader" "bytes" "[I") (List.mem_cons_of_mem _ tw_1_198)) (fun _ h9 => h9) dX5_cutOne_76 ?_
                    refine lv_iload_n hx hb dX5_cutOne_79 rfl (lv_at hl 1 rfl) ?_
                    refine fm_iald (a := 28) hx hb hc hw hI kl_28 sh_28 ty_28 bd_28 (by omega) dX5_cutOne_80 (fun x83 ex83 bx83 => ?_)
                    obtain rfl : x78 = x83 := by rw [ex83]; exact ex78
                    refine fx_iaddU hx hb dX5_cutOne_81 (fun y84 ey84 => ?_)
                    refine lv_bipush (v := 48) hx hb dX5_cutOne_82 (by decide) ?_
                    refine fx_isubU hx hb dX5_cutOne_84 (fun y85 ey85 => ?_)
                    refine lv_istore (lv' := [(4, .int y85), (3, .int lq_3), (0, .ref (ad 32 0)), (1, .int p0), (2, .int p1)]) hx hb dX5_cutOne_85 hl (by decide) rfl (fun ls hl => ?_)
                    obtain ⟨y86, ey86⟩ : ∃ y : Int32, y = lq_3 + 1 := ⟨_, rfl⟩
                    have ty86 : y86.toInt = lq_3.toInt + 1 := by rw [ey86, zi_add _ _ (by rw [zk_1]; omega) (by rw [zk_1]; omega), zk_1]
                    refine lv_iinc (v := y86) (lv' := [(3, .int y86), (4, .int y85), (0, .ref (ad 32 0)), (1, .int p0), (2, .int p1)]) hx hb dX5_cutOne_87 hl (k := 1) rfl (by rw [ey86]; rfl) (by decide) rfl (fun ls hl => ?_)
                    refine lv_goto (tgt := 50) hx hb dX5_cutOne_90 (by decide) ?_
                    exact ih_lq y85 y86 M_lq (by omega) (by omega) hby (by omega) hI hE _ _ hw hS ls (lv_sub hl [1, 0, 2, 3, 4] rfl)
                  · refine fx_if_eq (tgt := 93) hx hb dX5_cutOne_67 (by decide) zk_0 (fun c87 => ?_) (fun c87 => by exfalso; omega)
                    refine lv_iload_n hx hb dX5_cutOne_93 rfl (lv_at hl 1 rfl) ?_
                    refine lv_iload_n hx hb dX5_cutOne_94 rfl (lv_at hl 4 rfl) ?_
                    refine fx_icmp_le (tgt := 127) hx hb dX5_cutOne_95 (by decide) rfl rfl (fun c88 => ?_) (fun c88 => ?_)
                    · refine lv_aload_n hx hb dX5_cutOne_127 rfl (lv_at hl 2 rfl) ?_
                      refine fm_getG (a := 32) (j := 2) (T := TX5) (N := 8) hx hb hts hinX5 hown hc hw kl_32 sh_32 rfl (by decide) rfl (hI.to kl_32 tg_32_2) (hts (.fieldLink RX5 15 "RedTent$Reader" "tokens" "[I") (List.mem_cons_of_mem _ tw_1_200)) (fun _ h9 => h9) dX5_cutOne_128 ?_
                      refine lv_iload_n hx hb dX5_cutOne_131 rfl (lv_at hl 3 rfl) ?_
                      refine lv_aload_n hx hb dX5_cutOne_132 rfl (lv_at hl 2 rfl) ?_
                      refine fm_getG (a := 32) (j := 0) (T := TX5) (N := 8) hx hb hts hinX5 hown hc hw kl_32 sh_32 rfl (by decide) rfl hby (hts (.fieldLink RX5 11 "RedTent$Reader" "bytes" "[I") (List.mem_cons_of_mem _ tw_1_198)) (fun _ h9 => h9) dX5_cutOne_133 ?_
                      refine lv_iload_n hx hb dX5_cutOne_136 rfl (lv_at hl 4 rfl) ?_
                      refine fm_iald (a := 28) hx hb hc hw hI kl_28 sh_28 ty_28 bd_28 (by omega) dX5_cutOne_137 (fun x89 ex89 bx89 => ?_)
                      refine vp_callSi (va_Run.run (va_runS (As := [.int x89]) (rest := [.int p0, .ref (ad 33 0)]) ⟨hx, hb, hml, hown, hts⟩ (fc_X5_isSign l x89) (va_cwS 1 hts gX5_cutOne_X5_isSign rfl rfl rfl (by decide +kernel) ⟨Nat.le_of_ble_eq_true rfl, Nat.le_of_ble_eq_true rfl⟩) ⟨fun a U g mk q => q, fun U hU hW => ⟨rfl, trivial⟩⟩ rfl rfl hl.1 rfl (lv_room (Nat.le_of_ble_eq_true rfl)) dX5_cutOne_138 ⟨by decide +kernel, by decide +kernel⟩)) (fun r90 hr90 => ?_)
                      rcases hr90 with ⟨rfl, c91⟩ | ⟨rfl, c91⟩
                      · refine fx_if_eq (tgt := 153) hx hb dX5_cutOne_141 (by decide) zk_1 (fun c92 => by exfalso; omega) (fun c92 => ?_)
                        refine lv_aload_n hx hb dX5_cutOne_144 rfl (lv_at hl 2 rfl) ?_
                        refine fm_getG (a := 32) (j := 0) (T := TX5) (N := 8) hx hb hts hinX5 hown hc hw kl_32 sh_32 rfl (by decide) rfl hby (hts (.fieldLink RX5 11 "RedTent$Reader" "bytes" "[I") (List.mem_cons_of_mem _ tw_1_198)) (fun _ h9 => h9) dX5_cutOne_145 ?_
                        refine lv_iload_n hx hb dX5_cutOne_148 rfl (lv_at hl 4 rfl) ?_
                        refine fm_iald (a := 28) hx hb hc hw hI kl_28 sh_28 ty_28 bd_28 (by omega) dX5_cutOne_149 (fun x93 ex93 bx93 => ?_)
                        obtain rfl : x89 = x93 := by rw [ex93]; exact ex89
                        refine lv_goto (tgt := 154) hx hb dX5_cutOne_150 (by decide) ?_
                        refine fm_iast (a := 33) hx hb hc hw hI hE hS kl_33 sh_33 ty_33 bd_33 (by omega) (zi_lt _) cd_33 (by decide) dX5_cutOne_154 (fun M94 H locs eM94 hw hI hE hS => ?_)
                        refine lv_iload_n hx hb dX5_cutOne_155 rfl (lv_at hl 4 rfl) ?_
                        refine lv_iconst (v := 1) hx hb dX5_cutOne_156 (by decide) ?_
                        refine fx_iadd hx hb dX5_cutOne_157 rfl zk_1 (by omega) (fun y95 ey95 ty95 => ?_)
                        exact W.iret (v := y95) hx hb hr (fun t ht hW => ⟨⟨y95, M94, rfl, ⟨hI, hE, ⟨(by omega), (by omega)⟩⟩, by show fm_at D ad C nb _ t.heap; rw [ht]; exact hw⟩, hS.F ht⟩) hS.2.2 dX5_cutOne_158
                      · refine fx_if_eq (tgt := 153) hx hb dX5_cutOne_141 (by decide) zk_0 (fun c96 => ?_) (fun c96 => by exfalso; omega)
                        refine lv_iconst (v := (-1)) hx hb dX5_cutOne_153 (by decide) ?_
                        refine fm_iast (a := 33) hx hb hc hw hI hE hS kl_33 sh_33 ty_33 bd_33 (by omega) (by decide) cd_33 (by decide) dX5_cutOne_154 (fun M97 H locs eM97 hw hI hE hS => ?_)
                        refine lv_iload_n hx hb dX5_cutOne_155 rfl (lv_at hl 4 rfl) ?_
                        refine lv_iconst (v := 1) hx hb dX5_cutOne_156 (by decide) ?_
                        refine fx_iadd hx hb dX5_cutOne_157 rfl zk_1 (by omega) (fun y98 ey98 ty98 => ?_)
                        exact W.iret (v := y98) hx hb hr (fun t ht hW => ⟨⟨y98, M97, rfl, ⟨hI, hE, ⟨(by omega), (by omega)⟩⟩, by show fm_at D ad C nb _ t.heap; rw [ht]; exact hw⟩, hS.F ht⟩) hS.2.2 dX5_cutOne_158
                    · refine lv_aload_n hx hb dX5_cutOne_98 rfl (lv_at hl 2 rfl) ?_
                      refine fm_getG (a := 32) (j := 2) (T := TX5) (N := 8) hx hb hts hinX5 hown hc hw kl_32 sh_32 rfl (by decide) rfl (hI.to kl_32 tg_32_2) (hts (.fieldLink RX5 15 "RedTent$Reader" "tokens" "[I") (List.mem_cons_of_mem _ tw_1_200)) (fun _ h9 => h9) dX5_cutOne_99 ?_
                      refine lv_iload_n hx hb dX5_cutOne_102 rfl (lv_at hl 3 rfl) ?_
                      refine lv_iload_n hx hb dX5_cutOne_103 rfl (lv_at hl 1 rfl) ?_
                      refine lv_iload_n hx hb dX5_cutOne_104 rfl (lv_at hl 4 rfl) ?_
                      refine fx_isub hx hb dX5_cutOne_105 rfl rfl (by omega) (fun y99 ey99 ty99 => ?_)
                      refine lv_iconst (v := 4) hx hb dX5_cutOne_106 (by decide) ?_
                      refine fx_icmp_gt (tgt := 115) hx hb dX5_cutOne_107 (by decide) rfl zk_4 (fun c100 => ?_) (fun c100 => ?_)
                      · refine lv_iconst (v := (-1)) hx hb dX5_cutOne_115 (by decide) ?_
                        refine fm_iast (a := 33) hx hb hc hw hI hE hS kl_33 sh_33 ty_33 bd_33 (by omega) (by decide) cd_33 (by decide) dX5_cutOne_116 (fun M101 H locs eM101 hw hI hE hS => ?_)
                        refine lv_aload_n hx hb dX5_cutOne_117 rfl (lv_at hl 2 rfl) ?_
                        refine fm_getG (a := 32) (j := 4) (T := TX5) (N := 8) hx hb hts hinX5 hown hc hw kl_32 sh_32 rfl (by decide) rfl (hI.to kl_32 tg_32_4) (hts (.fieldLink RX5 21 "RedTent$Reader" "numbers" "[I") (List.mem_cons_of_mem _ tw_1_202)) (fun _ h9 => h9) dX5_cutOne_118 ?_
                        refine lv_iload_n hx hb dX5_cutOne_121 rfl (lv_at hl 3 rfl) ?_
                        refine lv_iload hx hb dX5_cutOne_122 (lv_at hl 0 rfl) ?_
                        refine fm_iast (a := 35) hx hb hc hw hI hE hS kl_35 sh_35 ty_35 bd_35 (by omega) (zi_lt _) cd_35 (by decide) dX5_cutOne_124 (fun M102 H locs eM102 hw hI hE hS => ?_)
                        refine lv_iload_n hx hb dX5_cutOne_125 rfl (lv_at hl 1 rfl) ?_
                        exact W.iret (v := lq_3) hx hb hr (fun t ht hW => ⟨⟨lq_3, M102, rfl, ⟨hI, hE, ⟨(by omega), (by omega)⟩⟩, by show fm_at D ad C nb _ t.heap; rw [ht]; exact hw⟩, hS.F ht⟩) hS.2.2 dX5_cutOne_126
                      · refine lv_bipush (v := 12) hx hb dX5_cutOne_110 (by decide) ?_
                        refine lv_goto (tgt := 116) hx hb dX5_cutOne_112 (by decide) ?_
                        refine fm_iast (a := 33) hx hb hc hw hI hE hS kl_33 sh_33 ty_33 bd_33 (by omega) (by decide) cd_33 (by decide) dX5_cutOne_116 (fun M103 H locs eM103 hw hI hE hS => ?_)
                        refine lv_aload_n hx hb dX5_cutOne_117 rfl (lv_at hl 2 rfl) ?_
                        refine fm_getG (a := 32) (j := 4) (T := TX5) (N := 8) hx hb hts hinX5 hown hc hw kl_32 sh_32 rfl (by decide) rfl (hI.to kl_32 tg_32_4) (hts (.fieldLink RX5 21 "RedTent$Reader" "numbers" "[I") (List.mem_cons_of_mem _ tw_1_202)) (fun _ h9 => h9) dX5_cutOne_118 ?_
                        refine lv_iload_n hx hb dX5_cutOne_121 rfl (lv_at hl 3 rfl) ?_
                        refine lv_iload hx hb dX5_cutOne_122 (lv_at hl 0 rfl) ?_
                        refine fm_iast (a := 35) hx hb hc hw hI hE hS kl_35 sh_35 ty_35 bd_35 (by omega) (zi_lt _) cd_35 (by decide) dX5_cutOne_124 (fun M104 H locs eM104 hw hI hE hS => ?_)
                        refine lv_iload_n hx hb dX5_cutOne_125 rfl (lv_at hl 1 rfl) ?_
                        exact W.iret (v := lq_3) hx hb hr (fun t ht hW => ⟨⟨lq_3, M104, rfl, ⟨hI, hE, ⟨(by omega), (by omega)⟩⟩, by show fm_at D ad C nb _ t.heap; rw [ht]; exact hw⟩, hS.F ht⟩) hS.2.2 dX5_cutOne_126
            exact lq _ 0 lp_3 M_lp (Nat.lt_succ_self _) (by omega) hby (by omega) hI hE _ _ hw hS ls (lv_sub hl [0, 1, 2, 3, 4] rfl)
          · refine lv_aload_n hx hb dX5_cutOne_36 rfl (lv_at hl 2 rfl) ?_
            refine fm_getG (a := 32) (j := 2) (T := TX5) (N := 8) hx hb hts hinX5 hown hc hw kl_32 sh_32 rfl (by decide) rfl (hI.to kl_32 tg_32_2) (hts (.fieldLink RX5 15 "RedTent$Reader" "tokens" "[I") (List.mem_cons_of_mem _ tw_1_200)) (fun _ h9 => h9) dX5_cutOne_37 ?_
            refine lv_iload_n hx hb dX5_cutOne_40 rfl (lv_at hl 3 rfl) ?_
            refine lv_aload_n hx hb dX5_cutOne_41 rfl (lv_at hl 2 rfl) ?_
            refine lv_iload_n hx hb dX5_cutOne_42 rfl (lv_at hl 4 rfl) ?_
            refine lv_iload_n hx hb dX5_cutOne_43 rfl (lv_at hl 1 rfl) ?_
            refine vp_callSi (va_Run.run (va_runV (As := [.int p1, .int lp_3]) (rest := [.int p0, .ref (ad 33 0)]) ⟨hx, hb, hml, hown, hts⟩ (fc_X5_wordOf l D ad C nb M_lp hI p1 lp_3 (by omega) (by omega) hby) (cwV 2 hts gX5_cutOne_X5_wordOf rfl rfl rfl (by decide +kernel) ⟨Nat.le_of_ble_eq_true rfl, Nat.le_of_ble_eq_true rfl⟩) (fm_preV hc hw hS kl_32 sh_32 rfl) rfl rfl hl.1 rfl (lv_room (Nat.le_of_ble_eq_true rfl)) dX5_cutOne_44 ⟨by decide +kernel, by decide +kernel⟩)) (fun r105 hr105 => ?_)
            refine fm_iast (a := 33) hx hb hc hw hI hE hS kl_33 sh_33 ty_33 bd_33 (by omega) (zi_lt _) cd_33 (by decide) dX5_cutOne_47 (fun M106 H locs eM106 hw hI hE hS => ?_)
            refine lv_iload_n hx hb dX5_cutOne_48 rfl (lv_at hl 1 rfl) ?_
            exact W.iret (v := lp_3) hx hb hr (fun t ht hW => ⟨⟨lp_3, M106, rfl, ⟨hI, hE, ⟨(by omega), (by omega)⟩⟩, by show fm_at D ad C nb _ t.heap; rw [ht]; exact hw⟩, hS.F ht⟩) hS.2.2 dX5_cutOne_49
  exact lp _ p1 M (Nat.lt_succ_self _) (by omega) hby (by omega) hI hE _ _ hw hS ls (lv_sub hl [0, 1, 2, 3, 4] rfl)
set_option maxHeartbeats 400000 in
set_option maxRecDepth 20000 in
theorem fc_X5_cutTokens (l : Launch) (D : va_G) (ad : Nat → Nat → Nat) (C : Nat → Nat → ClassId) (nb : Nat) (M : fm_M) (hI : fm_I nb ad M) (hby : M.2.2 32 0 0 = some (ad 28 0)) : Met l yX5_cutTokens wsX5_cutTokens ({ frames := 7, cells := 0, slots := 0, locals := 156 }) (va_Pc [.ref (ad 32 0)] (fm_P D ad C nb M)) (va_Qv (fun (u : fm_M) => fm_I nb ad u ∧ fm_same [33000, 34000, 35000] M u ∧ True) (fun u t => fm_at D ad C nb u t.heap) (fm_A nb ad)) 0 0 (fm_A nb ad) := by
  refine Met.ofW (cc := cX5_cutTokens) (maxL := 3) (ret := none) (by decide) rfl ?_
  intro p e s m args below meth c s₁ B hml hv
  obtain ⟨rfl, hw, hc⟩ := hv
  have hx := B.exec
  have hb := B.bytes
  have hr := B.returns
  have hts := atoms_spec (ws := wsX5_cutTokens) B.pre
  have hown : s.vm.findClass RX5 = some m.cls := findClass_of_methodNamed B.named
  have hinX5 : ∀ w ∈ u_ws RX5 TX5 8, w ∈ wsX5_cutTokens := fun w h => List.mem_cons_of_mem _ (iT_X5 w h)
  have hS : va_S (fm_A nb ad) s.heap s.heap [] := va_S.rf
  have hE : fm_same [33000, 34000, 35000] M M := fm_same.rf
  have hl := lv_entry ([.ref (ad 32 0)]) (n := 3) (Nat.le_of_ble_eq_true rfl)
  rw [lg_entry_eq]
  generalize (lg_sl ([.ref (ad 32 0)]) ++ List.replicate (3 - (lg_sl ([.ref (ad 32 0)])).length) Slot.unset).toArray = ls at hl ⊢
  have hl : lv_has ls 3 [(0, .ref (ad 32 0))] := hl
  refine lv_iconst (v := 0) hx hb dX5_cutTokens_0 (by decide) ?_
  refine lv_istore_n (lv' := [(1, .int 0), (0, .ref (ad 32 0))]) hx hb dX5_cutTokens_1 rfl hl (by decide) rfl (fun ls hl => ?_)
  refine lv_iconst (v := 0) hx hb dX5_cutTokens_2 (by decide) ?_
  refine lv_istore_n (lv' := [(2, .int 0), (1, .int 0), (0, .ref (ad 32 0))]) hx hb dX5_cutTokens_3 rfl hl (by decide) rfl (fun ls hl => ?_)
  have lp : ∀ (n_lp : Nat) (lp_2 : Int32) (lp_1 : Int32) (M_lp : fm_M), (161 - lp_2.toInt).toNat < n_lp → (0 ≤ lp_2.toInt ∧ lp_2.toInt ≤ 160) → (0 ≤ lp_1.toInt ∧ lp_1.toInt ≤ 160) → (M_lp.2.2 32 0 0 = some (ad 28 0)) → fm_I nb ad M_lp → fm_same [33000, 34000, 35000] M M_lp → ∀ (H : Heap) (locs : List Loc), fm_at D ad C nb M_lp H → va_S (fm_A nb ad) s.heap H locs → ∀ (ls : Array Slot), lv_has ls 3 [(2, .int lp_2), (1, .int lp_1), (0, .ref (ad 32 0))] → W p l e (headSpec wsX5_cutTokens ({ frames := 7, cells := 0, slots := 0, locals := 156 })).room s m ([.ref (ad 32 0)] : List Value).toArray below meth c H locs 0 0 (MQ below (va_Qv (fun (u : fm_M) => fm_I nb ad u ∧ fm_same [33000, 34000, 35000] M u ∧ True) (fun u t => fm_at D ad C nb u t.heap) (fm_A nb ad)) ([.ref (ad 32 0)] : List Value).toArray s 0 0 (fm_A nb ad)) (F0 m 4 ls []) := by
    intro n_lp
    induction n_lp with
    | zero => intro lp_2 lp_1 M_lp hm_lp b_lp_2 b_lp_1 hby hI hE H locs hw hS ls hl; exact absurd hm_lp (Nat.not_lt_zero _)
    | succ n_lp ih_lp =>
      intro lp_2 lp_1 M_lp hm_lp b_lp_2 b_lp_1 hby hI hE H locs hw hS ls hl
      refine lv_iload_n hx hb dX5_cutTokens_4 rfl (lv_at hl 0 rfl) ?_
      refine lv_aload_n hx hb dX5_cutTokens_5 rfl (lv_at hl 2 rfl) ?_
      refine fm_getI (a := 32) (j := 1) (T := TX5) (N := 8) hx hb hts hinX5 hown hc hw hI kl_32 sh_32 rfl (by decide) rfl bd_32_1 (hts (.fieldLink RX5 37 "RedTent$Reader" "size" "I") (List.mem_cons_of_mem _ tw_1_199)) (fun _ h9 => h9) dX5_cutTokens_6 (fun x1 ex1 bx1 => ?_)
      refine fx_icmp_ge (tgt := 57) hx hb dX5_cutTokens_9 (by decide) rfl rfl (fun c2 => ?_) (fun c2 => ?_)
      · refine lv_aload_n hx hb dX5_cutTokens_57 rfl (lv_at hl 2 rfl) ?_
        refine fm_getG (a := 32) (j := 2) (T := TX5) (N := 8) hx hb hts hinX5 hown hc hw kl_32 sh_32 rfl (by decide) rfl (hI.to kl_32 tg_32_2) (hts (.fieldLink RX5 15 "RedTent$Reader" "tokens" "[I") (List.mem_cons_of_mem _ tw_1_200)) (fun _ h9 => h9) dX5_cutTokens_58 ?_
        refine lv_iload_n hx hb dX5_cutTokens_61 rfl (lv_at hl 1 rfl) ?_
        refine lv_iconst (v := 0) hx hb dX5_cutTokens_62 (by decide) ?_
        refine fm_iast (a := 33) hx hb hc hw hI hE hS kl_33 sh_33 ty_33 bd_33 (by omega) (by decide) cd_33 (by decide) dX5_cutTokens_63 (fun M3 H locs eM3 hw hI hE hS => ?_)
        refine lv_aload_n hx hb dX5_cutTokens_64 rfl (lv_at hl 2 rfl) ?_
        refine fm_getG (a := 32) (j := 3) (T := TX5) (N := 8) hx hb hts hinX5 hown hc hw kl_32 sh_32 rfl (by decide) rfl (hI.to kl_32 tg_32_3) (hts (.fieldLink RX5 18 "RedTent$Reader" "starts" "[I") (List.mem_cons_of_mem _ tw_1_201)) (fun _ h9 => h9) dX5_cutTokens_65 ?_
        refine lv_iload_n hx hb dX5_cutTokens_68 rfl (lv_at hl 1 rfl) ?_
        refine lv_aload_n hx hb dX5_cutTokens_69 rfl (lv_at hl 2 rfl) ?_
        refine fm_getI (a := 32) (j := 1) (T := TX5) (N := 8) hx hb hts hinX5 hown hc hw hI kl_32 sh_32 rfl (by decide) rfl bd_32_1 (hts (.fieldLink RX5 37 "RedTent$Reader" "size" "I") (List.mem_cons_of_mem _ tw_1_199)) (fun _ h9 => h9) dX5_cutTokens_70 (fun x4 ex4 bx4 => ?_)
        obtain rfl : x1 = x4 := by rw [ex4, eM3, fm_wI_nj (fun z => absurd z.1 (by decide))]; exact ex1
        refine fm_iast (a := 34) hx hb hc hw hI hE hS kl_34 sh_34 ty_34 bd_34 (by omega) (by omega) cd_34 (by decide) dX5_cutTokens_73 (fun M5 H locs eM5 hw hI hE hS => ?_)
        exact W.vret hx hb hr (fun t ht hW => ⟨⟨M5, rfl, ⟨hI, hE, trivial⟩, by show fm_at D ad C nb _ t.heap; rw [ht]; exact hw⟩, hS.F ht⟩) hS.2.2 dX5_cutTokens_74
      · refine lv_iload_n hx hb dX5_cutTokens_12 rfl (lv_at hl 1 rfl) ?_
        refine lv_sipush (v := 160) hx hb dX5_cutTokens_13 (by decide) ?_
        refine fx_icmp_ge (tgt := 57) hx hb dX5_cutTokens_16 (by decide) rfl zk_160 (fun c6 => ?_) (fun c6 => ?_)
        · refine lv_aload_n hx hb dX5_cutTokens_57 rfl (lv_at hl 2 rfl) ?_
          refine fm_getG (a := 32) (j := 2) (T := TX5) (N := 8) hx hb hts hinX5 hown hc hw kl_32 sh_32 rfl (by decide) rfl (hI.to kl_32 tg_32_2) (hts (.fieldLink RX5 15 "RedTent$Reader" "tokens" "[I") (List.mem_cons_of_mem _ tw_1_200)) (fun _ h9 => h9) dX5_cutTokens_58 ?_
          refine lv_iload_n hx hb dX5_cutTokens_61 rfl (lv_at hl 1 rfl) ?_
          refine lv_iconst (v := 0) hx hb dX5_cutTokens_62 (by decide) ?_
          refine fm_iast (a := 33) hx hb hc hw hI hE hS kl_33 sh_33 ty_33 bd_33 (by omega) (by decide) cd_33 (by decide) dX5_cutTokens_63 (fun M7 H locs eM7 hw hI hE hS => ?_)
          refine lv_aload_n hx hb dX5_cutTokens_64 rfl (lv_at hl 2 rfl) ?_
          refine fm_getG (a := 32) (j := 3) (T := TX5) (N := 8) hx hb hts hinX5 hown hc hw kl_32 sh_32 rfl (by decide) rfl (hI.to kl_32 tg_32_3) (hts (.fieldLink RX5 18 "RedTent$Reader" "starts" "[I") (List.mem_cons_of_mem _ tw_1_201)) (fun _ h9 => h9) dX5_cutTokens_65 ?_
          refine lv_iload_n hx hb dX5_cutTokens_68 rfl (lv_at hl 1 rfl) ?_
          refine lv_aload_n hx hb dX5_cutTokens_69 rfl (lv_at hl 2 rfl) ?_
          refine fm_getI (a := 32) (j := 1) (T := TX5) (N := 8) hx hb hts hinX5 hown hc hw hI kl_32 sh_32 rfl (by decide) rfl bd_32_1 (hts (.fieldLink RX5 37 "RedTent$Reader" "size" "I") (List.mem_cons_of_mem _ tw_1_199)) (fun _ h9 => h9) dX5_cutTokens_70 (fun x8 ex8 bx8 => ?_)
          obtain rfl : x1 = x8 := by rw [ex8, eM7, fm_wI_nj (fun z => absurd z.1 (by decide))]; exact ex1
          refine fm_iast (a := 34) hx hb hc hw hI hE hS kl_34 sh_34 ty_34 bd_34 (by omega) (by omega) cd_34 (by decide) dX5_cutTokens_73 (fun M9 H locs eM9 hw hI hE hS => ?_)
          exact W.vret hx hb hr (fun t ht hW => ⟨⟨M9, rfl, ⟨hI, hE, trivial⟩, by show fm_at D ad C nb _ t.heap; rw [ht]; exact hw⟩, hS.F ht⟩) hS.2.2 dX5_cutTokens_74
        · refine lv_aload_n hx hb dX5_cutTokens_19 rfl (lv_at hl 2 rfl) ?_
          refine fm_getG (a := 32) (j := 0) (T := TX5) (N := 8) hx hb hts hinX5 hown hc hw kl_32 sh_32 rfl (by decide) rfl hby (hts (.fieldLink RX5 11 "RedTent$Reader" "bytes" "[I") (List.mem_cons_of_mem _ tw_1_198)) (fun _ h9 => h9) dX5_cutTokens_20 ?_
          refine lv_iload_n hx hb dX5_cutTokens_23 rfl (lv_at hl 0 rfl) ?_
          refine fm_iald (a := 28) hx hb hc hw hI kl_28 sh_28 ty_28 bd_28 (by omega) dX5_cutTokens_24 (fun x10 ex10 bx10 => ?_)
          refine vp_callSi (va_Run.run (va_runS (As := [.int x10]) (rest := []) ⟨hx, hb, hml, hown, hts⟩ (fc_X5_isBlank l x10) (va_cwS 1 hts gX5_cutTokens_X5_isBlank rfl rfl rfl (by decide +kernel) ⟨Nat.le_of_ble_eq_true rfl, Nat.le_of_ble_eq_true rfl⟩) ⟨fun a U g mk q => q, fun U hU hW => ⟨rfl, trivial⟩⟩ rfl rfl hl.1 rfl (lv_room (Nat.le_of_ble_eq_true rfl)) dX5_cutTokens_25 ⟨by decide +kernel, by decide +kernel⟩)) (fun r11 hr11 => ?_)
          rcases hr11 with ⟨rfl, c12⟩ | ⟨rfl, c12⟩
          · refine fx_if_eq (tgt := 37) hx hb dX5_cutTokens_28 (by decide) zk_1 (fun c13 => by exfalso; omega) (fun c13 => ?_)
            obtain ⟨y14, ey14⟩ : ∃ y : Int32, y = lp_2 + 1 := ⟨_, rfl⟩
            have ty14 : y14.toInt = lp_2.toInt + 1 := by rw [ey14, zi_add _ _ (by rw [zk_1]; omega) (by rw [zk_1]; omega), zk_1]
            refine lv_iinc (v := y14) (lv' := [(2, .int y14), (1, .int lp_1), (0, .ref (ad 32 0))]) hx hb dX5_cutTokens_31 hl (k := 0) rfl (by rw [ey14]; rfl) (by decide) rfl (fun ls hl => ?_)
            refine lv_goto (tgt := 4) hx hb dX5_cutTokens_34 (by decide) ?_
            exact ih_lp y14 lp_1 M_lp (by omega) (by omega) (by omega) hby hI hE _ _ hw hS ls (lv_sub hl [0, 1, 2] rfl)
          · refine fx_if_eq (tgt := 37) hx hb dX5_cutTokens_28 (by decide) zk_0 (fun c15 => ?_) (fun c15 => by exfalso; omega)
            refine lv_aload_n hx hb dX5_cutTokens_37 rfl (lv_at hl 2 rfl) ?_
            refine fm_getG (a := 32) (j := 3) (T := TX5) (N := 8) hx hb hts hinX5 hown hc hw kl_32 sh_32 rfl (by decide) rfl (hI.to kl_32 tg_32_3) (hts (.fieldLink RX5 18 "RedTent$Reader" "starts" "[I") (List.mem_cons_of_mem _ tw_1_201)) (fun _ h9 => h9) dX5_cutTokens_38 ?_
            refine lv_iload_n hx hb dX5_cutTokens_41 rfl (lv_at hl 1 rfl) ?_
            refine lv_iload_n hx hb dX5_cutTokens_42 rfl (lv_at hl 0 rfl) ?_
            refine fm_iast (a := 34) hx hb hc hw hI hE hS kl_34 sh_34 ty_34 bd_34 (by omega) (by omega) cd_34 (by decide) dX5_cutTokens_43 (fun M16 H locs eM16 hw hI hE hS => ?_)
            refine lv_aload_n hx hb dX5_cutTokens_44 rfl (lv_at hl 2 rfl) ?_
            refine lv_iload_n hx hb dX5_cutTokens_45 rfl (lv_at hl 1 rfl) ?_
            refine lv_iload_n hx hb dX5_cutTokens_46 rfl (lv_at hl 0 rfl) ?_
            refine fm_ci (va_runV (As := [.int lp_1, .int lp_2]) (rest := []) ⟨hx, hb, hml, hown, hts⟩ (fc_X5_cutOne l D ad C nb M16 hI lp_1 lp_2 (by omega) (by omega) (by rw [eM16, fm_wI_22]; exact hby)) (cwV 2 hts gX5_cutTokens_X5_cutOne rfl rfl rfl (by decide +kernel) ⟨Nat.le_of_ble_eq_true rfl, Nat.le_of_ble_eq_true rfl⟩) (fm_preV hc hw hS kl_32 sh_32 rfl) rfl rfl hl.1 rfl (lv_room (Nat.le_of_ble_eq_true rfl)) dX5_cutTokens_47 ⟨by decide +kernel, by decide +kernel⟩) hS hc (fun r17 M18 H locs hr17 hw hS => ?_)
            obtain ⟨hI, hEM18, hr17⟩ := hr17
            have hE := hE.tr hEM18 (by decide)
            refine lv_istore_n (lv' := [(2, .int r17), (1, .int lp_1), (0, .ref (ad 32 0))]) hx hb dX5_cutTokens_50 rfl hl (by decide) rfl (fun ls hl => ?_)
            obtain ⟨y19, ey19⟩ : ∃ y : Int32, y = lp_1 + 1 := ⟨_, rfl⟩
            have ty19 : y19.toInt = lp_1.toInt + 1 := by rw [ey19, zi_add _ _ (by rw [zk_1]; omega) (by rw [zk_1]; omega), zk_1]
            refine lv_iinc (v := y19) (lv' := [(1, .int y19), (2, .int r17), (0, .ref (ad 32 0))]) hx hb dX5_cutTokens_51 hl (k := 1) rfl (by rw [ey19]; rfl) (by decide) rfl (fun ls hl => ?_)
            refine lv_goto (tgt := 4) hx hb dX5_cutTokens_54 (by decide) ?_
            exact ih_lp r17 y19 M18 (by omega) (by omega) (by omega) (by rw [(hEM18 32 0 0 (by decide)).2.2, eM16, fm_wI_22]; exact hby) hI hE _ _ hw hS ls (lv_sub hl [1, 0, 2] rfl)
  exact lp _ 0 0 M (Nat.lt_succ_self _) (by decide) (by decide) hby hI hE _ _ hw hS ls (lv_sub hl [0, 1, 2] rfl)
set_option maxHeartbeats 400000 in
set_option maxRecDepth 20000 in
theorem fc_X5_sees (l : Launch) (D : va_G) (ad : Nat → Nat → Nat) (C : Nat → Nat → ClassId) (nb : Nat) (M : fm_M) (hI : fm_I nb ad M) (p0 : Int32) : Met l yX5_sees wsX5_sees ({ frames := 0, cells := 0, slots := 0, locals := 0 }) (va_Pc [.ref (ad 32 0), .int p0] (fm_P D ad C nb M)) (vp_Si (fun r : Int32 => ((r = 1 ∧ ((M.1 32 0 7).toInt < 0 ∧ (M.1 33 0 (M.1 32 0 6).toNatClampNeg).toInt = p0.toInt)) ∨ (r = 0 ∧ ¬ ((M.1 32 0 7).toInt < 0 ∧ (M.1 33 0 (M.1 32 0 6).toNatClampNeg).toInt = p0.toInt))))) 0 0 (fun _ => False) := by
  refine Met.ofW (cc := cX5_sees) (maxL := 2) (ret := (some .boolean)) (by decide) rfl ?_
  intro p e s m args below meth c s₁ B hml hv
  obtain ⟨rfl, hw, hc⟩ := hv
  have hx := B.exec
  have hb := B.bytes
  have hr := B.returns
  have hts := atoms_spec (ws := wsX5_sees) B.pre
  have hown : s.vm.findClass RX5 = some m.cls := findClass_of_methodNamed B.named
  have hinX5 : ∀ w ∈ u_ws RX5 TX5 8, w ∈ wsX5_sees := fun w h => List.mem_cons_of_mem _ (iT_X5 w h)
  have hS : va_S (fm_A nb ad) s.heap s.heap [] := va_S.rf
  have hl := lv_entry ([.ref (ad 32 0), .int p0]) (n := 2) (Nat.le_of_ble_eq_true rfl)
  rw [lg_entry_eq]
  generalize (lg_sl ([.ref (ad 32 0), .int p0]) ++ List.replicate (2 - (lg_sl ([.ref (ad 32 0), .int p0])).length) Slot.unset).toArray = ls at hl ⊢
  have hl : lv_has ls 2 [(0, .ref (ad 32 0)), (1, .int p0)] := hl
  refine lv_aload_n hx hb dX5_sees_0 rfl (lv_at hl 0 rfl) ?_
  refine fm_getI (a := 32) (j := 7) (T := TX5) (N := 8) hx hb hts hinX5 hown hc hw hI kl_32 sh_32 rfl (by decide) rfl bd_32_7 (hts (.fieldLink RX5 50 "RedTent$Reader" "fault" "I") (List.mem_cons_of_mem _ tw_1_206)) (fun _ h9 => h9) dX5_sees_1 (fun x1 ex1 bx1 => ?_)
  refine fx_if_ge (tgt := 24) hx hb dX5_sees_4 (by decide) rfl (fun c2 => ?_) (fun c2 => ?_)
  · refine lv_iconst (v := 0) hx hb dX5_sees_24 (by decide) ?_
    have q7 : x1.toInt = (M.1 32 0 7).toInt := by rw [ex1]
    have qx1 : x1.toInt = (M.1 32 0 7).toInt := by rw [ex1]
    exact W.zret (v := 0) hx hb hr rfl (fun t ht hW => ⟨0, rfl, Or.inr ⟨rfl, by omega⟩, ht⟩) (fun _ h => absurd h List.not_mem_nil) dX5_sees_25
  · refine lv_aload_n hx hb dX5_sees_7 rfl (lv_at hl 0 rfl) ?_
    refine fm_getG (a := 32) (j := 2) (T := TX5) (N := 8) hx hb hts hinX5 hown hc hw kl_32 sh_32 rfl (by decide) rfl (hI.to kl_32 tg_32_2) (hts (.fieldLink RX5 15 "RedTent$Reader" "tokens" "[I") (List.mem_cons_of_mem _ tw_1_200)) (fun _ h9 => h9) dX5_sees_8 ?_
    refine lv_aload_n hx hb dX5_sees_11 rfl (lv_at hl 0 rfl) ?_
    refine fm_getI (a := 32) (j := 6) (T := TX5) (N := 8) hx hb hts hinX5 hown hc hw hI kl_32 sh_32 rfl (by decide) rfl bd_32_6 (hts (.fieldLink RX5 47 "RedTent$Reader" "at" "I") (List.mem_cons_of_mem _ tw_1_205)) (fun _ h9 => h9) dX5_sees_12 (fun x3 ex3 bx3 => ?_)
    refine fm_iald (a := 33) hx hb hc hw hI kl_33 sh_33 ty_33 bd_33 (by omega) dX5_sees_15 (fun x4 ex4 bx4 => ?_)
    refine lv_iload_n hx hb dX5_sees_16 rfl (lv_at hl 1 rfl) ?_
    refine fx_icmp_ne (tgt := 24) hx hb dX5_sees_17 (by decide) rfl rfl (fun c5 => ?_) (fun c5 => ?_)
    · refine lv_iconst (v := 0) hx hb dX5_sees_24 (by decide) ?_
      have q7 : x1.toInt = (M.1 32 0 7).toInt := by rw [ex1]
      have q3 : x4.toInt = (M.1 33 0 (M.1 32 0 6).toNatClampNeg).toInt := by rw [ex4, ex3]
      have qx3 : x3.toInt = (M.1 32 0 6).toInt := by rw [ex3]
      have qx1 : x1.toInt = (M.1 32 0 7).toInt := by rw [ex1]
      exact W.zret (v := 0) hx hb hr rfl (fun t ht hW => ⟨0, rfl, Or.inr ⟨rfl, by omega⟩, ht⟩) (fun _ h => absurd h List.not_mem_nil) dX5_sees_25
    · refine lv_iconst (v := 1) hx hb dX5_sees_20 (by decide) ?_
      refine lv_goto (tgt := 25) hx hb dX5_sees_21 (by decide) ?_
      have q7 : x1.toInt = (M.1 32 0 7).toInt := by rw [ex1]
      have q3 : x4.toInt = (M.1 33 0 (M.1 32 0 6).toNatClampNeg).toInt := by rw [ex4, ex3]
      have qx3 : x3.toInt = (M.1 32 0 6).toInt := by rw [ex3]
      have qx1 : x1.toInt = (M.1 32 0 7).toInt := by rw [ex1]
      exact W.zret (v := 1) hx hb hr rfl (fun t ht hW => ⟨1, rfl, Or.inl ⟨rfl, by omega⟩, ht⟩) (fun _ h => absurd h List.not_mem_nil) dX5_sees_25
set_option maxHeartbeats 400000 in
set_option maxRecDepth 20000 in
theorem fc_X5_advance (l : Launch) (D : va_G) (ad : Nat → Nat → Nat) (C : Nat → Nat → ClassId) (nb : Nat) (M : fm_M) (hI : fm_I nb ad M) : Met l yX5_advance wsX5_advance ({ frames := 0, cells := 0, slots := 0, locals := 0 }) (va_Pc [.ref (ad 32 0)] (fm_P D ad C nb M)) (va_Qv (fun (u : fm_M) => fm_I nb ad u ∧ fm_same [32006] M u ∧ True) (fun u t => fm_at D ad C nb u t.heap) (fm_A nb ad)) 0 0 (fm_A nb ad) := by
  refine Met.ofW (cc := cX5_advance) (maxL := 1) (ret := none) (by decide) rfl ?_
  intro p e s m args below meth c s₁ B hml hv
  obtain ⟨rfl, hw, hc⟩ := hv
  have hx := B.exec
  have hb := B.bytes
  have hr := B.returns
  have hts := atoms_spec (ws := wsX5_advance) B.pre
  have hown : s.vm.findClass RX5 = some m.cls := findClass_of_methodNamed B.named
  have hinX5 : ∀ w ∈ u_ws RX5 TX5 8, w ∈ wsX5_advance := fun w h => List.mem_cons_of_mem _ (iT_X5 w h)
  have hS : va_S (fm_A nb ad) s.heap s.heap [] := va_S.rf
  have hE : fm_same [32006] M M := fm_same.rf
  have hl := lv_entry ([.ref (ad 32 0)]) (n := 1) (Nat.le_of_ble_eq_true rfl)
  rw [lg_entry_eq]
  generalize (lg_sl ([.ref (ad 32 0)]) ++ List.replicate (1 - (lg_sl ([.ref (ad 32 0)])).length) Slot.unset).toArray = ls at hl ⊢
  have hl : lv_has ls 1 [(0, .ref (ad 32 0))] := hl
  refine lv_aload_n hx hb dX5_advance_0 rfl (lv_at hl 0 rfl) ?_
  refine fm_getI (a := 32) (j := 6) (T := TX5) (N := 8) hx hb hts hinX5 hown hc hw hI kl_32 sh_32 rfl (by decide) rfl bd_32_6 (hts (.fieldLink RX5 47 "RedTent$Reader" "at" "I") (List.mem_cons_of_mem _ tw_1_205)) (fun _ h9 => h9) dX5_advance_1 (fun x1 ex1 bx1 => ?_)
  refine lv_sipush (v := 160) hx hb dX5_advance_4 (by decide) ?_
  refine fx_icmp_ge (tgt := 32) hx hb dX5_advance_7 (by decide) rfl zk_160 (fun c2 => ?_) (fun c2 => ?_)
  · exact W.vret hx hb hr (fun t ht hW => ⟨⟨M, rfl, ⟨hI, hE, trivial⟩, by show fm_at D ad C nb _ t.heap; rw [ht]; exact hw⟩, hS.F ht⟩) hS.2.2 dX5_advance_32
  · refine lv_aload_n hx hb dX5_advance_10 rfl (lv_at hl 0 rfl) ?_
    refine fm_getG (a := 32) (j := 2) (T := TX5) (N := 8) hx hb hts hinX5 hown hc hw kl_32 sh_32 rfl (by decide) rfl (hI.to kl_32 tg_32_2) (hts (.fieldLink RX5 15 "RedTent$Reader" "tokens" "[I") (List.mem_cons_of_mem _ tw_1_200)) (fun _ h9 => h9) dX5_advance_11 ?_
    refine lv_aload_n hx hb dX5_advance_14 rfl (lv_at hl 0 rfl) ?_
    refine fm_getI (a := 32) (j := 6) (T := TX5) (N := 8) hx hb hts hinX5 hown hc hw hI kl_32 sh_32 rfl (by decide) rfl bd_32_6 (hts (.fieldLink RX5 47 "RedTent$Reader" "at" "I") (List.mem_cons_of_mem _ tw_1_205)) (fun _ h9 => h9) dX5_advance_15 (fun x3 ex3 bx3 => ?_)
    obtain rfl : x1 = x3 := by rw [ex3]; exact ex1
    refine fm_iald (a := 33) hx hb hc hw hI kl_33 sh_33 ty_33 bd_33 (by omega) dX5_advance_18 (fun x4 ex4 bx4 => ?_)
    refine fx_if_eq (tgt := 32) hx hb dX5_advance_19 (by decide) rfl (fun c5 => ?_) (fun c5 => ?_)
    · exact W.vret hx hb hr (fun t ht hW => ⟨⟨M, rfl, ⟨hI, hE, trivial⟩, by show fm_at D ad C nb _ t.heap; rw [ht]; exact hw⟩, hS.F ht⟩) hS.2.2 dX5_advance_32
    · refine lv_aload_n hx hb dX5_advance_22 rfl (lv_at hl 0 rfl) ?_
      refine lv_dup hx hb dX5_advance_23 rfl ?_
      refine fm_getI (a := 32) (j := 6) (T := TX5) (N := 8) hx hb hts hinX5 hown hc hw hI kl_32 sh_32 rfl (by decide) rfl bd_32_6 (hts (.fieldLink RX5 47 "RedTent$Reader" "at" "I") (List.mem_cons_of_mem _ tw_1_205)) (fun _ h9 => h9) dX5_advance_24 (fun x6 ex6 bx6 => ?_)
      obtain rfl : x1 = x6 := by rw [ex6]; exact ex1
      refine lv_iconst (v := 1) hx hb dX5_advance_27 (by decide) ?_
      refine fx_iadd hx hb dX5_advance_28 rfl zk_1 (by omega) (fun y7 ey7 ty7 => ?_)
      refine fm_putI (a := 32) (j := 6) (T := TX5) (N := 8) hx hb hts hinX5 tyX5 tyX5_ok nmX5 hown hc hw hI hE hS kl_32 sh_32 od_32 rfl (by decide) rfl bd_32_6 (hts (.fieldLink RX5 47 "RedTent$Reader" "at" "I") (List.mem_cons_of_mem _ tw_1_205)) (fun _ h9 => h9) rfl (by decide +kernel) (by omega) (by decide) (by decide) dX5_advance_29 (fun M8 H locs eM8 hw hI hE hS => ?_)
      exact W.vret hx hb hr (fun t ht hW => ⟨⟨M8, rfl, ⟨hI, hE, trivial⟩, by show fm_at D ad C nb _ t.heap; rw [ht]; exact hw⟩, hS.F ht⟩) hS.2.2 dX5_advance_32
set_option maxHeartbeats 400000 in
set_option maxRecDepth 20000 in
theorem fc_X5_fail (l : Launch) (D : va_G) (ad : Nat → Nat → Nat) (C : Nat → Nat → ClassId) (nb : Nat) (M : fm_M) (hI : fm_I nb ad M) : Met l yX5_fail wsX5_fail ({ frames := 0, cells := 0, slots := 0, locals := 0 }) (va_Pc [.ref (ad 32 0)] (fm_P D ad C nb M)) (va_Qv (fun (u : fm_M) => fm_I nb ad u ∧ fm_same [32007] M u ∧ True) (fun u t => fm_at D ad C nb u t.heap) (fm_A nb ad)) 0 0 (fm_A nb ad) := by
  refine Met.ofW (cc := cX5_fail) (maxL := 1) (ret := none) (by decide) rfl ?_
  intro p e s m args below meth c s₁ B hml hv
  obtain ⟨rfl, hw, hc⟩ := hv
  have hx := B.exec
  have hb := B.bytes
  have hr := B.returns
  have hts := atoms_spec (ws := wsX5_fail) B.pre
  have hown : s.vm.findClass RX5 = some m.cls := findClass_of_methodNamed B.named
  have hinX5 : ∀ w ∈ u_ws RX5 TX5 8, w ∈ wsX5_fail := fun w h => List.mem_cons_of_mem _ (iT_X5 w h)
  have hS : va_S (fm_A nb ad) s.heap s.heap [] := va_S.rf
  have hE : fm_same [32007] M M := fm_same.rf
  have hl := lv_entry ([.ref (ad 32 0)]) (n := 1) (Nat.le_of_ble_eq_true rfl)
  rw [lg_entry_eq]
  generalize (lg_sl ([.ref (ad 32 0)]) ++ List.replicate (1 - (lg_sl ([.ref (ad 32 0)])).length) Slot.unset).toArray = ls at hl ⊢
  have hl : lv_has ls 1 [(0, .ref (ad 32 0))] := hl
  refine lv_aload_n hx hb dX5_fail_0 rfl (lv_at hl 0 rfl) ?_
  refine fm_getI (a := 32) (j := 7) (T := TX5) (N := 8) hx hb hts hinX5 hown hc hw hI kl_32 sh_32 rfl (by decide) rfl bd_32_7 (hts (.fieldLink RX5 50 "RedTent$Reader" "fault" "I") (List.mem_cons_of_mem _ tw_1_206)) (fun _ h9 => h9) dX5_fail_1 (fun x1 ex1 bx1 => ?_)
  refine fx_if_ge (tgt := 20) hx hb dX5_fail_4 (by decide) rfl (fun c2 => ?_) (fun c2 => ?_)
  · exact W.vret hx hb hr (fun t ht hW => ⟨⟨M, rfl, ⟨hI, hE, trivial⟩, by show fm_at D ad C nb _ t.heap; rw [ht]; exact hw⟩, hS.F ht⟩) hS.2.2 dX5_fail_20
  · refine lv_aload_n hx hb dX5_fail_7 rfl (lv_at hl 0 rfl) ?_
    refine lv_aload_n hx hb dX5_fail_8 rfl (lv_at hl 0 rfl) ?_
    refine fm_getG (a := 32) (j := 3) (T := TX5) (N := 8) hx hb hts hinX5 hown hc hw kl_32 sh_32 rfl (by decide) rfl (hI.to kl_32 tg_32_3) (hts (.fieldLink RX5 18 "RedTent$Reader" "starts" "[I") (List.mem_cons_of_mem _ tw_1_201)) (fun _ h9 => h9) dX5_fail_9 ?_
    refine lv_aload_n hx hb dX5_fail_12 rfl (lv_at hl 0 rfl) ?_
    refine fm_getI (a := 32) (j := 6) (T := TX5) (N := 8) hx hb hts hinX5 hown hc hw hI kl_32 sh_32 rfl (by decide) rfl bd_32_6 (hts (.fieldLink RX5 47 "RedTent$Reader" "at" "I") (List.mem_cons_of_mem _ tw_1_205)) (fun _ h9 => h9) dX5_fail_13 (fun x3 ex3 bx3 => ?_)
    refine fm_iald (a := 34) hx hb hc hw hI kl_34 sh_34 ty_34 bd_34 (by omega) dX5_fail_16 (fun x4 ex4 bx4 => ?_)
    refine fm_putI (a := 32) (j := 7) (T := TX5) (N := 8) hx hb hts hinX5 tyX5 tyX5_ok nmX5 hown hc hw hI hE hS kl_32 sh_32 od_32 rfl (by decide) rfl bd_32_7 (hts (.fieldLink RX5 50 "RedTent$Reader" "fault" "I") (List.mem_cons_of_mem _ tw_1_206)) (fun _ h9 => h9) rfl (by decide +kernel) (by omega) (by decide) (by decide) dX5_fail_17 (fun M5 H locs eM5 hw hI hE hS => ?_)
    exact W.vret hx hb hr (fun t ht hW => ⟨⟨M5, rfl, ⟨hI, hE, trivial⟩, by show fm_at D ad C nb _ t.heap; rw [ht]; exact hw⟩, hS.F ht⟩) hS.2.2 dX5_fail_20
set_option maxHeartbeats 400000 in
set_option maxRecDepth 20000 in
theorem fc_X5_need (l : Launch) (D : va_G) (ad : Nat → Nat → Nat) (C : Nat → Nat → ClassId) (nb : Nat) (M : fm_M) (hI : fm_I nb ad M) (p0 : Int32) : Met l yX5_need wsX5_need ({ frames := 1, cells := 0, slots := 0, locals := 21 }) (va_Pc [.ref (ad 32 0), .int p0] (fm_P D ad C nb M)) (va_Qv (fun (u : fm_M) => fm_I nb ad u ∧ fm_same [32006, 32007] M u ∧ True) (fun u t => fm_at D ad C nb u t.heap) (fm_A nb ad)) 0 0 (fm_A nb ad) := by
  refine Met.ofW (cc := cX5_need) (maxL := 2) (ret := none) (by decide) rfl ?_
  intro p e s m args below meth c s₁ B hml hv
  obtain ⟨rfl, hw, hc⟩ := hv
  have hx := B.exec
  have hb := B.bytes
  have hr := B.returns
  have hts := atoms_spec (ws := wsX5_need) B.pre
  have hown : s.vm.findClass RX5 = some m.cls := findClass_of_methodNamed B.named
  have hS : va_S (fm_A nb ad) s.heap s.heap [] := va_S.rf
  have hE : fm_same [32006, 32007] M M := fm_same.rf
  have hl := lv_entry ([.ref (ad 32 0), .int p0]) (n := 2) (Nat.le_of_ble_eq_true rfl)
  rw [lg_entry_eq]
  generalize (lg_sl ([.ref (ad 32 0), .int p0]) ++ List.replicate (2 - (lg_sl ([.ref (ad 32 0), .int p0])).length) Slot.unset).toArray = ls at hl ⊢
  have hl : lv_has ls 2 [(0, .ref (ad 32 0)), (1, .int p0)] := hl
  refine lv_aload_n hx hb dX5_need_0 rfl (lv_at hl 0 rfl) ?_
  refine lv_iload_n hx hb dX5_need_1 rfl (lv_at hl 1 rfl) ?_
  refine vp_callSi (va_Run.run (va_runV (As := [.int p0]) (rest := []) ⟨hx, hb, hml, hown, hts⟩ (fc_X5_sees l D ad C nb M hI p0) (cwV 1 hts gX5_need_X5_sees rfl rfl rfl (by decide +kernel) ⟨Nat.le_of_ble_eq_true rfl, Nat.le_of_ble_eq_true rfl⟩) (fm_preV hc hw hS kl_32 sh_32 rfl) rfl rfl hl.1 rfl (lv_room (Nat.le_of_ble_eq_true rfl)) dX5_need_2 ⟨by decide +kernel, by decide +kernel⟩)) (fun r1 hr1 => ?_)
  have bqq2 := hI.bd (k := 0) bd_32_6
  have bqq3 := hI.bd (k := 0) bd_32_7
  rcases hr1 with ⟨rfl, c4⟩ | ⟨rfl, c4⟩
  · refine fx_if_eq (tgt := 15) hx hb dX5_need_5 (by decide) zk_1 (fun c5 => by exfalso; omega) (fun c5 => ?_)
    refine lv_aload_n hx hb dX5_need_8 rfl (lv_at hl 0 rfl) ?_
    refine fm_cv (va_runV (As := []) (rest := []) ⟨hx, hb, hml, hown, hts⟩ (fc_X5_advance l D ad C nb M hI) (cwV 0 hts gX5_need_X5_advance rfl rfl rfl (by decide +kernel) ⟨Nat.le_of_ble_eq_true rfl, Nat.le_of_ble_eq_true rfl⟩) (fm_preV hc hw hS kl_32 sh_32 rfl) rfl rfl hl.1 rfl (lv_room (Nat.le_of_ble_eq_true rfl)) dX5_need_9 ⟨by decide +kernel, by decide +kernel⟩) hS hc (fun M7 H locs hr6 hw hS => ?_)
    obtain ⟨hI, hEM7, hr6⟩ := hr6
    have hE := hE.tr hEM7 (by decide)
    refine lv_goto (tgt := 19) hx hb dX5_need_12 (by decide) ?_
    exact W.vret hx hb hr (fun t ht hW => ⟨⟨M7, rfl, ⟨hI, hE, trivial⟩, by show fm_at D ad C nb _ t.heap; rw [ht]; exact hw⟩, hS.F ht⟩) hS.2.2 dX5_need_19
  · refine fx_if_eq (tgt := 15) hx hb dX5_need_5 (by decide) zk_0 (fun c8 => ?_) (fun c8 => by exfalso; omega)
    refine lv_aload_n hx hb dX5_need_15 rfl (lv_at hl 0 rfl) ?_
    refine fm_cv (va_runV (As := []) (rest := []) ⟨hx, hb, hml, hown, hts⟩ (fc_X5_fail l D ad C nb M hI) (cwV 0 hts gX5_need_X5_fail rfl rfl rfl (by decide +kernel) ⟨Nat.le_of_ble_eq_true rfl, Nat.le_of_ble_eq_true rfl⟩) (fm_preV hc hw hS kl_32 sh_32 rfl) rfl rfl hl.1 rfl (lv_room (Nat.le_of_ble_eq_true rfl)) dX5_need_16 ⟨by decide +kernel, by decide +kernel⟩) hS hc (fun M10 H locs hr9 hw hS => ?_)
    obtain ⟨hI, hEM10, hr9⟩ := hr9
    have hE := hE.tr hEM10 (by decide)
    exact W.vret hx hb hr (fun t ht hW => ⟨⟨M10, rfl, ⟨hI, hE, trivial⟩, by show fm_at D ad C nb _ t.heap; rw [ht]; exact hw⟩, hS.F ht⟩) hS.2.2 dX5_need_19
set_option maxHeartbeats 400000 in
set_option maxRecDepth 20000 in
theorem fc_X5_readOne_5 (l : Launch) (D : va_G) (ad : Nat → Nat → Nat) (C : Nat → Nat → ClassId) (nb : Nat) (M : fm_M) (hI : fm_I nb ad M) : Met l yX5_readOne wsX5_readOne ({ frames := 1, cells := 0, slots := 0, locals := 21 }) (va_Pc [.ref (ad 32 0), .int 5] (fm_P D ad C nb M)) (va_Qv (fun (u : fm_M) => fm_I nb ad u ∧ fm_same [32006, 32007, 36001, 37000] M u ∧ True) (fun u t => fm_at D ad C nb u t.heap) (fm_A nb ad)) 0 0 (fm_A nb ad) := by
  refine Met.ofW (cc := cX5_readOne) (maxL := 2) (ret := none) (by decide) rfl ?_
  intro p e s m args below meth c s₁ B hml hv
  obtain ⟨rfl, hw, hc⟩ := hv
  have hx := B.exec
  have hb := B.bytes
  have hr := B.returns
  have hts := atoms_spec (ws := wsX5_readOne) B.pre
  have hown : s.vm.findClass RX5 = some m.cls := findClass_of_methodNamed B.named
  have hinX5 : ∀ w ∈ u_ws RX5 TX5 8, w ∈ wsX5_readOne := fun w h => List.mem_cons_of_mem _ (iT_X5 w h)
  have hS : va_S (fm_A nb ad) s.heap s.heap [] := va_S.rf
  have hE : fm_same [32006, 32007, 36001, 37000] M M := fm_same.rf
  have hl := lv_entry ([.ref (ad 32 0), .int 5]) (n := 2) (Nat.le_of_ble_eq_true rfl)
  rw [lg_entry_eq]
  generalize (lg_sl ([.ref (ad 32 0), .int 5]) ++ List.replicate (2 - (lg_sl ([.ref (ad 32 0), .int 5])).length) Slot.unset).toArray = ls at hl ⊢
  have hl : lv_has ls 2 [(0, .ref (ad 32 0)), (1, .int 5)] := hl
  have j1 : ∀  (M_j1 : fm_M), fm_I nb ad M_j1 → fm_same [32006, 32007, 36001, 37000] M M_j1 → ∀ (H : Heap) (locs : List Loc), fm_at D ad C nb M_j1 H → va_S (fm_A nb ad) s.heap H locs → ∀ (ls : Array Slot), lv_has ls 2 [(0, .ref (ad 32 0)), (1, .int 5)] → W p l e (headSpec wsX5_readOne ({ frames := 1, cells := 0, slots := 0, locals := 21 })).room s m ([.ref (ad 32 0), .int 5] : List Value).toArray below meth c H locs 0 0 (MQ below (va_Qv (fun (u : fm_M) => fm_I nb ad u ∧ fm_same [32006, 32007, 36001, 37000] M u ∧ True) (fun u t => fm_at D ad C nb u t.heap) (fm_A nb ad)) ([.ref (ad 32 0), .int 5] : List Value).toArray s 0 0 (fm_A nb ad)) (F0 m 89 ls []) := by
    intro  M_j1 hI hE H locs hw hS ls hl
    have j2 : ∀  (M_j2 : fm_M), fm_I nb ad M_j2 → fm_same [32006, 32007, 36001, 37000] M M_j2 → ∀ (H : Heap) (locs : List Loc), fm_at D ad C nb M_j2 H → va_S (fm_A nb ad) s.heap H locs → ∀ (ls : Array Slot), lv_has ls 2 [(0, .ref (ad 32 0)), (1, .int 5)] → W p l e (headSpec wsX5_readOne ({ frames := 1, cells := 0, slots := 0, locals := 21 })).room s m ([.ref (ad 32 0), .int 5] : List Value).toArray below meth c H locs 0 0 (MQ below (va_Qv (fun (u : fm_M) => fm_I nb ad u ∧ fm_same [32006, 32007, 36001, 37000] M u ∧ True) (fun u t => fm_at D ad C nb u t.heap) (fm_A nb ad)) ([.ref (ad 32 0), .int 5] : List Value).toArray s 0 0 (fm_A nb ad)) (F0 m 126 ls []) := by
      intro  M_j2 hI hE H locs hw hS ls hl
      have j3 : ∀  (M_j3 : fm_M), fm_I nb ad M_j3 → fm_same [32006, 32007, 36001, 37000] M M_j3 → ∀ (H : Heap) (locs : List Loc), fm_at D ad C nb M_j3 H → va_S (fm_A nb ad) s.heap H locs → ∀ (ls : Array Slot), lv_has ls 2 [(0, .ref (ad 32 0)), (1, .int 5)] → W p l e (headSpec wsX5_readOne ({ frames := 1, cells := 0, slots := 0, locals := 21 })).room s m ([.ref (ad 32 0), .int 5] : List Value).toArray below meth c H locs 0 0 (MQ below (va_Qv (fun (u : fm_M) => fm_I nb ad u ∧ fm_same [32006, 32007, 36001, 37000] M u ∧ True) (fun u t => fm_at D ad C nb u t.heap) (fm_A nb ad)) ([.ref (ad 32 0), .int 5] : List Value).toArray s 0 0 (fm_A nb ad)) (F0 m 160 ls []) := by
        intro  M_j3 hI hE H locs hw hS ls hl
        refine lv_aload_n hx hb dX5_readOne_160 rfl (lv_at hl 0 rfl) ?_
        refine fm_cv (va_runV (As := []) (rest := []) ⟨hx, hb, hml, hown, hts⟩ (fc_X5_fail l D ad C nb M_j3 hI) (cwV 0 hts gX5_readOne_X5_fail rfl rfl rfl (by decide +kernel) ⟨Nat.le_of_ble_eq_true rfl, Nat.le_of_ble_eq_true rfl⟩) (fm_preV hc hw hS kl_32 sh_32 rfl) rfl rfl hl.1 rfl (lv_room (Nat.le_of_ble_eq_true rfl)) dX5_readOne_161 ⟨by decide +kernel, by decide +kernel⟩) hS hc (fun M2 H locs hr1 hw hS => ?_)
        obtain ⟨hI, hEM2, hr1⟩ := hr1
        have hE := hE.tr hEM2 (by decide)
        exact W.vret hx hb hr (fun t ht hW => ⟨⟨M2, rfl, ⟨hI, hE, trivial⟩, by show fm_at D ad C nb _ t.heap; rw [ht]; exact hw⟩, hS.F ht⟩) hS.2.2 dX5_readOne_164
      refine lv_aload_n hx hb dX5_readOne_126 rfl (lv_at hl 0 rfl) ?_
      refine lv_bipush (v := 40) hx hb dX5_readOne_127 (by decide) ?_
      have zz3 := zk_40
      refine vp_callSi (va_Run.run (va_runV (As := [.int 40]) (rest := []) ⟨hx, hb, hml, hown, hts⟩ (fc_X5_sees l D ad C nb M_j2 hI 40) (cwV 1 hts gX5_readOne_X5_sees rfl rfl rfl (by decide +kernel) ⟨Nat.le_of_ble_eq_true rfl, Nat.le_of_ble_eq_true rfl⟩) (fm_preV hc hw hS kl_32 sh_32 rfl) rfl rfl hl.1 rfl (lv_room (Nat.le_of_ble_eq_true rfl)) dX5_readOne_129 ⟨by decide +kernel, by decide +kernel⟩)) (fun r4 hr4 => ?_)
      have bqq5 := hI.bd (k := 0) bd_32_6
      have bqq6 := hI.bd (k := 0) bd_32_7
      rcases hr4 with ⟨rfl, c7⟩ | ⟨rfl, c7⟩
      · refine fx_if_eq (tgt := 160) hx hb dX5_readOne_132 (by decide) zk_1 (fun c8 => by exfalso; omega) (fun c8 => ?_)
        refine lv_iload_n hx hb dX5_readOne_135 rfl (lv_at hl 1 rfl) ?_
        refine lv_iconst (v := 5) hx hb dX5_readOne_136 (by decide) ?_
        refine fx_icmp_ge (tgt := 160) hx hb dX5_readOne_137 (by decide) zk_5 zk_5 (fun c9 => ?_) (fun c9 => by exfalso; omega)
        exact j3 M_j2 hI hE _ _ hw hS ls (lv_sub hl [0, 1] rfl)
      · refine fx_if_eq (tgt := 160) hx hb dX5_readOne_132 (by decide) zk_0 (fun c10 => ?_) (fun c10 => by exfalso; omega)
        exact j3 M_j2 hI hE _ _ hw hS ls (lv_sub hl [0, 1] rfl)
    refine lv_aload_n hx hb dX5_readOne_89 rfl (lv_at hl 0 rfl) ?_
    refine lv_bipush (v := 45) hx hb dX5_readOne_90 (by decide) ?_
    have zz11 := zk_45
    refine vp_callSi (va_Run.run (va_runV (As := [.int 45]) (rest := []) ⟨hx, hb, hml, hown, hts⟩ (fc_X5_sees l D ad C nb M_j1 hI 45) (cwV 1 hts gX5_readOne_X5_sees rfl rfl rfl (by decide +kernel) ⟨Nat.le_of_ble_eq_true rfl, Nat.le_of_ble_eq_true rfl⟩) (fm_preV hc hw hS kl_32 sh_32 rfl) rfl rfl hl.1 rfl (lv_room (Nat.le_of_ble_eq_true rfl)) dX5_readOne_92 ⟨by decide +kernel, by decide +kernel⟩)) (fun r12 hr12 => ?_)
    have bqq13 := hI.bd (k := 0) bd_32_6
    have bqq14 := hI.bd (k := 0) bd_32_7
    rcases hr12 with ⟨rfl, c15⟩ | ⟨rfl, c15⟩
    · refine fx_if_eq (tgt := 126) hx hb dX5_readOne_95 (by decide) zk_1 (fun c16 => by exfalso; omega) (fun c16 => ?_)
      refine lv_iload_n hx hb dX5_readOne_98 rfl (lv_at hl 1 rfl) ?_
      refine lv_iconst (v := 5) hx hb dX5_readOne_99 (by decide) ?_
      refine fx_icmp_ge (tgt := 126) hx hb dX5_readOne_100 (by decide) zk_5 zk_5 (fun c17 => ?_) (fun c17 => by exfalso; omega)
      exact j2 M_j1 hI hE _ _ hw hS ls (lv_sub hl [0, 1] rfl)
    · refine fx_if_eq (tgt := 126) hx hb dX5_readOne_95 (by decide) zk_0 (fun c18 => ?_) (fun c18 => by exfalso; omega)
      exact j2 M_j1 hI hE _ _ hw hS ls (lv_sub hl [0, 1] rfl)
  refine lv_aload_n hx hb dX5_readOne_0 rfl (lv_at hl 0 rfl) ?_
  refine lv_bipush (v := 12) hx hb dX5_readOne_1 (by decide) ?_
  have zz19 := zk_12
  refine vp_callSi (va_Run.run (va_runV (As := [.int 12]) (rest := []) ⟨hx, hb, hml, hown, hts⟩ (fc_X5_sees l D ad C nb M hI 12) (cwV 1 hts gX5_readOne_X5_sees rfl rfl rfl (by decide +kernel) ⟨Nat.le_of_ble_eq_true rfl, Nat.le_of_ble_eq_true rfl⟩) (fm_preV hc hw hS kl_32 sh_32 rfl) rfl rfl hl.1 rfl (lv_room (Nat.le_of_ble_eq_true rfl)) dX5_readOne_3 ⟨by decide +kernel, by decide +kernel⟩)) (fun r20 hr20 => ?_)
  have bqq21 := hI.bd (k := 0) bd_32_6
  have bqq22 := hI.bd (k := 0) bd_32_7
  rcases hr20 with ⟨rfl, c23⟩ | ⟨rfl, c23⟩
  · refine fx_if_eq (tgt := 32) hx hb dX5_readOne_6 (by decide) zk_1 (fun c24 => by exfalso; omega) (fun c24 => ?_)
    refine lv_aload_n hx hb dX5_readOne_9 rfl (lv_at hl 0 rfl) ?_
    refine fm_getG (a := 32) (j := 5) (T := TX5) (N := 8) hx hb hts hinX5 hown hc hw kl_32 sh_32 rfl (by decide) rfl (hI.to kl_32 tg_32_5) (hts (.fieldLink RX5 27 "RedTent$Reader" "made" "LRedTent$Text;") (List.mem_cons_of_mem _ tw_1_203)) (fun _ h9 => h9) dX5_readOne_10 ?_
    refine lv_aload_n hx hb dX5_readOne_13 rfl (lv_at hl 0 rfl) ?_
    refine fm_getG (a := 32) (j := 4) (T := TX5) (N := 8) hx hb hts hinX5 hown hc hw kl_32 sh_32 rfl (by decide) rfl (hI.to kl_32 tg_32_4) (hts (.fieldLink RX5 21 "RedTent$Reader" "numbers" "[I") (List.mem_cons_of_mem _ tw_1_202)) (fun _ h9 => h9) dX5_readOne_14 ?_
    refine lv_aload_n hx hb dX5_readOne_17 rfl (lv_at hl 0 rfl) ?_
    refine fm_getI (a := 32) (j := 6) (T := TX5) (N := 8) hx hb hts hinX5 hown hc hw hI kl_32 sh_32 rfl (by decide) rfl bd_32_6 (hts (.fieldLink RX5 47 "RedTent$Reader" "at" "I") (List.mem_cons_of_mem _ tw_1_205)) (fun _ h9 => h9) dX5_readOne_18 (fun x25 ex25 bx25 => ?_)
    refine fm_iald (a := 35) hx hb hc hw hI kl_35 sh_35 ty_35 bd_35 (by omega) dX5_readOne_21 (fun x26 ex26 bx26 => ?_)
    refine fm_cv (va_runV (As := [.int x26]) (rest := []) ⟨hx, hb, hml, hown, hts⟩ (fc_X9_addStep l D ad C nb M hI x26) (cwV 1 hts gX5_readOne_X9_addStep rfl rfl rfl (by decide +kernel) ⟨Nat.le_of_ble_eq_true rfl, Nat.le_of_ble_eq_true rfl⟩) (fm_preV hc hw hS kl_36 sh_36 rfl) rfl rfl hl.1 rfl (lv_room (Nat.le_of_ble_eq_true rfl)) dX5_readOne_22 ⟨by decide +kernel, by decide +kernel⟩) hS hc (fun M28 H locs hr27 hw hS => ?_)
    obtain ⟨hI, hEM28, hr27⟩ := hr27
    have hE := hE.tr hEM28 (by decide)
    refine lv_aload_n hx hb dX5_readOne_25 rfl (lv_at hl 0 rfl) ?_
    refine fm_cv (va_runV (As := []) (rest := []) ⟨hx, hb, hml, hown, hts⟩ (fc_X5_advance l D ad C nb M28 hI) (cwV 0 hts gX5_readOne_X5_advance rfl rfl rfl (by decide +kernel) ⟨Nat.le_of_ble_eq_true rfl, Nat.le_of_ble_eq_true rfl⟩) (fm_preV hc hw hS kl_32 sh_32 rfl) rfl rfl hl.1 rfl (lv_room (Nat.le_of_ble_eq_true rfl)) dX5_readOne_26 ⟨by decide +kernel, by decide +kernel⟩) hS hc (fun M30 H locs hr29 hw hS => ?_)
    obtain ⟨hI, hEM30, hr29⟩ := hr29
    have hE := hE.tr hEM30 (by decide)
    refine lv_goto (tgt := 164) hx hb dX5_readOne_29 (by decide) ?_
    exact W.vret hx hb hr (fun t ht hW => ⟨⟨M30, rfl, ⟨hI, hE, trivial⟩, by show fm_at D ad C nb _ t.heap; rw [ht]; exact hw⟩, hS.F ht⟩) hS.2.2 dX5_readOne_164
  · refine fx_if_eq (tgt := 32) hx hb dX5_readOne_6 (by decide) zk_0 (fun c31 => ?_) (fun c31 => by exfalso; omega)
    refine lv_aload_n hx hb dX5_readOne_32 rfl (lv_at hl 0 rfl) ?_
    refine fm_getI (a := 32) (j := 7) (T := TX5) (N := 8) hx hb hts hinX5 hown hc hw hI kl_32 sh_32 rfl (by decide) rfl bd_32_7 (hts (.fieldLink RX5 50 "RedTent$Reader" "fault" "I") (List.mem_cons_of_mem _ tw_1_206)) (fun _ h9 => h9) dX5_readOne_33 (fun x32 ex32 bx32 => ?_)
    refine fx_if_ge (tgt := 89) hx hb dX5_readOne_36 (by decide) rfl (fun c33 => ?_) (fun c33 => ?_)
    · exact j1 M hI hE _ _ hw hS ls (lv_sub hl [0, 1] rfl)
    · refine lv_aload_n hx hb dX5_readOne_39 rfl (lv_at hl 0 rfl) ?_
      refine fm_getG (a := 32) (j := 2) (T := TX5) (N := 8) hx hb hts hinX5 hown hc hw kl_32 sh_32 rfl (by decide) rfl (hI.to kl_32 tg_32_2) (hts (.fieldLink RX5 15 "RedTent$Reader" "tokens" "[I") (List.mem_cons_of_mem _ tw_1_200)) (fun _ h9 => h9) dX5_readOne_40 ?_
      refine lv_aload_n hx hb dX5_readOne_43 rfl (lv_at hl 0 rfl) ?_
      refine fm_getI (a := 32) (j := 6) (T := TX5) (N := 8) hx hb hts hinX5 hown hc hw hI kl_32 sh_32 rfl (by decide) rfl bd_32_6 (hts (.fieldLink RX5 47 "RedTent$Reader" "at" "I") (List.mem_cons_of_mem _ tw_1_205)) (fun _ h9 => h9) dX5_readOne_44 (fun x34 ex34 bx34 => ?_)
      refine fm_iald (a := 33) hx hb hc hw hI kl_33 sh_33 ty_33 bd_33 (by omega) dX5_readOne_47 (fun x35 ex35 bx35 => ?_)
      refine fx_if_le (tgt := 89) hx hb dX5_readOne_48 (by decide) rfl (fun c36 => ?_) (fun c36 => ?_)
      · exact j1 M hI hE _ _ hw hS ls (lv_sub hl [0, 1] rfl)
      · refine lv_aload_n hx hb dX5_readOne_51 rfl (lv_at hl 0 rfl) ?_
        refine fm_getG (a := 32) (j := 2) (T := TX5) (N := 8) hx hb hts hinX5 hown hc hw kl_32 sh_32 rfl (by decide) rfl (hI.to kl_32 tg_32_2) (hts (.fieldLink RX5 15 "RedTent$Reader" "tokens" "[I") (List.mem_cons_of_mem _ tw_1_200)) (fun _ h9 => h9) dX5_readOne_52 ?_
        refine lv_aload_n hx hb dX5_readOne_55 rfl (lv_at hl 0 rfl) ?_
        refine fm_getI (a := 32) (j := 6) (T := TX5) (N := 8) hx hb hts hinX5 hown hc hw hI kl_32 sh_32 rfl (by decide) rfl bd_32_6 (hts (.fieldLink RX5 47 "RedTent$Reader" "at" "I") (List.mem_cons_of_mem _ tw_1_205)) (fun _ h9 => h9) dX5_readOne_56 (fun x37 ex37 bx37 => ?_)
        obtain rfl : x34 = x37 := by rw [ex37]; exact ex34
        refine fm_iald (a := 33) hx hb hc hw hI kl_33 sh_33 ty_33 bd_33 (by omega) dX5_readOne_59 (fun x38 ex38 bx38 => ?_)
        obtain rfl : x35 = x38 := by rw [ex38]; exact ex35
        refine lv_bipush (v := 6) hx hb dX5_readOne_60 (by decide) ?_
        refine fx_icmp_gt (tgt := 89) hx hb dX5_readOne_62 (by decide) rfl zk_6 (fun c39 => ?_) (fun c39 => ?_)
        · exact j1 M hI hE _ _ hw hS ls (lv_sub hl [0, 1] rfl)
        · refine lv_aload_n hx hb dX5_readOne_65 rfl (lv_at hl 0 rfl) ?_
          refine fm_getG (a := 32) (j := 5) (T := TX5) (N := 8) hx hb hts hinX5 hown hc hw kl_32 sh_32 rfl (by decide) rfl (hI.to kl_32 tg_32_5) (hts (.fieldLink RX5 27 "RedTent$Reader" "made" "LRedTent$Text;") (List.mem_cons_of_mem _ tw_1_203)) (fun _ h9 => h9) dX5_readOne_66 ?_
          refine lv_aload_n hx hb dX5_readOne_69 rfl (lv_at hl 0 rfl) ?_
          refine fm_getG (a := 32) (j := 2) (T := TX5) (N := 8) hx hb hts hinX5 hown hc hw kl_32 sh_32 rfl (by decide) rfl (hI.to kl_32 tg_32_2) (hts (.fieldLink RX5 15 "RedTent$Reader" "tokens" "[I") (List.mem_cons_of_mem _ tw_1_200)) (fun _ h9 => h9) dX5_readOne_70 ?_
          refine lv_aload_n hx hb dX5_readOne_73 rfl (lv_at hl 0 rfl) ?_
          refine fm_getI (a := 32) (j := 6) (T := TX5) (N := 8) hx hb hts hinX5 hown hc hw hI kl_32 sh_32 rfl (by decide) rfl bd_32_6 (hts (.fieldLink RX5 47 "RedTent$Reader" "at" "I") (List.mem_cons_of_mem _ tw_1_205)) (fun _ h9 => h9) dX5_readOne_74 (fun x40 ex40 bx40 => ?_)
          obtain rfl : x34 = x40 := by rw [ex40]; exact ex34
          refine fm_iald (a := 33) hx hb hc hw hI kl_33 sh_33 ty_33 bd_33 (by omega) dX5_readOne_77 (fun x41 ex41 bx41 => ?_)
          obtain rfl : x35 = x41 := by rw [ex41]; exact ex35
          refine fx_ineg hx hb dX5_readOne_78 rfl (by omega) (fun y42 ey42 ty42 => ?_)
          refine fm_cv (va_runV (As := [.int y42]) (rest := []) ⟨hx, hb, hml, hown, hts⟩ (fc_X9_addStep l D ad C nb M hI y42) (cwV 1 hts gX5_readOne_X9_addStep rfl rfl rfl (by decide +kernel) ⟨Nat.le_of_ble_eq_true rfl, Nat.le_of_ble_eq_true rfl⟩) (fm_preV hc hw hS kl_36 sh_36 rfl) rfl rfl hl.1 rfl (lv_room (Nat.le_of_ble_eq_true rfl)) dX5_readOne_79 ⟨by decide +kernel, by decide +kernel⟩) hS hc (fun M44 H locs hr43 hw hS => ?_)
          obtain ⟨hI, hEM44, hr43⟩ := hr43
          have hE := hE.tr hEM44 (by decide)
          refine lv_aload_n hx hb dX5_readOne_82 rfl (lv_at hl 0 rfl) ?_
          refine fm_cv (va_runV (As := []) (rest := []) ⟨hx, hb, hml, hown, hts⟩ (fc_X5_advance l D ad C nb M44 hI) (cwV 0 hts gX5_readOne_X5_advance rfl rfl rfl (by decide +kernel) ⟨Nat.le_of_ble_eq_true rfl, Nat.le_of_ble_eq_true rfl⟩) (fm_preV hc hw hS kl_32 sh_32 rfl) rfl rfl hl.1 rfl (lv_room (Nat.le_of_ble_eq_true rfl)) dX5_readOne_83 ⟨by decide +kernel, by decide +kernel⟩) hS hc (fun M46 H locs hr45 hw hS => ?_)
          obtain ⟨hI, hEM46, hr45⟩ := hr45
          have hE := hE.tr hEM46 (by decide)
          refine lv_goto (tgt := 164) hx hb dX5_readOne_86 (by decide) ?_
          exact W.vret hx hb hr (fun t ht hW => ⟨⟨M46, rfl, ⟨hI, hE, trivial⟩, by show fm_at D ad C nb _ t.heap; rw [ht]; exact hw⟩, hS.F ht⟩) hS.2.2 dX5_readOne_164
set_option maxHeartbeats 400000 in
set_option maxRecDepth 20000 in
theorem fc_X5_readTerm_5 (l : Launch) (D : va_G) (ad : Nat → Nat → Nat) (C : Nat → Nat → ClassId) (nb : Nat) (M : fm_M) (hI : fm_I nb ad M) : Met l yX5_readTerm wsX5_readTerm ({ frames := 2, cells := 0, slots := 0, locals := 42 }) (va_Pc [.ref (ad 32 0), .int 5] (fm_P D ad C nb M)) (va_Qv (fun (u : fm_M) => fm_I nb ad u ∧ fm_same [32006, 32007, 36001, 37000] M u ∧ True) (fun u t => fm_at D ad C nb u t.heap) (fm_A nb ad)) 0 0 (fm_A nb ad) := by
  refine Met.ofW (cc := cX5_readTerm) (maxL := 3) (ret := none) (by decide) rfl ?_
  intro p e s m args below meth c s₁ B hml hv
  obtain ⟨rfl, hw, hc⟩ := hv
  have hx := B.exec
  have hb := B.bytes
  have hr := B.returns
  have hts := atoms_spec (ws := wsX5_readTerm) B.pre
  have hown : s.vm.findClass RX5 = some m.cls := findClass_of_methodNamed B.named
  have hinX5 : ∀ w ∈ u_ws RX5 TX5 8, w ∈ wsX5_readTerm := fun w h => List.mem_cons_of_mem _ (iT_X5 w h)
  have hS : va_S (fm_A nb ad) s.heap s.heap [] := va_S.rf
  have hE : fm_same [32006, 32007, 36001, 37000] M M := fm_same.rf
  have hl := lv_entry ([.ref (ad 32 0), .int 5]) (n := 3) (Nat.le_of_ble_eq_true rfl)
  rw [lg_entry_eq]
  generalize (lg_sl ([.ref (ad 32 0), .int 5]) ++ List.replicate (3 - (lg_sl ([.ref (ad 32 0), .int 5])).length) Slot.unset).toArray = ls at hl ⊢
  have hl : lv_has ls 3 [(0, .ref (ad 32 0)), (1, .int 5)] := hl
  refine lv_aload_n hx hb dX5_readTerm_0 rfl (lv_at hl 0 rfl) ?_
  refine lv_iload_n hx hb dX5_readTerm_1 rfl (lv_at hl 1 rfl) ?_
  refine fm_cv (va_runV (As := [.int 5]) (rest := []) ⟨hx, hb, hml, hown, hts⟩ (fc_X5_readOne_5 l D ad C nb M hI) (cwV 1 hts gX5_readTerm_X5_readOne rfl rfl rfl (by decide +kernel) ⟨Nat.le_of_ble_eq_true rfl, Nat.le_of_ble_eq_true rfl⟩) (fm_preV hc hw hS kl_32 sh_32 rfl) rfl rfl hl.1 rfl (lv_room (Nat.le_of_ble_eq_true rfl)) dX5_readTerm_2 ⟨by decide +kernel, by decide +kernel⟩) hS hc (fun M2 H locs hr1 hw hS => ?_)
  obtain ⟨hI, hEM2, hr1⟩ := hr1
  have hE := hE.tr hEM2 (by decide)
  refine lv_iconst (v := 0) hx hb dX5_readTerm_5 (by decide) ?_
  refine lv_istore_n (lv' := [(2, .int 0), (0, .ref (ad 32 0)), (1, .int 5)]) hx hb dX5_readTerm_6 rfl hl (by decide) rfl (fun ls hl => ?_)
  have lp : ∀ (n_lp : Nat) (lp_2 : Int32) (M_lp : fm_M), (160 - lp_2.toInt).toNat < n_lp → (0 ≤ lp_2.toInt ∧ lp_2.toInt ≤ 160) → fm_I nb ad M_lp → fm_same [32006, 32007, 36001, 37000] M M_lp → ∀ (H : Heap) (locs : List Loc), fm_at D ad C nb M_lp H → va_S (fm_A nb ad) s.heap H locs → ∀ (ls : Array Slot), lv_has ls 3 [(2, .int lp_2), (0, .ref (ad 32 0)), (1, .int 5)] → W p l e (headSpec wsX5_readTerm ({ frames := 2, cells := 0, slots := 0, locals := 42 })).room s m ([.ref (ad 32 0), .int 5] : List Value).toArray below meth c H locs 0 0 (MQ below (va_Qv (fun (u : fm_M) => fm_I nb ad u ∧ fm_same [32006, 32007, 36001, 37000] M u ∧ True) (fun u t => fm_at D ad C nb u t.heap) (fm_A nb ad)) ([.ref (ad 32 0), .int 5] : List Value).toArray s 0 0 (fm_A nb ad)) (F0 m 7 ls []) := by
    intro n_lp
    induction n_lp with
    | zero => intro lp_2 M_lp hm_lp b_lp_2 hI hE H locs hw hS ls hl; exact absurd hm_lp (Nat.not_lt_zero _)
    | succ n_lp ih_lp =>
      intro lp_2 M_lp hm_lp b_lp_2 hI hE H locs hw hS ls hl
      refine lv_iload_n hx hb dX5_readTerm_7 rfl (lv_at hl 0 rfl) ?_
      refine lv_sipush (v := 160) hx hb dX5_readTerm_8 (by decide) ?_
      refine fx_icmp_ge (tgt := 47) hx hb dX5_readTerm_11 (by decide) rfl zk_160 (fun c3 => ?_) (fun c3 => ?_)
      · exact W.vret hx hb hr (fun t ht hW => ⟨⟨M_lp, rfl, ⟨hI, hE, trivial⟩, by show fm_at D ad C nb _ t.heap; rw [ht]; exact hw⟩, hS.F ht⟩) hS.2.2 dX5_readTerm_47
      · refine lv_aload_n hx hb dX5_readTerm_14 rfl (lv_at hl 1 rfl) ?_
        refine lv_bipush (v := 42) hx hb dX5_readTerm_15 (by decide) ?_
        have zz4 := zk_42
        refine vp_callSi (va_Run.run (va_runV (As := [.int 42]) (rest := []) ⟨hx, hb, hml, hown, hts⟩ (fc_X5_sees l D ad C nb M_lp hI 42) (cwV 1 hts gX5_readTerm_X5_sees rfl rfl rfl (by decide +kernel) ⟨Nat.le_of_ble_eq_true rfl, Nat.le_of_ble_eq_true rfl⟩) (fm_preV hc hw hS kl_32 sh_32 rfl) rfl rfl hl.1 rfl (lv_room (Nat.le_of_ble_eq_true rfl)) dX5_readTerm_17 ⟨by decide +kernel, by decide +kernel⟩)) (fun r5 hr5 => ?_)
        have bqq6 := hI.bd (k := 0) bd_32_6
        have bqq7 := hI.bd (k := 0) bd_32_7
        rcases hr5 with ⟨rfl, c8⟩ | ⟨rfl, c8⟩
        · refine fx_if_eq (tgt := 47) hx hb dX5_readTerm_20 (by decide) zk_1 (fun c9 => by exfalso; omega) (fun c9 => ?_)
          refine lv_aload_n hx hb dX5_readTerm_23 rfl (lv_at hl 1 rfl) ?_
          refine fm_cv (va_runV (As := []) (rest := []) ⟨hx, hb, hml, hown, hts⟩ (fc_X5_advance l D ad C nb M_lp hI) (cwV 0 hts gX5_readTerm_X5_advance rfl rfl rfl (by decide +kernel) ⟨Nat.le_of_ble_eq_true rfl, Nat.le_of_ble_eq_true rfl⟩) (fm_preV hc hw hS kl_32 sh_32 rfl) rfl rfl hl.1 rfl (lv_room (Nat.le_of_ble_eq_true rfl)) dX5_readTerm_24 ⟨by decide +kernel, by decide +kernel⟩) hS hc (fun M11 H locs hr10 hw hS => ?_)
          obtain ⟨hI, hEM11, hr10⟩ := hr10
          have hE := hE.tr hEM11 (by decide)
          refine lv_aload_n hx hb dX5_readTerm_27 rfl (lv_at hl 1 rfl) ?_
          refine lv_iload_n hx hb dX5_readTerm_28 rfl (lv_at hl 2 rfl) ?_
          refine fm_cv (va_runV (As := [.int 5]) (rest := []) ⟨hx, hb, hml, hown, hts⟩ (fc_X5_readOne_5 l D ad C nb M11 hI) (cwV 1 hts gX5_readTerm_X5_readOne rfl rfl rfl (by decide +kernel) ⟨Nat.le_of_ble_eq_true rfl, Nat.le_of_ble_eq_true rfl⟩) (fm_preV hc hw hS kl_32 sh_32 rfl) rfl rfl hl.1 rfl (lv_room (Nat.le_of_ble_eq_true rfl)) dX5_readTerm_29 ⟨by decide +kernel, by decide +kernel⟩) hS hc (fun M13 H locs hr12 hw hS => ?_)
          obtain ⟨hI, hEM13, hr12⟩ := hr12
          have hE := hE.tr hEM13 (by decide)
          refine lv_aload_n hx hb dX5_readTerm_32 rfl (lv_at hl 1 rfl) ?_
          refine fm_getG (a := 32) (j := 5) (T := TX5) (N := 8) hx hb hts hinX5 hown hc hw kl_32 sh_32 rfl (by decide) rfl (hI.to kl_32 tg_32_5) (hts (.fieldLink RX5 27 "RedTent$Reader" "made" "LRedTent$Text;") (List.mem_cons_of_mem _ tw_1_203)) (fun _ h9 => h9) dX5_readTerm_33 ?_
          refine lv_bipush (v := (-18)) hx hb dX5_readTerm_36 (by decide) ?_
          refine fm_cv (va_runV (As := [.int (-18)]) (rest := []) ⟨hx, hb, hml, hown, hts⟩ (fc_X9_addStep l D ad C nb M13 hI (-18)) (cwV 1 hts gX5_readTerm_X9_addStep rfl rfl rfl (by decide +kernel) ⟨Nat.le_of_ble_eq_true rfl, Nat.le_of_ble_eq_true rfl⟩) (fm_preV hc hw hS kl_36 sh_36 rfl) rfl rfl hl.1 rfl (lv_room (Nat.le_of_ble_eq_true rfl)) dX5_readTerm_38 ⟨by decide +kernel, by decide +kernel⟩) hS hc (fun M15 H locs hr14 hw hS => ?_)
          obtain ⟨hI, hEM15, hr14⟩ := hr14
          have hE := hE.tr hEM15 (by decide)
          obtain ⟨y16, ey16⟩ : ∃ y : Int32, y = lp_2 + 1 := ⟨_, rfl⟩
          have ty16 : y16.toInt = lp_2.toInt + 1 := by rw [ey16, zi_add _ _ (by rw [zk_1]; omega) (by rw [zk_1]; omega), zk_1]
          refine lv_iinc (v := y16) (lv' := [(2, .int y16), (0, .ref (ad 32 0)), (1, .int 5)]) hx hb dX5_readTerm_41 hl (k := 0) rfl (by rw [ey16]; rfl) (by decide) rfl (fun ls hl => ?_)
          refine lv_goto (tgt := 7) hx hb dX5_readTerm_44 (by decide) ?_
          exact ih_lp y16 M15 (by omega) (by omega) hI hE _ _ hw hS ls (lv_sub hl [0, 1, 2] rfl)
        · refine fx_if_eq (tgt := 47) hx hb dX5_readTerm_20 (by decide) zk_0 (fun c17 => ?_) (fun c17 => by exfalso; omega)
          exact W.vret hx hb hr (fun t ht hW => ⟨⟨M_lp, rfl, ⟨hI, hE, trivial⟩, by show fm_at D ad C nb _ t.heap; rw [ht]; exact hw⟩, hS.F ht⟩) hS.2.2 dX5_readTerm_47
  exact lp _ 0 M2 (Nat.lt_succ_self _) (by decide) hI hE _ _ hw hS ls (lv_sub hl [0, 1, 2] rfl)
set_option maxHeartbeats 400000 in
set_option maxRecDepth 20000 in
theorem fc_X5_readSum_5 (l : Launch) (D : va_G) (ad : Nat → Nat → Nat) (C : Nat → Nat → ClassId) (nb : Nat) (M : fm_M) (hI : fm_I nb ad M) : Met l yX5_readSum wsX5_readSum ({ frames := 3, cells := 0, slots := 0, locals := 64 }) (va_Pc [.ref (ad 32 0), .int 5] (fm_P D ad C nb M)) (va_Qv (fun (u : fm_M) => fm_I nb ad u ∧ fm_same [32006, 32007, 36001, 37000] M u ∧ True) (fun u t => fm_at D ad C nb u t.heap) (fm_A nb ad)) 0 0 (fm_A nb ad) := by
  refine Met.ofW (cc := cX5_readSum) (maxL := 4) (ret := none) (by decide) rfl ?_
  intro p e s m args below meth c s₁ B hml hv
  obtain ⟨rfl, hw, hc⟩ := hv
  have hx := B.exec
  have hb := B.bytes
  have hr := B.returns
  have hts := atoms_spec (ws := wsX5_readSum) B.pre
  have hown : s.vm.findClass RX5 = some m.cls := findClass_of_methodNamed B.named
  have hinX5 : ∀ w ∈ u_ws RX5 TX5 8, w ∈ wsX5_readSum := fun w h => List.mem_cons_of_mem _ (iT_X5 w h)
  have hS : va_S (fm_A nb ad) s.heap s.heap [] := va_S.rf
  have hE : fm_same [32006, 32007, 36001, 37000] M M := fm_same.rf
  have hl := lv_entry ([.ref (ad 32 0), .int 5]) (n := 4) (Nat.le_of_ble_eq_true rfl)
  rw [lg_entry_eq]
  generalize (lg_sl ([.ref (ad 32 0), .int 5]) ++ List.replicate (4 - (lg_sl ([.ref (ad 32 0), .int 5])).length) Slot.unset).toArray = ls at hl ⊢
  have hl : lv_has ls 4 [(0, .ref (ad 32 0)), (1, .int 5)] := hl
  refine lv_aload_n hx hb dX5_readSum_0 rfl (lv_at hl 0 rfl) ?_
  refine lv_iload_n hx hb dX5_readSum_1 rfl (lv_at hl 1 rfl) ?_
  refine fm_cv (va_runV (As := [.int 5]) (rest := []) ⟨hx, hb, hml, hown, hts⟩ (fc_X5_readTerm_5 l D ad C nb M hI) (cwV 1 hts gX5_readSum_X5_readTerm rfl rfl rfl (by decide +kernel) ⟨Nat.le_of_ble_eq_true rfl, Nat.le_of_ble_eq_true rfl⟩) (fm_preV hc hw hS kl_32 sh_32 rfl) rfl rfl hl.1 rfl (lv_room (Nat.le_of_ble_eq_true rfl)) dX5_readSum_2 ⟨by decide +kernel, by decide +kernel⟩) hS hc (fun M2 H locs hr1 hw hS => ?_)
  obtain ⟨hI, hEM2, hr1⟩ := hr1
  have hE := hE.tr hEM2 (by decide)
  refine lv_iconst (v := 0) hx hb dX5_readSum_5 (by decide) ?_
  refine lv_istore_n (lv' := [(2, .int 0), (0, .ref (ad 32 0)), (1, .int 5)]) hx hb dX5_readSum_6 rfl hl (by decide) rfl (fun ls hl => ?_)
  have lp : ∀ (n_lp : Nat) (lp_2 : Int32) (M_lp : fm_M), (160 - lp_2.toInt).toNat < n_lp → (0 ≤ lp_2.toInt ∧ lp_2.toInt ≤ 160) → fm_I nb ad M_lp → fm_same [32006, 32007, 36001, 37000] M M_lp → ∀ (H : Heap) (locs : List Loc), fm_at D ad C nb M_lp H → va_S (fm_A nb ad) s.heap H locs → ∀ (ls : Array Slot), lv_has ls 4 [(2, .int lp_2), (0, .ref (ad 32 0)), (1, .int 5)] → W p l e (headSpec wsX5_readSum ({ frames := 3, cells := 0, slots := 0, locals := 64 })).room s m ([.ref (ad 32 0), .int 5] : List Value).toArray below meth c H locs 0 0 (MQ below (va_Qv (fun (u : fm_M) => fm_I nb ad u ∧ fm_same [32006, 32007, 36001, 37000] M u ∧ True) (fun u t => fm_at D ad C nb u t.heap) (fm_A nb ad)) ([.ref (ad 32 0), .int 5] : List Value).toArray s 0 0 (fm_A nb ad)) (F0 m 7 ls []) := by
    intro n_lp
    induction n_lp with
    | zero => intro lp_2 M_lp hm_lp b_lp_2 hI hE H locs hw hS ls hl; exact absurd hm_lp (Nat.not_lt_zero _)
    | succ n_lp ih_lp =>
      intro lp_2 M_lp hm_lp b_lp_2 hI hE H locs hw hS ls hl
      refine lv_iload_n hx hb dX5_readSum_7 rfl (lv_at hl 0 rfl) ?_
      refine lv_sipush (v := 160) hx hb dX5_readSum_8 (by decide) ?_
      refine fx_icmp_ge (tgt := 72) hx hb dX5_readSum_11 (by decide) rfl zk_160 (fun c3 => ?_) (fun c3 => ?_)
      · exact W.vret hx hb hr (fun t ht hW => ⟨⟨M_lp, rfl, ⟨hI, hE, trivial⟩, by show fm_at D ad C nb _ t.heap; rw [ht]; exact hw⟩, hS.F ht⟩) hS.2.2 dX5_readSum_72
      · have j1 : ∀  (M_j1 : fm_M), fm_I nb ad M_j1 → fm_same [32006, 32007, 36001, 37000] M M_j1 → ∀ (H : Heap) (locs : List Loc), fm_at D ad C nb M_j1 H → va_S (fm_A nb ad) s.heap H locs → ∀ (ls : Array Slot), lv_has ls 4 [(2, .int lp_2), (0, .ref (ad 32 0)), (1, .int 5)] → W p l e (headSpec wsX5_readSum ({ frames := 3, cells := 0, slots := 0, locals := 64 })).room s m ([.ref (ad 32 0), .int 5] : List Value).toArray below meth c H locs 0 0 (MQ below (va_Qv (fun (u : fm_M) => fm_I nb ad u ∧ fm_same [32006, 32007, 36001, 37000] M u ∧ True) (fun u t => fm_at D ad C nb u t.heap) (fm_A nb ad)) ([.ref (ad 32 0), .int 5] : List Value).toArray s 0 0 (fm_A nb ad)) (F0 m 32 ls []) := by
          intro  M_j1 hI hE H locs hw hS ls hl
          have j2 : ∀ (j2_3 : Int32) (M_j2 : fm_M), ((-17) ≤ j2_3.toInt ∧ j2_3.toInt ≤ (-16)) → fm_I nb ad M_j2 → fm_same [32006, 32007, 36001, 37000] M M_j2 → ∀ (H : Heap) (locs : List Loc), fm_at D ad C nb M_j2 H → va_S (fm_A nb ad) s.heap H locs → ∀ (ls : Array Slot), lv_has ls 4 [(2, .int lp_2), (0, .ref (ad 32 0)), (1, .int 5), (3, .int j2_3)] → W p l e (headSpec wsX5_readSum ({ frames := 3, cells := 0, slots := 0, locals := 64 })).room s m ([.ref (ad 32 0), .int 5] : List Value).toArray below meth c H locs 0 0 (MQ below (va_Qv (fun (u : fm_M) => fm_I nb ad u ∧ fm_same [32006, 32007, 36001, 37000] M u ∧ True) (fun u t => fm_at D ad C nb u t.heap) (fm_A nb ad)) ([.ref (ad 32 0), .int 5] : List Value).toArray s 0 0 (fm_A nb ad)) (F0 m 49 ls []) := by
            intro j2_3 M_j2 b_j2_3 hI hE H locs hw hS ls hl
            refine lv_aload_n hx hb dX5_readSum_49 rfl (lv_at hl 1 rfl) ?_
            refine fm_cv (va_runV (As := []) (rest := []) ⟨hx, hb, hml, hown, hts⟩ (fc_X5_advance l D ad C nb M_j2 hI) (cwV 0 hts gX5_readSum_X5_advance rfl rfl rfl (by decide +kernel) ⟨Nat.le_of_ble_eq_true rfl, Nat.le_of_ble_eq_true rfl⟩) (fm_preV hc hw hS kl_32 sh_32 rfl) rfl rfl hl.1 rfl (lv_room (Nat.le_of_ble_eq_true rfl)) dX5_readSum_50 ⟨by decide +kernel, by decide +kernel⟩) hS hc (fun M5 H locs hr4 hw hS => ?_)
            obtain ⟨hI, hEM5, hr4⟩ := hr4
            have hE := hE.tr hEM5 (by decide)
            refine lv_aload_n hx hb dX5_readSum_53 rfl (lv_at hl 1 rfl) ?_
            refine lv_iload_n hx hb dX5_readSum_54 rfl (lv_at hl 2 rfl) ?_
            refine fm_cv (va_runV (As := [.int 5]) (rest := []) ⟨hx, hb, hml, hown, hts⟩ (fc_X5_readTerm_5 l D ad C nb M5 hI) (cwV 1 hts gX5_readSum_X5_readTerm rfl rfl rfl (by decide +kernel) ⟨Nat.le_of_ble_eq_true rfl, Nat.le_of_ble_eq_true rfl⟩) (fm_preV hc hw hS kl_32 sh_32 rfl) rfl rfl hl.1 rfl (lv_room (Nat.le_of_ble_eq_true rfl)) dX5_readSum_55 ⟨by decide +kernel, by decide +kernel⟩) hS hc (fun M7 H locs hr6 hw hS => ?_)
            obtain ⟨hI, hEM7, hr6⟩ := hr6
            have hE := hE.tr hEM7 (by decide)
            refine lv_aload_n hx hb dX5_readSum_58 rfl (lv_at hl 1 rfl) ?_
            refine fm_getG (a := 32) (j := 5) (T := TX5) (N := 8) hx hb hts hinX5 hown hc hw kl_32 sh_32 rfl (by decide) rfl (hI.to kl_32 tg_32_5) (hts (.fieldLink RX5 27 "RedTent$Reader" "made" "LRedTent$Text;") (List.mem_cons_of_mem _ tw_1_203)) (fun _ h9 => h9) dX5_readSum_59 ?_
            refine lv_iload_n hx hb dX5_readSum_62 rfl (lv_at hl 3 rfl) ?_
            refine fm_cv (va_runV (As := [.int j2_3]) (rest := []) ⟨hx, hb, hml, hown, hts⟩ (fc_X9_addStep l D ad C nb M7 hI j2_3) (cwV 1 hts gX5_readSum_X9_addStep rfl rfl rfl (by decide +kernel) ⟨Nat.le_of_ble_eq_true rfl, Nat.le_of_ble_eq_true rfl⟩) (fm_preV hc hw hS kl_36 sh_36 rfl) rfl rfl hl.1 rfl (lv_room (Nat.le_of_ble_eq_true rfl)) dX5_readSum_63 ⟨by decide +kernel, by decide +kernel⟩) hS hc (fun M9 H locs hr8 hw hS => ?_)
            obtain ⟨hI, hEM9, hr8⟩ := hr8
            have hE := hE.tr hEM9 (by decide)
            obtain ⟨y10, ey10⟩ : ∃ y : Int32, y = lp_2 + 1 := ⟨_, rfl⟩
            have ty10 : y10.toInt = lp_2.toInt + 1 := by rw [ey10, zi_add _ _ (by rw [zk_1]; omega) (by rw [zk_1]; omega), zk_1]
            refine lv_iinc (v := y10) (lv' := [(2, .int y10), (0, .ref (ad 32 0)), (1, .int 5), (3, .int j2_3)]) hx hb dX5_readSum_66 hl (k := 0) rfl (by rw [ey10]; rfl) (by decide) rfl (fun ls hl => ?_)
            refine lv_goto (tgt := 7) hx hb dX5_readSum_69 (by decide) ?_
            exact ih_lp y10 M9 (by omega) (by omega) hI hE _ _ hw hS ls (lv_sub hl [0, 1, 2] rfl)
          refine lv_aload_n hx hb dX5_readSum_32 rfl (lv_at hl 1 rfl) ?_
          refine lv_bipush (v := 43) hx hb dX5_readSum_33 (by decide) ?_
          have zz11 := zk_43
          refine vp_callSi (va_Run.run (va_runV (As := [.int 43]) (rest := []) ⟨hx, hb, hml, hown, hts⟩ (fc_X5_sees l D ad C nb M_j1 hI 43) (cwV 1 hts gX5_readSum_X5_sees rfl rfl rfl (by decide +kernel) ⟨Nat.le_of_ble_eq_true rfl, Nat.le_of_ble_eq_true rfl⟩) (fm_preV hc hw hS kl_32 sh_32 rfl) rfl rfl hl.1 rfl (lv_room (Nat.le_of_ble_eq_true rfl)) dX5_readSum_35 ⟨by decide +kernel, by decide +kernel⟩)) (fun r12 hr12 => ?_)
          have bqq13 := hI.bd (k := 0) bd_32_6
          have bqq14 := hI.bd (k := 0) bd_32_7
          rcases hr12 with ⟨rfl, c15⟩ | ⟨rfl, c15⟩
          · refine fx_if_eq (tgt := 46) hx hb dX5_readSum_38 (by decide) zk_1 (fun c16 => by exfalso; omega) (fun c16 => ?_)
            refine lv_bipush (v := (-16)) hx hb dX5_readSum_41 (by decide) ?_
            refine lv_goto (tgt := 48) hx hb dX5_readSum_43 (by decide) ?_
            refine lv_istore_n (lv' := [(3, .int (-16)), (2, .int lp_2), (0, .ref (ad 32 0)), (1, .int 5)]) hx hb dX5_readSum_48 rfl hl (by decide) rfl (fun ls hl => ?_)
            exact j2 (-16) M_j1 (by decide) hI hE _ _ hw hS ls (lv_sub hl [1, 2, 3, 0] rfl)
          · refine fx_if_eq (tgt := 46) hx hb dX5_readSum_38 (by decide) zk_0 (fun c17 => ?_) (fun c17 => by exfalso; omega)
            refine lv_bipush (v := (-17)) hx hb dX5_readSum_46 (by decide) ?_
            refine lv_istore_n (lv' := [(3, .int (-17)), (2, .int lp_2), (0, .ref (ad 32 0)), (1, .int 5)]) hx hb dX5_readSum_48 rfl hl (by decide) rfl (fun ls hl => ?_)
            exact j2 (-17) M_j1 (by decide) hI hE _ _ hw hS ls (lv_sub hl [1, 2, 3, 0] rfl)
        refine lv_aload_n hx hb dX5_readSum_14 rfl (lv_at hl 1 rfl) ?_
        refine lv_bipush (v := 43) hx hb dX5_readSum_15 (by decide) ?_
        have zz18 := zk_43
        refine vp_callSi (va_Run.run (va_runV (As := [.int 43]) (rest := []) ⟨hx, hb, hml, hown, hts⟩ (fc_X5_sees l D ad C nb M_lp hI 43) (cwV 1 hts gX5_readSum_X5_sees rfl rfl rfl (by decide +kernel) ⟨Nat.le_of_ble_eq_true rfl, Nat.le_of_ble_eq_true rfl⟩) (fm_preV hc hw hS kl_32 sh_32 rfl) rfl rfl hl.1 rfl (lv_room (Nat.le_of_ble_eq_true rfl)) dX5_readSum_17 ⟨by decide +kernel, by decide +kernel⟩)) (fun r19 hr19 => ?_)
        have bqq20 := hI.bd (k := 0) bd_32_6
        have bqq21 := hI.bd (k := 0) bd_32_7
        rcases hr19 with ⟨rfl, c22⟩ | ⟨rfl, c22⟩
        · refine fx_if_ne (tgt := 32) hx hb dX5_readSum_20 (by decide) zk_1 (fun c23 => ?_) (fun c23 => by exfalso; omega)
          exact j1 M_lp hI hE _ _ hw hS ls (lv_sub hl [0, 1, 2] rfl)
        · refine fx_if_ne (tgt := 32) hx hb dX5_readSum_20 (by decide) zk_0 (fun c24 => by exfalso; omega) (fun c24 => ?_)
          refine lv_aload_n hx hb dX5_readSum_23 rfl (lv_at hl 1 rfl) ?_
          refine lv_bipush (v := 45) hx hb dX5_readSum_24 (by decide) ?_
          have zz25 := zk_45
          refine vp_callSi (va_Run.run (va_runV (As := [.int 45]) (rest := []) ⟨hx, hb, hml, hown, hts⟩ (fc_X5_sees l D ad C nb M_lp hI 45) (cwV 1 hts gX5_readSum_X5_sees rfl rfl rfl (by decide +kernel) ⟨Nat.le_of_ble_eq_true rfl, Nat.le_of_ble_eq_true rfl⟩) (fm_preV hc hw hS kl_32 sh_32 rfl) rfl rfl hl.1 rfl (lv_room (Nat.le_of_ble_eq_true rfl)) dX5_readSum_26 ⟨by decide +kernel, by decide +kernel⟩)) (fun r26 hr26 => ?_)
          have bqq27 := hI.bd (k := 0) bd_32_6
          have bqq28 := hI.bd (k := 0) bd_32_7
          rcases hr26 with ⟨rfl, c29⟩ | ⟨rfl, c29⟩
          · refine fx_if_eq (tgt := 72) hx hb dX5_readSum_29 (by decide) zk_1 (fun c30 => by exfalso; omega) (fun c30 => ?_)
            exact j1 M_lp hI hE _ _ hw hS ls (lv_sub hl [0, 1, 2] rfl)
          · refine fx_if_eq (tgt := 72) hx hb dX5_readSum_29 (by decide) zk_0 (fun c31 => ?_) (fun c31 => by exfalso; omega)
            exact W.vret hx hb hr (fun t ht hW => ⟨⟨M_lp, rfl, ⟨hI, hE, trivial⟩, by show fm_at D ad C nb _ t.heap; rw [ht]; exact hw⟩, hS.F ht⟩) hS.2.2 dX5_readSum_72
  exact lp _ 0 M2 (Nat.lt_succ_self _) (by decide) hI hE _ _ hw hS ls (lv_sub hl [0, 1, 2] rfl)
set_option maxHeartbeats 400000 in
set_option maxRecDepth 20000 in
theorem fc_X5_readCompared_5 (l : Launch) (D : va_G) (ad : Nat → Nat → Nat) (C : Nat → Nat → ClassId) (nb : Nat) (M : fm_M) (hI : fm_I nb ad M) : Met l yX5_readCompared wsX5_readCompared ({ frames := 4, cells := 0, slots := 0, locals := 87 }) (va_Pc [.ref (ad 32 0), .int 5] (fm_P D ad C nb M)) (va_Qv (fun (u : fm_M) => fm_I nb ad u ∧ fm_same [32006, 32007, 36001, 37000] M u ∧ True) (fun u t => fm_at D ad C nb u t.heap) (fm_A nb ad)) 0 0 (fm_A nb ad) := by
  refine Met.ofW (cc := cX5_readCompared) (maxL := 3) (ret := none) (by decide) rfl ?_
  intro p e s m args below meth c s₁ B hml hv
  obtain ⟨rfl, hw, hc⟩ := hv
  have hx := B.exec
  have hb := B.bytes
  have hr := B.returns
  have hts := atoms_spec (ws := wsX5_readCompared) B.pre
  have hown : s.vm.findClass RX5 = some m.cls := findClass_of_methodNamed B.named
  have hinX5 : ∀ w ∈ u_ws RX5 TX5 8, w ∈ wsX5_readCompared := fun w h => List.mem_cons_of_mem _ (iT_X5 w h)
  have hS : va_S (fm_A nb ad) s.heap s.heap [] := va_S.rf
  have hE : fm_same [32006, 32007, 36001, 37000] M M := fm_same.rf
  have hl := lv_entry ([.ref (ad 32 0), .int 5]) (n := 3) (Nat.le_of_ble_eq_true rfl)
  rw [lg_entry_eq]
  generalize (lg_sl ([.ref (ad 32 0), .int 5]) ++ List.replicate (3 - (lg_sl ([.ref (ad 32 0), .int 5])).length) Slot.unset).toArray = ls at hl ⊢
  have hl : lv_has ls 3 [(0, .ref (ad 32 0)), (1, .int 5)] := hl
  refine lv_aload_n hx hb dX5_readCompared_0 rfl (lv_at hl 0 rfl) ?_
  refine lv_iload_n hx hb dX5_readCompared_1 rfl (lv_at hl 1 rfl) ?_
  refine fm_cv (va_runV (As := [.int 5]) (rest := []) ⟨hx, hb, hml, hown, hts⟩ (fc_X5_readSum_5 l D ad C nb M hI) (cwV 1 hts gX5_readCompared_X5_readSum rfl rfl rfl (by decide +kernel) ⟨Nat.le_of_ble_eq_true rfl, Nat.le_of_ble_eq_true rfl⟩) (fm_preV hc hw hS kl_32 sh_32 rfl) rfl rfl hl.1 rfl (lv_room (Nat.le_of_ble_eq_true rfl)) dX5_readCompared_2 ⟨by decide +kernel, by decide +kernel⟩) hS hc (fun M2 H locs hr1 hw hS => ?_)
  obtain ⟨hI, hEM2, hr1⟩ := hr1
  have hE := hE.tr hEM2 (by decide)
  have j1 : ∀  (M_j1 : fm_M), fm_I nb ad M_j1 → fm_same [32006, 32007, 36001, 37000] M M_j1 → ∀ (H : Heap) (locs : List Loc), fm_at D ad C nb M_j1 H → va_S (fm_A nb ad) s.heap H locs → ∀ (ls : Array Slot), lv_has ls 3 [(0, .ref (ad 32 0)), (1, .int 5)] → W p l e (headSpec wsX5_readCompared ({ frames := 4, cells := 0, slots := 0, locals := 87 })).room s m ([.ref (ad 32 0), .int 5] : List Value).toArray below meth c H locs 0 0 (MQ below (va_Qv (fun (u : fm_M) => fm_I nb ad u ∧ fm_same [32006, 32007, 36001, 37000] M u ∧ True) (fun u t => fm_at D ad C nb u t.heap) (fm_A nb ad)) ([.ref (ad 32 0), .int 5] : List Value).toArray s 0 0 (fm_A nb ad)) (F0 m 23 ls []) := by
    intro  M_j1 hI hE H locs hw hS ls hl
    have j2 : ∀ (j2_2 : Int32) (M_j2 : fm_M), ((-15) ≤ j2_2.toInt ∧ j2_2.toInt ≤ (-14)) → fm_I nb ad M_j2 → fm_same [32006, 32007, 36001, 37000] M M_j2 → ∀ (H : Heap) (locs : List Loc), fm_at D ad C nb M_j2 H → va_S (fm_A nb ad) s.heap H locs → ∀ (ls : Array Slot), lv_has ls 3 [(0, .ref (ad 32 0)), (1, .int 5), (2, .int j2_2)] → W p l e (headSpec wsX5_readCompared ({ frames := 4, cells := 0, slots := 0, locals := 87 })).room s m ([.ref (ad 32 0), .int 5] : List Value).toArray below meth c H locs 0 0 (MQ below (va_Qv (fun (u : fm_M) => fm_I nb ad u ∧ fm_same [32006, 32007, 36001, 37000] M u ∧ True) (fun u t => fm_at D ad C nb u t.heap) (fm_A nb ad)) ([.ref (ad 32 0), .int 5] : List Value).toArray s 0 0 (fm_A nb ad)) (F0 m 40 ls []) := by
      intro j2_2 M_j2 b_j2_2 hI hE H locs hw hS ls hl
      refine lv_aload_n hx hb dX5_readCompared_40 rfl (lv_at hl 0 rfl) ?_
      refine fm_cv (va_runV (As := []) (rest := []) ⟨hx, hb, hml, hown, hts⟩ (fc_X5_advance l D ad C nb M_j2 hI) (cwV 0 hts gX5_readCompared_X5_advance rfl rfl rfl (by decide +kernel) ⟨Nat.le_of_ble_eq_true rfl, Nat.le_of_ble_eq_true rfl⟩) (fm_preV hc hw hS kl_32 sh_32 rfl) rfl rfl hl.1 rfl (lv_room (Nat.le_of_ble_eq_true rfl)) dX5_readCompared_41 ⟨by decide +kernel, by decide +kernel⟩) hS hc (fun M4 H locs hr3 hw hS => ?_)
      obtain ⟨hI, hEM4, hr3⟩ := hr3
      have hE := hE.tr hEM4 (by decide)
      refine lv_aload_n hx hb dX5_readCompared_44 rfl (lv_at hl 0 rfl) ?_
      refine lv_iload_n hx hb dX5_readCompared_45 rfl (lv_at hl 1 rfl) ?_
      refine fm_cv (va_runV (As := [.int 5]) (rest := []) ⟨hx, hb, hml, hown, hts⟩ (fc_X5_readSum_5 l D ad C nb M4 hI) (cwV 1 hts gX5_readCompared_X5_readSum rfl rfl rfl (by decide +kernel) ⟨Nat.le_of_ble_eq_true rfl, Nat.le_of_ble_eq_true rfl⟩) (fm_preV hc hw hS kl_32 sh_32 rfl) rfl rfl hl.1 rfl (lv_room (Nat.le_of_ble_eq_true rfl)) dX5_readCompared_46 ⟨by decide +kernel, by decide +kernel⟩) hS hc (fun M6 H locs hr5 hw hS => ?_)
      obtain ⟨hI, hEM6, hr5⟩ := hr5
      have hE := hE.tr hEM6 (by decide)
      refine lv_aload_n hx hb dX5_readCompared_49 rfl (lv_at hl 0 rfl) ?_
      refine fm_getG (a := 32) (j := 5) (T := TX5) (N := 8) hx hb hts hinX5 hown hc hw kl_32 sh_32 rfl (by decide) rfl (hI.to kl_32 tg_32_5) (hts (.fieldLink RX5 27 "RedTent$Reader" "made" "LRedTent$Text;") (List.mem_cons_of_mem _ tw_1_203)) (fun _ h9 => h9) dX5_readCompared_50 ?_
      refine lv_iload_n hx hb dX5_readCompared_53 rfl (lv_at hl 2 rfl) ?_
      refine fm_cv (va_runV (As := [.int j2_2]) (rest := []) ⟨hx, hb, hml, hown, hts⟩ (fc_X9_addStep l D ad C nb M6 hI j2_2) (cwV 1 hts gX5_readCompared_X9_addStep rfl rfl rfl (by decide +kernel) ⟨Nat.le_of_ble_eq_true rfl, Nat.le_of_ble_eq_true rfl⟩) (fm_preV hc hw hS kl_36 sh_36 rfl) rfl rfl hl.1 rfl (lv_room (Nat.le_of_ble_eq_true rfl)) dX5_readCompared_54 ⟨by decide +kernel, by decide +kernel⟩) hS hc (fun M8 H locs hr7 hw hS => ?_)
      obtain ⟨hI, hEM8, hr7⟩ := hr7
      have hE := hE.tr hEM8 (by decide)
      exact W.vret hx hb hr (fun t ht hW => ⟨⟨M8, rfl, ⟨hI, hE, trivial⟩, by show fm_at D ad C nb _ t.heap; rw [ht]; exact hw⟩, hS.F ht⟩) hS.2.2 dX5_readCompared_57
    refine lv_aload_n hx hb dX5_readCompared_23 rfl (lv_at hl 0 rfl) ?_
    refine lv_bipush (v := 60) hx hb dX5_readCompared_24 (by decide) ?_
    have zz9 := zk_60
    refine vp_callSi (va_Run.run (va_runV (As := [.int 60]) (rest := []) ⟨hx, hb, hml, hown, hts⟩ (fc_X5_sees l D ad C nb M_j1 hI 60) (cwV 1 hts gX5_readCompared_X5_sees rfl rfl rfl (by decide +kernel) ⟨Nat.le_of_ble_eq_true rfl, Nat.le_of_ble_eq_true rfl⟩) (fm_preV hc hw hS kl_32 sh_32 rfl) rfl rfl hl.1 rfl (lv_room (Nat.le_of_ble_eq_true rfl)) dX5_readCompared_26 ⟨by decide +kernel, by decide +kernel⟩)) (fun r10 hr10 => ?_)
    have bqq11 := hI.bd (k := 0) bd_32_6
    have bqq12 := hI.bd (k := 0) bd_32_7
    rcases hr10 with ⟨rfl, c13⟩ | ⟨rfl, c13⟩
    · refine fx_if_eq (tgt := 37) hx hb dX5_readCompared_29 (by decide) zk_1 (fun c14 => by exfalso; omega) (fun c14 => ?_)
      refine lv_bipush (v := (-14)) hx hb dX5_readCompared_32 (by decide) ?_
      refine lv_goto (tgt := 39) hx hb dX5_readCompared_34 (by decide) ?_
      refine lv_istore_n (lv' := [(2, .int (-14)), (0, .ref (ad 32 0)), (1, .int 5)]) hx hb dX5_readCompared_39 rfl hl (by decide) rfl (fun ls hl => ?_)
      exact j2 (-14) M_j1 (by decide) hI hE _ _ hw hS ls (lv_sub hl [1, 2, 0] rfl)
    · refine fx_if_eq (tgt := 37) hx hb dX5_readCompared_29 (by decide) zk_0 (fun c15 => ?_) (fun c15 => by exfalso; omega)
      refine lv_bipush (v := (-15)) hx hb dX5_readCompared_37 (by decide) ?_
      refine lv_istore_n (lv' := [(2, .int (-15)), (0, .ref (ad 32 0)), (1, .int 5)]) hx hb dX5_readCompared_39 rfl hl (by decide) rfl (fun ls hl => ?_)
      exact j2 (-15) M_j1 (by decide) hI hE _ _ hw hS ls (lv_sub hl [1, 2, 0] rfl)
  refine lv_aload_n hx hb dX5_readCompared_5 rfl (lv_at hl 0 rfl) ?_
  refine lv_bipush (v := 60) hx hb dX5_readCompared_6 (by decide) ?_
  have zz16 := zk_60
  refine vp_callSi (va_Run.run (va_runV (As := [.int 60]) (rest := []) ⟨hx, hb, hml, hown, hts⟩ (fc_X5_sees l D ad C nb M2 hI 60) (cwV 1 hts gX5_readCompared_X5_sees rfl rfl rfl (by decide +kernel) ⟨Nat.le_of_ble_eq_true rfl, Nat.le_of_ble_eq_true rfl⟩) (fm_preV hc hw hS kl_32 sh_32 rfl) rfl rfl hl.1 rfl (lv_room (Nat.le_of_ble_eq_true rfl)) dX5_readCompared_8 ⟨by decide +kernel, by decide +kernel⟩)) (fun r17 hr17 => ?_)
  have bqq18 := hI.bd (k := 0) bd_32_6
  have bqq19 := hI.bd (k := 0) bd_32_7
  rcases hr17 with ⟨rfl, c20⟩ | ⟨rfl, c20⟩
  · refine fx_if_ne (tgt := 23) hx hb dX5_readCompared_11 (by decide) zk_1 (fun c21 => ?_) (fun c21 => by exfalso; omega)
    exact j1 M2 hI hE _ _ hw hS ls (lv_sub hl [0, 1] rfl)
  · refine fx_if_ne (tgt := 23) hx hb dX5_readCompared_11 (by decide) zk_0 (fun c22 => by exfalso; omega) (fun c22 => ?_)
    refine lv_aload_n hx hb dX5_readCompared_14 rfl (lv_at hl 0 rfl) ?_
    refine lv_bipush (v := 61) hx hb dX5_readCompared_15 (by decide) ?_
    have zz23 := zk_61
    refine vp_callSi (va_Run.run (va_runV (As := [.int 61]) (rest := []) ⟨hx, hb, hml, hown, hts⟩ (fc_X5_sees l D ad C nb M2 hI 61) (cwV 1 hts gX5_readCompared_X5_sees rfl rfl rfl (by decide +kernel) ⟨Nat.le_of_ble_eq_true rfl, Nat.le_of_ble_eq_true rfl⟩) (fm_preV hc hw hS kl_32 sh_32 rfl) rfl rfl hl.1 rfl (lv_room (Nat.le_of_ble_eq_true rfl)) dX5_readCompared_17 ⟨by decide +kernel, by decide +kernel⟩)) (fun r24 hr24 => ?_)
    have bqq25 := hI.bd (k := 0) bd_32_6
    have bqq26 := hI.bd (k := 0) bd_32_7
    rcases hr24 with ⟨rfl, c27⟩ | ⟨rfl, c27⟩
    · refine fx_if_eq (tgt := 57) hx hb dX5_readCompared_20 (by decide) zk_1 (fun c28 => by exfalso; omega) (fun c28 => ?_)
      exact j1 M2 hI hE _ _ hw hS ls (lv_sub hl [0, 1] rfl)
    · refine fx_if_eq (tgt := 57) hx hb dX5_readCompared_20 (by decide) zk_0 (fun c29 => ?_) (fun c29 => by exfalso; omega)
      exact W.vret hx hb hr (fun t ht hW => ⟨⟨M2, rfl, ⟨hI, hE, trivial⟩, by show fm_at D ad C nb _ t.heap; rw [ht]; exact hw⟩, hS.F ht⟩) hS.2.2 dX5_readCompared_57
set_option maxHeartbeats 400000 in
set_option maxRecDepth 20000 in
theorem fc_X5_readNot_5 (l : Launch) (D : va_G) (ad : Nat → Nat → Nat) (C : Nat → Nat → ClassId) (nb : Nat) (M : fm_M) (hI : fm_I nb ad M) : Met l yX5_readNot wsX5_readNot ({ frames := 5, cells := 0, slots := 0, locals := 109 }) (va_Pc [.ref (ad 32 0), .int 5] (fm_P D ad C nb M)) (va_Qv (fun (u : fm_M) => fm_I nb ad u ∧ fm_same [32006, 32007, 36001, 37000] M u ∧ True) (fun u t => fm_at D ad C nb u t.heap) (fm_A nb ad)) 0 0 (fm_A nb ad) := by
  refine Met.ofW (cc := cX5_readNot) (maxL := 2) (ret := none) (by decide) rfl ?_
  intro p e s m args below meth c s₁ B hml hv
  obtain ⟨rfl, hw, hc⟩ := hv
  have hx := B.exec
  have hb := B.bytes
  have hr := B.returns
  have hts := atoms_spec (ws := wsX5_readNot) B.pre
  have hown : s.vm.findClass RX5 = some m.cls := findClass_of_methodNamed B.named
  have hS : va_S (fm_A nb ad) s.heap s.heap [] := va_S.rf
  have hE : fm_same [32006, 32007, 36001, 37000] M M := fm_same.rf
  have hl := lv_entry ([.ref (ad 32 0), .int 5]) (n := 2) (Nat.le_of_ble_eq_true rfl)
  rw [lg_entry_eq]
  generalize (lg_sl ([.ref (ad 32 0), .int 5]) ++ List.replicate (2 - (lg_sl ([.ref (ad 32 0), .int 5])).length) Slot.unset).toArray = ls at hl ⊢
  have hl : lv_has ls 2 [(0, .ref (ad 32 0)), (1, .int 5)] := hl
  refine lv_aload_n hx hb dX5_readNot_0 rfl (lv_at hl 0 rfl) ?_
  refine lv_bipush (v := 11) hx hb dX5_readNot_1 (by decide) ?_
  have zz1 := zk_11
  refine vp_callSi (va_Run.run (va_runV (As := [.int 11]) (rest := []) ⟨hx, hb, hml, hown, hts⟩ (fc_X5_sees l D ad C nb M hI 11) (cwV 1 hts gX5_readNot_X5_sees rfl rfl rfl (by decide +kernel) ⟨Nat.le_of_ble_eq_true rfl, Nat.le_of_ble_eq_true rfl⟩) (fm_preV hc hw hS kl_32 sh_32 rfl) rfl rfl hl.1 rfl (lv_room (Nat.le_of_ble_eq_true rfl)) dX5_readNot_3 ⟨by decide +kernel, by decide +kernel⟩)) (fun r2 hr2 => ?_)
  have bqq3 := hI.bd (k := 0) bd_32_6
  have bqq4 := hI.bd (k := 0) bd_32_7
  rcases hr2 with ⟨rfl, c5⟩ | ⟨rfl, c5⟩
  · refine fx_if_eq (tgt := 21) hx hb dX5_readNot_6 (by decide) zk_1 (fun c6 => by exfalso; omega) (fun c6 => ?_)
    refine lv_iload_n hx hb dX5_readNot_9 rfl (lv_at hl 1 rfl) ?_
    refine lv_iconst (v := 5) hx hb dX5_readNot_10 (by decide) ?_
    refine fx_icmp_lt (tgt := 21) hx hb dX5_readNot_11 (by decide) zk_5 zk_5 (fun c7 => by exfalso; omega) (fun c7 => ?_)
    refine lv_aload_n hx hb dX5_readNot_14 rfl (lv_at hl 0 rfl) ?_
    refine fm_cv (va_runV (As := []) (rest := []) ⟨hx, hb, hml, hown, hts⟩ (fc_X5_fail l D ad C nb M hI) (cwV 0 hts gX5_readNot_X5_fail rfl rfl rfl (by decide +kernel) ⟨Nat.le_of_ble_eq_true rfl, Nat.le_of_ble_eq_true rfl⟩) (fm_preV hc hw hS kl_32 sh_32 rfl) rfl rfl hl.1 rfl (lv_room (Nat.le_of_ble_eq_true rfl)) dX5_readNot_15 ⟨by decide +kernel, by decide +kernel⟩) hS hc (fun M9 H locs hr8 hw hS => ?_)
    obtain ⟨hI, hEM9, hr8⟩ := hr8
    have hE := hE.tr hEM9 (by decide)
    refine lv_goto (tgt := 58) hx hb dX5_readNot_18 (by decide) ?_
    exact W.vret hx hb hr (fun t ht hW => ⟨⟨M9, rfl, ⟨hI, hE, trivial⟩, by show fm_at D ad C nb _ t.heap; rw [ht]; exact hw⟩, hS.F ht⟩) hS.2.2 dX5_readNot_58
  · refine fx_if_eq (tgt := 21) hx hb dX5_readNot_6 (by decide) zk_0 (fun c10 => ?_) (fun c10 => by exfalso; omega)
    refine lv_aload_n hx hb dX5_readNot_21 rfl (lv_at hl 0 rfl) ?_
    refine lv_bipush (v := 11) hx hb dX5_readNot_22 (by decide) ?_
    have zz11 := zk_11
    refine vp_callSi (va_Run.run (va_runV (As := [.int 11]) (rest := []) ⟨hx, hb, hml, hown, hts⟩ (fc_X5_sees l D ad C nb M hI 11) (cwV 1 hts gX5_readNot_X5_sees rfl rfl rfl (by decide +kernel) ⟨Nat.le_of_ble_eq_true rfl, Nat.le_of_ble_eq_true rfl⟩) (fm_preV hc hw hS kl_32 sh_32 rfl) rfl rfl hl.1 rfl (lv_room (Nat.le_of_ble_eq_true rfl)) dX5_readNot_24 ⟨by decide +kernel, by decide +kernel⟩)) (fun r12 hr12 => ?_)
    have bqq13 := hI.bd (k := 0) bd_32_6
    have bqq14 := hI.bd (k := 0) bd_32_7
    rcases hr12 with ⟨rfl, c15⟩ | ⟨rfl, c15⟩
    · refine fx_if_eq (tgt := 53) hx hb dX5_readNot_27 (by decide) zk_1 (fun c16 => by exfalso; omega) (fun c16 => ?_)
      refine lv_aload_n hx hb dX5_readNot_30 rfl (lv_at hl 0 rfl) ?_
      refine fm_cv (va_runV (As := []) (rest := []) ⟨hx, hb, hml, hown, hts⟩ (fc_X5_advance l D ad C nb M hI) (cwV 0 hts gX5_readNot_X5_advance rfl rfl rfl (by decide +kernel) ⟨Nat.le_of_ble_eq_true rfl, Nat.le_of_ble_eq_true rfl⟩) (fm_preV hc hw hS kl_32 sh_32 rfl) rfl rfl hl.1 rfl (lv_room (Nat.le_of_ble_eq_true rfl)) dX5_readNot_31 ⟨by decide +kernel, by decide +kernel⟩) hS hc (fun M18 H locs hr17 hw hS => ?_)
      obtain ⟨hI, hEM18, hr17⟩ := hr17
      have hE := hE.tr hEM18 (by decide)
      refine lv_aload_n hx hb dX5_readNot_34 rfl (lv_at hl 0 rfl) ?_
      refine lv_iload_n hx hb dX5_readNot_35 rfl (lv_at hl 1 rfl) ?_
      refine lv_iconst (v := 1) hx hb dX5_readNot_36 (by decide) ?_
      refine lv_iadd hx hb dX5_readNot_37 ?_
      refine lv_topi (fun y20 ey20 => ?_)
      obtain rfl : y20 = 6 := ey20.trans (by decide)
      exfalso; omega
    · refine fx_if_eq (tgt := 53) hx hb dX5_readNot_27 (by decide) zk_0 (fun c21 => ?_) (fun c21 => by exfalso; omega)
      refine lv_aload_n hx hb dX5_readNot_53 rfl (lv_at hl 0 rfl) ?_
      refine lv_iload_n hx hb dX5_readNot_54 rfl (lv_at hl 1 rfl) ?_
      refine fm_cv (va_runV (As := [.int 5]) (rest := []) ⟨hx, hb, hml, hown, hts⟩ (fc_X5_readCompared_5 l D ad C nb M hI) (cwV 1 hts gX5_readNot_X5_readCompared rfl rfl rfl (by decide +kernel) ⟨Nat.le_of_ble_eq_true rfl, Nat.le_of_ble_eq_true rfl⟩) (fm_preV hc hw hS kl_32 sh_32 rfl) rfl rfl hl.1 rfl (lv_room (Nat.le_of_ble_eq_true rfl)) dX5_readNot_55 ⟨by decide +kernel, by decide +kernel⟩) hS hc (fun M23 H locs hr22 hw hS => ?_)
      obtain ⟨hI, hEM23, hr22⟩ := hr22
      have hE := hE.tr hEM23 (by decide)
      exact W.vret hx hb hr (fun t ht hW => ⟨⟨M23, rfl, ⟨hI, hE, trivial⟩, by show fm_at D ad C nb _ t.heap; rw [ht]; exact hw⟩, hS.F ht⟩) hS.2.2 dX5_readNot_58
set_option maxHeartbeats 400000 in
set_option maxRecDepth 20000 in
theorem fc_X5_readBoth_5 (l : Launch) (D : va_G) (ad : Nat → Nat → Nat) (C : Nat → Nat → ClassId) (nb : Nat) (M : fm_M) (hI : fm_I nb ad M) : Met l yX5_readBoth wsX5_readBoth ({ frames := 6, cells := 0, slots := 0, locals := 130 }) (va_Pc [.ref (ad 32 0), .int 5] (fm_P D ad C nb M)) (va_Qv (fun (u : fm_M) => fm_I nb ad u ∧ fm_same [32006, 32007, 36001, 37000] M u ∧ True) (fun u t => fm_at D ad C nb u t.heap) (fm_A nb ad)) 0 0 (fm_A nb ad) := by
  refine Met.ofW (cc := cX5_readBoth) (maxL := 3) (ret := none) (by decide) rfl ?_
  intro p e s m args below meth c s₁ B hml hv
  obtain ⟨rfl, hw, hc⟩ := hv
  have hx := B.exec
  have hb := B.bytes
  have hr := B.returns
  have hts := atoms_spec (ws := wsX5_readBoth) B.pre
  have hown : s.vm.findClass RX5 = some m.cls := findClass_of_methodNamed B.named
  have hinX5 : ∀ w ∈ u_ws RX5 TX5 8, w ∈ wsX5_readBoth := fun w h => List.mem_cons_of_mem _ (iT_X5 w h)
  have hS : va_S (fm_A nb ad) s.heap s.heap [] := va_S.rf
  have hE : fm_same [32006, 32007, 36001, 37000] M M := fm_same.rf
  have hl := lv_entry ([.ref (ad 32 0), .int 5]) (n := 3) (Nat.le_of_ble_eq_true rfl)
  rw [lg_entry_eq]
  generalize (lg_sl ([.ref (ad 32 0), .int 5]) ++ List.replicate (3 - (lg_sl ([.ref (ad 32 0), .int 5])).length) Slot.unset).toArray = ls at hl ⊢
  have hl : lv_has ls 3 [(0, .ref (ad 32 0)), (1, .int 5)] := hl
  refine lv_aload_n hx hb dX5_readBoth_0 rfl (lv_at hl 0 rfl) ?_
  refine lv_iload_n hx hb dX5_readBoth_1 rfl (lv_at hl 1 rfl) ?_
  refine fm_cv (va_runV (As := [.int 5]) (rest := []) ⟨hx, hb, hml, hown, hts⟩ (fc_X5_readNot_5 l D ad C nb M hI) (cwV 1 hts gX5_readBoth_X5_readNot rfl rfl rfl (by decide +kernel) ⟨Nat.le_of_ble_eq_true rfl, Nat.le_of_ble_eq_true rfl⟩) (fm_preV hc hw hS kl_32 sh_32 rfl) rfl rfl hl.1 rfl (lv_room (Nat.le_of_ble_eq_true rfl)) dX5_readBoth_2 ⟨by decide +kernel, by decide +kernel⟩) hS hc (fun M2 H locs hr1 hw hS => ?_)
  obtain ⟨hI, hEM2, hr1⟩ := hr1
  have hE := hE.tr hEM2 (by decide)
  refine lv_iconst (v := 0) hx hb dX5_readBoth_5 (by decide) ?_
  refine lv_istore_n (lv' := [(2, .int 0), (0, .ref (ad 32 0)), (1, .int 5)]) hx hb dX5_readBoth_6 rfl hl (by decide) rfl (fun ls hl => ?_)
  have lp : ∀ (n_lp : Nat) (lp_2 : Int32) (M_lp : fm_M), (160 - lp_2.toInt).toNat < n_lp → (0 ≤ lp_2.toInt ∧ lp_2.toInt ≤ 160) → fm_I nb ad M_lp → fm_same [32006, 32007, 36001, 37000] M M_lp → ∀ (H : Heap) (locs : List Loc), fm_at D ad C nb M_lp H → va_S (fm_A nb ad) s.heap H locs → ∀ (ls : Array Slot), lv_has ls 3 [(2, .int lp_2), (0, .ref (ad 32 0)), (1, .int 5)] → W p l e (headSpec wsX5_readBoth ({ frames := 6, cells := 0, slots := 0, locals := 130 })).room s m ([.ref (ad 32 0), .int 5] : List Value).toArray below meth c H locs 0 0 (MQ below (va_Qv (fun (u : fm_M) => fm_I nb ad u ∧ fm_same [32006, 32007, 36001, 37000] M u ∧ True) (fun u t => fm_at D ad C nb u t.heap) (fm_A nb ad)) ([.ref (ad 32 0), .int 5] : List Value).toArray s 0 0 (fm_A nb ad)) (F0 m 7 ls []) := by
    intro n_lp
    induction n_lp with
    | zero => intro lp_2 M_lp hm_lp b_lp_2 hI hE H locs hw hS ls hl; exact absurd hm_lp (Nat.not_lt_zero _)
    | succ n_lp ih_lp =>
      intro lp_2 M_lp hm_lp b_lp_2 hI hE H locs hw hS ls hl
      refine lv_iload_n hx hb dX5_readBoth_7 rfl (lv_at hl 0 rfl) ?_
      refine lv_sipush (v := 160) hx hb dX5_readBoth_8 (by decide) ?_
      refine fx_icmp_ge (tgt := 47) hx hb dX5_readBoth_11 (by decide) rfl zk_160 (fun c3 => ?_) (fun c3 => ?_)
      · exact W.vret hx hb hr (fun t ht hW => ⟨⟨M_lp, rfl, ⟨hI, hE, trivial⟩, by show fm_at D ad C nb _ t.heap; rw [ht]; exact hw⟩, hS.F ht⟩) hS.2.2 dX5_readBoth_47
      · refine lv_aload_n hx hb dX5_readBoth_14 rfl (lv_at hl 1 rfl) ?_
        refine lv_bipush (v := 10) hx hb dX5_readBoth_15 (by decide) ?_
        have zz4 := zk_10
        refine vp_callSi (va_Run.run (va_runV (As := [.int 10]) (rest := []) ⟨hx, hb, hml, hown, hts⟩ (fc_X5_sees l D ad C nb M_lp hI 10) (cwV 1 hts gX5_readBoth_X5_sees rfl rfl rfl (by decide +kernel) ⟨Nat.le_of_ble_eq_true rfl, Nat.le_of_ble_eq_true rfl⟩) (fm_preV hc hw hS kl_32 sh_32 rfl) rfl rfl hl.1 rfl (lv_room (Nat.le_of_ble_eq_true rfl)) dX5_readBoth_17 ⟨by decide +kernel, by decide +kernel⟩)) (fun r5 hr5 => ?_)
        have bqq6 := hI.bd (k := 0) bd_32_6
        have bqq7 := hI.bd (k := 0) bd_32_7
        rcases hr5 with ⟨rfl, c8⟩ | ⟨rfl, c8⟩
        · refine fx_if_eq (tgt := 47) hx hb dX5_readBoth_20 (by decide) zk_1 (fun c9 => by exfalso; omega) (fun c9 => ?_)
          refine lv_aload_n hx hb dX5_readBoth_23 rfl (lv_at hl 1 rfl) ?_
          refine fm_cv (va_runV (As := []) (rest := []) ⟨hx, hb, hml, hown, hts⟩ (fc_X5_advance l D ad C nb M_lp hI) (cwV 0 hts gX5_readBoth_X5_advance rfl rfl rfl (by decide +kernel) ⟨Nat.le_of_ble_eq_true rfl, Nat.le_of_ble_eq_true rfl⟩) (fm_preV hc hw hS kl_32 sh_32 rfl) rfl rfl hl.1 rfl (lv_room (Nat.le_of_ble_eq_true rfl)) dX5_readBoth_24 ⟨by decide +kernel, by decide +kernel⟩) hS hc (fun M11 H locs hr10 hw hS => ?_)
          obtain ⟨hI, hEM11, hr10⟩ := hr10
          have hE := hE.tr hEM11 (by decide)
          refine lv_aload_n hx hb dX5_readBoth_27 rfl (lv_at hl 1 rfl) ?_
          refine lv_iload_n hx hb dX5_readBoth_28 rfl (lv_at hl 2 rfl) ?_
          refine fm_cv (va_runV (As := [.int 5]) (rest := []) ⟨hx, hb, hml, hown, hts⟩ (fc_X5_readNot_5 l D ad C nb M11 hI) (cwV 1 hts gX5_readBoth_X5_readNot rfl rfl rfl (by decide +kernel) ⟨Nat.le_of_ble_eq_true rfl, Nat.le_of_ble_eq_true rfl⟩) (fm_preV hc hw hS kl_32 sh_32 rfl) rfl rfl hl.1 rfl (lv_room (Nat.le_of_ble_eq_true rfl)) dX5_readBoth_29 ⟨by decide +kernel, by decide +kernel⟩) hS hc (fun M13 H locs hr12 hw hS => ?_)
          obtain ⟨hI, hEM13, hr12⟩ := hr12
          have hE := hE.tr hEM13 (by decide)
          refine lv_aload_n hx hb dX5_readBoth_32 rfl (lv_at hl 1 rfl) ?_
          refine fm_getG (a := 32) (j := 5) (T := TX5) (N := 8) hx hb hts hinX5 hown hc hw kl_32 sh_32 rfl (by decide) rfl (hI.to kl_32 tg_32_5) (hts (.fieldLink RX5 27 "RedTent$Reader" "made" "LRedTent$Text;") (List.mem_cons_of_mem _ tw_1_203)) (fun _ h9 => h9) dX5_readBoth_33 ?_
          refine lv_bipush (v := (-12)) hx hb dX5_readBoth_36 (by decide) ?_
          refine fm_cv (va_runV (As := [.int (-12)]) (rest := []) ⟨hx, hb, hml, hown, hts⟩ (fc_X9_addStep l D ad C nb M13 hI (-12)) (cwV 1 hts gX5_readBoth_X9_addStep rfl rfl rfl (by decide +kernel) ⟨Nat.le_of_ble_eq_true rfl, Nat.le_of_ble_eq_true rfl⟩) (fm_preV hc hw hS kl_36 sh_36 rfl) rfl rfl hl.1 rfl (lv_room (Nat.le_of_ble_eq_true rfl)) dX5_readBoth_38 ⟨by decide +kernel, by decide +kernel⟩) hS hc (fun M15 H locs hr14 hw hS => ?_)
          obtain ⟨hI, hEM15, hr14⟩ := hr14
          have hE := hE.tr hEM15 (by decide)
          obtain ⟨y16, ey16⟩ : ∃ y : Int32, y = lp_2 + 1 := ⟨_, rfl⟩
          have ty16 : y16.toInt = lp_2.toInt + 1 := by rw [ey16, zi_add _ _ (by rw [zk_1]; omega) (by rw [zk_1]; omega), zk_1]
          refine lv_iinc (v := y16) (lv' := [(2, .int y16), (0, .ref (ad 32 0)), (1, .int 5)]) hx hb dX5_readBoth_41 hl (k := 0) rfl (by rw [ey16]; rfl) (by decide) rfl (fun ls hl => ?_)
          refine lv_goto (tgt := 7) hx hb dX5_readBoth_44 (by decide) ?_
          exact ih_lp y16 M15 (by omega) (by omega) hI hE _ _ hw hS ls (lv_sub hl [0, 1, 2] rfl)
        · refine fx_if_eq (tgt := 47) hx hb dX5_readBoth_20 (by decide) zk_0 (fun c17 => ?_) (fun c17 => by exfalso; omega)
          exact W.vret hx hb hr (fun t ht hW => ⟨⟨M_lp, rfl, ⟨hI, hE, trivial⟩, by show fm_at D ad C nb _ t.heap; rw [ht]; exact hw⟩, hS.F ht⟩) hS.2.2 dX5_readBoth_47
  exact lp _ 0 M2 (Nat.lt_succ_self _) (by decide) hI hE _ _ hw hS ls (lv_sub hl [0, 1, 2] rfl)
set_option maxHeartbeats 400000 in
set_option maxRecDepth 20000 in
theorem fc_X5_readChoice_5 (l : Launch) (D : va_G) (ad : Nat → Nat → Nat) (C : Nat → Nat → ClassId) (nb : Nat) (M : fm_M) (hI : fm_I nb ad M) : Met l yX5_readChoice wsX5_readChoice ({ frames := 7, cells := 0, slots := 0, locals := 152 }) (va_Pc [.ref (ad 32 0), .int 5] (fm_P D ad C nb M)) (va_Qv (fun (u : fm_M) => fm_I nb ad u ∧ fm_same [32006, 32007, 36001, 37000] M u ∧ True) (fun u t => fm_at D ad C nb u t.heap) (fm_A nb ad)) 0 0 (fm_A nb ad) := by
  refine Met.ofW (cc := cX5_readChoice) (maxL := 3) (ret := none) (by decide) rfl ?_
  intro p e s m args below meth c s₁ B hml hv
  obtain ⟨rfl, hw, hc⟩ := hv
  have hx := B.exec
  have hb := B.bytes
  have hr := B.returns
  have hts := atoms_spec (ws := wsX5_readChoice) B.pre
  have hown : s.vm.findClass RX5 = some m.cls := findClass_of_methodNamed B.named
  have hinX5 : ∀ w ∈ u_ws RX5 TX5 8, w ∈ wsX5_readChoice := fun w h => List.mem_cons_of_mem _ (iT_X5 w h)
  have hS : va_S (fm_A nb ad) s.heap s.heap [] := va_S.rf
  have hE : fm_same [32006, 32007, 36001, 37000] M M := fm_same.rf
  have hl := lv_entry ([.ref (ad 32 0), .int 5]) (n := 3) (Nat.le_of_ble_eq_true rfl)
  rw [lg_entry_eq]
  generalize (lg_sl ([.ref (ad 32 0), .int 5]) ++ List.replicate (3 - (lg_sl ([.ref (ad 32 0), .int 5])).length) Slot.unset).toArray = ls at hl ⊢
  have hl : lv_has ls 3 [(0, .ref (ad 32 0)), (1, .int 5)] := hl
  refine lv_aload_n hx hb dX5_readChoice_0 rfl (lv_at hl 0 rfl) ?_
  refine lv_iload_n hx hb dX5_readChoice_1 rfl (lv_at hl 1 rfl) ?_
  refine fm_cv (va_runV (As := [.int 5]) (rest := []) ⟨hx, hb, hml, hown, hts⟩ (fc_X5_readBoth_5 l D ad C nb M hI) (cwV 1 hts gX5_readChoice_X5_readBoth rfl rfl rfl (by decide +kernel) ⟨Nat.le_of_ble_eq_true rfl, Nat.le_of_ble_eq_true rfl⟩) (fm_preV hc hw hS kl_32 sh_32 rfl) rfl rfl hl.1 rfl (lv_room (Nat.le_of_ble_eq_true rfl)) dX5_readChoice_2 ⟨by decide +kernel, by decide +kernel⟩) hS hc (fun M2 H locs hr1 hw hS => ?_)
  obtain ⟨hI, hEM2, hr1⟩ := hr1
  have hE := hE.tr hEM2 (by decide)
  refine lv_iconst (v := 0) hx hb dX5_readChoice_5 (by decide) ?_
  refine lv_istore_n (lv' := [(2, .int 0), (0, .ref (ad 32 0)), (1, .int 5)]) hx hb dX5_readChoice_6 rfl hl (by decide) rfl (fun ls hl => ?_)
  have lp : ∀ (n_lp : Nat) (lp_2 : Int32) (M_lp : fm_M), (160 - lp_2.toInt).toNat < n_lp → (0 ≤ lp_2.toInt ∧ lp_2.toInt ≤ 160) → fm_I nb ad M_lp → fm_same [32006, 32007, 36001, 37000] M M_lp → ∀ (H : Heap) (locs : List Loc), fm_at D ad C nb M_lp H → va_S (fm_A nb ad) s.heap H locs → ∀ (ls : Array Slot), lv_has ls 3 [(2, .int lp_2), (0, .ref (ad 32 0)), (1, .int 5)] → W p l e (headSpec wsX5_readChoice ({ frames := 7, cells := 0, slots := 0, locals := 152 })).room s m ([.ref (ad 32 0), .int 5] : List Value).toArray below meth c H locs 0 0 (MQ below (va_Qv (fun (u : fm_M) => fm_I nb ad u ∧ fm_same [32006, 32007, 36001, 37000] M u ∧ True) (fun u t => fm_at D ad C nb u t.heap) (fm_A nb ad)) ([.ref (ad 32 0), .int 5] : List Value).toArray s 0 0 (fm_A nb ad)) (F0 m 7 ls []) := by
    intro n_lp
    induction n_lp with
    | zero => intro lp_2 M_lp hm_lp b_lp_2 hI hE H locs hw hS ls hl; exact absurd hm_lp (Nat.not_lt_zero _)
    | succ n_lp ih_lp =>
      intro lp_2 M_lp hm_lp b_lp_2 hI hE H locs hw hS ls hl
      refine lv_iload_n hx hb dX5_readChoice_7 rfl (lv_at hl 0 rfl) ?_
      refine lv_sipush (v := 160) hx hb dX5_readChoice_8 (by decide) ?_
      refine fx_icmp_ge (tgt := 47) hx hb dX5_readChoice_11 (by decide) rfl zk_160 (fun c3 => ?_) (fun c3 => ?_)
      · exact W.vret hx hb hr (fun t ht hW => ⟨⟨M_lp, rfl, ⟨hI, hE, trivial⟩, by show fm_at D ad C nb _ t.heap; rw [ht]; exact hw⟩, hS.F ht⟩) hS.2.2 dX5_readChoice_47
      · refine lv_aload_n hx hb dX5_readChoice_14 rfl (lv_at hl 1 rfl) ?_
        refine lv_bipush (v := 9) hx hb dX5_readChoice_15 (by decide) ?_
        have zz4 := zk_9
        refine vp_callSi (va_Run.run (va_runV (As := [.int 9]) (rest := []) ⟨hx, hb, hml, hown, hts⟩ (fc_X5_sees l D ad C nb M_lp hI 9) (cwV 1 hts gX5_readChoice_X5_sees rfl rfl rfl (by decide +kernel) ⟨Nat.le_of_ble_eq_true rfl, Nat.le_of_ble_eq_true rfl⟩) (fm_preV hc hw hS kl_32 sh_32 rfl) rfl rfl hl.1 rfl (lv_room (Nat.le_of_ble_eq_true rfl)) dX5_readChoice_17 ⟨by decide +kernel, by decide +kernel⟩)) (fun r5 hr5 => ?_)
        have bqq6 := hI.bd (k := 0) bd_32_6
        have bqq7 := hI.bd (k := 0) bd_32_7
        rcases hr5 with ⟨rfl, c8⟩ | ⟨rfl, c8⟩
        · refine fx_if_eq (tgt := 47) hx hb dX5_readChoice_20 (by decide) zk_1 (fun c9 => by exfalso; omega) (fun c9 => ?_)
          refine lv_aload_n hx hb dX5_readChoice_23 rfl (lv_at hl 1 rfl) ?_
          refine fm_cv (va_runV (As := []) (rest := []) ⟨hx, hb, hml, hown, hts⟩ (fc_X5_advance l D ad C nb M_lp hI) (cwV 0 hts gX5_readChoice_X5_advance rfl rfl rfl (by decide +kernel) ⟨Nat.le_of_ble_eq_true rfl, Nat.le_of_ble_eq_true rfl⟩) (fm_preV hc hw hS kl_32 sh_32 rfl) rfl rfl hl.1 rfl (lv_room (Nat.le_of_ble_eq_true rfl)) dX5_readChoice_24 ⟨by decide +kernel, by decide +kernel⟩) hS hc (fun M11 H locs hr10 hw hS => ?_)
          obtain ⟨hI, hEM11, hr10⟩ := hr10
          have hE := hE.tr hEM11 (by decide)
          refine lv_aload_n hx hb dX5_readChoice_27 rfl (lv_at hl 1 rfl) ?_
          refine lv_iload_n hx hb dX5_readChoice_28 rfl (lv_at hl 2 rfl) ?_
          refine fm_cv (va_runV (As := [.int 5]) (rest := []) ⟨hx, hb, hml, hown, hts⟩ (fc_X5_readBoth_5 l D ad C nb M11 hI) (cwV 1 hts gX5_readChoice_X5_readBoth rfl rfl rfl (by decide +kernel) ⟨Nat.le_of_ble_eq_true rfl, Nat.le_of_ble_eq_true rfl⟩) (fm_preV hc hw hS kl_32 sh_32 rfl) rfl rfl hl.1 rfl (lv_room (Nat.le_of_ble_eq_true rfl)) dX5_readChoice_29 ⟨by decide +kernel, by decide +kernel⟩) hS hc (fun M13 H locs hr12 hw hS => ?_)
          obtain ⟨hI, hEM13, hr12⟩ := hr12
          have hE := hE.tr hEM13 (by decide)
          refine lv_aload_n hx hb dX5_readChoice_32 rfl (lv_at hl 1 rfl) ?_
          refine fm_getG (a := 32) (j := 5) (T := TX5) (N := 8) hx hb hts hinX5 hown hc hw kl_32 sh_32 rfl (by decide) rfl (hI.to kl_32 tg_32_5) (hts (.fieldLink RX5 27 "RedTent$Reader" "made" "LRedTent$Text;") (List.mem_cons_of_mem _ tw_1_203)) (fun _ h9 => h9) dX5_readChoice_33 ?_
          refine lv_bipush (v := (-11)) hx hb dX5_readChoice_36 (by decide) ?_
          refine fm_cv (va_runV (As := [.int (-11)]) (rest := []) ⟨hx, hb, hml, hown, hts⟩ (fc_X9_addStep l D ad C nb M13 hI (-11)) (cwV 1 hts gX5_readChoice_X9_addStep rfl rfl rfl (by decide +kernel) ⟨Nat.le_of_ble_eq_true rfl, Nat.le_of_ble_eq_true rfl⟩) (fm_preV hc hw hS kl_36 sh_36 rfl) rfl rfl hl.1 rfl (lv_room (Nat.le_of_ble_eq_true rfl)) dX5_readChoice_38 ⟨by decide +kernel, by decide +kernel⟩) hS hc (fun M15 H locs hr14 hw hS => ?_)
          obtain ⟨hI, hEM15, hr14⟩ := hr14
          have hE := hE.tr hEM15 (by decide)
          obtain ⟨y16, ey16⟩ : ∃ y : Int32, y = lp_2 + 1 := ⟨_, rfl⟩
          have ty16 : y16.toInt = lp_2.toInt + 1 := by rw [ey16, zi_add _ _ (by rw [zk_1]; omega) (by rw [zk_1]; omega), zk_1]
          refine lv_iinc (v := y16) (lv' := [(2, .int y16), (0, .ref (ad 32 0)), (1, .int 5)]) hx hb dX5_readChoice_41 hl (k := 0) rfl (by rw [ey16]; rfl) (by decide) rfl (fun ls hl => ?_)
          refine lv_goto (tgt := 7) hx hb dX5_readChoice_44 (by decide) ?_
          exact ih_lp y16 M15 (by omega) (by omega) hI hE _ _ hw hS ls (lv_sub hl [0, 1, 2] rfl)
        · refine fx_if_eq (tgt := 47) hx hb dX5_readChoice_20 (by decide) zk_0 (fun c17 => ?_) (fun c17 => by exfalso; omega)
          exact W.vret hx hb hr (fun t ht hW => ⟨⟨M_lp, rfl, ⟨hI, hE, trivial⟩, by show fm_at D ad C nb _ t.heap; rw [ht]; exact hw⟩, hS.F ht⟩) hS.2.2 dX5_readChoice_47
  exact lp _ 0 M2 (Nat.lt_succ_self _) (by decide) hI hE _ _ hw hS ls (lv_sub hl [0, 1, 2] rfl)
set_option maxHeartbeats 400000 in
set_option maxRecDepth 20000 in
theorem fc_X5_readOne_4 (l : Launch) (D : va_G) (ad : Nat → Nat → Nat) (C : Nat → Nat → ClassId) (nb : Nat) (M : fm_M) (hI : fm_I nb ad M) : Met l yX5_readOne wsX5_readOne ({ frames := 8, cells := 0, slots := 0, locals := 174 }) (va_Pc [.ref (ad 32 0), .int 4] (fm_P D ad C nb M)) (va_Qv (fun (u : fm_M) => fm_I nb ad u ∧ fm_same [32006, 32007, 36001, 37000] M u ∧ True) (fun u t => fm_at D ad C nb u t.heap) (fm_A nb ad)) 0 0 (fm_A nb ad) := by
  refine Met.ofW (cc := cX5_readOne) (maxL := 2) (ret := none) (by decide) rfl ?_
  intro p e s m args below meth c s₁ B hml hv
  obtain ⟨rfl, hw, hc⟩ := hv
  have hx := B.exec
  have hb := B.bytes
  have hr := B.returns
  have hts := atoms_spec (ws := wsX5_readOne) B.pre
  have hown : s.vm.findClass RX5 = some m.cls := findClass_of_methodNamed B.named
  have hinX5 : ∀ w ∈ u_ws RX5 TX5 8, w ∈ wsX5_readOne := fun w h => List.mem_cons_of_mem _ (iT_X5 w h)
  have hS : va_S (fm_A nb ad) s.heap s.heap [] := va_S.rf
  have hE : fm_same [32006, 32007, 36001, 37000] M M := fm_same.rf
  have hl := lv_entry ([.ref (ad 32 0), .int 4]) (n := 2) (Nat.le_of_ble_eq_true rfl)
  rw [lg_entry_eq]
  generalize (lg_sl ([.ref (ad 32 0), .int 4]) ++ List.replicate (2 - (lg_sl ([.ref (ad 32 0), .int 4])).length) Slot.unset).toArray = ls at hl ⊢
  have hl : lv_has ls 2 [(0, .ref (ad 32 0)), (1, .int 4)] := hl
  have j1 : ∀  (M_j1 : fm_M), fm_I nb ad M_j1 → fm_same [32006, 32007, 36001, 37000] M M_j1 → ∀ (H : Heap) (locs : List Loc), fm_at D ad C nb M_j1 H → va_S (fm_A nb ad) s.heap H locs → ∀ (ls : Array Slot), lv_has ls 2 [(0, .ref (ad 32 0)), (1, .int 4)] → W p l e (headSpec wsX5_readOne ({ frames := 8, cells := 0, slots := 0, locals := 174 })).room s m ([.ref (ad 32 0), .int 4] : List Value).toArray below meth c H locs 0 0 (MQ below (va_Qv (fun (u : fm_M) => fm_I nb ad u ∧ fm_same [32006, 32007, 36001, 37000] M u ∧ True) (fun u t => fm_at D ad C nb u t.heap) (fm_A nb ad)) ([.ref (ad 32 0), .int 4] : List Value).toArray s 0 0 (fm_A nb ad)) (F0 m 89 ls []) := by
    intro  M_j1 hI hE H locs hw hS ls hl
    have j2 : ∀  (M_j2 : fm_M), fm_I nb ad M_j2 → fm_same [32006, 32007, 36001, 37000] M M_j2 → ∀ (H : Heap) (locs : List Loc), fm_at D ad C nb M_j2 H → va_S (fm_A nb ad) s.heap H locs → ∀ (ls : Array Slot), lv_has ls 2 [(0, .ref (ad 32 0)), (1, .int 4)] → W p l e (headSpec wsX5_readOne ({ frames := 8, cells := 0, slots := 0, locals := 174 })).room s m ([.ref (ad 32 0), .int 4] : List Value).toArray below meth c H locs 0 0 (MQ below (va_Qv (fun (u : fm_M) => fm_I nb ad u ∧ fm_same [32006, 32007, 36001, 37000] M u ∧ True) (fun u t => fm_at D ad C nb u t.heap) (fm_A nb ad)) ([.ref (ad 32 0), .int 4] : List Value).toArray s 0 0 (fm_A nb ad)) (F0 m 126 ls []) := by
      intro  M_j2 hI hE H locs hw hS ls hl
      have j3 : ∀  (M_j3 : fm_M), fm_I nb ad M_j3 → fm_same [32006, 32007, 36001, 37000] M M_j3 → ∀ (H : Heap) (locs : List Loc), fm_at D ad C nb M_j3 H → va_S (fm_A nb ad) s.heap H locs → ∀ (ls : Array Slot), lv_has ls 2 [(0, .ref (ad 32 0)), (1, .int 4)] → W p l e (headSpec wsX5_readOne ({ frames := 8, cells := 0, slots := 0, locals := 174 })).room s m ([.ref (ad 32 0), .int 4] : List Value).toArray below meth c H locs 0 0 (MQ below (va_Qv (fun (u : fm_M) => fm_I nb ad u ∧ fm_same [32006, 32007, 36001, 37000] M u ∧ True) (fun u t => fm_at D ad C nb u t.heap) (fm_A nb ad)) ([.ref (ad 32 0), .int 4] : List Value).toArray s 0 0 (fm_A nb ad)) (F0 m 160 ls []) := by
        intro  M_j3 hI hE H locs hw hS ls hl
        refine lv_aload_n hx hb dX5_readOne_160 rfl (lv_at hl 0 rfl) ?_
        refine fm_cv (va_runV (As := []) (rest := []) ⟨hx, hb, hml, hown, hts⟩ (fc_X5_fail l D ad C nb M_j3 hI) (cwV 0 hts gX5_readOne_X5_fail rfl rfl rfl (by decide +kernel) ⟨Nat.le_of_ble_eq_true rfl, Nat.le_of_ble_eq_true rfl⟩) (fm_preV hc hw hS kl_32 sh_32 rfl) rfl rfl hl.1 rfl (lv_room (Nat.le_of_ble_eq_true rfl)) dX5_readOne_161 ⟨by decide +kernel, by decide +kernel⟩) hS hc (fun M2 H locs hr1 hw hS => ?_)
        obtain ⟨hI, hEM2, hr1⟩ := hr1
        have hE := hE.tr hEM2 (by decide)
        exact W.vret hx hb hr (fun t ht hW => ⟨⟨M2, rfl, ⟨hI, hE, trivial⟩, by show fm_at D ad C nb _ t.heap; rw [ht]; exact hw⟩, hS.F ht⟩) hS.2.2 dX5_readOne_164
      refine lv_aload_n hx hb dX5_readOne_126 rfl (lv_at hl 0 rfl) ?_
      refine lv_bipush (v := 40) hx hb dX5_readOne_127 (by decide) ?_
      have zz3 := zk_40
      refine vp_callSi (va_Run.run (va_runV (As := [.int 40]) (rest := []) ⟨hx, hb, hml, hown, hts⟩ (fc_X5_sees l D ad C nb M_j2 hI 40) (cwV 1 hts gX5_readOne_X5_sees rfl rfl rfl (by decide +kernel) ⟨Nat.le_of_ble_eq_true rfl, Nat.le_of_ble_eq_true rfl⟩) (fm_preV hc hw hS kl_32 sh_32 rfl) rfl rfl hl.1 rfl (lv_room (Nat.le_of_ble_eq_true rfl)) dX5_readOne_129 ⟨by decide +kernel, by decide +kernel⟩)) (fun r4 hr4 => ?_)
      have bqq5 := hI.bd (k := 0) bd_32_6
      have bqq6 := hI.bd (k := 0) bd_32_7
      rcases hr4 with ⟨rfl, c7⟩ | ⟨rfl, c7⟩
      · refine fx_if_eq (tgt := 160) hx hb dX5_readOne_132 (by decide) zk_1 (fun c8 => by exfalso; omega) (fun c8 => ?_)
        refine lv_iload_n hx hb dX5_readOne_135 rfl (lv_at hl 1 rfl) ?_
        refine lv_iconst (v := 5) hx hb dX5_readOne_136 (by decide) ?_
        refine fx_icmp_ge (tgt := 160) hx hb dX5_readOne_137 (by decide) zk_4 zk_5 (fun c9 => by exfalso; omega) (fun c9 => ?_)
        refine lv_aload_n hx hb dX5_readOne_140 rfl (lv_at hl 0 rfl) ?_
        refine fm_cv (va_runV (As := []) (rest := []) ⟨hx, hb, hml, hown, hts⟩ (fc_X5_advance l D ad C nb M_j2 hI) (cwV 0 hts gX5_readOne_X5_advance rfl rfl rfl (by decide +kernel) ⟨Nat.le_of_ble_eq_true rfl, Nat.le_of_ble_eq_true rfl⟩) (fm_preV hc hw hS kl_32 sh_32 rfl) rfl rfl hl.1 rfl (lv_room (Nat.le_of_ble_eq_true rfl)) dX5_readOne_141 ⟨by decide +kernel, by decide +kernel⟩) hS hc (fun M11 H locs hr10 hw hS => ?_)
        obtain ⟨hI, hEM11, hr10⟩ := hr10
        have hE := hE.tr hEM11 (by decide)
        refine lv_aload_n hx hb dX5_readOne_144 rfl (lv_at hl 0 rfl) ?_
        refine lv_iload_n hx hb dX5_readOne_145 rfl (lv_at hl 1 rfl) ?_
        refine lv_iconst (v := 1) hx hb dX5_readOne_146 (by decide) ?_
        refine lv_iadd hx hb dX5_readOne_147 ?_
        refine lv_topi (fun y13 ey13 => ?_)
        obtain rfl : y13 = 5 := ey13.trans (by decide)
        refine fm_cv (va_runV (As := [.int 5]) (rest := []) ⟨hx, hb, hml, hown, hts⟩ (fc_X5_readChoice_5 l D ad C nb M11 hI) (cwV 1 hts gX5_readOne_X5_readChoice rfl rfl rfl (by decide +kernel) ⟨Nat.le_of_ble_eq_true rfl, Nat.le_of_ble_eq_true rfl⟩) (fm_preV hc hw hS kl_32 sh_32 rfl) rfl rfl hl.1 rfl (lv_room (Nat.le_of_ble_eq_true rfl)) dX5_readOne_148 ⟨by decide +kernel, by decide +kernel⟩) hS hc (fun M15 H locs hr14 hw hS => ?_)
        obtain ⟨hI, hEM15, hr14⟩ := hr14
        have hE := hE.tr hEM15 (by decide)
        refine lv_aload_n hx hb dX5_readOne_151 rfl (lv_at hl 0 rfl) ?_
        refine lv_bipush (v := 41) hx hb dX5_readOne_152 (by decide) ?_
        refine fm_cv (va_runV (As := [.int 41]) (rest := []) ⟨hx, hb, hml, hown, hts⟩ (fc_X5_need l D ad C nb M15 hI 41) (cwV 1 hts gX5_readOne_X5_need rfl rfl rfl (by decide +kernel) ⟨Nat.le_of_ble_eq_true rfl, Nat.le_of_ble_eq_true rfl⟩) (fm_preV hc hw hS kl_32 sh_32 rfl) rfl rfl hl.1 rfl (lv_room (Nat.le_of_ble_eq_true rfl)) dX5_readOne_154 ⟨by decide +kernel, by decide +kernel⟩) hS hc (fun M17 H locs hr16 hw hS => ?_)
        obtain ⟨hI, hEM17, hr16⟩ := hr16
        have hE := hE.tr hEM17 (by decide)
        refine lv_goto (tgt := 164) hx hb dX5_readOne_157 (by decide) ?_
        exact W.vret hx hb hr (fun t ht hW => ⟨⟨M17, rfl, ⟨hI, hE, trivial⟩, by show fm_at D ad C nb _ t.heap; rw [ht]; exact hw⟩, hS.F ht⟩) hS.2.2 dX5_readOne_164
      · refine fx_if_eq (tgt := 160) hx hb dX5_readOne_132 (by decide) zk_0 (fun c18 => ?_) (fun c18 => by exfalso; omega)
        exact j3 M_j2 hI hE _ _ hw hS ls (lv_sub hl [0, 1] rfl)
    refine lv_aload_n hx hb dX5_readOne_89 rfl (lv_at hl 0 rfl) ?_
    refine lv_bipush (v := 45) hx hb dX5_readOne_90 (by decide) ?_
    have zz19 := zk_45
    refine vp_callSi (va_Run.run (va_runV (As := [.int 45]) (rest := []) ⟨hx, hb, hml, hown, hts⟩ (fc_X5_sees l D ad C nb M_j1 hI 45) (cwV 1 hts gX5_readOne_X5_sees rfl rfl rfl (by decide +kernel) ⟨Nat.le_of_ble_eq_true rfl, Nat.le_of_ble_eq_true rfl⟩) (fm_preV hc hw hS kl_32 sh_32 rfl) rfl rfl hl.1 rfl (lv_room (Nat.le_of_ble_eq_true rfl)) dX5_readOne_92 ⟨by decide +kernel, by decide +kernel⟩)) (fun r20 hr20 => ?_)
    have bqq21 := hI.bd (k := 0) bd_32_6
    have bqq22 := hI.bd (k := 0) bd_32_7
    rcases hr20 with ⟨rfl, c23⟩ | ⟨rfl, c23⟩
    · refine fx_if_eq (tgt := 126) hx hb dX5_readOne_95 (by decide) zk_1 (fun c24 => by exfalso; omega) (fun c24 => ?_)
      refine lv_iload_n hx hb dX5_readOne_98 rfl (lv_at hl 1 rfl) ?_
      refine lv_iconst (v := 5) hx hb dX5_readOne_99 (by decide) ?_
      refine fx_icmp_ge (tgt := 126) hx hb dX5_readOne_100 (by decide) zk_4 zk_5 (fun c25 => by exfalso; omega) (fun c25 => ?_)
      refine lv_aload_n hx hb dX5_readOne_103 rfl (lv_at hl 0 rfl) ?_
      refine fm_cv (va_runV (As := []) (rest := []) ⟨hx, hb, hml, hown, hts⟩ (fc_X5_advance l D ad C nb M_j1 hI) (cwV 0 hts gX5_readOne_X5_advance rfl rfl rfl (by decide +kernel) ⟨Nat.le_of_ble_eq_true rfl, Nat.le_of_ble_eq_true rfl⟩) (fm_preV hc hw hS kl_32 sh_32 rfl) rfl rfl hl.1 rfl (lv_room (Nat.le_of_ble_eq_true rfl)) dX5_readOne_104 ⟨by decide +kernel, by decide +kernel⟩) hS hc (fun M27 H locs hr26 hw hS => ?_)
      obtain ⟨hI, hEM27, hr26⟩ := hr26
      have hE := hE.tr hEM27 (by decide)
      refine lv_aload_n hx hb dX5_readOne_107 rfl (lv_at hl 0 rfl) ?_
      refine lv_iload_n hx hb dX5_readOne_108 rfl (lv_at hl 1 rfl) ?_
      refine lv_iconst (v := 1) hx hb dX5_readOne_109 (by decide) ?_
      refine lv_iadd hx hb dX5_readOne_110 ?_
      refine lv_topi (fun y29 ey29 => ?_)
      obtain rfl : y29 = 5 := ey29.trans (by decide)
      refine fm_cv (va_runV (As := [.int 5]) (rest := []) ⟨hx, hb, hml, hown, hts⟩ (fc_X5_readOne_5 l D ad C nb M27 hI) (cwV 1 hts gX5_readOne_X5_readOne rfl rfl rfl (by decide +kernel) ⟨Nat.le_of_ble_eq_true rfl, Nat.le_of_ble_eq_true rfl⟩) (fm_preV hc hw hS kl_32 sh_32 rfl) rfl rfl hl.1 rfl (lv_room (Nat.le_of_ble_eq_true rfl)) dX5_readOne_111 ⟨by decide +kernel, by decide +kernel⟩) hS hc (fun M31 H locs hr30 hw hS => ?_)
      obtain ⟨hI, hEM31, hr30⟩ := hr30
      have hE := hE.tr hEM31 (by decide)
      refine lv_aload_n hx hb dX5_readOne_114 rfl (lv_at hl 0 rfl) ?_
      refine fm_getG (a := 32) (j := 5) (T := TX5) (N := 8) hx hb hts hinX5 hown hc hw kl_32 sh_32 rfl (by decide) rfl (hI.to kl_32 tg_32_5) (hts (.fieldLink RX5 27 "RedTent$Reader" "made" "LRedTent$Text;") (List.mem_cons_of_mem _ tw_1_203)) (fun _ h9 => h9) dX5_readOne_115 ?_
      refine lv_bipush (v := (-19)) hx hb dX5_readOne_118 (by decide) ?_
      refine fm_cv (va_runV (As := [.int (-19)]) (rest := []) ⟨hx, hb, hml, hown, hts⟩ (fc_X9_addStep l D ad C nb M31 hI (-19)) (cwV 1 hts gX5_readOne_X9_addStep rfl rfl rfl (by decide +kernel) ⟨Nat.le_of_ble_eq_true rfl, Nat.le_of_ble_eq_true rfl⟩) (fm_preV hc hw hS kl_36 sh_36 rfl) rfl rfl hl.1 rfl (lv_room (Nat.le_of_ble_eq_true rfl)) dX5_readOne_120 ⟨by decide +kernel, by decide +kernel⟩) hS hc (fun M33 H locs hr32 hw hS => ?_)
      obtain ⟨hI, hEM33, hr32⟩ := hr32
      have hE := hE.tr hEM33 (by decide)
      refine lv_goto (tgt := 164) hx hb dX5_readOne_123 (by decide) ?_
      exact W.vret hx hb hr (fun t ht hW => ⟨⟨M33, rfl, ⟨hI, hE, trivial⟩, by show fm_at D ad C nb _ t.heap; rw [ht]; exact hw⟩, hS.F ht⟩) hS.2.2 dX5_readOne_164
    · refine fx_if_eq (tgt := 126) hx hb dX5_readOne_95 (by decide) zk_0 (fun c34 => ?_) (fun c34 => by exfalso; omega)
      exact j2 M_j1 hI hE _ _ hw hS ls (lv_sub hl [0, 1] rfl)
  refine lv_aload_n hx hb dX5_readOne_0 rfl (lv_at hl 0 rfl) ?_
  refine lv_bipush (v := 12) hx hb dX5_readOne_1 (by decide) ?_
  have zz35 := zk_12
  refine vp_callSi (va_Run.run (va_runV (As := [.int 12]) (rest := []) ⟨hx, hb, hml, hown, hts⟩ (fc_X5_sees l D ad C nb M hI 12) (cwV 1 hts gX5_readOne_X5_sees rfl rfl rfl (by decide +kernel) ⟨Nat.le_of_ble_eq_true rfl, Nat.le_of_ble_eq_true rfl⟩) (fm_preV hc hw hS kl_32 sh_32 rfl) rfl rfl hl.1 rfl (lv_room (Nat.le_of_ble_eq_true rfl)) dX5_readOne_3 ⟨by decide +kernel, by decide +kernel⟩)) (fun r36 hr36 => ?_)
  have bqq37 := hI.bd (k := 0) bd_32_6
  have bqq38 := hI.bd (k := 0) bd_32_7
  rcases hr36 with ⟨rfl, c39⟩ | ⟨rfl, c39⟩
  · refine fx_if_eq (tgt := 32) hx hb dX5_readOne_6 (by decide) zk_1 (fun c40 => by exfalso; omega) (fun c40 => ?_)
    refine lv_aload_n hx hb dX5_readOne_9 rfl (lv_at hl 0 rfl) ?_
    refine fm_getG (a := 32) (j := 5) (T := TX5) (N := 8) hx hb hts hinX5 hown hc hw kl_32 sh_32 rfl (by decide) rfl (hI.to kl_32 tg_32_5) (hts (.fieldLink RX5 27 "RedTent$Reader" "made" "LRedTent$Text;") (List.mem_cons_of_mem _ tw_1_203)) (fun _ h9 => h9) dX5_readOne_10 ?_
    refine lv_aload_n hx hb dX5_readOne_13 rfl (lv_at hl 0 rfl) ?_
    refine fm_getG (a := 32) (j := 4) (T := TX5) (N := 8) hx hb hts hinX5 hown hc hw kl_32 sh_32 rfl (by decide) rfl (hI.to kl_32 tg_32_4) (hts (.fieldLink RX5 21 "RedTent$Reader" "numbers" "[I") (List.mem_cons_of_mem _ tw_1_202)) (fun _ h9 => h9) dX5_readOne_14 ?_
    refine lv_aload_n hx hb dX5_readOne_17 rfl (lv_at hl 0 rfl) ?_
    refine fm_getI (a := 32) (j := 6) (T := TX5) (N := 8) hx hb hts hinX5 hown hc hw hI kl_32 sh_32 rfl (by decide) rfl bd_32_6 (hts (.fieldLink RX5 47 "RedTent$Reader" "at" "I") (List.mem_cons_of_mem _ tw_1_205)) (fun _ h9 => h9) dX5_readOne_18 (fun x41 ex41 bx41 => ?_)
    refine fm_iald (a := 35) hx hb hc hw hI kl_35 sh_35 ty_35 bd_35 (by omega) dX5_readOne_21 (fun x42 ex42 bx42 => ?_)
    refine fm_cv (va_runV (As := [.int x42]) (rest := []) ⟨hx, hb, hml, hown, hts⟩ (fc_X9_addStep l D ad C nb M hI x42) (cwV 1 hts gX5_readOne_X9_addStep rfl rfl rfl (by decide +kernel) ⟨Nat.le_of_ble_eq_true rfl, Nat.le_of_ble_eq_true rfl⟩) (fm_preV hc hw hS kl_36 sh_36 rfl) rfl rfl hl.1 rfl (lv_room (Nat.le_of_ble_eq_true rfl)) dX5_readOne_22 ⟨by decide +kernel, by decide +kernel⟩) hS hc (fun M44 H locs hr43 hw hS => ?_)
    obtain ⟨hI, hEM44, hr43⟩ := hr43
    have hE := hE.tr hEM44 (by decide)
    refine lv_aload_n hx hb dX5_readOne_25 rfl (lv_at hl 0 rfl) ?_
    refine fm_cv (va_runV (As := []) (rest := []) ⟨hx, hb, hml, hown, hts⟩ (fc_X5_advance l D ad C nb M44 hI) (cwV 0 hts gX5_readOne_X5_advance rfl rfl rfl (by decide +kernel) ⟨Nat.le_of_ble_eq_true rfl, Nat.le_of_ble_eq_true rfl⟩) (fm_preV hc hw hS kl_32 sh_32 rfl) rfl rfl hl.1 rfl (lv_room (Nat.le_of_ble_eq_true rfl)) dX5_readOne_26 ⟨by decide +kernel, by decide +kernel⟩) hS hc (fun M46 H locs hr45 hw hS => ?_)
    obtain ⟨hI, hEM46, hr45⟩ := hr45
    have hE := hE.tr hEM46 (by decide)
    refine lv_goto (tgt := 164) hx hb dX5_readOne_29 (by decide) ?_
    exact W.vret hx hb hr (fun t ht hW => ⟨⟨M46, rfl, ⟨hI, hE, trivial⟩, by show fm_at D ad C nb _ t.heap; rw [ht]; exact hw⟩, hS.F ht⟩) hS.2.2 dX5_readOne_164
  · refine fx_if_eq (tgt := 32) hx hb dX5_readOne_6 (by decide) zk_0 (fun c47 => ?_) (fun c47 => by exfalso; omega)
    refine lv_aload_n hx hb dX5_readOne_32 rfl (lv_at hl 0 rfl) ?_
    refine fm_getI (a := 32) (j := 7) (T := TX5) (N := 8) hx hb hts hinX5 hown hc hw hI kl_32 sh_32 rfl (by decide) rfl bd_32_7 (hts (.fieldLink RX5 50 "RedTent$Reader" "fault" "I") (List.mem_cons_of_mem _ tw_1_206)) (fun _ h9 => h9) dX5_readOne_33 (fun x48 ex48 bx48 => ?_)
    refine fx_if_ge (tgt := 89) hx hb dX5_readOne_36 (by decide) rfl (fun c49 => ?_) (fun c49 => ?_)
    · exact j1 M hI hE _ _ hw hS ls (lv_sub hl [0, 1] rfl)
    · refine lv_aload_n hx hb dX5_readOne_39 rfl (lv_at hl 0 rfl) ?_
      refine fm_getG (a := 32) (j := 2) (T := TX5) (N := 8) hx hb hts hinX5 hown hc hw kl_32 sh_32 rfl (by decide) rfl (hI.to kl_32 tg_32_2) (hts (.fieldLink RX5 15 "RedTent$Reader" "tokens" "[I") (List.mem_cons_of_mem _ tw_1_200)) (fun _ h9 => h9) dX5_readOne_40 ?_
      refine lv_aload_n hx hb dX5_readOne_43 rfl (lv_at hl 0 rfl) ?_
      refine fm_getI (a := 32) (j := 6) (T := TX5) (N := 8) hx hb hts hinX5 hown hc hw hI kl_32 sh_32 rfl (by decide) rfl bd_32_6 (hts (.fieldLink RX5 47 "RedTent$Reader" "at" "I") (List.mem_cons_of_mem _ tw_1_205)) (fun _ h9 => h9) dX5_readOne_44 (fun x50 ex50 bx50 => ?_)
      refine fm_iald (a := 33) hx hb hc hw hI kl_33 sh_33 ty_33 bd_33 (by omega) dX5_readOne_47 (fun x51 ex51 bx51 => ?_)
      refine fx_if_le (tgt := 89) hx hb dX5_readOne_48 (by decide) rfl (fun c52 => ?_) (fun c52 => ?_)
      · exact j1 M hI hE _ _ hw hS ls (lv_sub hl [0, 1] rfl)
      · refine lv_aload_n hx hb dX5_readOne_51 rfl (lv_at hl 0 rfl) ?_
        refine fm_getG (a := 32) (j := 2) (T := TX5) (N := 8) hx hb hts hinX5 hown hc hw kl_32 sh_32 rfl (by decide) rfl (hI.to kl_32 tg_32_2) (hts (.fieldLink RX5 15 "RedTent$Reader" "tokens" "[I") (List.mem_cons_of_mem _ tw_1_200)) (fun _ h9 => h9) dX5_readOne_52 ?_
        refine lv_aload_n hx hb dX5_readOne_55 rfl (lv_at hl 0 rfl) ?_
        refine fm_getI (a := 32) (j := 6) (T := TX5) (N := 8) hx hb hts hinX5 hown hc hw hI kl_32 sh_32 rfl (by decide) rfl bd_32_6 (hts (.fieldLink RX5 47 "RedTent$Reader" "at" "I") (List.mem_cons_of_mem _ tw_1_205)) (fun _ h9 => h9) dX5_readOne_56 (fun x53 ex53 bx53 => ?_)
        obtain rfl : x50 = x53 := by rw [ex53]; exact ex50
        refine fm_iald (a := 33) hx hb hc hw hI kl_33 sh_33 ty_33 bd_33 (by omega) dX5_readOne_59 (fun x54 ex54 bx54 => ?_)
        obtain rfl : x51 = x54 := by rw [ex54]; exact ex51
        refine lv_bipush (v := 6) hx hb dX5_readOne_60 (by decide) ?_
        refine fx_icmp_gt (tgt := 89) hx hb dX5_readOne_62 (by decide) rfl zk_6 (fun c55 => ?_) (fun c55 => ?_)
        · exact j1 M hI hE _ _ hw hS ls (lv_sub hl [0, 1] rfl)
        · refine lv_aload_n hx hb dX5_readOne_65 rfl (lv_at hl 0 rfl) ?_
          refine fm_getG (a := 32) (j := 5) (T := TX5) (N := 8) hx hb hts hinX5 hown hc hw kl_32 sh_32 rfl (by decide) rfl (hI.to kl_32 tg_32_5) (hts (.fieldLink RX5 27 "RedTent$Reader" "made" "LRedTent$Text;") (List.mem_cons_of_mem _ tw_1_203)) (fun _ h9 => h9) dX5_readOne_66 ?_
          refine lv_aload_n hx hb dX5_readOne_69 rfl (lv_at hl 0 rfl) ?_
          refine fm_getG (a := 32) (j := 2) (T := TX5) (N := 8) hx hb hts hinX5 hown hc hw kl_32 sh_32 rfl (by decide) rfl (hI.to kl_32 tg_32_2) (hts (.fieldLink RX5 15 "RedTent$Reader" "tokens" "[I") (List.mem_cons_of_mem _ tw_1_200)) (fun _ h9 => h9) dX5_readOne_70 ?_
          refine lv_aload_n hx hb dX5_readOne_73 rfl (lv_at hl 0 rfl) ?_
          refine fm_getI (a := 32) (j := 6) (T := TX5) (N := 8) hx hb hts hinX5 hown hc hw hI kl_32 sh_32 rfl (by decide) rfl bd_32_6 (hts (.fieldLink RX5 47 "RedTent$Reader" "at" "I") (List.mem_cons_of_mem _ tw_1_205)) (fun _ h9 => h9) dX5_readOne_74 (fun x56 ex56 bx56 => ?_)
          obtain rfl : x50 = x56 := by rw [ex56]; exact ex50
          refine fm_iald (a := 33) hx hb hc hw hI kl_33 sh_33 ty_33 bd_33 (by omega) dX5_readOne_77 (fun x57 ex57 bx57 => ?_)
          obtain rfl : x51 = x57 := by rw [ex57]; exact ex51
          refine fx_ineg hx hb dX5_readOne_78 rfl (by omega) (fun y58 ey58 ty58 => ?_)
          refine fm_cv (va_runV (As := [.int y58]) (rest := []) ⟨hx, hb, hml, hown, hts⟩ (fc_X9_addStep l D ad C nb M hI y58) (cwV 1 hts gX5_readOne_X9_addStep rfl rfl rfl (by decide +kernel) ⟨Nat.le_of_ble_eq_true rfl, Nat.le_of_ble_eq_true rfl⟩) (fm_preV hc hw hS kl_36 sh_36 rfl) rfl rfl hl.1 rfl (lv_room (Nat.le_of_ble_eq_true rfl)) dX5_readOne_79 ⟨by decide +kernel, by decide +kernel⟩) hS hc (fun M60 H locs hr59 hw hS => ?_)
          obtain ⟨hI, hEM60, hr59⟩ := hr59
          have hE := hE.tr hEM60 (by decide)
          refine lv_aload_n hx hb dX5_readOne_82 rfl (lv_at hl 0 rfl) ?_
          refine fm_cv (va_runV (As := []) (rest := []) ⟨hx, hb, hml, hown, hts⟩ (fc_X5_advance l D ad C nb M60 hI) (cwV 0 hts gX5_readOne_X5_advance rfl rfl rfl (by decide +kernel) ⟨Nat.le_of_ble_eq_true rfl, Nat.le_of_ble_eq_true rfl⟩) (fm_preV hc hw hS kl_32 sh_32 rfl) rfl rfl hl.1 rfl (lv_room (Nat.le_of_ble_eq_true rfl)) dX5_readOne_83 ⟨by decide +kernel, by decide +kernel⟩) hS hc (fun M62 H locs hr61 hw hS => ?_)
          obtain ⟨hI, hEM62, hr61⟩ := hr61
          have hE := hE.tr hEM62 (by decide)
          refine lv_goto (tgt := 164) hx hb dX5_readOne_86 (by decide) ?_
          exact W.vret hx hb hr (fun t ht hW => ⟨⟨M62, rfl, ⟨hI, hE, trivial⟩, by show fm_at D ad C nb _ t.heap; rw [ht]; exact hw⟩, hS.F ht⟩) hS.2.2 dX5_readOne_164
set_option maxHeartbeats 400000 in
set_option maxRecDepth 20000 in
theorem fc_X5_readTerm_4 (l : Launch) (D : va_G) (ad : Nat → Nat → Nat) (C : Nat → Nat → ClassId) (nb : Nat) (M : fm_M) (hI : fm_I nb ad M) : Met l yX5_readTerm wsX5_readTerm ({ frames := 9, cells := 0, slots := 0, locals := 195 }) (va_Pc [.ref (ad 32 0), .int 4] (fm_P D ad C nb M)) (va_Qv (fun (u : fm_M) => fm_I nb ad u ∧ fm_same [32006, 32007, 36001, 37000] M u ∧ True) (fun u t => fm_at D ad C nb u t.heap) (fm_A nb ad)) 0 0 (fm_A nb ad) := by
  refine Met.ofW (cc := cX5_readTerm) (maxL := 3) (ret := none) (by decide) rfl ?_
  intro p e s m args below meth c s₁ B hml hv
  obtain ⟨rfl, hw, hc⟩ := hv
  have hx := B.exec
  have hb := B.bytes
  have hr := B.returns
  have hts := atoms_spec (ws := wsX5_readTerm) B.pre
  have hown : s.vm.findClass RX5 = some m.cls := findClass_of_methodNamed B.named
  have hinX5 : ∀ w ∈ u_ws RX5 TX5 8, w ∈ wsX5_readTerm := fun w h => List.mem_cons_of_mem _ (iT_X5 w h)
  have hS : va_S (fm_A nb ad) s.heap s.heap [] := va_S.rf
  have hE : fm_same [32006, 32007, 36001, 37000] M M := fm_same.rf
  have hl := lv_entry ([.ref (ad 32 0), .int 4]) (n := 3) (Nat.le_of_ble_eq_true rfl)
  rw [lg_entry_eq]
  generalize (lg_sl ([.ref (ad 32 0), .int 4]) ++ List.replicate (3 - (lg_sl ([.ref (ad 32 0), .int 4])).length) Slot.unset).toArray = ls at hl ⊢
  have hl : lv_has ls 3 [(0, .ref (ad 32 0)), (1, .int 4)] := hl
  refine lv_aload_n hx hb dX5_readTerm_0 rfl (lv_at hl 0 rfl) ?_
  refine lv_iload_n hx hb dX5_readTerm_1 rfl (lv_at hl 1 rfl) ?_
  refine fm_cv (va_runV (As := [.int 4]) (rest := []) ⟨hx, hb, hml, hown, hts⟩ (fc_X5_readOne_4 l D ad C nb M hI) (cwV 1 hts gX5_readTerm_X5_readOne rfl rfl rfl (by decide +kernel) ⟨Nat.le_of_ble_eq_true rfl, Nat.le_of_ble_eq_true rfl⟩) (fm_preV hc hw hS kl_32 sh_32 rfl) rfl rfl hl.1 rfl (lv_room (Nat.le_of_ble_eq_true rfl)) dX5_readTerm_2 ⟨by decide +kernel, by decide +kernel⟩) hS hc (fun M2 H locs hr1 hw hS => ?_)
  obtain ⟨hI, hEM2, hr1⟩ := hr1
  have hE := hE.tr hEM2 (by decide)
  refine lv_iconst (v := 0) hx hb dX5_readTerm_5 (by decide) ?_
  refine lv_istore_n (lv' := [(2, .int 0), (0, .ref (ad 32 0)), (1, .int 4)]) hx hb dX5_readTerm_6 rfl hl (by decide) rfl (fun ls hl => ?_)
  have lp : ∀ (n_lp : Nat) (lp_2 : Int32) (M_lp : fm_M), (160 - lp_2.toInt).toNat < n_lp → (0 ≤ lp_2.toInt ∧ lp_2.toInt ≤ 160) → fm_I nb ad M_lp → fm_same [32006, 32007, 36001, 37000] M M_lp → ∀ (H : Heap) (locs : List Loc), fm_at D ad C nb M_lp H → va_S (fm_A nb ad) s.heap H locs → ∀ (ls : Array Slot), lv_has ls 3 [(2, .int lp_2), (0, .ref (ad 32 0)), (1, .int 4)] → W p l e (headSpec wsX5_readTerm ({ frames := 9, cells := 0, slots := 0, locals := 195 })).room s m ([.ref (ad 32 0), .int 4] : List Value).toArray below meth c H locs 0 0 (MQ below (va_Qv (fun (u : fm_M) => fm_I nb ad u ∧ fm_same [32006, 32007, 36001, 37000] M u ∧ True) (fun u t => fm_at D ad C nb u t.heap) (fm_A nb ad)) ([.ref (ad 32 0), .int 4] : List Value).toArray s 0 0 (fm_A nb ad)) (F0 m 7 ls []) := by
    intro n_lp
    induction n_lp with
    | zero => intro lp_2 M_lp hm_lp b_lp_2 hI hE H locs hw hS ls hl; exact absurd hm_lp (Nat.not_lt_zero _)
    | succ n_lp ih_lp =>
      intro lp_2 M_lp hm_lp b_lp_2 hI hE H locs hw hS ls hl
      refine lv_iload_n hx hb dX5_readTerm_7 rfl (lv_at hl 0 rfl) ?_
      refine lv_sipush (v := 160) hx hb dX5_readTerm_8 (by decide) ?_
      refine fx_icmp_ge (tgt := 47) hx hb dX5_readTerm_11 (by decide) rfl zk_160 (fun c3 => ?_) (fun c3 => ?_)
      · exact W.vret hx hb hr (fun t ht hW => ⟨⟨M_lp, rfl, ⟨hI, hE, trivial⟩, by show fm_at D ad C nb _ t.heap; rw [ht]; exact hw⟩, hS.F ht⟩) hS.2.2 dX5_readTerm_47
      · refine lv_aload_n hx hb dX5_readTerm_14 rfl (lv_at hl 1 rfl) ?_
        refine lv_bipush (v := 42) hx hb dX5_readTerm_15 (by decide) ?_
        have zz4 := zk_42
        refine vp_callSi (va_Run.run (va_runV (As := [.int 42]) (rest := []) ⟨hx, hb, hml, hown, hts⟩ (fc_X5_sees l D ad C nb M_lp hI 42) (cwV 1 hts gX5_readTerm_X5_sees rfl rfl rfl (by decide +kernel) ⟨Nat.le_of_ble_eq_true rfl, Nat.le_of_ble_eq_true rfl⟩) (fm_preV hc hw hS kl_32 sh_32 rfl) rfl rfl hl.1 rfl (lv_room (Nat.le_of_ble_eq_true rfl)) dX5_readTerm_17 ⟨by decide +kernel, by decide +kernel⟩)) (fun r5 hr5 => ?_)
        have bqq6 := hI.bd (k := 0) bd_32_6
        have bqq7 := hI.bd (k := 0) bd_32_7
        rcases hr5 with ⟨rfl, c8⟩ | ⟨rfl, c8⟩
        · refine fx_if_eq (tgt := 47) hx hb dX5_readTerm_20 (by decide) zk_1 (fun c9 => by exfalso; omega) (fun c9 => ?_)
          refine lv_aload_n hx hb dX5_readTerm_23 rfl (lv_at hl 1 rfl) ?_
          refine fm_cv (va_runV (As := []) (rest := []) ⟨hx, hb, hml, hown, hts⟩ (fc_X5_advance l D ad C nb M_lp hI) (cwV 0 hts gX5_readTerm_X5_advance rfl rfl rfl (by decide +kernel) ⟨Nat.le_of_ble_eq_true rfl, Nat.le_of_ble_eq_true rfl⟩) (fm_preV hc hw hS kl_32 sh_32 rfl) rfl rfl hl.1 rfl (lv_room (Nat.le_of_ble_eq_true rfl)) dX5_readTerm_24 ⟨by decide +kernel, by decide +kernel⟩) hS hc (fun M11 H locs hr10 hw hS => ?_)
          obtain ⟨hI, hEM11, hr10⟩ := hr10
          have hE := hE.tr hEM11 (by decide)
          refine lv_aload_n hx hb dX5_readTerm_27 rfl (lv_at hl 1 rfl) ?_
          refine lv_iload_n hx hb dX5_readTerm_28 rfl (lv_at hl 2 rfl) ?_
          refine fm_cv (va_runV (As := [.int 4]) (rest := []) ⟨hx, hb, hml, hown, hts⟩ (fc_X5_readOne_4 l D ad C nb M11 hI) (cwV 1 hts gX5_readTerm_X5_readOne rfl rfl rfl (by decide +kernel) ⟨Nat.le_of_ble_eq_true rfl, Nat.le_of_ble_eq_true rfl⟩) (fm_preV hc hw hS kl_32 sh_32 rfl) rfl rfl hl.1 rfl (lv_room (Nat.le_of_ble_eq_true rfl)) dX5_readTerm_29 ⟨by decide +kernel, by decide +kernel⟩) hS hc (fun M13 H locs hr12 hw hS => ?_)
          obtain ⟨hI, hEM13, hr12⟩ := hr12
          have hE := hE.tr hEM13 (by decide)
          refine lv_aload_n hx hb dX5_readTerm_32 rfl (lv_at hl 1 rfl) ?_
          refine fm_getG (a := 32) (j := 5) (T := TX5) (N := 8) hx hb hts hinX5 hown hc hw kl_32 sh_32 rfl (by decide) rfl (hI.to kl_32 tg_32_5) (hts (.fieldLink RX5 27 "RedTent$Reader" "made" "LRedTent$Text;") (List.mem_cons_of_mem _ tw_1_203)) (fun _ h9 => h9) dX5_readTerm_33 ?_
          refine lv_bipush (v := (-18)) hx hb dX5_readTerm_36 (by decide) ?_
          refine fm_cv (va_runV (As := [.int (-18)]) (rest := []) ⟨hx, hb, hml, hown, hts⟩ (fc_X9_addStep l D ad C nb M13 hI (-18)) (cwV 1 hts gX5_readTerm_X9_addStep rfl rfl rfl (by decide +kernel) ⟨Nat.le_of_ble_eq_true rfl, Nat.le_of_ble_eq_true rfl⟩) (fm_preV hc hw hS kl_36 sh_36 rfl) rfl rfl hl.1 rfl (lv_room (Nat.le_of_ble_eq_true rfl)) dX5_readTerm_38 ⟨by decide +kernel, by decide +kernel⟩) hS hc (fun M15 H locs hr14 hw hS => ?_)
          obtain ⟨hI, hEM15, hr14⟩ := hr14
          have hE := hE.tr hEM15 (by decide)
          obtain ⟨y16, ey16⟩ : ∃ y : Int32, y = lp_2 + 1 := ⟨_, rfl⟩
          have ty16 : y16.toInt = lp_2.toInt + 1 := by rw [ey16, zi_add _ _ (by rw [zk_1]; omega) (by rw [zk_1]; omega), zk_1]
          refine lv_iinc (v := y16) (lv' := [(2, .int y16), (0, .ref (ad 32 0)), (1, .int 4)]) hx hb dX5_readTerm_41 hl (k := 0) rfl (by rw [ey16]; rfl) (by decide) rfl (fun ls hl => ?_)
          refine lv_goto (tgt := 7) hx hb dX5_readTerm_44 (by decide) ?_
          exact ih_lp y16 M15 (by omega) (by omega) hI hE _ _ hw hS ls (lv_sub hl [0, 1, 2] rfl)
        · refine fx_if_eq (tgt := 47) hx hb dX5_readTerm_20 (by decide) zk_0 (fun c17 => ?_) (fun c17 => by exfalso; omega)
          exact W.vret hx hb hr (fun t ht hW => ⟨⟨M_lp, rfl, ⟨hI, hE, trivial⟩, by show fm_at D ad C nb _ t.heap; rw [ht]; exact hw⟩, hS.F ht⟩) hS.2.2 dX5_readTerm_47
  exact lp _ 0 M2 (Nat.lt_succ_self _) (by decide) hI hE _ _ hw hS ls (lv_sub hl [0, 1, 2] rfl)
set_option maxHeartbeats 400000 in
set_option maxRecDepth 20000 in
theorem fc_X5_readSum_4 (l : Launch) (D : va_G) (ad : Nat → Nat → Nat) (C : Nat → Nat → ClassId) (nb : Nat) (M : fm_M) (hI : fm_I nb ad M) : Met l yX5_readSum wsX5_readSum ({ frames := 10, cells := 0, slots := 0, locals := 217 }) (va_Pc [.ref (ad 32 0), .int 4] (fm_P D ad C nb M)) (va_Qv (fun (u : fm_M) => fm_I nb ad u ∧ fm_same [32006, 32007, 36001, 37000] M u ∧ True) (fun u t => fm_at D ad C nb u t.heap) (fm_A nb ad)) 0 0 (fm_A nb ad) := by
  refine Met.ofW (cc := cX5_readSum) (maxL := 4) (ret := none) (by decide) rfl ?_
  intro p e s m args below meth c s₁ B hml hv
  obtain ⟨rfl, hw, hc⟩ := hv
  have hx := B.exec
  have hb := B.bytes
  have hr := B.returns
  have hts := atoms_spec (ws := wsX5_readSum) B.pre
  have hown : s.vm.findClass RX5 = some m.cls := findClass_of_methodNamed B.named
  have hinX5 : ∀ w ∈ u_ws RX5 TX5 8, w ∈ wsX5_readSum := fun w h => List.mem_cons_of_mem _ (iT_X5 w h)
  have hS : va_S (fm_A nb ad) s.heap s.heap [] := va_S.rf
  have hE : fm_same [32006, 32007, 36001, 37000] M M := fm_same.rf
  have hl := lv_entry ([.ref (ad 32 0), .int 4]) (n := 4) (Nat.le_of_ble_eq_true rfl)
  rw [lg_entry_eq]
  generalize (lg_sl ([.ref (ad 32 0), .int 4]) ++ List.replicate (4 - (lg_sl ([.ref (ad 32 0), .int 4])).length) Slot.unset).toArray = ls at hl ⊢
  have hl : lv_has ls 4 [(0, .ref (ad 32 0)), (1, .int 4)] := hl
  refine lv_aload_n hx hb dX5_readSum_0 rfl (lv_at hl 0 rfl) ?_
  refine lv_iload_n hx hb dX5_readSum_1 rfl (lv_at hl 1 rfl) ?_
  refine fm_cv (va_runV (As := [.int 4]) (rest := []) ⟨hx, hb, hml, hown, hts⟩ (fc_X5_readTerm_4 l D ad C nb M hI) (cwV 1 hts gX5_readSum_X5_readTerm rfl rfl rfl (by decide +kernel) ⟨Nat.le_of_ble_eq_true rfl, Nat.le_of_ble_eq_true rfl⟩) (fm_preV hc hw hS kl_32 sh_32 rfl) rfl rfl hl.1 rfl (lv_room (Nat.le_of_ble_eq_true rfl)) dX5_readSum_2 ⟨by decide +kernel, by decide +kernel⟩) hS hc (fun M2 H locs hr1 hw hS => ?_)
  obtain ⟨hI, hEM2, hr1⟩ := hr1
  have hE := hE.tr hEM2 (by decide)
  refine lv_iconst (v := 0) hx hb dX5_readSum_5 (by decide) ?_
  refine lv_istore_n (lv' := [(2, .int 0), (0, .ref (ad 32 0)), (1, .int 4)]) hx hb dX5_readSum_6 rfl hl (by decide) rfl (fun ls hl => ?_)
  have lp : ∀ (n_lp : Nat) (lp_2 : Int32) (M_lp : fm_M), (160 - lp_2.toInt).toNat < n_lp → (0 ≤ lp_2.toInt ∧ lp_2.toInt ≤ 160) → fm_I nb ad M_lp → fm_same [32006, 32007, 36001, 37000] M M_lp → ∀ (H : Heap) (locs : List Loc), fm_at D ad C nb M_lp H → va_S (fm_A nb ad) s.heap H locs → ∀ (ls : Array Slot), lv_has ls 4 [(2, .int lp_2), (0, .ref (ad 32 0)), (1, .int 4)] → W p l e (headSpec wsX5_readSum ({ frames := 10, cells := 0, slots := 0, locals := 217 })).room s m ([.ref (ad 32 0), .int 4] : List Value).toArray below meth c H locs 0 0 (MQ below (va_Qv (fun (u : fm_M) => fm_I nb ad u ∧ fm_same [32006, 32007, 36001, 37000] M u ∧ True) (fun u t => fm_at D ad C nb u t.heap) (fm_A nb ad)) ([.ref (ad 32 0), .int 4] : List Value).toArray s 0 0 (fm_A nb ad)) (F0 m 7 ls []) := by
    intro n_lp
    induction n_lp with
    | zero => intro lp_2 M_lp hm_lp b_lp_2 hI hE H locs hw hS ls hl; exact absurd hm_lp (Nat.not_lt_zero _)
    | succ n_lp ih_lp =>
      intro lp_2 M_lp hm_lp b_lp_2 hI hE H locs hw hS ls hl
      refine lv_iload_n hx hb dX5_readSum_7 rfl (lv_at hl 0 rfl) ?_
      refine lv_sipush (v := 160) hx hb dX5_readSum_8 (by decide) ?_
      refine fx_icmp_ge (tgt := 72) hx hb dX5_readSum_11 (by decide) rfl zk_160 (fun c3 => ?_) (fun c3 => ?_)
      · exact W.vret hx hb hr (fun t ht hW => ⟨⟨M_lp, rfl, ⟨hI, hE, trivial⟩, by show fm_at D ad C nb _ t.heap; rw [ht]; exact hw⟩, hS.F ht⟩) hS.2.2 dX5_readSum_72
      · have j1 : ∀  (M_j1 : fm_M), fm_I nb ad M_j1 → fm_same [32006, 32007, 36001, 37000] M M_j1 → ∀ (H : Heap) (locs : List Loc), fm_at D ad C nb M_j1 H → va_S (fm_A nb ad) s.heap H locs → ∀ (ls : Array Slot), lv_has ls 4 [(2, .int lp_2), (0, .ref (ad 32 0)), (1, .int 4)] → W p l e (headSpec wsX5_readSum ({ frames := 10, cells := 0, slots := 0, locals := 217 })).room s m ([.ref (ad 32 0), .int 4] : List Value).toArray below meth c H locs 0 0 (MQ below (va_Qv (fun (u : fm_M) => fm_I nb ad u ∧ fm_same [32006, 32007, 36001, 37000] M u ∧ True) (fun u t => fm_at D ad C nb u t.heap) (fm_A nb ad)) ([.ref (ad 32 0), .int 4] : List Value).toArray s 0 0 (fm_A nb ad)) (F0 m 32 ls []) := by
          intro  M_j1 hI hE H locs hw hS ls hl
          have j2 : ∀ (j2_3 : Int32) (M_j2 : fm_M), ((-17) ≤ j2_3.toInt ∧ j2_3.toInt ≤ (-16)) → fm_I nb ad M_j2 → fm_same [32006, 32007, 36001, 37000] M M_j2 → ∀ (H : Heap) (locs : List Loc), fm_at D ad C nb M_j2 H → va_S (fm_A nb ad) s.heap H locs → ∀ (ls : Array Slot), lv_has ls 4 [(2, .int lp_2), (0, .ref (ad 32 0)), (1, .int 4), (3, .int j2_3)] → W p l e (headSpec wsX5_readSum ({ frames := 10, cells := 0, slots := 0, locals := 217 })).room s m ([.ref (ad 32 0), .int 4] : List Value).toArray below meth c H locs 0 0 (MQ below (va_Qv (fun (u : fm_M) => fm_I nb ad u ∧ fm_same [32006, 32007, 36001, 37000] M u ∧ True) (fun u t => fm_at D ad C nb u t.heap) (fm_A nb ad)) ([.ref (ad 32 0), .int 4] : List Value).toArray s 0 0 (fm_A nb ad)) (F0 m 49 ls []) := by
            intro j2_3 M_j2 b_j2_3 hI hE H locs hw hS ls hl
            refine lv_aload_n hx hb dX5_readSum_49 rfl (lv_at hl 1 rfl) ?_
            refine fm_cv (va_runV (As := []) (rest := []) ⟨hx, hb, hml, hown, hts⟩ (fc_X5_advance l D ad C nb M_j2 hI) (cwV 0 hts gX5_readSum_X5_advance rfl rfl rfl (by decide +kernel) ⟨Nat.le_of_ble_eq_true rfl, Nat.le_of_ble_eq_true rfl⟩) (fm_preV hc hw hS kl_32 sh_32 rfl) rfl rfl hl.1 rfl (lv_room (Nat.le_of_ble_eq_true rfl)) dX5_readSum_50 ⟨by decide +kernel, by decide +kernel⟩) hS hc (fun M5 H locs hr4 hw hS => ?_)
            obtain ⟨hI, hEM5, hr4⟩ := hr4
            have hE := hE.tr hEM5 (by decide)
            refine lv_aload_n hx hb dX5_readSum_53 rfl (lv_at hl 1 rfl) ?_
            refine lv_iload_n hx hb dX5_readSum_54 rfl (lv_at hl 2 rfl) ?_
            refine fm_cv (va_runV (As := [.int 4]) (rest := []) ⟨hx, hb, hml, hown, hts⟩ (fc_X5_readTerm_4 l D ad C nb M5 hI) (cwV 1 hts gX5_readSum_X5_readTerm rfl rfl rfl (by decide +kernel) ⟨Nat.le_of_ble_eq_true rfl, Nat.le_of_ble_eq_true rfl⟩) (fm_preV hc hw hS kl_32 sh_32 rfl) rfl rfl hl.1 rfl (lv_room (Nat.le_of_ble_eq_true rfl)) dX5_readSum_55 ⟨by decide +kernel, by decide +kernel⟩) hS hc (fun M7 H locs hr6 hw hS => ?_)
            obtain ⟨hI, hEM7, hr6⟩ := hr6
            have hE := hE.tr hEM7 (by decide)
            refine lv_aload_n hx hb dX5_readSum_58 rfl (lv_at hl 1 rfl) ?_
            refine fm_getG (a := 32) (j := 5) (T := TX5) (N := 8) hx hb hts hinX5 hown hc hw kl_32 sh_32 rfl (by decide) rfl (hI.to kl_32 tg_32_5) (hts (.fieldLink RX5 27 "RedTent$Reader" "made" "LRedTent$Text;") (List.mem_cons_of_mem _ tw_1_203)) (fun _ h9 => h9) dX5_readSum_59 ?_
            refine lv_iload_n hx hb dX5_readSum_62 rfl (lv_at hl 3 rfl) ?_
            refine fm_cv (va_runV (As := [.int j2_3]) (rest := []) ⟨hx, hb, hml, hown, hts⟩ (fc_X9_addStep l D ad C nb M7 hI j2_3) (cwV 1 hts gX5_readSum_X9_addStep rfl rfl rfl (by decide +kernel) ⟨Nat.le_of_ble_eq_true rfl, Nat.le_of_ble_eq_true rfl⟩) (fm_preV hc hw hS kl_36 sh_36 rfl) rfl rfl hl.1 rfl (lv_room (Nat.le_of_ble_eq_true rfl)) dX5_readSum_63 ⟨by decide +kernel, by decide +kernel⟩) hS hc (fun M9 H locs hr8 hw hS => ?_)
            obtain ⟨hI, hEM9, hr8⟩ := hr8
            have hE := hE.tr hEM9 (by decide)
            obtain ⟨y10, ey10⟩ : ∃ y : Int32, y = lp_2 + 1 := ⟨_, rfl⟩
            have ty10 : y10.toInt = lp_2.toInt + 1 := by rw [ey10, zi_add _ _ (by rw [zk_1]; omega) (by rw [zk_1]; omega), zk_1]
            refine lv_iinc (v := y10) (lv' := [(2, .int y10), (0, .ref (ad 32 0)), (1, .int 4), (3, .int j2_3)]) hx hb dX5_readSum_66 hl (k := 0) rfl (by rw [ey10]; rfl) (by decide) rfl (fun ls hl => ?_)
            refine lv_goto (tgt := 7) hx hb dX5_readSum_69 (by decide) ?_
            exact ih_lp y10 M9 (by omega) (by omega) hI hE _ _ hw hS ls (lv_sub hl [0, 1, 2] rfl)
          refine lv_aload_n hx hb dX5_readSum_32 rfl (lv_at hl 1 rfl) ?_
          refine lv_bipush (v := 43) hx hb dX5_readSum_33 (by decide) ?_
          have zz11 := zk_43
          refine vp_callSi (va_Run.run (va_runV (As := [.int 43]) (rest := []) ⟨hx, hb, hml, hown, hts⟩ (fc_X5_sees l D ad C nb M_j1 hI 43) (cwV 1 hts gX5_readSum_X5_sees rfl rfl rfl (by decide +kernel) ⟨Nat.le_of_ble_eq_true rfl, Nat.le_of_ble_eq_true rfl⟩) (fm_preV hc hw hS kl_32 sh_32 rfl) rfl rfl hl.1 rfl (lv_room (Nat.le_of_ble_eq_true rfl)) dX5_readSum_35 ⟨by decide +kernel, by decide +kernel⟩)) (fun r12 hr12 => ?_)
          have bqq13 := hI.bd (k := 0) bd_32_6
          have bqq14 := hI.bd (k := 0) bd_32_7
          rcases hr12 with ⟨rfl, c15⟩ | ⟨rfl, c15⟩
          · refine fx_if_eq (tgt := 46) hx hb dX5_readSum_38 (by decide) zk_1 (fun c16 => by exfalso; omega) (fun c16 => ?_)
            refine lv_bipush (v := (-16)) hx hb dX5_readSum_41 (by decide) ?_
            refine lv_goto (tgt := 48) hx hb dX5_readSum_43 (by decide) ?_
            refine lv_istore_n (lv' := [(3, .int (-16)), (2, .int lp_2), (0, .ref (ad 32 0)), (1, .int 4)]) hx hb dX5_readSum_48 rfl hl (by decide) rfl (fun ls hl => ?_)
            exact j2 (-16) M_j1 (by decide) hI hE _ _ hw hS ls (lv_sub hl [1, 2, 3, 0] rfl)
          · refine fx_if_eq (tgt := 46) hx hb dX5_readSum_38 (by decide) zk_0 (fun c17 => ?_) (fun c17 => by exfalso; omega)
            refine lv_bipush (v := (-17)) hx hb dX5_readSum_46 (by decide) ?_
            refine lv_istore_n (lv' := [(3, .int (-17)), (2, .int lp_2), (0, .ref (ad 32 0)), (1, .int 4)]) hx hb dX5_readSum_48 rfl hl (by decide) rfl (fun ls hl => ?_)
            exact j2 (-17) M_j1 (by decide) hI hE _ _ hw hS ls (lv_sub hl [1, 2, 3, 0] rfl)
        refine lv_aload_n hx hb dX5_readSum_14 rfl (lv_at hl 1 rfl) ?_
        refine lv_bipush (v := 43) hx hb dX5_readSum_15 (by decide) ?_
        have zz18 := zk_43
        refine vp_callSi (va_Run.run (va_runV (As := [.int 43]) (rest := []) ⟨hx, hb, hml, hown, hts⟩ (fc_X5_sees l D ad C nb M_lp hI 43) (cwV 1 hts gX5_readSum_X5_sees rfl rfl rfl (by decide +kernel) ⟨Nat.le_of_ble_eq_true rfl, Nat.le_of_ble_eq_true rfl⟩) (fm_preV hc hw hS kl_32 sh_32 rfl) rfl rfl hl.1 rfl (lv_room (Nat.le_of_ble_eq_true rfl)) dX5_readSum_17 ⟨by decide +kernel, by decide +kernel⟩)) (fun r19 hr19 => ?_)
        have bqq20 := hI.bd (k := 0) bd_32_6
        have bqq21 := hI.bd (k := 0) bd_32_7
        rcases hr19 with ⟨rfl, c22⟩ | ⟨rfl, c22⟩
        · refine fx_if_ne (tgt := 32) hx hb dX5_readSum_20 (by decide) zk_1 (fun c23 => ?_) (fun c23 => by exfalso; omega)
          exact j1 M_lp hI hE _ _ hw hS ls (lv_sub hl [0, 1, 2] rfl)
        · refine fx_if_ne (tgt := 32) hx hb dX5_readSum_20 (by decide) zk_0 (fun c24 => by exfalso; omega) (fun c24 => ?_)
          refine lv_aload_n hx hb dX5_readSum_23 rfl (lv_at hl 1 rfl) ?_
          refine lv_bipush (v := 45) hx hb dX5_readSum_24 (by decide) ?_
          have zz25 := zk_45
          refine vp_callSi (va_Run.run (va_runV (As := [.int 45]) (rest := []) ⟨hx, hb, hml, hown, hts⟩ (fc_X5_sees l D ad C nb M_lp hI 45) (cwV 1 hts gX5_readSum_X5_sees rfl rfl rfl (by decide +kernel) ⟨Nat.le_of_ble_eq_true rfl, Nat.le_of_ble_eq_true rfl⟩) (fm_preV hc hw hS kl_32 sh_32 rfl) rfl rfl hl.1 rfl (lv_room (Nat.le_of_ble_eq_true rfl)) dX5_readSum_26 ⟨by decide +kernel, by decide +kernel⟩)) (fun r26 hr26 => ?_)
          have bqq27 := hI.bd (k := 0) bd_32_6
          have bqq28 := hI.bd (k := 0) bd_32_7
          rcases hr26 with ⟨rfl, c29⟩ | ⟨rfl, c29⟩
          · refine fx_if_eq (tgt := 72) hx hb dX5_readSum_29 (by decide) zk_1 (fun c30 => by exfalso; omega) (fun c30 => ?_)
            exact j1 M_lp hI hE _ _ hw hS ls (lv_sub hl [0, 1, 2] rfl)
          · refine fx_if_eq (tgt := 72) hx hb dX5_readSum_29 (by decide) zk_0 (fun c31 => ?_) (fun c31 => by exfalso; omega)
            exact W.vret hx hb hr (fun t ht hW => ⟨⟨M_lp, rfl, ⟨hI, hE, trivial⟩, by show fm_at D ad C nb _ t.heap; rw [ht]; exact hw⟩, hS.F ht⟩) hS.2.2 dX5_readSum_72
  exact lp _ 0 M2 (Nat.lt_succ_self _) (by decide) hI hE _ _ hw hS ls (lv_sub hl [0, 1, 2] rfl)
set_option maxHeartbeats 400000 in
set_option maxRecDepth 20000 in
theorem fc_X5_readCompared_4 (l : Launch) (D : va_G) (ad : Nat → Nat → Nat) (C : Nat → Nat → ClassId) (nb : Nat) (M : fm_M) (hI : fm_I nb ad M) : Met l yX5_readCompared wsX5_readCompared ({ frames := 11, cells := 0, slots := 0, locals := 240 }) (va_Pc [.ref (ad 32 0), .int 4] (fm_P D ad C nb M)) (va_Qv (fun (u : fm_M) => fm_I nb ad u ∧ fm_same [32006, 32007, 36001, 37000] M u ∧ True) (fun u t => fm_at D ad C nb u t.heap) (fm_A nb ad)) 0 0 (fm_A nb ad) := by
  refine Met.ofW (cc := cX5_readCompared) (maxL := 3) (ret := none) (by decide) rfl ?_
  intro p e s m args below meth c s₁ B hml hv
  obtain ⟨rfl, hw, hc⟩ := hv
  have hx := B.exec
  have hb := B.bytes
  have hr := B.returns
  have hts := atoms_spec (ws := wsX5_readCompared) B.pre
  have hown : s.vm.findClass RX5 = some m.cls := findClass_of_methodNamed B.named
  have hinX5 : ∀ w ∈ u_ws RX5 TX5 8, w ∈ wsX5_readCompared := fun w h => List.mem_cons_of_mem _ (iT_X5 w h)
  have hS : va_S (fm_A nb ad) s.heap s.heap [] := va_S.rf
  have hE : fm_same [32006, 32007, 36001, 37000] M M := fm_same.rf
  have hl := lv_entry ([.ref (ad 32 0), .int 4]) (n := 3) (Nat.le_of_ble_eq_true rfl)
  rw [lg_entry_eq]
  generalize (lg_sl ([.ref (ad 32 0), .int 4]) ++ List.replicate (3 - (lg_sl ([.ref (ad 32 0), .int 4])).length) Slot.unset).toArray = ls at hl ⊢
  have hl : lv_has ls 3 [(0, .ref (ad 32 0)), (1, .int 4)] := hl
  refine lv_aload_n hx hb dX5_readCompared_0 rfl (lv_at hl 0 rfl) ?_
  refine lv_iload_n hx hb dX5_readCompared_1 rfl (lv_at hl 1 rfl) ?_
  refine fm_cv (va_runV (As := [.int 4]) (rest := []) ⟨hx, hb, hml, hown, hts⟩ (fc_X5_readSum_4 l D ad C nb M hI) (cwV 1 hts gX5_readCompared_X5_readSum rfl rfl rfl (by decide +kernel) ⟨Nat.le_of_ble_eq_true rfl, Nat.le_of_ble_eq_true rfl⟩) (fm_preV hc hw hS kl_32 sh_32 rfl) rfl rfl hl.1 rfl (lv_room (Nat.le_of_ble_eq_true rfl)) dX5_readCompared_2 ⟨by decide +kernel, by decide +kernel⟩) hS hc (fun M2 H locs hr1 hw hS => ?_)
  obtain ⟨hI, hEM2, hr1⟩ := hr1
  have hE := hE.tr hEM2 (by decide)
  have j1 : ∀  (M_j1 : fm_M), fm_I nb ad M_j1 → fm_same [32006, 32007, 36001, 37000] M M_j1 → ∀ (H : Heap) (locs : List Loc), fm_at D ad C nb M_j1 H → va_S (fm_A nb ad) s.heap H locs → ∀ (ls : Array Slot), lv_has ls 3 [(0, .ref (ad 32 0)), (1, .int 4)] → W p l e (headSpec wsX5_readCompared ({ frames := 11, cells := 0, slots := 0, locals := 240 })).room s m ([.ref (ad 32 0), .int 4] : List Value).toArray below meth c H locs 0 0 (MQ below (va_Qv (fun (u : fm_M) => fm_I nb ad u ∧ fm_same [32006, 32007, 36001, 37000] M u ∧ True) (fun u t => fm_at D ad C nb u t.heap) (fm_A nb ad)) ([.ref (ad 32 0), .int 4] : List Value).toArray s 0 0 (fm_A nb ad)) (F0 m 23 ls []) := by
    intro  M_j1 hI hE H locs hw hS ls hl
    have j2 : ∀ (j2_2 : Int32) (M_j2 : fm_M), ((-15) ≤ j2_2.toInt ∧ j2_2.toInt ≤ (-14)) → fm_I nb ad M_j2 → fm_same [32006, 32007, 36001, 37000] M M_j2 → ∀ (H : Heap) (locs : List Loc), fm_at D ad C nb M_j2 H → va_S (fm_A nb ad) s.heap H locs → ∀ (ls : Array Slot), lv_has ls 3 [(0, .ref (ad 32 0)), (1, .int 4), (2, .int j2_2)] → W p l e (headSpec wsX5_readCompared ({ frames := 11, cells := 0, slots := 0, locals := 240 })).room s m ([.ref (ad 32 0), .int 4] : List Value).toArray below meth c H locs 0 0 (MQ below (va_Qv (fun (u : fm_M) => fm_I nb ad u ∧ fm_same [32006, 32007, 36001, 37000] M u ∧ True) (fun u t => fm_at D ad C nb u t.heap) (fm_A nb ad)) ([.ref (ad 32 0), .int 4] : List Value).toArray s 0 0 (fm_A nb ad)) (F0 m 40 ls []) := by
      intro j2_2 M_j2 b_j2_2 hI hE H locs hw hS ls hl
      refine lv_aload_n hx hb dX5_readCompared_40 rfl (lv_at hl 0 rfl) ?_
      refine fm_cv (va_runV (As := []) (rest := []) ⟨hx, hb, hml, hown, hts⟩ (fc_X5_advance l D ad C nb M_j2 hI) (cwV 0 hts gX5_readCompared_X5_advance rfl rfl rfl (by decide +kernel) ⟨Nat.le_of_ble_eq_true rfl, Nat.le_of_ble_eq_true rfl⟩) (fm_preV hc hw hS kl_32 sh_32 rfl) rfl rfl hl.1 rfl (lv_room (Nat.le_of_ble_eq_true rfl)) dX5_readCompared_41 ⟨by decide +kernel, by decide +kernel⟩) hS hc (fun M4 H locs hr3 hw hS => ?_)
      obtain ⟨hI, hEM4, hr3⟩ := hr3
      have hE := hE.tr hEM4 (by decide)
      refine lv_aload_n hx hb dX5_readCompared_44 rfl (lv_at hl 0 rfl) ?_
      refine lv_iload_n hx hb dX5_readCompared_45 rfl (lv_at hl 1 rfl) ?_
      refine fm_cv (va_runV (As := [.int 4]) (rest := []) ⟨hx, hb, hml, hown, hts⟩ (fc_X5_readSum_4 l D ad C nb M4 hI) (cwV 1 hts gX5_readCompared_X5_readSum rfl rfl rfl (by decide +kernel) ⟨Nat.le_of_ble_eq_true rfl, Nat.le_of_ble_eq_true rfl⟩) (fm_preV hc hw hS kl_32 sh_32 rfl) rfl rfl hl.1 rfl (lv_room (Nat.le_of_ble_eq_true rfl)) dX5_readCompared_46 ⟨by decide +kernel, by decide +kernel⟩) hS hc (fun M6 H locs hr5 hw hS => ?_)
      obtain ⟨hI, hEM6, hr5⟩ := hr5
      have hE := hE.tr hEM6 (by decide)
      refine lv_aload_n hx hb dX5_readCompared_49 rfl (lv_at hl 0 rfl) ?_
      refine fm_getG (a := 32) (j := 5) (T := TX5) (N := 8) hx hb hts hinX5 hown hc hw kl_32 sh_32 rfl (by decide) rfl (hI.to kl_32 tg_32_5) (hts (.fieldLink RX5 27 "RedTent$Reader" "made" "LRedTent$Text;") (List.mem_cons_of_mem _ tw_1_203)) (fun _ h9 => h9) dX5_readCompared_50 ?_
      refine lv_iload_n hx hb dX5_readCompared_53 rfl (lv_at hl 2 rfl) ?_
      refine fm_cv (va_runV (As := [.int j2_2]) (rest := []) ⟨hx, hb, hml, hown, hts⟩ (fc_X9_addStep l D ad C nb M6 hI j2_2) (cwV 1 hts gX5_readCompared_X9_addStep rfl rfl rfl (by decide +kernel) ⟨Nat.le_of_ble_eq_true rfl, Nat.le_of_ble_eq_true rfl⟩) (fm_preV hc hw hS kl_36 sh_36 rfl) rfl rfl hl.1 rfl (lv_room (Nat.le_of_ble_eq_true rfl)) dX5_readCompared_54 ⟨by decide +kernel, by decide +kernel⟩) hS hc (fun M8 H locs hr7 hw hS => ?_)
      obtain ⟨hI, hEM8, hr7⟩ := hr7
      have hE := hE.tr hEM8 (by decide)
      exact W.vret hx hb hr (fun t ht hW => ⟨⟨M8, rfl, ⟨hI, hE, trivial⟩, by show fm_at D ad C nb _ t.heap; rw [ht]; exact hw⟩, hS.F ht⟩) hS.2.2 dX5_readCompared_57
    refine lv_aload_n hx hb dX5_readCompared_23 rfl (lv_at hl 0 rfl) ?_
    refine lv_bipush (v := 60) hx hb dX5_readCompared_24 (by decide) ?_
    have zz9 := zk_60
    refine vp_callSi (va_Run.run (va_runV (As := [.int 60]) (rest := []) ⟨hx, hb, hml, hown, hts⟩ (fc_X5_sees l D ad C nb M_j1 hI 60) (cwV 1 hts gX5_readCompared_X5_sees rfl rfl rfl (by decide +kernel) ⟨Nat.le_of_ble_eq_true rfl, Nat.le_of_ble_eq_true rfl⟩) (fm_preV hc hw hS kl_32 sh_32 rfl) rfl rfl hl.1 rfl (lv_room (Nat.le_of_ble_eq_true rfl)) dX5_readCompared_26 ⟨by decide +kernel, by decide +kernel⟩)) (fun r10 hr10 => ?_)
    have bqq11 := hI.bd (k := 0) bd_32_6
    have bqq12 := hI.bd (k := 0) bd_32_7
    rcases hr10 with ⟨rfl, c13⟩ | ⟨rfl, c13⟩
    · refine fx_if_eq (tgt := 37) hx hb dX5_readCompared_29 (by decide) zk_1 (fun c14 => by exfalso; omega) (fun c14 => ?_)
      refine lv_bipush (v := (-14)) hx hb dX5_readCompared_32 (by decide) ?_
      refine lv_goto (tgt := 39) hx hb dX5_readCompared_34 (by decide) ?_
      refine lv_istore_n (lv' := [(2, .int (-14)), (0, .ref (ad 32 0)), (1, .int 4)]) hx hb dX5_readCompared_39 rfl hl (by decide) rfl (fun ls hl => ?_)
      exact j2 (-14) M_j1 (by decide) hI hE _ _ hw hS ls (lv_sub hl [1, 2, 0] rfl)
    · refine fx_if_eq (tgt := 37) hx hb dX5_readCompared_29 (by decide) zk_0 (fun c15 => ?_) (fun c15 => by exfalso; omega)
      refine lv_bipush (v := (-15)) hx hb dX5_readCompared_37 (by decide) ?_
      refine lv_istore_n (lv' := [(2, .int (-15)), (0, .ref (ad 32 0)), (1, .int 4)]) hx hb dX5_readCompared_39 rfl hl (by decide) rfl (fun ls hl => ?_)
      exact j2 (-15) M_j1 (by decide) hI hE _ _ hw hS ls (lv_sub hl [1, 2, 0] rfl)
  refine lv_aload_n hx hb dX5_readCompared_5 rfl (lv_at hl 0 rfl) ?_
  refine lv_bipush (v := 60) hx hb dX5_readCompared_6 (by decide) ?_
  have zz16 := zk_60
  refine vp_callSi (va_Run.run (va_runV (As := [.int 60]) (rest := []) ⟨hx, hb, hml, hown, hts⟩ (fc_X5_sees l D ad C nb M2 hI 60) (cwV 1 hts gX5_readCompared_X5_sees rfl rfl rfl (by decide +kernel) ⟨Nat.le_of_ble_eq_true rfl, Nat.le_of_ble_eq_true rfl⟩) (fm_preV hc hw hS kl_32 sh_32 rfl) rfl rfl hl.1 rfl (lv_room (Nat.le_of_ble_eq_true rfl)) dX5_readCompared_8 ⟨by decide +kernel, by decide +kernel⟩)) (fun r17 hr17 => ?_)
  have bqq18 := hI.bd (k := 0) bd_32_6
  have bqq19 := hI.bd (k := 0) bd_32_7
  rcases hr17 with ⟨rfl, c20⟩ | ⟨rfl, c20⟩
  · refine fx_if_ne (tgt := 23) hx hb dX5_readCompared_11 (by decide) zk_1 (fun c21 => ?_) (fun c21 => by exfalso; omega)
    exact j1 M2 hI hE _ _ hw hS ls (lv_sub hl [0, 1] rfl)
  · refine fx_if_ne (tgt := 23) hx hb dX5_readCompared_11 (by decide) zk_0 (fun c22 => by exfalso; omega) (fun c22 => ?_)
    refine lv_aload_n hx hb dX5_readCompared_14 rfl (lv_at hl 0 rfl) ?_
    refine lv_bipush (v := 61) hx hb dX5_readCompared_15 (by decide) ?_
    have zz23 := zk_61
    refine vp_callSi (va_Run.run (va_runV (As := [.int 61]) (rest := []) ⟨hx, hb, hml, hown, hts⟩ (fc_X5_sees l D ad C nb M2 hI 61) (cwV 1 hts gX5_readCompared_X5_sees rfl rfl rfl (by decide +kernel) ⟨Nat.le_of_ble_eq_true rfl, Nat.le_of_ble_eq_true rfl⟩) (fm_preV hc hw hS kl_32 sh_32 rfl) rfl rfl hl.1 rfl (lv_room (Nat.le_of_ble_eq_true rfl)) dX5_readCompared_17 ⟨by decide +kernel, by decide +kernel⟩)) (fun r24 hr24 => ?_)
    have bqq25 := hI.bd (k := 0) bd_32_6
    have bqq26 := hI.bd (k := 0) bd_32_7
    rcases hr24 with ⟨rfl, c27⟩ | ⟨rfl, c27⟩
    · refine fx_if_eq (tgt := 57) hx hb dX5_readCompared_20 (by decide) zk_1 (fun c28 => by exfalso; omega) (fun c28 => ?_)
      exact j1 M2 hI hE _ _ hw hS ls (lv_sub hl [0, 1] rfl)
    · refine fx_if_eq (tgt := 57) hx hb dX5_readCompared_20 (by decide) zk_0 (fun c29 => ?_) (fun c29 => by exfalso; omega)
      exact W.vret hx hb hr (fun t ht hW => ⟨⟨M2, rfl, ⟨hI, hE, trivial⟩, by show fm_at D ad C nb _ t.heap; rw [ht]; exact hw⟩, hS.F ht⟩) hS.2.2 dX5_readCompared_57
set_option maxHeartbeats 400000 in
set_option maxRecDepth 20000 in
theorem fc_X5_readNot_4 (l : Launch) (D : va_G) (ad : Nat → Nat → Nat) (C : Nat → Nat → ClassId) (nb : Nat) (M : fm_M) (hI : fm_I nb ad M) : Met l yX5_readNot wsX5_readNot ({ frames := 12, cells := 0, slots := 0, locals := 262 }) (va_Pc [.ref (ad 32 0), .int 4] (fm_P D ad C nb M)) (va_Qv (fun (u : fm_M) => fm_I nb ad u ∧ fm_same [32006, 32007, 36001, 37000] M u ∧ True) (fun u t => fm_at D ad C nb u t.heap) (fm_A nb ad)) 0 0 (fm_A nb ad) := by
  refine Met.ofW (cc := cX5_readNot) (maxL := 2) (ret := none) (by decide) rfl ?_
  intro p e s m args below meth c s₁ B hml hv
  obtain ⟨rfl, hw, hc⟩ := hv
  have hx := B.exec
  have hb := B.bytes
  have hr := B.returns
  have hts := atoms_spec (ws := wsX5_readNot) B.pre
  have hown : s.vm.findClass RX5 = some m.cls := findClass_of_methodNamed B.named
  have hinX5 : ∀ w ∈ u_ws RX5 TX5 8, w ∈ wsX5_readNot := fun w h => List.mem_cons_of_mem _ (iT_X5 w h)
  have hS : va_S (fm_A nb ad) s.heap s.heap [] := va_S.rf
  have hE : fm_same [32006, 32007, 36001, 37000] M M := fm_same.rf
  have hl := lv_entry ([.ref (ad 32 0), .int 4]) (n := 2) (Nat.le_of_ble_eq_true rfl)
  rw [lg_entry_eq]
  generalize (lg_sl ([.ref (ad 32 0), .int 4]) ++ List.replicate (2 - (lg_sl ([.ref (ad 32 0), .int 4])).length) Slot.unset).toArray = ls at hl ⊢
  have hl : lv_has ls 2 [(0, .ref (ad 32 0)), (1, .int 4)] := hl
  have j1 : ∀  (M_j1 : fm_M), fm_I nb ad M_j1 → fm_same [32006, 32007, 36001, 37000] M M_j1 → ∀ (H : Heap) (locs : List Loc), fm_at D ad C nb M_j1 H → va_S (fm_A nb ad) s.heap H locs → ∀ (ls : Array Slot), lv_has ls 2 [(0, .ref (ad 32 0)), (1, .int 4)] → W p l e (headSpec wsX5_readNot ({ frames := 12, cells := 0, slots := 0, locals := 262 })).room s m ([.ref (ad 32 0), .int 4] : List Value).toArray below meth c H locs 0 0 (MQ below (va_Qv (fun (u : fm_M) => fm_I nb ad u ∧ fm_same [32006, 32007, 36001, 37000] M u ∧ True) (fun u t => fm_at D ad C nb u t.heap) (fm_A nb ad)) ([.ref (ad 32 0), .int 4] : List Value).toArray s 0 0 (fm_A nb ad)) (F0 m 21 ls []) := by
    intro  M_j1 hI hE H locs hw hS ls hl
    refine lv_aload_n hx hb dX5_readNot_21 rfl (lv_at hl 0 rfl) ?_
    refine lv_bipush (v := 11) hx hb dX5_readNot_22 (by decide) ?_
    have zz1 := zk_11
    refine vp_callSi (va_Run.run (va_runV (As := [.int 11]) (rest := []) ⟨hx, hb, hml, hown, hts⟩ (fc_X5_sees l D ad C nb M_j1 hI 11) (cwV 1 hts gX5_readNot_X5_sees rfl rfl rfl (by decide +kernel) ⟨Nat.le_of_ble_eq_true rfl, Nat.le_of_ble_eq_true rfl⟩) (fm_preV hc hw hS kl_32 sh_32 rfl) rfl rfl hl.1 rfl (lv_room (Nat.le_of_ble_eq_true rfl)) dX5_readNot_24 ⟨by decide +kernel, by decide +kernel⟩)) (fun r2 hr2 => ?_)
    have bqq3 := hI.bd (k := 0) bd_32_6
    have bqq4 := hI.bd (k := 0) bd_32_7
    rcases hr2 with ⟨rfl, c5⟩ | ⟨rfl, c5⟩
    · refine fx_if_eq (tgt := 53) hx hb dX5_readNot_27 (by decide) zk_1 (fun c6 => by exfalso; omega) (fun c6 => ?_)
      refine lv_aload_n hx hb dX5_readNot_30 rfl (lv_at hl 0 rfl) ?_
      refine fm_cv (va_runV (As := []) (rest := []) ⟨hx, hb, hml, hown, hts⟩ (fc_X5_advance l D ad C nb M_j1 hI) (cwV 0 hts gX5_readNot_X5_advance rfl rfl rfl (by decide +kernel) ⟨Nat.le_of_ble_eq_true rfl, Nat.le_of_ble_eq_true rfl⟩) (fm_preV hc hw hS kl_32 sh_32 rfl) rfl rfl hl.1 rfl (lv_room (Nat.le_of_ble_eq_true rfl)) dX5_readNot_31 ⟨by decide +kernel, by decide +kernel⟩) hS hc (fun M8 H locs hr7 hw hS => ?_)
      obtain ⟨hI, hEM8, hr7⟩ := hr7
      have hE := hE.tr hEM8 (by decide)
      refine lv_aload_n hx hb dX5_readNot_34 rfl (lv_at hl 0 rfl) ?_
      refine lv_iload_n hx hb dX5_readNot_35 rfl (lv_at hl 1 rfl) ?_
      refine lv_iconst (v := 1) hx hb dX5_readNot_36 (by decide) ?_
      refine lv_iadd hx hb dX5_readNot_37 ?_
      refine lv_topi (fun y10 ey10 => ?_)
      obtain rfl : y10 = 5 := ey10.trans (by decide)
      refine fm_cv (va_runV (As := [.int 5]) (rest := []) ⟨hx, hb, hml, hown, hts⟩ (fc_X5_readNot_5 l D ad C nb M8 hI) (cwV 1 hts gX5_readNot_X5_readNot rfl rfl rfl (by decide +kernel) ⟨Nat.le_of_ble_eq_true rfl, Nat.le_of_ble_eq_true rfl⟩) (fm_preV hc hw hS kl_32 sh_32 rfl) rfl rfl hl.1 rfl (lv_room (Nat.le_of_ble_eq_true rfl)) dX5_readNot_38 ⟨by decide +kernel, by decide +kernel⟩) hS hc (fun M12 H locs hr11 hw hS => ?_)
      obtain ⟨hI, hEM12, hr11⟩ := hr11
      have hE := hE.tr hEM12 (by decide)
      refine lv_aload_n hx hb dX5_readNot_41 rfl (lv_at hl 0 rfl) ?_
      refine fm_getG (a := 32) (j := 5) (T := TX5) (N := 8) hx hb hts hinX5 hown hc hw kl_32 sh_32 rfl (by decide) rfl (hI.to kl_32 tg_32_5) (hts (.fieldLink RX5 27 "RedTent$Reader" "made" "LRedTent$Text;") (List.mem_cons_of_mem _ tw_1_203)) (fun _ h9 => h9) dX5_readNot_42 ?_
      refine lv_bipush (v := (-13)) hx hb dX5_readNot_45 (by decide) ?_
      refine fm_cv (va_runV (As := [.int (-13)]) (rest := []) ⟨hx, hb, hml, hown, hts⟩ (fc_X9_addStep l D ad C nb M12 hI (-13)) (cwV 1 hts gX5_readNot_X9_addStep rfl rfl rfl (by decide +kernel) ⟨Nat.le_of_ble_eq_true rfl, Nat.le_of_ble_eq_true rfl⟩) (fm_preV hc hw hS kl_36 sh_36 rfl) rfl rfl hl.1 rfl (lv_room (Nat.le_of_ble_eq_true rfl)) dX5_readNot_47 ⟨by decide +kernel, by decide +kernel⟩) hS hc (fun M14 H locs hr13 hw hS => ?_)
      obtain ⟨hI, hEM14, hr13⟩ := hr13
      have hE := hE.tr hEM14 (by decide)
      refine lv_goto (tgt := 58) hx hb dX5_readNot_50 (by decide) ?_
      exact W.vret hx hb hr (fun t ht hW => ⟨⟨M14, rfl, ⟨hI, hE, trivial⟩, by show fm_at D ad C nb _ t.heap; rw [ht]; exact hw⟩, hS.F ht⟩) hS.2.2 dX5_readNot_58
    · refine fx_if_eq (tgt := 53) hx hb dX5_readNot_27 (by decide) zk_0 (fun c15 => ?_) (fun c15 => by exfalso; omega)
      refine lv_aload_n hx hb dX5_readNot_53 rfl (lv_at hl 0 rfl) ?_
      refine lv_iload_n hx hb dX5_readNot_54 rfl (lv_at hl 1 rfl) ?_
      refine fm_cv (va_runV (As := [.int 4]) (rest := []) ⟨hx, hb, hml, hown, hts⟩ (fc_X5_readCompared_4 l D ad C nb M_j1 hI) (cwV 1 hts gX5_readNot_X5_readCompared rfl rfl rfl (by decide +kernel) ⟨Nat.le_of_ble_eq_true rfl, Nat.le_of_ble_eq_true rfl⟩) (fm_preV hc hw hS kl_32 sh_32 rfl) rfl rfl hl.1 rfl (lv_room (Nat.le_of_ble_eq_true rfl)) dX5_readNot_55 ⟨by decide +kernel, by decide +kernel⟩) hS hc (fun M17 H locs hr16 hw hS => ?_)
      obtain ⟨hI, hEM17, hr16⟩ := hr16
      have hE := hE.tr hEM17 (by decide)
      exact W.vret hx hb hr (fun t ht hW => ⟨⟨M17, rfl, ⟨hI, hE, trivial⟩, by show fm_at D ad C nb _ t.heap; rw [ht]; exact hw⟩, hS.F ht⟩) hS.2.2 dX5_readNot_58
  refine lv_aload_n hx hb dX5_readNot_0 rfl (lv_at hl 0 rfl) ?_
  refine lv_bipush (v := 11) hx hb dX5_readNot_1 (by decide) ?_
  have zz18 := zk_11
  refine vp_callSi (va_Run.run (va_runV (As := [.int 11]) (rest := []) ⟨hx, hb, hml, hown, hts⟩ (fc_X5_sees l D ad C nb M hI 11) (cwV 1 hts gX5_readNot_X5_sees rfl rfl rfl (by decide +kernel) ⟨Nat.le_of_ble_eq_true rfl, Nat.le_of_ble_eq_true rfl⟩) (fm_preV hc hw hS kl_32 sh_32 rfl) rfl rfl hl.1 rfl (lv_room (Nat.le_of_ble_eq_true rfl)) dX5_readNot_3 ⟨by decide +kernel, by decide +kernel⟩)) (fun r19 hr19 => ?_)
  have bqq20 := hI.bd (k := 0) bd_32_6
  have bqq21 := hI.bd (k := 0) bd_32_7
  rcases hr19 with ⟨rfl, c22⟩ | ⟨rfl, c22⟩
  · refine fx_if_eq (tgt := 21) hx hb dX5_readNot_6 (by decide) zk_1 (fun c23 => by exfalso; omega) (fun c23 => ?_)
    refine lv_iload_n hx hb dX5_readNot_9 rfl (lv_at hl 1 rfl) ?_
    refine lv_iconst (v := 5) hx hb dX5_readNot_10 (by decide) ?_
    refine fx_icmp_lt (tgt := 21) hx hb dX5_readNot_11 (by decide) zk_4 zk_5 (fun c24 => ?_) (fun c24 => by exfalso; omega)
    exact j1 M hI hE _ _ hw hS ls (lv_sub hl [0, 1] rfl)
  · refine fx_if_eq (tgt := 21) hx hb dX5_readNot_6 (by decide) zk_0 (fun c25 => ?_) (fun c25 => by exfalso; omega)
    exact j1 M hI hE _ _ hw hS ls (lv_sub hl [0, 1] rfl)
set_option maxHeartbeats 400000 in
set_option maxRecDepth 20000 in
theorem fc_X5_readBoth_4 (l : Launch) (D : va_G) (ad : Nat → Nat → Nat) (C : Nat → Nat → ClassId) (nb : Nat) (M : fm_M) (hI : fm_I nb ad M) : Met l yX5_readBoth wsX5_readBoth ({ frames := 13, cells := 0, slots := 0, locals := 283 }) (va_Pc [.ref (ad 32 0), .int 4] (fm_P D ad C nb M)) (va_Qv (fun (u : fm_M) => fm_I nb ad u ∧ fm_same [32006, 32007, 36001, 37000] M u ∧ True) (fun u t => fm_at D ad C nb u t.heap) (fm_A nb ad)) 0 0 (fm_A nb ad) := by
  refine Met.ofW (cc := cX5_readBoth) (maxL := 3) (ret := none) (by decide) rfl ?_
  intro p e s m args below meth c s₁ B hml hv
  obtain ⟨rfl, hw, hc⟩ := hv
  have hx := B.exec
  have hb := B.bytes
  have hr := B.returns
  have hts := atoms_spec (ws := wsX5_readBoth) B.pre
  have hown : s.vm.findClass RX5 = some m.cls := findClass_of_methodNamed B.named
  have hinX5 : ∀ w ∈ u_ws RX5 TX5 8, w ∈ wsX5_readBoth := fun w h => List.mem_cons_of_mem _ (iT_X5 w h)
  have hS : va_S (fm_A nb ad) s.heap s.heap [] := va_S.rf
  have hE : fm_same [32006, 32007, 36001, 37000] M M := fm_same.rf
  have hl := lv_entry ([.ref (ad 32 0), .int 4]) (n := 3) (Nat.le_of_ble_eq_true rfl)
  rw [lg_entry_eq]
  generalize (lg_sl ([.ref (ad 32 0), .int 4]) ++ List.replicate (3 - (lg_sl ([.ref (ad 32 0), .int 4])).length) Slot.unset).toArray = ls at hl ⊢
  have hl : lv_has ls 3 [(0, .ref (ad 32 0)), (1, .int 4)] := hl
  refine lv_aload_n hx hb dX5_readBoth_0 rfl (lv_at hl 0 rfl) ?_
  refine lv_iload_n hx hb dX5_readBoth_1 rfl (lv_at hl 1 rfl) ?_
  refine fm_cv (va_runV (As := [.int 4]) (rest := []) ⟨hx, hb, hml, hown, hts⟩ (fc_X5_readNot_4 l D ad C nb M hI) (cwV 1 hts gX5_readBoth_X5_readNot rfl rfl rfl (by decide +kernel) ⟨Nat.le_of_ble_eq_true rfl, Nat.le_of_ble_eq_true rfl⟩) (fm_preV hc hw hS kl_32 sh_32 rfl) rfl rfl hl.1 rfl (lv_room (Nat.le_of_ble_eq_true rfl)) dX5_readBoth_2 ⟨by decide +kernel, by decide +kernel⟩) hS hc (fun M2 H locs hr1 hw hS => ?_)
  obtain ⟨hI, hEM2, hr1⟩ := hr1
  have hE := hE.tr hEM2 (by decide)
  refine lv_iconst (v := 0) hx hb dX5_readBoth_5 (by decide) ?_
  refine lv_istore_n (lv' := [(2, .int 0), (0, .ref (ad 32 0)), (1, .int 4)]) hx hb dX5_readBoth_6 rfl hl (by decide) rfl (fun ls hl => ?_)
  have lp : ∀ (n_lp : Nat) (lp_2 : Int32) (M_lp : fm_M), (160 - lp_2.toInt).toNat < n_lp → (0 ≤ lp_2.toInt ∧ lp_2.toInt ≤ 160) → fm_I nb ad M_lp → fm_same [32006, 32007, 36001, 37000] M M_lp → ∀ (H : Heap) (locs : List Loc), fm_at D ad C nb M_lp H → va_S (fm_A nb ad) s.heap H locs → ∀ (ls : Array Slot), lv_has ls 3 [(2, .int lp_2), (0, .ref (ad 32 0)), (1, .int 4)] → W p l e (headSpec wsX5_readBoth ({ frames := 13, cells := 0, slots := 0, locals := 283 })).room s m ([.ref (ad 32 0), .int 4] : List Value).toArray below meth c H locs 0 0 (MQ below (va_Qv (fun (u : fm_M) => fm_I nb ad u ∧ fm_same [32006, 32007, 36001, 37000] M u ∧ True) (fun u t => fm_at D ad C nb u t.heap) (fm_A nb ad)) ([.ref (ad 32 0), .int 4] : List Value).toArray s 0 0 (fm_A nb ad)) (F0 m 7 ls []) := by
    intro n_lp
    induction n_lp with
    | zero => intro lp_2 M_lp hm_lp b_lp_2 hI hE H locs hw hS ls hl; exact absurd hm_lp (Nat.not_lt_zero _)
    | succ n_lp ih_lp =>
      intro lp_2 M_lp hm_lp b_lp_2 hI hE H locs hw hS ls hl
      refine lv_iload_n hx hb dX5_readBoth_7 rfl (lv_at hl 0 rfl) ?_
      refine lv_sipush (v := 160) hx hb dX5_readBoth_8 (by decide) ?_
      refine fx_icmp_ge (tgt := 47) hx hb dX5_readBoth_11 (by decide) rfl zk_160 (fun c3 => ?_) (fun c3 => ?_)
      · exact W.vret hx hb hr (fun t ht hW => ⟨⟨M_lp, rfl, ⟨hI, hE, trivial⟩, by show fm_at D ad C nb _ t.heap; rw [ht]; exact hw⟩, hS.F ht⟩) hS.2.2 dX5_readBoth_47
      · refine lv_aload_n hx hb dX5_readBoth_14 rfl (lv_at hl 1 rfl) ?_
        refine lv_bipush (v := 10) hx hb dX5_readBoth_15 (by decide) ?_
        have zz4 := zk_10
        refine vp_callSi (va_Run.run (va_runV (As := [.int 10]) (rest := []) ⟨hx, hb, hml, hown, hts⟩ (fc_X5_sees l D ad C nb M_lp hI 10) (cwV 1 hts gX5_readBoth_X5_sees rfl rfl rfl (by decide +kernel) ⟨Nat.le_of_ble_eq_true rfl, Nat.le_of_ble_eq_true rfl⟩) (fm_preV hc hw hS kl_32 sh_32 rfl) rfl rfl hl.1 rfl (lv_room (Nat.le_of_ble_eq_true rfl)) dX5_readBoth_17 ⟨by decide +kernel, by decide +kernel⟩)) (fun r5 hr5 => ?_)
        have bqq6 := hI.bd (k := 0) bd_32_6
        have bqq7 := hI.bd (k := 0) bd_32_7
        rcases hr5 with ⟨rfl, c8⟩ | ⟨rfl, c8⟩
        · refine fx_if_eq (tgt := 47) hx hb dX5_readBoth_20 (by decide) zk_1 (fun c9 => by exfalso; omega) (fun c9 => ?_)
          refine lv_aload_n hx hb dX5_readBoth_23 rfl (lv_at hl 1 rfl) ?_
          refine fm_cv (va_runV (As := []) (rest := []) ⟨hx, hb, hml, hown, hts⟩ (fc_X5_advance l D ad C nb M_lp hI) (cwV 0 hts gX5_readBoth_X5_advance rfl rfl rfl (by decide +kernel) ⟨Nat.le_of_ble_eq_true rfl, Nat.le_of_ble_eq_true rfl⟩) (fm_preV hc hw hS kl_32 sh_32 rfl) rfl rfl hl.1 rfl (lv_room (Nat.le_of_ble_eq_true rfl)) dX5_readBoth_24 ⟨by decide +kernel, by decide +kernel⟩) hS hc (fun M11 H locs hr10 hw hS => ?_)
          obtain ⟨hI, hEM11, hr10⟩ := hr10
          have hE := hE.tr hEM11 (by decide)
          refine lv_aload_n hx hb dX5_readBoth_27 rfl (lv_at hl 1 rfl) ?_
          refine lv_iload_n hx hb dX5_readBoth_28 rfl (lv_at hl 2 rfl) ?_
          refine fm_cv (va_runV (As := [.int 4]) (rest := []) ⟨hx, hb, hml, hown, hts⟩ (fc_X5_readNot_4 l D ad C nb M11 hI) (cwV 1 hts gX5_readBoth_X5_readNot rfl rfl rfl (by decide +kernel) ⟨Nat.le_of_ble_eq_true rfl, Nat.le_of_ble_eq_true rfl⟩) (fm_preV hc hw hS kl_32 sh_32 rfl) rfl rfl hl.1 rfl (lv_room (Nat.le_of_ble_eq_true rfl)) dX5_readBoth_29 ⟨by decide +kernel, by decide +kernel⟩) hS hc (fun M13 H locs hr12 hw hS => ?_)
          obtain ⟨hI, hEM13, hr12⟩ := hr12
          have hE := hE.tr hEM13 (by decide)
          refine lv_aload_n hx hb dX5_readBoth_32 rfl (lv_at hl 1 rfl) ?_
          refine fm_getG (a := 32) (j := 5) (T := TX5) (N := 8) hx hb hts hinX5 hown hc hw kl_32 sh_32 rfl (by decide) rfl (hI.to kl_32 tg_32_5) (hts (.fieldLink RX5 27 "RedTent$Reader" "made" "LRedTent$Text;") (List.mem_cons_of_mem _ tw_1_203)) (fun _ h9 => h9) dX5_readBoth_33 ?_
          refine lv_bipush (v := (-12)) hx hb dX5_readBoth_36 (by decide) ?_
          refine fm_cv (va_runV (As := [.int (-12)]) (rest := []) ⟨hx, hb, hml, hown, hts⟩ (fc_X9_addStep l D ad C nb M13 hI (-12)) (cwV 1 hts gX5_readBoth_X9_addStep rfl rfl rfl (by decide +kernel) ⟨Nat.le_of_ble_eq_true rfl, Nat.le_of_ble_eq_true rfl⟩) (fm_preV hc hw hS kl_36 sh_36 rfl) rfl rfl hl.1 rfl (lv_room (Nat.le_of_ble_eq_true rfl)) dX5_readBoth_38 ⟨by decide +kernel, by decide +kernel⟩) hS hc (fun M15 H locs hr14 hw hS => ?_)
          obtain ⟨hI, hEM15, hr14⟩ := hr14
          have hE := hE.tr hEM15 (by decide)
          obtain ⟨y16, ey16⟩ : ∃ y : Int32, y = lp_2 + 1 := ⟨_, rfl⟩
          have ty16 : y16.toInt = lp_2.toInt + 1 := by rw [ey16, zi_add _ _ (by rw [zk_1]; omega) (by rw [zk_1]; omega), zk_1]
          refine lv_iinc (v := y16) (lv' := [(2, .int y16), (0, .ref (ad 32 0)), (1, .int 4)]) hx hb dX5_readBoth_41 hl (k := 0) rfl (by rw [ey16]; rfl) (by decide) rfl (fun ls hl => ?_)
          refine lv_goto (tgt := 7) hx hb dX5_readBoth_44 (by decide) ?_
          exact ih_lp y16 M15 (by omega) (by omega) hI hE _ _ hw hS ls (lv_sub hl [0, 1, 2] rfl)
        · refine fx_if_eq (tgt := 47) hx hb dX5_readBoth_20 (by decide) zk_0 (fun c17 => ?_) (fun c17 => by exfalso; omega)
          exact W.vret hx hb hr (fun t ht hW => ⟨⟨M_lp, rfl, ⟨hI, hE, trivial⟩, by show fm_at D ad C nb _ t.heap; rw [ht]; exact hw⟩, hS.F ht⟩) hS.2.2 dX5_readBoth_47
  exact lp _ 0 M2 (Nat.lt_succ_self _) (by decide) hI hE _ _ hw hS ls (lv_sub hl [0, 1, 2] rfl)
set_option maxHeartbeats 400000 in
set_option maxRecDepth 20000 in
theorem fc_X5_readChoice_4 (l : Launch) (D : va_G) (ad : Nat → Nat → Nat) (C : Nat → Nat → ClassId) (nb : Nat) (M : fm_M) (hI : fm_I nb ad M) : Met l yX5_readChoice wsX5_readChoice ({ frames := 14, cells := 0, slots := 0, locals := 305 }) (va_Pc [.ref (ad 32 0), .int 4] (fm_P D ad C nb M)) (va_Qv (fun (u : fm_M) => fm_I nb ad u ∧ fm_same [32006, 32007, 36001, 37000] M u ∧ True) (fun u t => fm_at D ad C nb u t.heap) (fm_A nb ad)) 0 0 (fm_A nb ad) := by
  refine Met.ofW (cc := cX5_readChoice) (maxL := 3) (ret := none) (by decide) rfl ?_
  intro p e s m args below meth c s₁ B hml hv
  obtain ⟨rfl, hw, hc⟩ := hv
  have hx := B.exec
  have hb := B.bytes
  have hr := B.returns
  have hts := atoms_spec (ws := wsX5_readChoice) B.pre
  have hown : s.vm.findClass RX5 = some m.cls := findClass_of_methodNamed B.named
  have hinX5 : ∀ w ∈ u_ws RX5 TX5 8, w ∈ wsX5_readChoice := fun w h => List.mem_cons_of_mem _ (iT_X5 w h)
  have hS : va_S (fm_A nb ad) s.heap s.heap [] := va_S.rf
  have hE : fm_same [32006, 32007, 36001, 37000] M M := fm_same.rf
  have hl := lv_entry ([.ref (ad 32 0), .int 4]) (n := 3) (Nat.le_of_ble_eq_true rfl)
  rw [lg_entry_eq]
  generalize (lg_sl ([.ref (ad 32 0), .int 4]) ++ List.replicate (3 - (lg_sl ([.ref (ad 32 0), .int 4])).length) Slot.unset).toArray = ls at hl ⊢
  have hl : lv_has ls 3 [(0, .ref (ad 32 0)), (1, .int 4)] := hl
  refine lv_aload_n hx hb dX5_readChoice_0 rfl (lv_at hl 0 rfl) ?_
  refine lv_iload_n hx hb dX5_readChoice_1 rfl (lv_at hl 1 rfl) ?_
  refine fm_cv (va_runV (As := [.int 4]) (rest := []) ⟨hx, hb, hml, hown, hts⟩ (fc_X5_readBoth_4 l D ad C nb M hI) (cwV 1 hts gX5_readChoice_X5_readBoth rfl rfl rfl (by decide +kernel) ⟨Nat.le_of_ble_eq_true rfl, Nat.le_of_ble_eq_true rfl⟩) (fm_preV hc hw hS kl_32 sh_32 rfl) rfl rfl hl.1 rfl (lv_room (Nat.le_of_ble_eq_true rfl)) dX5_readChoice_2 ⟨by decide +kernel, by decide +kernel⟩) hS hc (fun M2 H locs hr1 hw hS => ?_)
  obtain ⟨hI, hEM2, hr1⟩ := hr1
  have hE := hE.tr hEM2 (by decide)
  refine lv_iconst (v := 0) hx hb dX5_readChoice_5 (by decide) ?_
  refine lv_istore_n (lv' := [(2, .int 0), (0, .ref (ad 32 0)), (1, .int 4)]) hx hb dX5_readChoice_6 rfl hl (by decide) rfl (fun ls hl => ?_)
  have lp : ∀ (n_lp : Nat) (lp_2 : Int32) (M_lp : fm_M), (160 - lp_2.toInt).toNat < n_lp → (0 ≤ lp_2.toInt ∧ lp_2.toInt ≤ 160) → fm_I nb ad M_lp → fm_same [32006, 32007, 36001, 37000] M M_lp → ∀ (H : Heap) (locs : List Loc), fm_at D ad C nb M_lp H → va_S (fm_A nb ad) s.heap H locs → ∀ (ls : Array Slot), lv_has ls 3 [(2, .int lp_2), (0, .ref (ad 32 0)), (1, .int 4)] → W p l e (headSpec wsX5_readChoice ({ frames := 14, cells := 0, slots := 0, locals := 305 })).room s m ([.ref (ad 32 0), .int 4] : List Value).toArray below meth c H locs 0 0 (MQ below (va_Qv (fun (u : fm_M) => fm_I nb ad u ∧ fm_same [32006, 32007, 36001, 37000] M u ∧ True) (fun u t => fm_at D ad C nb u t.heap) (fm_A nb ad)) ([.ref (ad 32 0), .int 4] : List Value).toArray s 0 0 (fm_A nb ad)) (F0 m 7 ls []) := by
    intro n_lp
    induction n_lp with
    | zero => intro lp_2 M_lp hm_lp b_lp_2 hI hE H locs hw hS ls hl; exact absurd hm_lp (Nat.not_lt_zero _)
    | succ n_lp ih_lp =>
      intro lp_2 M_lp hm_lp b_lp_2 hI hE H locs hw hS ls hl
      refine lv_iload_n hx hb dX5_readChoice_7 rfl (lv_at hl 0 rfl) ?_
      refine lv_sipush (v := 160) hx hb dX5_readChoice_8 (by decide) ?_
      refine fx_icmp_ge (tgt := 47) hx hb dX5_readChoice_11 (by decide) rfl zk_160 (fun c3 => ?_) (fun c3 => ?_)
      · exact W.vret hx hb hr (fun t ht hW => ⟨⟨M_lp, rfl, ⟨hI, hE, trivial⟩, by show fm_at D ad C nb _ t.heap; rw [ht]; exact hw⟩, hS.F ht⟩) hS.2.2 dX5_readChoice_47
      · refine lv_aload_n hx hb dX5_readChoice_14 rfl (lv_at hl 1 rfl) ?_
        refine lv_bipush (v := 9) hx hb dX5_readChoice_15 (by decide) ?_
        have zz4 := zk_9
        refine vp_callSi (va_Run.run (va_runV (As := [.int 9]) (rest := []) ⟨hx, hb, hml, hown, hts⟩ (fc_X5_sees l D ad C nb M_lp hI 9) (cwV 1 hts gX5_readChoice_X5_sees rfl rfl rfl (by decide +kernel) ⟨Nat.le_of_ble_eq_true rfl, Nat.le_of_ble_eq_true rfl⟩) (fm_preV hc hw hS kl_32 sh_32 rfl) rfl rfl hl.1 rfl (lv_room (Nat.le_of_ble_eq_true rfl)) dX5_readChoice_17 ⟨by decide +kernel, by decide +kernel⟩)) (fun r5 hr5 => ?_)
        have bqq6 := hI.bd (k := 0) bd_32_6
        have bqq7 := hI.bd (k := 0) bd_32_7
        rcases hr5 with ⟨rfl, c8⟩ | ⟨rfl, c8⟩
        · refine fx_if_eq (tgt := 47) hx hb dX5_readChoice_20 (by decide) zk_1 (fun c9 => by exfalso; omega) (fun c9 => ?_)
          refine lv_aload_n hx hb dX5_readChoice_23 rfl (lv_at hl 1 rfl) ?_
          refine fm_cv (va_runV (As := []) (rest := []) ⟨hx, hb, hml, hown, hts⟩ (fc_X5_advance l D ad C nb M_lp hI) (cwV 0 hts gX5_readChoice_X5_advance rfl rfl rfl (by decide +kernel) ⟨Nat.le_of_ble_eq_true rfl, Nat.le_of_ble_eq_true rfl⟩) (fm_preV hc hw hS kl_32 sh_32 rfl) rfl rfl hl.1 rfl (lv_room (Nat.le_of_ble_eq_true rfl)) dX5_readChoice_24 ⟨by decide +kernel, by decide +kernel⟩) hS hc (fun M11 H locs hr10 hw hS => ?_)
          obtain ⟨hI, hEM11, hr10⟩ := hr10
          have hE := hE.tr hEM11 (by decide)
          refine lv_aload_n hx hb dX5_readChoice_27 rfl (lv_at hl 1 rfl) ?_
          refine lv_iload_n hx hb dX5_readChoice_28 rfl (lv_at hl 2 rfl) ?_
          refine fm_cv (va_runV (As := [.int 4]) (rest := []) ⟨hx, hb, hml, hown, hts⟩ (fc_X5_readBoth_4 l D ad C nb M11 hI) (cwV 1 hts gX5_readChoice_X5_readBoth rfl rfl rfl (by decide +kernel) ⟨Nat.le_of_ble_eq_true rfl, Nat.le_of_ble_eq_true rfl⟩) (fm_preV hc hw hS kl_32 sh_32 rfl) rfl rfl hl.1 rfl (lv_room (Nat.le_of_ble_eq_true rfl)) dX5_readChoice_29 ⟨by decide +kernel, by decide +kernel⟩) hS hc (fun M13 H locs hr12 hw hS => ?_)
          obtain ⟨hI, hEM13, hr12⟩ := hr12
          have hE := hE.tr hEM13 (by decide)
          refine lv_aload_n hx hb dX5_readChoice_32 rfl (lv_at hl 1 rfl) ?_
          refine fm_getG (a := 32) (j := 5) (T := TX5) (N := 8) hx hb hts hinX5 hown hc hw kl_32 sh_32 rfl (by decide) rfl (hI.to kl_32 tg_32_5) (hts (.fieldLink RX5 27 "RedTent$Reader" "made" "LRedTent$Text;") (List.mem_cons_of_mem _ tw_1_203)) (fun _ h9 => h9) dX5_readChoice_33 ?_
          refine lv_bipush (v := (-11)) hx hb dX5_readChoice_36 (by decide) ?_
          refine fm_cv (va_runV (As := [.int (-11)]) (rest := []) ⟨hx, hb, hml, hown, hts⟩ (fc_X9_addStep l D ad C nb M13 hI (-11)) (cwV 1 hts gX5_readChoice_X9_addStep rfl rfl rfl (by decide +kernel) ⟨Nat.le_of_ble_eq_true rfl, Nat.le_of_ble_eq_true rfl⟩) (fm_preV hc hw hS kl_36 sh_36 rfl) rfl rfl hl.1 rfl (lv_room (Nat.le_of_ble_eq_true rfl)) dX5_readChoice_38 ⟨by decide +kernel, by decide +kernel⟩) hS hc (fun M15 H locs hr14 hw hS => ?_)
          obtain ⟨hI, hEM15, hr14⟩ := hr14
          have hE := hE.tr hEM15 (by decide)
          obtain ⟨y16, ey16⟩ : ∃ y : Int32, y = lp_2 + 1 := ⟨_, rfl⟩
          have ty16 : y16.toInt = lp_2.toInt + 1 := by rw [ey16, zi_add _ _ (by rw [zk_1]; omega) (by rw [zk_1]; omega), zk_1]
          refine lv_iinc (v := y16) (lv' := [(2, .int y16), (0, .ref (ad 32 0)), (1, .int 4)]) hx hb dX5_readChoice_41 hl (k := 0) rfl (by rw [ey16]; rfl) (by decide) rfl (fun ls hl => ?_)
          refine lv_goto (tgt := 7) hx hb dX5_readChoice_44 (by decide) ?_
          exact ih_lp y16 M15 (by omega) (by omega) hI hE _ _ hw hS ls (lv_sub hl [0, 1, 2] rfl)
        · refine fx_if_eq (tgt := 47) hx hb dX5_readChoice_20 (by decide) zk_0 (fun c17 => ?_) (fun c17 => by exfalso; omega)
          exact W.vret hx hb hr (fun t ht hW => ⟨⟨M_lp, rfl, ⟨hI, hE, trivial⟩, by show fm_at D ad C nb _ t.heap; rw [ht]; exact hw⟩, hS.F ht⟩) hS.2.2 dX5_readChoice_47
  exact lp _ 0 M2 (Nat.lt_succ_self _) (by decide) hI hE _ _ hw hS ls (lv_sub hl [0, 1, 2] rfl)
set_option maxHeartbeats 400000 in
set_option maxRecDepth 20000 in
theorem fc_X5_readOne_3 (l : Launch) (D : va_G) (ad : Nat → Nat → Nat) (C : Nat → Nat → ClassId) (nb : Nat) (M : fm_M) (hI : fm_I nb ad M) : Met l yX5_readOne wsX5_readOne ({ frames := 15, cells := 0, slots := 0, locals := 327 }) (va_Pc [.ref (ad 32 0), .int 3] (fm_P D ad C nb M)) (va_Qv (fun (u : fm_M) => fm_I nb ad u ∧ fm_same [32006, 32007, 36001, 37000] M u ∧ True) (fun u t => fm_at D ad C nb u t.heap) (fm_A nb ad)) 0 0 (fm_A nb ad) := by
  refine Met.ofW (cc := cX5_readOne) (maxL := 2) (ret := none) (by decide) rfl ?_
  intro p e s m args below meth c s₁ B hml hv
  obtain ⟨rfl, hw, hc⟩ := hv
  have hx := B.exec
  have hb := B.bytes
  have hr := B.returns
  have hts := atoms_spec (ws := wsX5_readOne) B.pre
  have hown : s.vm.findClass RX5 = some m.cls := findClass_of_methodNamed B.named
  have hinX5 : ∀ w ∈ u_ws RX5 TX5 8, w ∈ wsX5_readOne := fun w h => List.mem_cons_of_mem _ (iT_X5 w h)
  have hS : va_S (fm_A nb ad) s.heap s.heap [] := va_S.rf
  have hE : fm_same [32006, 32007, 36001, 37000] M M := fm_same.rf
  have hl := lv_entry ([.ref (ad 32 0), .int 3]) (n := 2) (Nat.le_of_ble_eq_true rfl)
  rw [lg_entry_eq]
  generalize (lg_sl ([.ref (ad 32 0), .int 3]) ++ List.replicate (2 - (lg_sl ([.ref (ad 32 0), .int 3])).length) Slot.unset).toArray = ls at hl ⊢
  have hl : lv_has ls 2 [(0, .ref (ad 32 0)), (1, .int 3)] := hl
  have j1 : ∀  (M_j1 : fm_M), fm_I nb ad M_j1 → fm_same [32006, 32007, 36001, 37000] M M_j1 → ∀ (H : Heap) (locs : List Loc), fm_at D ad C nb M_j1 H → va_S (fm_A nb ad) s.heap H locs → ∀ (ls : Array Slot), lv_has ls 2 [(0, .ref (ad 32 0)), (1, .int 3)] → W p l e (headSpec wsX5_readOne ({ frames := 15, cells := 0, slots := 0, locals := 327 })).room s m ([.ref (ad 32 0), .int 3] : List Value).toArray below meth c H locs 0 0 (MQ below (va_Qv (fun (u : fm_M) => fm_I nb ad u ∧ fm_same [32006, 32007, 36001, 37000] M u ∧ True) (fun u t => fm_at D ad C nb u t.heap) (fm_A nb ad)) ([.ref (ad 32 0), .int 3] : List Value).toArray s 0 0 (fm_A nb ad)) (F0 m 89 ls []) := by
    intro  M_j1 hI hE H locs hw hS ls hl
    have j2 : ∀  (M_j2 : fm_M), fm_I nb ad M_j2 → fm_same [32006, 32007, 36001, 37000] M M_j2 → ∀ (H : Heap) (locs : List Loc), fm_at D ad C nb M_j2 H → va_S (fm_A nb ad) s.heap H locs → ∀ (ls : Array Slot), lv_has ls 2 [(0, .ref (ad 32 0)), (1, .int 3)] → W p l e (headSpec wsX5_readOne ({ frames := 15, cells := 0, slots := 0, locals := 327 })).room s m ([.ref (ad 32 0), .int 3] : List Value).toArray below meth c H locs 0 0 (MQ below (va_Qv (fun (u : fm_M) => fm_I nb ad u ∧ fm_same [32006, 32007, 36001, 37000] M u ∧ True) (fun u t => fm_at D ad C nb u t.heap) (fm_A nb ad)) ([.ref (ad 32 0), .int 3] : List Value).toArray s 0 0 (fm_A nb ad)) (F0 m 126 ls []) := by
      intro  M_j2 hI hE H locs hw hS ls hl
      have j3 : ∀  (M_j3 : fm_M), fm_I nb ad M_j3 → fm_same [32006, 32007, 36001, 37000] M M_j3 → ∀ (H : Heap) (locs : List Loc), fm_at D ad C nb M_j3 H → va_S (fm_A nb ad) s.heap H locs → ∀ (ls : Array Slot), lv_has ls 2 [(0, .ref (ad 32 0)), (1, .int 3)] → W p l e (headSpec wsX5_readOne ({ frames := 15, cells := 0, slots := 0, locals := 327 })).room s m ([.ref (ad 32 0), .int 3] : List Value).toArray below meth c H locs 0 0 (MQ below (va_Qv (fun (u : fm_M) => fm_I nb ad u ∧ fm_same [32006, 32007, 36001, 37000] M u ∧ True) (fun u t => fm_at D ad C nb u t.heap) (fm_A nb ad)) ([.ref (ad 32 0), .int 3] : List Value).toArray s 0 0 (fm_A nb ad)) (F0 m 160 ls []) := by
        intro  M_j3 hI hE H locs hw hS ls hl
        refine lv_aload_n hx hb dX5_readOne_160 rfl (lv_at hl 0 rfl) ?_
        refine fm_cv (va_runV (As := []) (rest := []) ⟨hx, hb, hml, hown, hts⟩ (fc_X5_fail l D ad C nb M_j3 hI) (cwV 0 hts gX5_readOne_X5_fail rfl rfl rfl (by decide +kernel) ⟨Nat.le_of_ble_eq_true rfl, Nat.le_of_ble_eq_true rfl⟩) (fm_preV hc hw hS kl_32 sh_32 rfl) rfl rfl hl.1 rfl (lv_room (Nat.le_of_ble_eq_true rfl)) dX5_readOne_161 ⟨by decide +kernel, by decide +kernel⟩) hS hc (fun M2 H locs hr1 hw hS => ?_)
        obtain ⟨hI, hEM2, hr1⟩ := hr1
        have hE := hE.tr hEM2 (by decide)
        exact W.vret hx hb hr (fun t ht hW => ⟨⟨M2, rfl, ⟨hI, hE, trivial⟩, by show fm_at D ad C nb _ t.heap; rw [ht]; exact hw⟩, hS.F ht⟩) hS.2.2 dX5_readOne_164
      refine lv_aload_n hx hb dX5_readOne_126 rfl (lv_at hl 0 rfl) ?_
      refine lv_bipush (v := 40) hx hb dX5_readOne_127 (by decide) ?_
      have zz3 := zk_40
      refine vp_callSi (va_Run.run (va_runV (As := [.int 40]) (rest := []) ⟨hx, hb, hml, hown, hts⟩ (fc_X5_sees l D ad C nb M_j2 hI 40) (cwV 1 hts gX5_readOne_X5_sees rfl rfl rfl (by decide +kernel) ⟨Nat.le_of_ble_eq_true rfl, Nat.le_of_ble_eq_true rfl⟩) (fm_preV hc hw hS kl_32 sh_32 rfl) rfl rfl hl.1 rfl (lv_room (Nat.le_of_ble_eq_true rfl)) dX5_readOne_129 ⟨by decide +kernel, by decide +kernel⟩)) (fun r4 hr4 => ?_)
      have bqq5 := hI.bd (k := 0) bd_32_6
      have bqq6 := hI.bd (k := 0) bd_32_7
      rcases hr4 with ⟨rfl, c7⟩ | ⟨rfl, c7⟩
      · refine fx_if_eq (tgt := 160) hx hb dX5_readOne_132 (by decide) zk_1 (fun c8 => by exfalso; omega) (fun c8 => ?_)
        refine lv_iload_n hx hb dX5_readOne_135 rfl (lv_at hl 1 rfl) ?_
        refine lv_iconst (v := 5) hx hb dX5_readOne_136 (by decide) ?_
        refine fx_icmp_ge (tgt := 160) hx hb dX5_readOne_137 (by decide) zk_3 zk_5 (fun c9 => by exfalso; omega) (fun c9 => ?_)
        refine lv_aload_n hx hb dX5_readOne_140 rfl (lv_at hl 0 rfl) ?_
        refine fm_cv (va_runV (As := []) (rest := []) ⟨hx, hb, hml, hown, hts⟩ (fc_X5_advance l D ad C nb M_j2 hI) (cwV 0 hts gX5_readOne_X5_advance rfl rfl rfl (by decide +kernel) ⟨Nat.le_of_ble_eq_true rfl, Nat.le_of_ble_eq_true rfl⟩) (fm_preV hc hw hS kl_32 sh_32 rfl) rfl rfl hl.1 rfl (lv_room (Nat.le_of_ble_eq_true rfl)) dX5_readOne_141 ⟨by decide +kernel, by decide +kernel⟩) hS hc (fun M11 H locs hr10 hw hS => ?_)
        obtain ⟨hI, hEM11, hr10⟩ := hr10
        have hE := hE.tr hEM11 (by decide)
        refine lv_aload_n hx hb dX5_readOne_144 rfl (lv_at hl 0 rfl) ?_
        refine lv_iload_n hx hb dX5_readOne_145 rfl (lv_at hl 1 rfl) ?_
        refine lv_iconst (v := 1) hx hb dX5_readOne_146 (by decide) ?_
        refine lv_iadd hx hb dX5_readOne_147 ?_
        refine lv_topi (fun y13 ey13 => ?_)
        obtain rfl : y13 = 4 := ey13.trans (by decide)
        refine fm_cv (va_runV (As := [.int 4]) (rest := []) ⟨hx, hb, hml, hown, hts⟩ (fc_X5_readChoice_4 l D ad C nb M11 hI) (cwV 1 hts gX5_readOne_X5_readChoice rfl rfl rfl (by decide +kernel) ⟨Nat.le_of_ble_eq_true rfl, Nat.le_of_ble_eq_true rfl⟩) (fm_preV hc hw hS kl_32 sh_32 rfl) rfl rfl hl.1 rfl (lv_room (Nat.le_of_ble_eq_true rfl)) dX5_readOne_148 ⟨by decide +kernel, by decide +kernel⟩) hS hc (fun M15 H locs hr14 hw hS => ?_)
        obtain ⟨hI, hEM15, hr14⟩ := hr14
        have hE := hE.tr hEM15 (by decide)
        refine lv_aload_n hx hb dX5_readOne_151 rfl (lv_at hl 0 rfl) ?_
        refine lv_bipush (v := 41) hx hb dX5_readOne_152 (by decide) ?_
        refine fm_cv (va_runV (As := [.int 41]) (rest := []) ⟨hx, hb, hml, hown, hts⟩ (fc_X5_need l D ad C nb M15 hI 41) (cwV 1 hts gX5_readOne_X5_need rfl rfl rfl (by decide +kernel) ⟨Nat.le_of_ble_eq_true rfl, Nat.le_of_ble_eq_true rfl⟩) (fm_preV hc hw hS kl_32 sh_32 rfl) rfl rfl hl.1 rfl (lv_room (Nat.le_of_ble_eq_true rfl)) dX5_readOne_154 ⟨by decide +kernel, by decide +kernel⟩) hS hc (fun M17 H locs hr16 hw hS => ?_)
        obtain ⟨hI, hEM17, hr16⟩ := hr16
        have hE := hE.tr hEM17 (by decide)
        refine lv_goto (tgt := 164) hx hb dX5_readOne_157 (by decide) ?_
        exact W.vret hx hb hr (fun t ht hW => ⟨⟨M17, rfl, ⟨hI, hE, trivial⟩, by show fm_at D ad C nb _ t.heap; rw [ht]; exact hw⟩, hS.F ht⟩) hS.2.2 dX5_readOne_164
      · refine fx_if_eq (tgt := 160) hx hb dX5_readOne_132 (by decide) zk_0 (fun c18 => ?_) (fun c18 => by exfalso; omega)
        exact j3 M_j2 hI hE _ _ hw hS ls (lv_sub hl [0, 1] rfl)
    refine lv_aload_n hx hb dX5_readOne_89 rfl (lv_at hl 0 rfl) ?_
    refine lv_bipush (v := 45) hx hb dX5_readOne_90 (by decide) ?_
    have zz19 := zk_45
    refine vp_callSi (va_Run.run (va_runV (As := [.int 45]) (rest := []) ⟨hx, hb, hml, hown, hts⟩ (fc_X5_sees l D ad C nb M_j1 hI 45) (cwV 1 hts gX5_readOne_X5_sees rfl rfl rfl (by decide +kernel) ⟨Nat.le_of_ble_eq_true rfl, Nat.le_of_ble_eq_true rfl⟩) (fm_preV hc hw hS kl_32 sh_32 rfl) rfl rfl hl.1 rfl (lv_room (Nat.le_of_ble_eq_true rfl)) dX5_readOne_92 ⟨by decide +kernel, by decide +kernel⟩)) (fun r20 hr20 => ?_)
    have bqq21 := hI.bd (k := 0) bd_32_6
    have bqq22 := hI.bd (k := 0) bd_32_7
    rcases hr20 with ⟨rfl, c23⟩ | ⟨rfl, c23⟩
    · refine fx_if_eq (tgt := 126) hx hb dX5_readOne_95 (by decide) zk_1 (fun c24 => by exfalso; omega) (fun c24 => ?_)
      refine lv_iload_n hx hb dX5_readOne_98 rfl (lv_at hl 1 rfl) ?_
      refine lv_iconst (v := 5) hx hb dX5_readOne_99 (by decide) ?_
      refine fx_icmp_ge (tgt := 126) hx hb dX5_readOne_100 (by decide) zk_3 zk_5 (fun c25 => by exfalso; omega) (fun c25 => ?_)
      refine lv_aload_n hx hb dX5_readOne_103 rfl (lv_at hl 0 rfl) ?_
      refine fm_cv (va_runV (As := []) (rest := []) ⟨hx, hb, hml, hown, hts⟩ (fc_X5_advance l D ad C nb M_j1 hI) (cwV 0 hts gX5_readOne_X5_advance rfl rfl rfl (by decide +kernel) ⟨Nat.le_of_ble_eq_true rfl, Nat.le_of_ble_eq_true rfl⟩) (fm_preV hc hw hS kl_32 sh_32 rfl) rfl rfl hl.1 rfl (lv_room (Nat.le_of_ble_eq_true rfl)) dX5_readOne_104 ⟨by decide +kernel, by decide +kernel⟩) hS hc (fun M27 H locs hr26 hw hS => ?_)
      obtain ⟨hI, hEM27, hr26⟩ := hr26
      have hE := hE.tr hEM27 (by decide)
      refine lv_aload_n hx hb dX5_readOne_107 rfl (lv_at hl 0 rfl) ?_
      refine lv_iload_n hx hb dX5_readOne_108 rfl (lv_at hl 1 rfl) ?_
      refine lv_iconst (v := 1) hx hb dX5_readOne_109 (by decide) ?_
      refine lv_iadd hx hb dX5_readOne_110 ?_
      refine lv_topi (fun y29 ey29 => ?_)
      obtain rfl : y29 = 4 := ey29.trans (by decide)
      refine fm_cv (va_runV (As := [.int 4]) (rest := []) ⟨hx, hb, hml, hown, hts⟩ (fc_X5_readOne_4 l D ad C nb M27 hI) (cwV 1 hts gX5_readOne_X5_readOne rfl rfl rfl (by decide +kernel) ⟨Nat.le_of_ble_eq_true rfl, Nat.le_of_ble_eq_true rfl⟩) (fm_preV hc hw hS kl_32 sh_32 rfl) rfl rfl hl.1 rfl (lv_room (Nat.le_of_ble_eq_true rfl)) dX5_readOne_111 ⟨by decide +kernel, by decide +kernel⟩) hS hc (fun M31 H locs hr30 hw hS => ?_)
      obtain ⟨hI, hEM31, hr30⟩ := hr30
      have hE := hE.tr hEM31 (by decide)
      refine lv_aload_n hx hb dX5_readOne_114 rfl (lv_at hl 0 rfl) ?_
      refine fm_getG (a := 32) (j := 5) (T := TX5) (N := 8) hx hb hts hinX5 hown hc hw kl_32 sh_32 rfl (by decide) rfl (hI.to kl_32 tg_32_5) (hts (.fieldLink RX5 27 "RedTent$Reader" "made" "LRedTent$Text;") (List.mem_cons_of_mem _ tw_1_203)) (fun _ h9 => h9) dX5_readOne_115 ?_
      refine lv_bipush (v := (-19)) hx hb dX5_readOne_118 (by decide) ?_
      refine fm_cv (va_runV (As := [.int (-19)]) (rest := []) ⟨hx, hb, hml, hown, hts⟩ (fc_X9_addStep l D ad C nb M31 hI (-19)) (cwV 1 hts gX5_readOne_X9_addStep rfl rfl rfl (by decide +kernel) ⟨Nat.le_of_ble_eq_true rfl, Nat.le_of_ble_eq_true rfl⟩) (fm_preV hc hw hS kl_36 sh_36 rfl) rfl rfl hl.1 rfl (lv_room (Nat.le_of_ble_eq_true rfl)) dX5_readOne_120 ⟨by decide +kernel, by decide +kernel⟩) hS hc (fun M33 H locs hr32 hw hS => ?_)
      obtain ⟨hI, hEM33, hr32⟩ := hr32
      have hE := hE.tr hEM33 (by decide)
      refine lv_goto (tgt := 164) hx hb dX5_readOne_123 (by decide) ?_
      exact W.vret hx hb hr (fun t ht hW => ⟨⟨M33, rfl, ⟨hI, hE, trivial⟩, by show fm_at D ad C nb _ t.heap; rw [ht]; exact hw⟩, hS.F ht⟩) hS.2.2 dX5_readOne_164
    · refine fx_if_eq (tgt := 126) hx hb dX5_readOne_95 (by decide) zk_0 (fun c34 => ?_) (fun c34 => by exfalso; omega)
      exact j2 M_j1 hI hE _ _ hw hS ls (lv_sub hl [0, 1] rfl)
  refine lv_aload_n hx hb dX5_readOne_0 rfl (lv_at hl 0 rfl) ?_
  refine lv_bipush (v := 12) hx hb dX5_readOne_1 (by decide) ?_
  have zz35 := zk_12
  refine vp_callSi (va_Run.run (va_runV (As := [.int 12]) (rest := []) ⟨hx, hb, hml, hown, hts⟩ (fc_X5_sees l D ad C nb M hI 12) (cwV 1 hts gX5_readOne_X5_sees rfl rfl rfl (by decide +kernel) ⟨Nat.le_of_ble_eq_true rfl, Nat.le_of_ble_eq_true rfl⟩) (fm_preV hc hw hS kl_32 sh_32 rfl) rfl rfl hl.1 rfl (lv_room (Nat.le_of_ble_eq_true rfl)) dX5_readOne_3 ⟨by decide +kernel, by decide +kernel⟩)) (fun r36 hr36 => ?_)
  have bqq37 := hI.bd (k := 0) bd_32_6
  have bqq38 := hI.bd (k := 0) bd_32_7
  rcases hr36 with ⟨rfl, c39⟩ | ⟨rfl, c39⟩
  · refine fx_if_eq (tgt := 32) hx hb dX5_readOne_6 (by decide) zk_1 (fun c40 => by exfalso; omega) (fun c40 => ?_)
    refine lv_aload_n hx hb dX5_readOne_9 rfl (lv_at hl 0 rfl) ?_
    refine fm_getG (a := 32) (j := 5) (T := TX5) (N := 8) hx hb hts hinX5 hown hc hw kl_32 sh_32 rfl (by decide) rfl (hI.to kl_32 tg_32_5) (hts (.fieldLink RX5 27 "RedTent$Reader" "made" "LRedTent$Text;") (List.mem_cons_of_mem _ tw_1_203)) (fun _ h9 => h9) dX5_readOne_10 ?_
    refine lv_aload_n hx hb dX5_readOne_13 rfl (lv_at hl 0 rfl) ?_
    refine fm_getG (a := 32) (j := 4) (T := TX5) (N := 8) hx hb hts hinX5 hown hc hw kl_32 sh_32 rfl (by decide) rfl (hI.to kl_32 tg_32_4) (hts (.fieldLink RX5 21 "RedTent$Reader" "numbers" "[I") (List.mem_cons_of_mem _ tw_1_202)) (fun _ h9 => h9) dX5_readOne_14 ?_
    refine lv_aload_n hx hb dX5_readOne_17 rfl (lv_at hl 0 rfl) ?_
    refine fm_getI (a := 32) (j := 6) (T := TX5) (N := 8) hx hb hts hinX5 hown hc hw hI kl_32 sh_32 rfl (by decide) rfl bd_32_6 (hts (.fieldLink RX5 47 "RedTent$Reader" "at" "I") (List.mem_cons_of_mem _ tw_1_205)) (fun _ h9 => h9) dX5_readOne_18 (fun x41 ex41 bx41 => ?_)
    refine fm_iald (a := 35) hx hb hc hw hI kl_35 sh_35 ty_35 bd_35 (by omega) dX5_readOne_21 (fun x42 ex42 bx42 => ?_)
    refine fm_cv (va_runV (As := [.int x42]) (rest := []) ⟨hx, hb, hml, hown, hts⟩ (fc_X9_addStep l D ad C nb M hI x42) (cwV 1 hts gX5_readOne_X9_addStep rfl rfl rfl (by decide +kernel) ⟨Nat.le_of_ble_eq_true rfl, Nat.le_of_ble_eq_true rfl⟩) (fm_preV hc hw hS kl_36 sh_36 rfl) rfl rfl hl.1 rfl (lv_room (Nat.le_of_ble_eq_true rfl)) dX5_readOne_22 ⟨by decide +kernel, by decide +kernel⟩) hS hc (fun M44 H locs hr43 hw hS => ?_)
    obtain ⟨hI, hEM44, hr43⟩ := hr43
    have hE := hE.tr hEM44 (by decide)
    refine lv_aload_n hx hb dX5_readOne_25 rfl (lv_at hl 0 rfl) ?_
    refine fm_cv (va_runV (As := []) (rest := []) ⟨hx, hb, hml, hown, hts⟩ (fc_X5_advance l D ad C nb M44 hI) (cwV 0 hts gX5_readOne_X5_advance rfl rfl rfl (by decide +kernel) ⟨Nat.le_of_ble_eq_true rfl, Nat.le_of_ble_eq_true rfl⟩) (fm_preV hc hw hS kl_32 sh_32 rfl) rfl rfl hl.1 rfl (lv_room (Nat.le_of_ble_eq_true rfl)) dX5_readOne_26 ⟨by decide +kernel, by decide +kernel⟩) hS hc (fun M46 H locs hr45 hw hS => ?_)
    obtain ⟨hI, hEM46, hr45⟩ := hr45
    have hE := hE.tr hEM46 (by decide)
    refine lv_goto (tgt := 164) hx hb dX5_readOne_29 (by decide) ?_
    exact W.vret hx hb hr (fun t ht hW => ⟨⟨M46, rfl, ⟨hI, hE, trivial⟩, by show fm_at D ad C nb _ t.heap; rw [ht]; exact hw⟩, hS.F ht⟩) hS.2.2 dX5_readOne_164
  · refine fx_if_eq (tgt := 32) hx hb dX5_readOne_6 (by decide) zk_0 (fun c47 => ?_) (fun c47 => by exfalso; omega)
    refine lv_aload_n hx hb dX5_readOne_32 rfl (lv_at hl 0 rfl) ?_
    refine fm_getI (a := 32) (j := 7) (T := TX5) (N := 8) hx hb hts hinX5 hown hc hw hI kl_32 sh_32 rfl (by decide) rfl bd_32_7 (hts (.fieldLink RX5 50 "RedTent$Reader" "fault" "I") (List.mem_cons_of_mem _ tw_1_206)) (fun _ h9 => h9) dX5_readOne_33 (fun x48 ex48 bx48 => ?_)
    refine fx_if_ge (tgt := 89) hx hb dX5_readOne_36 (by decide) rfl (fun c49 => ?_) (fun c49 => ?_)
    · exact j1 M hI hE _ _ hw hS ls (lv_sub hl [0, 1] rfl)
    · refine lv_aload_n hx hb dX5_readOne_39 rfl (lv_at hl 0 rfl) ?_
      refine fm_getG (a := 32) (j := 2) (T := TX5) (N := 8) hx hb hts hinX5 hown hc hw kl_32 sh_32 rfl (by decide) rfl (hI.to kl_32 tg_32_2) (hts (.fieldLink RX5 15 "RedTent$Reader" "tokens" "[I") (List.mem_cons_of_mem _ tw_1_200)) (fun _ h9 => h9) dX5_readOne_40 ?_
      refine lv_aload_n hx hb dX5_readOne_43 rfl (lv_at hl 0 rfl) ?_
      refine fm_getI (a := 32) (j := 6) (T := TX5) (N := 8) hx hb hts hinX5 hown hc hw hI kl_32 sh_32 rfl (by decide) rfl bd_32_6 (hts (.fieldLink RX5 47 "RedTent$Reader" "at" "I") (List.mem_cons_of_mem _ tw_1_205)) (fun _ h9 => h9) dX5_readOne_44 (fun x50 ex50 bx50 => ?_)
      refine fm_iald (a := 33) hx hb hc hw hI kl_33 sh_33 ty_33 bd_33 (by omega) dX5_readOne_47 (fun x51 ex51 bx51 => ?_)
      refine fx_if_le (tgt := 89) hx hb dX5_readOne_48 (by decide) rfl (fun c52 => ?_) (fun c52 => ?_)
      · exact j1 M hI hE _ _ hw hS ls (lv_sub hl [0, 1] rfl)
      · refine lv_aload_n hx hb dX5_readOne_51 rfl (lv_at hl 0 rfl) ?_
        refine fm_getG (a := 32) (j := 2) (T := TX5) (N := 8) hx hb hts hinX5 hown hc hw kl_32 sh_32 rfl (by decide) rfl (hI.to kl_32 tg_32_2) (hts (.fieldLink RX5 15 "RedTent$Reader" "tokens" "[I") (List.mem_cons_of_mem _ tw_1_200)) (fun _ h9 => h9) dX5_readOne_52 ?_
        refine lv_aload_n hx hb dX5_readOne_55 rfl (lv_at hl 0 rfl) ?_
        refine fm_getI (a := 32) (j := 6) (T := TX5) (N := 8) hx hb hts hinX5 hown hc hw hI kl_32 sh_32 rfl (by decide) rfl bd_32_6 (hts (.fieldLink RX5 47 "RedTent$Reader" "at" "I") (List.mem_cons_of_mem _ tw_1_205)) (fun _ h9 => h9) dX5_readOne_56 (fun x53 ex53 bx53 => ?_)
        obtain rfl : x50 = x53 := by rw [ex53]; exact ex50
        refine fm_iald (a := 33) hx hb hc hw hI kl_33 sh_33 ty_33 bd_33 (by omega) dX5_readOne_59 (fun x54 ex54 bx54 => ?_)
        obtain rfl : x51 = x54 := by rw [ex54]; exact ex51
        refine lv_bipush (v := 6) hx hb dX5_readOne_60 (by decide) ?_
        refine fx_icmp_gt (tgt := 89) hx hb dX5_readOne_62 (by decide) rfl zk_6 (fun c55 => ?_) (fun c55 => ?_)
        · exact j1 M hI hE _ _ hw hS ls (lv_sub hl [0, 1] rfl)
        · refine lv_aload_n hx hb dX5_readOne_65 rfl (lv_at hl 0 rfl) ?_
          refine fm_getG (a := 32) (j := 5) (T := TX5) (N := 8) hx hb hts hinX5 hown hc hw kl_32 sh_32 rfl (by decide) rfl (hI.to kl_32 tg_32_5) (hts (.fieldLink RX5 27 "RedTent$Reader" "made" "LRedTent$Text;") (List.mem_cons_of_mem _ tw_1_203)) (fun _ h9 => h9) dX5_readOne_66 ?_
          refine lv_aload_n hx hb dX5_readOne_69 rfl (lv_at hl 0 rfl) ?_
          refine fm_getG (a := 32) (j := 2) (T := TX5) (N := 8) hx hb hts hinX5 hown hc hw kl_32 sh_32 rfl (by decide) rfl (hI.to kl_32 tg_32_2) (hts (.fieldLink RX5 15 "RedTent$Reader" "tokens" "[I") (List.mem_cons_of_mem _ tw_1_200)) (fun _ h9 => h9) dX5_readOne_70 ?_
          refine lv_aload_n hx hb dX5_readOne_73 rfl (lv_at hl 0 rfl) ?_
          refine fm_getI (a := 32) (j := 6) (T := TX5) (N := 8) hx hb hts hinX5 hown hc hw hI kl_32 sh_32 rfl (by decide) rfl bd_32_6 (hts (.fieldLink RX5 47 "RedTent$Reader" "at" "I") (List.mem_cons_of_mem _ tw_1_205)) (fun _ h9 => h9) dX5_readOne_74 (fun x56 ex56 bx56 => ?_)
          obtain rfl : x50 = x56 := by rw [ex56]; exact ex50
          refine fm_iald (a := 33) hx hb hc hw hI kl_33 sh_33 ty_33 bd_33 (by omega) dX5_readOne_77 (fun x57 ex57 bx57 => ?_)
          obtain rfl : x51 = x57 := by rw [ex57]; exact ex51
          refine fx_ineg hx hb dX5_readOne_78 rfl (by omega) (fun y58 ey58 ty58 => ?_)
          refine fm_cv (va_runV (As := [.int y58]) (rest := []) ⟨hx, hb, hml, hown, hts⟩ (fc_X9_addStep l D ad C nb M hI y58) (cwV 1 hts gX5_readOne_X9_addStep rfl rfl rfl (by decide +kernel) ⟨Nat.le_of_ble_eq_true rfl, Nat.le_of_ble_eq_true rfl⟩) (fm_preV hc hw hS kl_36 sh_36 rfl) rfl rfl hl.1 rfl (lv_room (Nat.le_of_ble_eq_true rfl)) dX5_readOne_79 ⟨by decide +kernel, by decide +kernel⟩) hS hc (fun M60 H locs hr59 hw hS => ?_)
          obtain ⟨hI, hEM60, hr59⟩ := hr59
          have hE := hE.tr hEM60 (by decide)
          refine lv_aload_n hx hb dX5_readOne_82 rfl (lv_at hl 0 rfl) ?_
          refine fm_cv (va_runV (As := []) (rest := []) ⟨hx, hb, hml, hown, hts⟩ (fc_X5_advance l D ad C nb M60 hI) (cwV 0 hts gX5_readOne_X5_advance rfl rfl rfl (by decide +kernel) ⟨Nat.le_of_ble_eq_true rfl, Nat.le_of_ble_eq_true rfl⟩) (fm_preV hc hw hS kl_32 sh_32 rfl) rfl rfl hl.1 rfl (lv_room (Nat.le_of_ble_eq_true rfl)) dX5_readOne_83 ⟨by decide +kernel, by decide +kernel⟩) hS hc (fun M62 H locs hr61 hw hS => ?_)
          obtain ⟨hI, hEM62, hr61⟩ := hr61
          have hE := hE.tr hEM62 (by decide)
          refine lv_goto (tgt := 164) hx hb dX5_readOne_86 (by decide) ?_
          exact W.vret hx hb hr (fun t ht hW => ⟨⟨M62, rfl, ⟨hI, hE, trivial⟩, by show fm_at D ad C nb _ t.heap; rw [ht]; exact hw⟩, hS.F ht⟩) hS.2.2 dX5_readOne_164
set_option maxHeartbeats 400000 in
set_option maxRecDepth 20000 in
theorem fc_X5_readTerm_3 (l : Launch) (D : va_G) (ad : Nat → Nat → Nat) (C : Nat → Nat → ClassId) (nb : Nat) (M : fm_M) (hI : fm_I nb ad M) : Met l yX5_readTerm wsX5_readTerm ({ frames := 16, cells := 0, slots := 0, locals := 348 }) (va_Pc [.ref (ad 32 0), .int 3] (fm_P D ad C nb M)) (va_Qv (fun (u : fm_M) => fm_I nb ad u ∧ fm_same [32006, 32007, 36001, 37000] M u ∧ True) (fun u t => fm_at D ad C nb u t.heap) (fm_A nb ad)) 0 0 (fm_A nb ad) := by
  refine Met.ofW (cc := cX5_readTerm) (maxL := 3) (ret := none) (by decide) rfl ?_
  intro p e s m args below meth c s₁ B hml hv
  obtain ⟨rfl, hw, hc⟩ := hv
  have hx := B.exec
  have hb := B.bytes
  have hr := B.returns
  have hts := atoms_spec (ws := wsX5_readTerm) B.pre
  have hown : s.vm.findClass RX5 = some m.cls := findClass_of_methodNamed B.named
  have hinX5 : ∀ w ∈ u_ws RX5 TX5 8, w ∈ wsX5_readTerm := fun w h => List.mem_cons_of_mem _ (iT_X5 w h)
  have hS : va_S (fm_A nb ad) s.heap s.heap [] := va_S.rf
  have hE : fm_same [32006, 32007, 36001, 37000] M M := fm_same.rf
  have hl := lv_entry ([.ref (ad 32 0), .int 3]) (n := 3) (Nat.le_of_ble_eq_true rfl)
  rw [lg_entry_eq]
  generalize (lg_sl ([.ref (ad 32 0), .int 3]) ++ List.replicate (3 - (lg_sl ([.ref (ad 32 0), .int 3])).length) Slot.unset).toArray = ls at hl ⊢
  have hl : lv_has ls 3 [(0, .ref (ad 32 0)), (1, .int 3)] := hl
  refine lv_aload_n hx hb dX5_readTerm_0 rfl (lv_at hl 0 rfl) ?_
  refine lv_iload_n hx hb dX5_readTerm_1 rfl (lv_at hl 1 rfl) ?_
  refine fm_cv (va_runV (As := [.int 3]) (rest := []) ⟨hx, hb, hml, hown, hts⟩ (fc_X5_readOne_3 l D ad C nb M hI) (cwV 1 hts gX5_readTerm_X5_readOne rfl rfl rfl (by decide +kernel) ⟨Nat.le_of_ble_eq_true rfl, Nat.le_of_ble_eq_true rfl⟩) (fm_preV hc hw hS kl_32 sh_32 rfl) rfl rfl hl.1 rfl (lv_room (Nat.le_of_ble_eq_true rfl)) dX5_readTerm_2 ⟨by decide +kernel, by decide +kernel⟩) hS hc (fun M2 H locs hr1 hw hS => ?_)
  obtain ⟨hI, hEM2, hr1⟩ := hr1
  have hE := hE.tr hEM2 (by decide)
  refine lv_iconst (v := 0) hx hb dX5_readTerm_5 (by decide) ?_
  refine lv_istore_n (lv' := [(2, .int 0), (0, .ref (ad 32 0)), (1, .int 3)]) hx hb dX5_readTerm_6 rfl hl (by decide) rfl (fun ls hl => ?_)
  have lp : ∀ (n_lp : Nat) (lp_2 : Int32) (M_lp : fm_M), (160 - lp_2.toInt).toNat < n_lp → (0 ≤ lp_2.toInt ∧ lp_2.toInt ≤ 160) → fm_I nb ad M_lp → fm_same [32006, 32007, 36001, 37000] M M_lp → ∀ (H : Heap) (locs : List Loc), fm_at D ad C nb M_lp H → va_S (fm_A nb ad) s.heap H locs → ∀ (ls : Array Slot), lv_has ls 3 [(2, .int lp_2), (0, .ref (ad 32 0)), (1, .int 3)] → W p l e (headSpec wsX5_readTerm ({ frames := 16, cells := 0, slots := 0, locals := 348 })).room s m ([.ref (ad 32 0), .int 3] : List Value).toArray below meth c H locs 0 0 (MQ below (va_Qv (fun (u : fm_M) => fm_I nb ad u ∧ fm_same [32006, 32007, 36001, 37000] M u ∧ True) (fun u t => fm_at D ad C nb u t.heap) (fm_A nb ad)) ([.ref (ad 32 0), .int 3] : List Value).toArray s 0 0 (fm_A nb ad)) (F0 m 7 ls []) := by
    intro n_lp
    induction n_lp with
    | zero => intro lp_2 M_lp hm_lp b_lp_2 hI hE H locs hw hS ls hl; exact absurd hm_lp (Nat.not_lt_zero _)
    | succ n_lp ih_lp =>
      intro lp_2 M_lp hm_lp b_lp_2 hI hE H locs hw hS ls hl
      refine lv_iload_n hx hb dX5_readTerm_7 rfl (lv_at hl 0 rfl) ?_
      refine lv_sipush (v := 160) hx hb dX5_readTerm_8 (by decide) ?_
      refine fx_icmp_ge (tgt := 47) hx hb dX5_readTerm_11 (by decide) rfl zk_160 (fun c3 => ?_) (fun c3 => ?_)
      · exact W.vret hx hb hr (fun t ht hW => ⟨⟨M_lp, rfl, ⟨hI, hE, trivial⟩, by show fm_at D ad C nb _ t.heap; rw [ht]; exact hw⟩, hS.F ht⟩) hS.2.2 dX5_readTerm_47
      · refine lv_aload_n hx hb dX5_readTerm_14 rfl (lv_at hl 1 rfl) ?_
        refine lv_bipush (v := 42) hx hb dX5_readTerm_15 (by decide) ?_
        have zz4 := zk_42
        refine vp_callSi (va_Run.run (va_runV (As := [.int 42]) (rest := []) ⟨hx, hb, hml, hown, hts⟩ (fc_X5_sees l D ad C nb M_lp hI 42) (cwV 1 hts gX5_readTerm_X5_sees rfl rfl rfl (by decide +kernel) ⟨Nat.le_of_ble_eq_true rfl, Nat.le_of_ble_eq_true rfl⟩) (fm_preV hc hw hS kl_32 sh_32 rfl) rfl rfl hl.1 rfl (lv_room (Nat.le_of_ble_eq_true rfl)) dX5_readTerm_17 ⟨by decide +kernel, by decide +kernel⟩)) (fun r5 hr5 => ?_)
        have bqq6 := hI.bd (k := 0) bd_32_6
        have bqq7 := hI.bd (k := 0) bd_32_7
        rcases hr5 with ⟨rfl, c8⟩ | ⟨rfl, c8⟩
        · refine fx_if_eq (tgt := 47) hx hb dX5_readTerm_20 (by decide) zk_1 (fun c9 => by exfalso; omega) (fun c9 => ?_)
          refine lv_aload_n hx hb dX5_readTerm_23 rfl (lv_at hl 1 rfl) ?_
          refine fm_cv (va_runV (As := []) (rest := []) ⟨hx, hb, hml, hown, hts⟩ (fc_X5_advance l D ad C nb M_lp hI) (cwV 0 hts gX5_readTerm_X5_advance rfl rfl rfl (by decide +kernel) ⟨Nat.le_of_ble_eq_true rfl, Nat.le_of_ble_eq_true rfl⟩) (fm_preV hc hw hS kl_32 sh_32 rfl) rfl rfl hl.1 rfl (lv_room (Nat.le_of_ble_eq_true rfl)) dX5_readTerm_24 ⟨by decide +kernel, by decide +kernel⟩) hS hc (fun M11 H locs hr10 hw hS => ?_)
          obtain ⟨hI, hEM11, hr10⟩ := hr10
          have hE := hE.tr hEM11 (by decide)
          refine lv_aload_n hx hb dX5_readTerm_27 rfl (lv_at hl 1 rfl) ?_
          refine lv_iload_n hx hb dX5_readTerm_28 rfl (lv_at hl 2 rfl) ?_
          refine fm_cv (va_runV (As := [.int 3]) (rest := []) ⟨hx, hb, hml, hown, hts⟩ (fc_X5_readOne_3 l D ad C nb M11 hI) (cwV 1 hts gX5_readTerm_X5_readOne rfl rfl rfl (by decide +kernel) ⟨Nat.le_of_ble_eq_true rfl, Nat.le_of_ble_eq_true rfl⟩) (fm_preV hc hw hS kl_32 sh_32 rfl) rfl rfl hl.1 rfl (lv_room (Nat.le_of_ble_eq_true rfl)) dX5_readTerm_29 ⟨by decide +kernel, by decide +kernel⟩) hS hc (fun M13 H locs hr12 hw hS => ?_)
          obtain ⟨hI, hEM13, hr12⟩ := hr12
          have hE := hE.tr hEM13 (by decide)
          refine lv_aload_n hx hb dX5_readTerm_32 rfl (lv_at hl 1 rfl) ?_
          refine fm_getG (a := 32) (j := 5) (T := TX5) (N := 8) hx hb hts hinX5 hown hc hw kl_32 sh_32 rfl (by decide) rfl (hI.to kl_32 tg_32_5) (hts (.fieldLink RX5 27 "RedTent$Reader" "made" "LRedTent$Text;") (List.mem_cons_of_mem _ tw_1_203)) (fun _ h9 => h9) dX5_readTerm_33 ?_
          refine lv_bipush (v := (-18)) hx hb dX5_readTerm_36 (by decide) ?_
          refine fm_cv (va_runV (As := [.int (-18)]) (rest := []) ⟨hx, hb, hml, hown, hts⟩ (fc_X9_addStep l D ad C nb M13 hI (-18)) (cwV 1 hts gX5_readTerm_X9_addStep rfl rfl rfl (by decide +kernel) ⟨Nat.le_of_ble_eq_true rfl, Nat.le_of_ble_eq_true rfl⟩) (fm_preV hc hw hS kl_36 sh_36 rfl) rfl rfl hl.1 rfl (lv_room (Nat.le_of_ble_eq_true rfl)) dX5_readTerm_38 ⟨by decide +kernel, by decide +kernel⟩) hS hc (fun M15 H locs hr14 hw hS => ?_)
          obtain ⟨hI, hEM15, hr14⟩ := hr14
          have hE := hE.tr hEM15 (by decide)
          obtain ⟨y16, ey16⟩ : ∃ y : Int32, y = lp_2 + 1 := ⟨_, rfl⟩
          have ty16 : y16.toInt = lp_2.toInt + 1 := by rw [ey16, zi_add _ _ (by rw [zk_1]; omega) (by rw [zk_1]; omega), zk_1]
          refine lv_iinc (v := y16) (lv' := [(2, .int y16), (0, .ref (ad 32 0)), (1, .int 3)]) hx hb dX5_readTerm_41 hl (k := 0) rfl (by rw [ey16]; rfl) (by decide) rfl (fun ls hl => ?_)
          refine lv_goto (tgt := 7) hx hb dX5_readTerm_44 (by decide) ?_
          exact ih_lp y16 M15 (by omega) (by omega) hI hE _ _ hw hS ls (lv_sub hl [0, 1, 2] rfl)
        · refine fx_if_eq (tgt := 47) hx hb dX5_readTerm_20 (by decide) zk_0 (fun c17 => ?_) (fun c17 => by exfalso; omega)
          exact W.vret hx hb hr (fun t ht hW => ⟨⟨M_lp, rfl, ⟨hI, hE, trivial⟩, by show fm_at D ad C nb _ t.heap; rw [ht]; exact hw⟩, hS.F ht⟩) hS.2.2 dX5_readTerm_47
  exact lp _ 0 M2 (Nat.lt_succ_self _) (by decide) hI hE _ _ hw hS ls (lv_sub hl [0, 1, 2] rfl)
set_option maxHeartbeats 400000 in
set_option maxRecDepth 20000 in
theorem fc_X5_readSum_3 (l : Launch) (D : va_G) (ad : Nat → Nat → Nat) (C : Nat → Nat → ClassId) (nb : Nat) (M : fm_M) (hI : fm_I nb ad M) : Met l yX5_readSum wsX5_readSum ({ frames := 17, cells := 0, slots := 0, locals := 370 }) (va_Pc [.ref (ad 32 0), .int 3] (fm_P D ad C nb M)) (va_Qv (fun (u : fm_M) => fm_I nb ad u ∧ fm_same [32006, 32007, 36001, 37000] M u ∧ True) (fun u t => fm_at D ad C nb u t.heap) (fm_A nb ad)) 0 0 (fm_A nb ad) := by
  refine Met.ofW (cc := cX5_readSum) (maxL := 4) (ret := none) (by decide) rfl ?_
  intro p e s m args below meth c s₁ B hml hv
  obtain ⟨rfl, hw, hc⟩ := hv
  have hx := B.exec
  have hb := B.bytes
  have hr := B.returns
  have hts := atoms_spec (ws := wsX5_readSum) B.pre
  have hown : s.vm.findClass RX5 = some m.cls := findClass_of_methodNamed B.named
  have hinX5 : ∀ w ∈ u_ws RX5 TX5 8, w ∈ wsX5_readSum := fun w h => List.mem_cons_of_mem _ (iT_X5 w h)
  have hS : va_S (fm_A nb ad) s.heap s.heap [] := va_S.rf
  have hE : fm_same [32006, 32007, 36001, 37000] M M := fm_same.rf
  have hl := lv_entry ([.ref (ad 32 0), .int 3]) (n := 4) (Nat.le_of_ble_eq_true rfl)
  rw [lg_entry_eq]
  generalize (lg_sl ([.ref (ad 32 0), .int 3]) ++ List.replicate (4 - (lg_sl ([.ref (ad 32 0), .int 3])).length) Slot.unset).toArray = ls at hl ⊢
  have hl : lv_has ls 4 [(0, .ref (ad 32 0)), (1, .int 3)] := hl
  refine lv_aload_n hx hb dX5_readSum_0 rfl (lv_at hl 0 rfl) ?_
  refine lv_iload_n hx hb dX5_readSum_1 rfl (lv_at hl 1 rfl) ?_
  refine fm_cv (va_runV (As := [.int 3]) (rest := []) ⟨hx, hb, hml, hown, hts⟩ (fc_X5_readTerm_3 l D ad C nb M hI) (cwV 1 hts gX5_readSum_X5_readTerm rfl rfl rfl (by decide +kernel) ⟨Nat.le_of_ble_eq_true rfl, Nat.le_of_ble_eq_true rfl⟩) (fm_preV hc hw hS kl_32 sh_32 rfl) rfl rfl hl.1 rfl (lv_room (Nat.le_of_ble_eq_true rfl)) dX5_readSum_2 ⟨by decide +kernel, by decide +kernel⟩) hS hc (fun M2 H locs hr1 hw hS => ?_)
  obtain ⟨hI, hEM2, hr1⟩ := hr1
  have hE := hE.tr hEM2 (by decide)
  refine lv_iconst (v := 0) hx hb dX5_readSum_5 (by decide) ?_
  refine lv_istore_n (lv' := [(2, .int 0), (0, .ref (ad 32 0)), (1, .int 3)]) hx hb dX5_readSum_6 rfl hl (by decide) rfl (fun ls hl => ?_)
  have lp : ∀ (n_lp : Nat) (lp_2 : Int32) (M_lp : fm_M), (160 - lp_2.toInt).toNat < n_lp → (0 ≤ lp_2.toInt ∧ lp_2.toInt ≤ 160) → fm_I nb ad M_lp → fm_same [32006, 32007, 36001, 37000] M M_lp → ∀ (H : Heap) (locs : List Loc), fm_at D ad C nb M_lp H → va_S (fm_A nb ad) s.heap H locs → ∀ (ls : Array Slot), lv_has ls 4 [(2, .int lp_2), (0, .ref (ad 32 0)), (1, .int 3)] → W p l e (headSpec wsX5_readSum ({ frames := 17, cells := 0, slots := 0, locals := 370 })).room s m ([.ref (ad 32 0), .int 3] : List Value).toArray below meth c H locs 0 0 (MQ below (va_Qv (fun (u : fm_M) => fm_I nb ad u ∧ fm_same [32006, 32007, 36001, 37000] M u ∧ True) (fun u t => fm_at D ad C nb u t.heap) (fm_A nb ad)) ([.ref (ad 32 0), .int 3] : List Value).toArray s 0 0 (fm_A nb ad)) (F0 m 7 ls []) := by
    intro n_lp
    induction n_lp with
    | zero => intro lp_2 M_lp hm_lp b_lp_2 hI hE H locs hw hS ls hl; exact absurd hm_lp (Nat.not_lt_zero _)
    | succ n_lp ih_lp =>
      intro lp_2 M_lp hm_lp b_lp_2 hI hE H locs hw hS ls hl
      refine lv_iload_n hx hb dX5_readSum_7 rfl (lv_at hl 0 rfl) ?_
      refine lv_sipush (v := 160) hx hb dX5_readSum_8 (by decide) ?_
      refine fx_icmp_ge (tgt := 72) hx hb dX5_readSum_11 (by decide) rfl zk_160 (fun c3 => ?_) (fun c3 => ?_)
      · exact W.vret hx hb hr (fun t ht hW => ⟨⟨M_lp, rfl, ⟨hI, hE, trivial⟩, by show fm_at D ad C nb _ t.heap; rw [ht]; exact hw⟩, hS.F ht⟩) hS.2.2 dX5_readSum_72
      · have j1 : ∀  (M_j1 : fm_M), fm_I nb ad M_j1 → fm_same [32006, 32007, 36001, 37000] M M_j1 → ∀ (H : Heap) (locs : List Loc), fm_at D ad C nb M_j1 H → va_S (fm_A nb ad) s.heap H locs → ∀ (ls : Array Slot), lv_has ls 4 [(2, .int lp_2), (0, .ref (ad 32 0)), (1, .int 3)] → W p l e (headSpec wsX5_readSum ({ frames := 17, cells := 0, slots := 0, locals := 370 })).room s m ([.ref (ad 32 0), .int 3] : List Value).toArray below meth c H locs 0 0 (MQ below (va_Qv (fun (u : fm_M) => fm_I nb ad u ∧ fm_same [32006, 32007, 36001, 37000] M u ∧ True) (fun u t => fm_at D ad C nb u t.heap) (fm_A nb ad)) ([.ref (ad 32 0), .int 3] : List Value).toArray s 0 0 (fm_A nb ad)) (F0 m 32 ls []) := by
          intro  M_j1 hI hE H locs hw hS ls hl
          have j2 : ∀ (j2_3 : Int32) (M_j2 : fm_M), ((-17) ≤ j2_3.toInt ∧ j2_3.toInt ≤ (-16)) → fm_I nb ad M_j2 → fm_same [32006, 32007, 36001, 37000] M M_j2 → ∀ (H : Heap) (locs : List Loc), fm_at D ad C nb M_j2 H → va_S (fm_A nb ad) s.heap H locs → ∀ (ls : Array Slot), lv_has ls 4 [(2, .int lp_2), (0, .ref (ad 32 0)), (1, .int 3), (3, .int j2_3)] → W p l e (headSpec wsX5_readSum ({ frames := 17, cells := 0, slots := 0, locals := 370 })).room s m ([.ref (ad 32 0), .int 3] : List Value).toArray below meth c H locs 0 0 (MQ below (va_Qv (fun (u : fm_M) => fm_I nb ad u ∧ fm_same [32006, 32007, 36001, 37000] M u ∧ True) (fun u t => fm_at D ad C nb u t.heap) (fm_A nb ad)) ([.ref (ad 32 0), .int 3] : List Value).toArray s 0 0 (fm_A nb ad)) (F0 m 49 ls []) := by
            intro j2_3 M_j2 b_j2_3 hI hE H locs hw hS ls hl
            refine lv_aload_n hx hb dX5_readSum_49 rfl (lv_at hl 1 rfl) ?_
            refine fm_cv (va_runV (As := []) (rest := []) ⟨hx, hb, hml, hown, hts⟩ (fc_X5_advance l D ad C nb M_j2 hI) (cwV 0 hts gX5_readSum_X5_advance rfl rfl rfl (by decide +kernel) ⟨Nat.le_of_ble_eq_true rfl, Nat.le_of_ble_eq_true rfl⟩) (fm_preV hc hw hS kl_32 sh_32 rfl) rfl rfl hl.1 rfl (lv_room (Nat.le_of_ble_eq_true rfl)) dX5_readSum_50 ⟨by decide +kernel, by decide +kernel⟩) hS hc (fun M5 H locs hr4 hw hS => ?_)
            obtain ⟨hI, hEM5, hr4⟩ := hr4
            have hE := hE.tr hEM5 (by decide)
            refine lv_aload_n hx hb dX5_readSum_53 rfl (lv_at hl 1 rfl) ?_
            refine lv_iload_n hx hb dX5_readSum_54 rfl (lv_at hl 2 rfl) ?_
            refine fm_cv (va_runV (As := [.int 3]) (rest := []) ⟨hx, hb, hml, hown, hts⟩ (fc_X5_readTerm_3 l D ad C nb M5 hI) (cwV 1 hts gX5_readSum_X5_readTerm rfl rfl rfl (by decide +kernel) ⟨Nat.le_of_ble_eq_true rfl, Nat.le_of_ble_eq_true rfl⟩) (fm_preV hc hw hS kl_32 sh_32 rfl) rfl rfl hl.1 rfl (lv_room (Nat.le_of_ble_eq_true rfl)) dX5_readSum_55 ⟨by decide +kernel, by decide +kernel⟩) hS hc (fun M7 H locs hr6 hw hS => ?_)
            obtain ⟨hI, hEM7, hr6⟩ := hr6
            have hE := hE.tr hEM7 (by decide)
            refine lv_aload_n hx hb dX5_readSum_58 rfl (lv_at hl 1 rfl) ?_
            refine fm_getG (a := 32) (j := 5) (T := TX5) (N := 8) hx hb hts hinX5 hown hc hw kl_32 sh_32 rfl (by decide) rfl (hI.to kl_32 tg_32_5) (hts (.fieldLink RX5 27 "RedTent$Reader" "made" "LRedTent$Text;") (List.mem_cons_of_mem _ tw_1_203)) (fun _ h9 => h9) dX5_readSum_59 ?_
            refine lv_iload_n hx hb dX5_readSum_62 rfl (lv_at hl 3 rfl) ?_
            refine fm_cv (va_runV (As := [.int j2_3]) (rest := []) ⟨hx, hb, hml, hown, hts⟩ (fc_X9_addStep l D ad C nb M7 hI j2_3) (cwV 1 hts gX5_readSum_X9_addStep rfl rfl rfl (by decide +kernel) ⟨Nat.le_of_ble_eq_true rfl, Nat.le_of_ble_eq_true rfl⟩) (fm_preV hc hw hS kl_36 sh_36 rfl) rfl rfl hl.1 rfl (lv_room (Nat.le_of_ble_eq_true rfl)) dX5_readSum_63 ⟨by decide +kernel, by decide +kernel⟩) hS hc (fun M9 H locs hr8 hw hS => ?_)
            obtain ⟨hI, hEM9, hr8⟩ := hr8
            have hE := hE.tr hEM9 (by decide)
            obtain ⟨y10, ey10⟩ : ∃ y : Int32, y = lp_2 + 1 := ⟨_, rfl⟩
            have ty10 : y10.toInt = lp_2.toInt + 1 := by rw [ey10, zi_add _ _ (by rw [zk_1]; omega) (by rw [zk_1]; omega), zk_1]
            refine lv_iinc (v := y10) (lv' := [(2, .int y10), (0, .ref (ad 32 0)), (1, .int 3), (3, .int j2_3)]) hx hb dX5_readSum_66 hl (k := 0) rfl (by rw [ey10]; rfl) (by decide) rfl (fun ls hl => ?_)
            refine lv_goto (tgt := 7) hx hb dX5_readSum_69 (by decide) ?_
            exact ih_lp y10 M9 (by omega) (by omega) hI hE _ _ hw hS ls (lv_sub hl [0, 1, 2] rfl)
          refine lv_aload_n hx hb dX5_readSum_32 rfl (lv_at hl 1 rfl) ?_
          refine lv_bipush (v := 43) hx hb dX5_readSum_33 (by decide) ?_
          have zz11 := zk_43
          refine vp_callSi (va_Run.run (va_runV (As := [.int 43]) (rest := []) ⟨hx, hb, hml, hown, hts⟩ (fc_X5_sees l D ad C nb M_j1 hI 43) (cwV 1 hts gX5_readSum_X5_sees rfl rfl rfl (by decide +kernel) ⟨Nat.le_of_ble_eq_true rfl, Nat.le_of_ble_eq_true rfl⟩) (fm_preV hc hw hS kl_32 sh_32 rfl) rfl rfl hl.1 rfl (lv_room (Nat.le_of_ble_eq_true rfl)) dX5_readSum_35 ⟨by decide +kernel, by decide +kernel⟩)) (fun r12 hr12 => ?_)
          have bqq13 := hI.bd (k := 0) bd_32_6
          have bqq14 := hI.bd (k := 0) bd_32_7
          rcases hr12 with ⟨rfl, c15⟩ | ⟨rfl, c15⟩
          · refine fx_if_eq (tgt := 46) hx hb dX5_readSum_38 (by decide) zk_1 (fun c16 => by exfalso; omega) (fun c16 => ?_)
            refine lv_bipush (v := (-16)) hx hb dX5_readSum_41 (by decide) ?_
            refine lv_goto (tgt := 48) hx hb dX5_readSum_43 (by decide) ?_
            refine lv_istore_n (lv' := [(3, .int (-16)), (2, .int lp_2), (0, .ref (ad 32 0)), (1, .int 3)]) hx hb dX5_readSum_48 rfl hl (by decide) rfl (fun ls hl => ?_)
            exact j2 (-16) M_j1 (by decide) hI hE _ _ hw hS ls (lv_sub hl [1, 2, 3, 0] rfl)
          · refine fx_if_eq (tgt := 46) hx hb dX5_readSum_38 (by decide) zk_0 (fun c17 => ?_) (fun c17 => by exfalso; omega)
            refine lv_bipush (v := (-17)) hx hb dX5_readSum_46 (by decide) ?_
            refine lv_istore_n (lv' := [(3, .int (-17)), (2, .int lp_2), (0, .ref (ad 32 0)), (1, .int 3)]) hx hb dX5_readSum_48 rfl hl (by decide) rfl (fun ls hl => ?_)
            exact j2 (-17) M_j1 (by decide) hI hE _ _ hw hS ls (lv_sub hl [1, 2, 3, 0] rfl)
        refine lv_aload_n hx hb dX5_readSum_14 rfl (lv_at hl 1 rfl) ?_
        refine lv_bipush (v := 43) hx hb dX5_readSum_15 (by decide) ?_
        have zz18 := zk_43
        refine vp_callSi (va_Run.run (va_runV (As := [.int 43]) (rest := []) ⟨hx, hb, hml, hown, hts⟩ (fc_X5_sees l D ad C nb M_lp hI 43) (cwV 1 hts gX5_readSum_X5_sees rfl rfl rfl (by decide +kernel) ⟨Nat.le_of_ble_eq_true rfl, Nat.le_of_ble_eq_true rfl⟩) (fm_preV hc hw hS kl_32 sh_32 rfl) rfl rfl hl.1 rfl (lv_room (Nat.le_of_ble_eq_true rfl)) dX5_readSum_17 ⟨by decide +kernel, by decide +kernel⟩)) (fun r19 hr19 => ?_)
        have bqq20 := hI.bd (k := 0) bd_32_6
        have bqq21 := hI.bd (k := 0) bd_32_7
        rcases hr19 with ⟨rfl, c22⟩ | ⟨rfl, c22⟩
        · refine fx_if_ne (tgt := 32) hx hb dX5_readSum_20 (by decide) zk_1 (fun c23 => ?_) (fun c23 => by exfalso; omega)
          exact j1 M_lp hI hE _ _ hw hS ls (lv_sub hl [0, 1, 2] rfl)
        · refine fx_if_ne (tgt := 32) hx hb dX5_readSum_20 (by decide) zk_0 (fun c24 => by exfalso; omega) (fun c24 => ?_)
          refine lv_aload_n hx hb dX5_readSum_23 rfl (lv_at hl 1 rfl) ?_
          refine lv_bipush (v := 45) hx hb dX5_readSum_24 (by decide) ?_
          have zz25 := zk_45
          refine vp_callSi (va_Run.run (va_runV (As := [.int 45]) (rest := []) ⟨hx, hb, hml, hown, hts⟩ (fc_X5_sees l D ad C nb M_lp hI 45) (cwV 1 hts gX5_readSum_X5_sees rfl rfl rfl (by decide +kernel) ⟨Nat.le_of_ble_eq_true rfl, Nat.le_of_ble_eq_true rfl⟩) (fm_preV hc hw hS kl_32 sh_32 rfl) rfl rfl hl.1 rfl (lv_room (Nat.le_of_ble_eq_true rfl)) dX5_readSum_26 ⟨by decide +kernel, by decide +kernel⟩)) (fun r26 hr26 => ?_)
          have bqq27 := hI.bd (k := 0) bd_32_6
          have bqq28 := hI.bd (k := 0) bd_32_7
          rcases hr26 with ⟨rfl, c29⟩ | ⟨rfl, c29⟩
          · refine fx_if_eq (tgt := 72) hx hb dX5_readSum_29 (by decide) zk_1 (fun c30 => by exfalso; omega) (fun c30 => ?_)
            exact j1 M_lp hI hE _ _ hw hS ls (lv_sub hl [0, 1, 2] rfl)
          · refine fx_if_eq (tgt := 72) hx hb dX5_readSum_29 (by decide) zk_0 (fun c31 => ?_) (fun c31 => by exfalso; omega)
            exact W.vret hx hb hr (fun t ht hW => ⟨⟨M_lp, rfl, ⟨hI, hE, trivial⟩, by show fm_at D ad C nb _ t.heap; rw [ht]; exact hw⟩, hS.F ht⟩) hS.2.2 dX5_readSum_72
  exact lp _ 0 M2 (Nat.lt_succ_self _) (by decide) hI hE _ _ hw hS ls (lv_sub hl [0, 1, 2] rfl)
set_option maxHeartbeats 400000 in
set_option maxRecDepth 20000 in
theorem fc_X5_readCompared_3 (l : Launch) (D : va_G) (ad : Nat → Nat → Nat) (C : Nat → Nat → ClassId) (nb : Nat) (M : fm_M) (hI : fm_I nb ad M) : Met l yX5_readCompared wsX5_readCompared ({ frames := 18, cells := 0, slots := 0, locals := 393 }) (va_Pc [.ref (ad 32 0), .int 3] (fm_P D ad C nb M)) (va_Qv (fun (u : fm_M) => fm_I nb ad u ∧ fm_same [32006, 32007, 36001, 37000] M u ∧ True) (fun u t => fm_at D ad C nb u t.heap) (fm_A nb ad)) 0 0 (fm_A nb ad) := by
  refine Met.ofW (cc := cX5_readCompared) (maxL := 3) (ret := none) (by decide) rfl ?_
  intro p e s m args below meth c s₁ B hml hv
  obtain ⟨rfl, hw, hc⟩ := hv
  have hx := B.exec
  have hb := B.bytes
  have hr := B.returns
  have hts := atoms_spec (ws := wsX5_readCompared) B.pre
  have hown : s.vm.findClass RX5 = some m.cls := findClass_of_methodNamed B.named
  have hinX5 : ∀ w ∈ u_ws RX5 TX5 8, w ∈ wsX5_readCompared := fun w h => List.mem_cons_of_mem _ (iT_X5 w h)
  have hS : va_S (fm_A nb ad) s.heap s.heap [] := va_S.rf
  have hE : fm_same [32006, 32007, 36001, 37000] M M := fm_same.rf
  have hl := lv_entry ([.ref (ad 32 0), .int 3]) (n := 3) (Nat.le_of_ble_eq_true rfl)
  rw [lg_entry_eq]
  generalize (lg_sl ([.ref (ad 32 0), .int 3]) ++ List.replicate (3 - (lg_sl ([.ref (ad 32 0), .int 3])).length) Slot.unset).toArray = ls at hl ⊢
  have hl : lv_has ls 3 [(0, .ref (ad 32 0)), (1, .int 3)] := hl
  refine lv_aload_n hx hb dX5_readCompared_0 rfl (lv_at hl 0 rfl) ?_
  refine lv_iload_n hx hb dX5_readCompared_1 rfl (lv_at hl 1 rfl) ?_
  refine fm_cv (va_runV (As := [.int 3]) (rest := []) ⟨hx, hb, hml, hown, hts⟩ (fc_X5_readSum_3 l D ad C nb M hI) (cwV 1 hts gX5_readCompared_X5_readSum rfl rfl rfl (by decide +kernel) ⟨Nat.le_of_ble_eq_true rfl, Nat.le_of_ble_eq_true rfl⟩) (fm_preV hc hw hS kl_32 sh_32 rfl) rfl rfl hl.1 rfl (lv_room (Nat.le_of_ble_eq_true rfl)) dX5_readCompared_2 ⟨by decide +kernel, by decide +kernel⟩) hS hc (fun M2 H locs hr1 hw hS => ?_)
  obtain ⟨hI, hEM2, hr1⟩ := hr1
  have hE := hE.tr hEM2 (by decide)
  have j1 : ∀  (M_j1 : fm_M), fm_I nb ad M_j1 → fm_same [32006, 32007, 36001, 37000] M M_j1 → ∀ (H : Heap) (locs : List Loc), fm_at D ad C nb M_j1 H → va_S (fm_A nb ad) s.heap H locs → ∀ (ls : Array Slot), lv_has ls 3 [(0, .ref (ad 32 0)), (1, .int 3)] → W p l e (headSpec wsX5_readCompared ({ frames := 18, cells := 0, slots := 0, locals := 393 })).room s m ([.ref (ad 32 0), .int 3] : List Value).toArray below meth c H locs 0 0 (MQ below (va_Qv (fun (u : fm_M) => fm_I nb ad u ∧ fm_same [32006, 32007, 36001, 37000] M u ∧ True) (fun u t => fm_at D ad C nb u t.heap) (fm_A nb ad)) ([.ref (ad 32 0), .int 3] : List Value).toArray s 0 0 (fm_A nb ad)) (F0 m 23 ls []) := by
    intro  M_j1 hI hE H locs hw hS ls hl
    have j2 : ∀ (j2_2 : Int32) (M_j2 : fm_M), ((-15) ≤ j2_2.toInt ∧ j2_2.toInt ≤ (-14)) → fm_I nb ad M_j2 → fm_same [32006, 32007, 36001, 37000] M M_j2 → ∀ (H : Heap) (locs : List Loc), fm_at D ad C nb M_j2 H → va_S (fm_A nb ad) s.heap H locs → ∀ (ls : Array Slot), lv_has ls 3 [(0, .ref (ad 32 0)), (1, .int 3), (2, .int j2_2)] → W p l e (headSpec wsX5_readCompared ({ frames := 18, cells := 0, slots := 0, locals := 393 })).room s m ([.ref (ad 32 0), .int 3] : List Value).toArray below meth c H locs 0 0 (MQ below (va_Qv (fun (u : fm_M) => fm_I nb ad u ∧ fm_same [32006, 32007, 36001, 37000] M u ∧ True) (fun u t => fm_at D ad C nb u t.heap) (fm_A nb ad)) ([.ref (ad 32 0), .int 3] : List Value).toArray s 0 0 (fm_A nb ad)) (F0 m 40 ls []) := by
      intro j2_2 M_j2 b_j2_2 hI hE H locs hw hS ls hl
      refine lv_aload_n hx hb dX5_readCompared_40 rfl (lv_at hl 0 rfl) ?_
      refine fm_cv (va_runV (As := []) (rest := []) ⟨hx, hb, hml, hown, hts⟩ (fc_X5_advance l D ad C nb M_j2 hI) (cwV 0 hts gX5_readCompared_X5_advance rfl rfl rfl (by decide +kernel) ⟨Nat.le_of_ble_eq_true rfl, Nat.le_of_ble_eq_true rfl⟩) (fm_preV hc hw hS kl_32 sh_32 rfl) rfl rfl hl.1 rfl (lv_room (Nat.le_of_ble_eq_true rfl)) dX5_readCompared_41 ⟨by decide +kernel, by decide +kernel⟩) hS hc (fun M4 H locs hr3 hw hS => ?_)
      obtain ⟨hI, hEM4, hr3⟩ := hr3
      have hE := hE.tr hEM4 (by decide)
      refine lv_aload_n hx hb dX5_readCompared_44 rfl (lv_at hl 0 rfl) ?_
      refine lv_iload_n hx hb dX5_readCompared_45 rfl (lv_at hl 1 rfl) ?_
      refine fm_cv (va_runV (As := [.int 3]) (rest := []) ⟨hx, hb, hml, hown, hts⟩ (fc_X5_readSum_3 l D ad C nb M4 hI) (cwV 1 hts gX5_readCompared_X5_readSum rfl rfl rfl (by decide +kernel) ⟨Nat.le_of_ble_eq_true rfl, Nat.le_of_ble_eq_true rfl⟩) (fm_preV hc hw hS kl_32 sh_32 rfl) rfl rfl hl.1 rfl (lv_room (Nat.le_of_ble_eq_true rfl)) dX5_readCompared_46 ⟨by decide +kernel, by decide +kernel⟩) hS hc (fun M6 H locs hr5 hw hS => ?_)
      obtain ⟨hI, hEM6, hr5⟩ := hr5
      have hE := hE.tr hEM6 (by decide)
      refine lv_aload_n hx hb dX5_readCompared_49 rfl (lv_at hl 0 rfl) ?_
      refine fm_getG (a := 32) (j := 5) (T := TX5) (N := 8) hx hb hts hinX5 hown hc hw kl_32 sh_32 rfl (by decide) rfl (hI.to kl_32 tg_32_5) (hts (.fieldLink RX5 27 "RedTent$Reader" "made" "LRedTent$Text;") (List.mem_cons_of_mem _ tw_1_203)) (fun _ h9 => h9) dX5_readCompared_50 ?_
      refine lv_iload_n hx hb dX5_readCompared_53 rfl (lv_at hl 2 rfl) ?_
      refine fm_cv (va_runV (As := [.int j2_2]) (rest := []) ⟨hx, hb, hml, hown, hts⟩ (fc_X9_addStep l D ad C nb M6 hI j2_2) (cwV 1 hts gX5_readCompared_X9_addStep rfl rfl rfl (by decide +kernel) ⟨Nat.le_of_ble_eq_true rfl, Nat.le_of_ble_eq_true rfl⟩) (fm_preV hc hw hS kl_36 sh_36 rfl) rfl rfl hl.1 rfl (lv_room (Nat.le_of_ble_eq_true rfl)) dX5_readCompared_54 ⟨by decide +kernel, by decide +kernel⟩) hS hc (fun M8 H locs hr7 hw hS => ?_)
      obtain ⟨hI, hEM8, hr7⟩ := hr7
      have hE := hE.tr hEM8 (by decide)
      exact W.vret hx hb hr (fun t ht hW => ⟨⟨M8, rfl, ⟨hI, hE, trivial⟩, by show fm_at D ad C nb _ t.heap; rw [ht]; exact hw⟩, hS.F ht⟩) hS.2.2 dX5_readCompared_57
    refine lv_aload_n hx hb dX5_readCompared_23 rfl (lv_at hl 0 rfl) ?_
    refine lv_bipush (v := 60) hx hb dX5_readCompared_24 (by decide) ?_
    have zz9 := zk_60
    refine vp_callSi (va_Run.run (va_runV (As := [.int 60]) (rest := []) ⟨hx, hb, hml, hown, hts⟩ (fc_X5_sees l D ad C nb M_j1 hI 60) (cwV 1 hts gX5_readCompared_X5_sees rfl rfl rfl (by decide +kernel) ⟨Nat.le_of_ble_eq_true rfl, Nat.le_of_ble_eq_true rfl⟩) (fm_preV hc hw hS kl_32 sh_32 rfl) rfl rfl hl.1 rfl (lv_room (Nat.le_of_ble_eq_true rfl)) dX5_readCompared_26 ⟨by decide +kernel, by decide +kernel⟩)) (fun r10 hr10 => ?_)
    have bqq11 := hI.bd (k := 0) bd_32_6
    have bqq12 := hI.bd (k := 0) bd_32_7
    rcases hr10 with ⟨rfl, c13⟩ | ⟨rfl, c13⟩
    · refine fx_if_eq (tgt := 37) hx hb dX5_readCompared_29 (by decide) zk_1 (fun c14 => by exfalso; omega) (fun c14 => ?_)
      refine lv_bipush (v := (-14)) hx hb dX5_readCompared_32 (by decide) ?_
      refine lv_goto (tgt := 39) hx hb dX5_readCompared_34 (by decide) ?_
      refine lv_istore_n (lv' := [(2, .int (-14)), (0, .ref (ad 32 0)), (1, .int 3)]) hx hb dX5_readCompared_39 rfl hl (by decide) rfl (fun ls hl => ?_)
      exact j2 (-14) M_j1 (by decide) hI hE _ _ hw hS ls (lv_sub hl [1, 2, 0] rfl)
    · refine fx_if_eq (tgt := 37) hx hb dX5_readCompared_29 (by decide) zk_0 (fun c15 => ?_) (fun c15 => by exfalso; omega)
      refine lv_bipush (v := (-15)) hx hb dX5_readCompared_37 (by decide) ?_
      refine lv_istore_n (lv' := [(2, .int (-15)), (0, .ref (ad 32 0)), (1, .int 3)]) hx hb dX5_readCompared_39 rfl hl (by decide) rfl (fun ls hl => ?_)
      exact j2 (-15) M_j1 (by decide) hI hE _ _ hw hS ls (lv_sub hl [1, 2, 0] rfl)
  refine lv_aload_n hx hb dX5_readCompared_5 rfl (lv_at hl 0 rfl) ?_
  refine lv_bipush (v := 60) hx hb dX5_readCompared_6 (by decide) ?_
  have zz16 := zk_60
  refine vp_callSi (va_Run.run (va_runV (As := [.int 60]) (rest := []) ⟨hx, hb, hml, hown, hts⟩ (fc_X5_sees l D ad C nb M2 hI 60) (cwV 1 hts gX5_readCompared_X5_sees rfl rfl rfl (by decide +kernel) ⟨Nat.le_of_ble_eq_true rfl, Nat.le_of_ble_eq_true rfl⟩) (fm_preV hc hw hS kl_32 sh_32 rfl) rfl rfl hl.1 rfl (lv_room (Nat.le_of_ble_eq_true rfl)) dX5_readCompared_8 ⟨by decide +kernel, by decide +kernel⟩)) (fun r17 hr17 => ?_)
  have bqq18 := hI.bd (k := 0) bd_32_6
  have bqq19 := hI.bd (k := 0) bd_32_7
  rcases hr17 with ⟨rfl, c20⟩ | ⟨rfl, c20⟩
  · refine fx_if_ne (tgt := 23) hx hb dX5_readCompared_11 (by decide) zk_1 (fun c21 => ?_) (fun c21 => by exfalso; omega)
    exact j1 M2 hI hE _ _ hw hS ls (lv_sub hl [0, 1] rfl)
  · refine fx_if_ne (tgt := 23) hx hb dX5_readCompared_11 (by decide) zk_0 (fun c22 => by exfalso; omega) (fun c22 => ?_)
    refine lv_aload_n hx hb dX5_readCompared_14 rfl (lv_at hl 0 rfl) ?_
    refine lv_bipush (v := 61) hx hb dX5_readCompared_15 (by decide) ?_
    have zz23 := zk_61
    refine vp_callSi (va_Run.run (va_runV (As := [.int 61]) (rest := []) ⟨hx, hb, hml, hown, hts⟩ (fc_X5_sees l D ad C nb M2 hI 61) (cwV 1 hts gX5_readCompared_X5_sees rfl rfl rfl (by decide +kernel) ⟨Nat.le_of_ble_eq_true rfl, Nat.le_of_ble_eq_true rfl⟩) (fm_preV hc hw hS kl_32 sh_32 rfl) rfl rfl hl.1 rfl (lv_room (Nat.le_of_ble_eq_true rfl)) dX5_readCompared_17 ⟨by decide +kernel, by decide +kernel⟩)) (fun r24 hr24 => ?_)
    have bqq25 := hI.bd (k := 0) bd_32_6
    have bqq26 := hI.bd (k := 0) bd_32_7
    rcases hr24 with ⟨rfl, c27⟩ | ⟨rfl, c27⟩
    · refine fx_if_eq (tgt := 57) hx hb dX5_readCompared_20 (by decide) zk_1 (fun c28 => by exfalso; omega) (fun c28 => ?_)
      exact j1 M2 hI hE _ _ hw hS ls (lv_sub hl [0, 1] rfl)
    · refine fx_if_eq (tgt := 57) hx hb dX5_readCompared_20 (by decide) zk_0 (fun c29 => ?_) (fun c29 => by exfalso; omega)
      exact W.vret hx hb hr (fun t ht hW => ⟨⟨M2, rfl, ⟨hI, hE, trivial⟩, by show fm_at D ad C nb _ t.heap; rw [ht]; exact hw⟩, hS.F ht⟩) hS.2.2 dX5_readCompared_57
set_option maxHeartbeats 400000 in
set_option maxRecDepth 20000 in
theorem fc_X5_readNot_3 (l : Launch) (D : va_G) (ad : Nat → Nat → Nat) (C : Nat → Nat → ClassId) (nb : Nat) (M : fm_M) (hI : fm_I nb ad M) : Met l yX5_readNot wsX5_readNot ({ frames := 19, cells := 0, slots := 0, locals := 415 }) (va_Pc [.ref (ad 32 0), .int 3] (fm_P D ad C nb M)) (va_Qv (fun (u : fm_M) => fm_I nb ad u ∧ fm_same [32006, 32007, 36001, 37000] M u ∧ True) (fun u t => fm_at D ad C nb u t.heap) (fm_A nb ad)) 0 0 (fm_A nb ad) := by
  refine Met.ofW (cc := cX5_readNot) (maxL := 2) (ret := none) (by decide) rfl ?_
  intro p e s m args below meth c s₁ B hml hv
  obtain ⟨rfl, hw, hc⟩ := hv
  have hx := B.exec
  have hb := B.bytes
  have hr := B.returns
  have hts := atoms_spec (ws := wsX5_readNot) B.pre
  have hown : s.vm.findClass RX5 = some m.cls := findClass_of_methodNamed B.named
  have hinX5 : ∀ w ∈ u_ws RX5 TX5 8, w ∈ wsX5_readNot := fun w h => List.mem_cons_of_mem _ (iT_X5 w h)
  have hS : va_S (fm_A nb ad) s.heap s.heap [] := va_S.rf
  have hE : fm_same [32006, 32007, 36001, 37000] M M := fm_same.rf
  have hl := lv_entry ([.ref (ad 32 0), .int 3]) (n := 2) (Nat.le_of_ble_eq_true rfl)
  rw [lg_entry_eq]
  generalize (lg_sl ([.ref (ad 32 0), .int 3]) ++ List.replicate (2 - (lg_sl ([.ref (ad 32 0), .int 3])).length) Slot.unset).toArray = ls at hl ⊢
  have hl : lv_has ls 2 [(0, .ref (ad 32 0)), (1, .int 3)] := hl
  have j1 : ∀  (M_j1 : fm_M), fm_I nb ad M_j1 → fm_same [32006, 32007, 36001, 37000] M M_j1 → ∀ (H : Heap) (locs : List Loc), fm_at D ad C nb M_j1 H → va_S (fm_A nb ad) s.heap H locs → ∀ (ls : Array Slot), lv_has ls 2 [(0, .ref (ad 32 0)), (1, .int 3)] → W p l e (headSpec wsX5_readNot ({ frames := 19, cells := 0, slots := 0, locals := 415 })).room s m ([.ref (ad 32 0), .int 3] : List Value).toArray below meth c H locs 0 0 (MQ below (va_Qv (fun (u : fm_M) => fm_I nb ad u ∧ fm_same [32006, 32007, 36001, 37000] M u ∧ True) (fun u t => fm_at D ad C nb u t.heap) (fm_A nb ad)) ([.ref (ad 32 0), .int 3] : List Value).toArray s 0 0 (fm_A nb ad)) (F0 m 21 ls []) := by
    intro  M_j1 hI hE H locs hw hS ls hl
    refine lv_aload_n hx hb dX5_readNot_21 rfl (lv_at hl 0 rfl) ?_
    refine lv_bipush (v := 11) hx hb dX5_readNot_22 (by decide) ?_
    have zz1 := zk_11
    refine vp_callSi (va_Run.run (va_runV (As := [.int 11]) (rest := []) ⟨hx, hb, hml, hown, hts⟩ (fc_X5_sees l D ad C nb M_j1 hI 11) (cwV 1 hts gX5_readNot_X5_sees rfl rfl rfl (by decide +kernel) ⟨Nat.le_of_ble_eq_true rfl, Nat.le_of_ble_eq_true rfl⟩) (fm_preV hc hw hS kl_32 sh_32 rfl) rfl rfl hl.1 rfl (lv_room (Nat.le_of_ble_eq_true rfl)) dX5_readNot_24 ⟨by decide +kernel, by decide +kernel⟩)) (fun r2 hr2 => ?_)
    have bqq3 := hI.bd (k := 0) bd_32_6
    have bqq4 := hI.bd (k := 0) bd_32_7
    rcases hr2 with ⟨rfl, c5⟩ | ⟨rfl, c5⟩
    · refine fx_if_eq (tgt := 53) hx hb dX5_readNot_27 (by decide) zk_1 (fun c6 => by exfalso; omega) (fun c6 => ?_)
      refine lv_aload_n hx hb dX5_readNot_30 rfl (lv_at hl 0 rfl) ?_
      refine fm_cv (va_runV (As := []) (rest := []) ⟨hx, hb, hml, hown, hts⟩ (fc_X5_advance l D ad C nb M_j1 hI) (cwV 0 hts gX5_readNot_X5_advance rfl rfl rfl (by decide +kernel) ⟨Nat.le_of_ble_eq_true rfl, Nat.le_of_ble_eq_true rfl⟩) (fm_preV hc hw hS kl_32 sh_32 rfl) rfl rfl hl.1 rfl (lv_room (Nat.le_of_ble_eq_true rfl)) dX5_readNot_31 ⟨by decide +kernel, by decide +kernel⟩) hS hc (fun M8 H locs hr7 hw hS => ?_)
      obtain ⟨hI, hEM8, hr7⟩ := hr7
      have hE := hE.tr hEM8 (by decide)
      refine lv_aload_n hx hb dX5_readNot_34 rfl (lv_at hl 0 rfl) ?_
      refine lv_iload_n hx hb dX5_readNot_35 rfl (lv_at hl 1 rfl) ?_
      refine lv_iconst (v := 1) hx hb dX5_readNot_36 (by decide) ?_
      refine lv_iadd hx hb dX5_readNot_37 ?_
      refine lv_topi (fun y10 ey10 => ?_)
      obtain rfl : y10 = 4 := ey10.trans (by decide)
      refine fm_cv (va_runV (As := [.int 4]) (rest := []) ⟨hx, hb, hml, hown, hts⟩ (fc_X5_readNot_4 l D ad C nb M8 hI) (cwV 1 hts gX5_readNot_X5_readNot rfl rfl rfl (by decide +kernel) ⟨Nat.le_of_ble_eq_true rfl, Nat.le_of_ble_eq_true rfl⟩) (fm_preV hc hw hS kl_32 sh_32 rfl) rfl rfl hl.1 rfl (lv_room (Nat.le_of_ble_eq_true rfl)) dX5_readNot_38 ⟨by decide +kernel, by decide +kernel⟩) hS hc (fun M12 H locs hr11 hw hS => ?_)
      obtain ⟨hI, hEM12, hr11⟩ := hr11
      have hE := hE.tr hEM12 (by decide)
      refine lv_aload_n hx hb dX5_readNot_41 rfl (lv_at hl 0 rfl) ?_
      refine fm_getG (a := 32) (j := 5) (T := TX5) (N := 8) hx hb hts hinX5 hown hc hw kl_32 sh_32 rfl (by decide) rfl (hI.to kl_32 tg_32_5) (hts (.fieldLink RX5 27 "RedTent$Reader" "made" "LRedTent$Text;") (List.mem_cons_of_mem _ tw_1_203)) (fun _ h9 => h9) dX5_readNot_42 ?_
      refine lv_bipush (v := (-13)) hx hb dX5_readNot_45 (by decide) ?_
      refine fm_cv (va_runV (As := [.int (-13)]) (rest := []) ⟨hx, hb, hml, hown, hts⟩ (fc_X9_addStep l D ad C nb M12 hI (-13)) (cwV 1 hts gX5_readNot_X9_addStep rfl rfl rfl (by decide +kernel) ⟨Nat.le_of_ble_eq_true rfl, Nat.le_of_ble_eq_true rfl⟩) (fm_preV hc hw hS kl_36 sh_36 rfl) rfl rfl hl.1 rfl (lv_room (Nat.le_of_ble_eq_true rfl)) dX5_readNot_47 ⟨by decide +kernel, by decide +kernel⟩) hS hc (fun M14 H locs hr13 hw hS => ?_)
      obtain ⟨hI, hEM14, hr13⟩ := hr13
      have hE := hE.tr hEM14 (by decide)
      refine lv_goto (tgt := 58) hx hb dX5_readNot_50 (by decide) ?_
      exact W.vret hx hb hr (fun t ht hW => ⟨⟨M14, rfl, ⟨hI, hE, trivial⟩, by show fm_at D ad C nb _ t.heap; rw [ht]; exact hw⟩, hS.F ht⟩) hS.2.2 dX5_readNot_58
    · refine fx_if_eq (tgt := 53) hx hb dX5_readNot_27 (by decide) zk_0 (fun c15 => ?_) (fun c15 => by exfalso; omega)
      refine lv_aload_n hx hb dX5_readNot_53 rfl (lv_at hl 0 rfl) ?_
      refine lv_iload_n hx hb dX5_readNot_54 rfl (lv_at hl 1 rfl) ?_
      refine fm_cv (va_runV (As := [.int 3]) (rest := []) ⟨hx, hb, hml, hown, hts⟩ (fc_X5_readCompared_3 l D ad C nb M_j1 hI) (cwV 1 hts gX5_readNot_X5_readCompared rfl rfl rfl (by decide +kernel) ⟨Nat.le_of_ble_eq_true rfl, Nat.le_of_ble_eq_true rfl⟩) (fm_preV hc hw hS kl_32 sh_32 rfl) rfl rfl hl.1 rfl (lv_room (Nat.le_of_ble_eq_true rfl)) dX5_readNot_55 ⟨by decide +kernel, by decide +kernel⟩) hS hc (fun M17 H locs hr16 hw hS => ?_)
      obtain ⟨hI, hEM17, hr16⟩ := hr16
      have hE := hE.tr hEM17 (by decide)
      exact W.vret hx hb hr (fun t ht hW => ⟨⟨M17, rfl, ⟨hI, hE, trivial⟩, by show fm_at D ad C nb _ t.heap; rw [ht]; exact hw⟩, hS.F ht⟩) hS.2.2 dX5_readNot_58
  refine lv_aload_n hx hb dX5_readNot_0 rfl (lv_at hl 0 rfl) ?_
  refine lv_bipush (v := 11) hx hb dX5_readNot_1 (by decide) ?_
  have zz18 := zk_11
  refine vp_callSi (va_Run.run (va_runV (As := [.int 11]) (rest := []) ⟨hx, hb, hml, hown, hts⟩ (fc_X5_sees l D ad C nb M hI 11) (cwV 1 hts gX5_readNot_X5_sees rfl rfl rfl (by decide +kernel) ⟨Nat.le_of_ble_eq_true rfl, Nat.le_of_ble_eq_true rfl⟩) (fm_preV hc hw hS kl_32 sh_32 rfl) rfl rfl hl.1 rfl (lv_room (Nat.le_of_ble_eq_true rfl)) dX5_readNot_3 ⟨by decide +kernel, by decide +kernel⟩)) (fun r19 hr19 => ?_)
  have bqq20 := hI.bd (k := 0) bd_32_6
  have bqq21 := hI.bd (k := 0) bd_32_7
  rcases hr19 with ⟨rfl, c22⟩ | ⟨rfl, c22⟩
  · refine fx_if_eq (tgt := 21) hx hb dX5_readNot_6 (by decide) zk_1 (fun c23 => by exfalso; omega) (fun c23 => ?_)
    refine lv_iload_n hx hb dX5_readNot_9 rfl (lv_at hl 1 rfl) ?_
    refine lv_iconst (v := 5) hx hb dX5_readNot_10 (by decide) ?_
    refine fx_icmp_lt (tgt := 21) hx hb dX5_readNot_11 (by decide) zk_3 zk_5 (fun c24 => ?_) (fun c24 => by exfalso; omega)
    exact j1 M hI hE _ _ hw hS ls (lv_sub hl [0, 1] rfl)
  · refine fx_if_eq (tgt := 21) hx hb dX5_readNot_6 (by decide) zk_0 (fun c25 => ?_) (fun c25 => by exfalso; omega)
    exact j1 M hI hE _ _ hw hS ls (lv_sub hl [0, 1] rfl)
set_option maxHeartbeats 400000 in
set_option maxRecDepth 20000 in
theorem fc_X5_readBoth_3 (l : Launch) (D : va_G) (ad : Nat → Nat → Nat) (C : Nat → Nat → ClassId) (nb : Nat) (M : fm_M) (hI : fm_I nb ad M) : Met l yX5_readBoth wsX5_readBoth ({ frames := 20, cells := 0, slots := 0, locals := 436 }) (va_Pc [.ref (ad 32 0), .int 3] (fm_P D ad C nb M)) (va_Qv (fun (u : fm_M) => fm_I nb ad u ∧ fm_same [32006, 32007, 36001, 37000] M u ∧ True) (fun u t => fm_at D ad C nb u t.heap) (fm_A nb ad)) 0 0 (fm_A nb ad) := by
  refine Met.ofW (cc := cX5_readBoth) (maxL := 3) (ret := none) (by decide) rfl ?_
  intro p e s m args below meth c s₁ B hml hv
  obtain ⟨rfl, hw, hc⟩ := hv
  have hx := B.exec
  have hb := B.bytes
  have hr := B.returns
  have hts := atoms_spec (ws := wsX5_readBoth) B.pre
  have hown : s.vm.findClass RX5 = some m.cls := findClass_of_methodNamed B.named
  have hinX5 : ∀ w ∈ u_ws RX5 TX5 8, w ∈ wsX5_readBoth := fun w h => List.mem_cons_of_mem _ (iT_X5 w h)
  have hS : va_S (fm_A nb ad) s.heap s.heap [] := va_S.rf
  have hE : fm_same [32006, 32007, 36001, 37000] M M := fm_same.rf
  have hl := lv_entry ([.ref (ad 32 0), .int 3]) (n := 3) (Nat.le_of_ble_eq_true rfl)
  rw [lg_entry_eq]
  generalize (lg_sl ([.ref (ad 32 0), .int 3]) ++ List.replicate (3 - (lg_sl ([.ref (ad 32 0), .int 3])).length) Slot.unset).toArray = ls at hl ⊢
  have hl : lv_has ls 3 [(0, .ref (ad 32 0)), (1, .int 3)] := hl
  refine lv_aload_n hx hb dX5_readBoth_0 rfl (lv_at hl 0 rfl) ?_
  refine lv_iload_n hx hb dX5_readBoth_1 rfl (lv_at hl 1 rfl) ?_
  refine fm_cv (va_runV (As := [.int 3]) (rest := []) ⟨hx, hb, hml, hown, hts⟩ (fc_X5_readNot_3 l D ad C nb M hI) (cwV 1 hts gX5_readBoth_X5_readNot rfl rfl rfl (by decide +kernel) ⟨Nat.le_of_ble_eq_true rfl, Nat.le_of_ble_eq_true rfl⟩) (fm_preV hc hw hS kl_32 sh_32 rfl) rfl rfl hl.1 rfl (lv_room (Nat.le_of_ble_eq_true rfl)) dX5_readBoth_2 ⟨by decide +kernel, by decide +kernel⟩) hS hc (fun M2 H locs hr1 hw hS => ?_)
  obtain ⟨hI, hEM2, hr1⟩ := hr1
  have hE := hE.tr hEM2 (by decide)
  refine lv_iconst (v := 0) hx hb dX5_readBoth_5 (by decide) ?_
  refine lv_istore_n (lv' := [(2, .int 0), (0, .ref (ad 32 0)), (1, .int 3)]) hx hb dX5_readBoth_6 rfl hl (by decide) rfl (fun ls hl => ?_)
  have lp : ∀ (n_lp : Nat) (lp_2 : Int32) (M_lp : fm_M), (160 - lp_2.toInt).toNat < n_lp → (0 ≤ lp_2.toInt ∧ lp_2.toInt ≤ 160) → fm_I nb ad M_lp → fm_same [32006, 32007, 36001, 37000] M M_lp → ∀ (H : Heap) (locs : List Loc), fm_at D ad C nb M_lp H → va_S (fm_A nb ad) s.heap H locs → ∀ (ls : Array Slot), lv_has ls 3 [(2, .int lp_2), (0, .ref (ad 32 0)), (1, .int 3)] → W p l e (headSpec wsX5_readBoth ({ frames := 20, cells := 0, slots := 0, locals := 436 })).room s m ([.ref (ad 32 0), .int 3] : List Value).toArray below meth c H locs 0 0 (MQ below (va_Qv (fun (u : fm_M) => fm_I nb ad u ∧ fm_same [32006, 32007, 36001, 37000] M u ∧ True) (fun u t => fm_at D ad C nb u t.heap) (fm_A nb ad)) ([.ref (ad 32 0), .int 3] : List Value).toArray s 0 0 (fm_A nb ad)) (F0 m 7 ls []) := by
    intro n_lp
    induction n_lp with
    | zero => intro lp_2 M_lp hm_lp b_lp_2 hI hE H locs hw hS ls hl; exact absurd hm_lp (Nat.not_lt_zero _)
    | succ n_lp ih_lp =>
      intro lp_2 M_lp hm_lp b_lp_2 hI hE H locs hw hS ls hl
      refine lv_iload_n hx hb dX5_readBoth_7 rfl (lv_at hl 0 rfl) ?_
      refine lv_sipush (v := 160) hx hb dX5_readBoth_8 (by decide) ?_
      refine fx_icmp_ge (tgt := 47) hx hb dX5_readBoth_11 (by decide) rfl zk_160 (fun c3 => ?_) (fun c3 => ?_)
      · exact W.vret hx hb hr (fun t ht hW => ⟨⟨M_lp, rfl, ⟨hI, hE, trivial⟩, by show fm_at D ad C nb _ t.heap; rw [ht]; exact hw⟩, hS.F ht⟩) hS.2.2 dX5_readBoth_47
      · refine lv_aload_n hx hb dX5_readBoth_14 rfl (lv_at hl 1 rfl) ?_
        refine lv_bipush (v := 10) hx hb dX5_readBoth_15 (by decide) ?_
        have zz4 := zk_10
        refine vp_callSi (va_Run.run (va_runV (As := [.int 10]) (rest := []) ⟨hx, hb, hml, hown, hts⟩ (fc_X5_sees l D ad C nb M_lp hI 10) (cwV 1 hts gX5_readBoth_X5_sees rfl rfl rfl (by decide +kernel) ⟨Nat.le_of_ble_eq_true rfl, Nat.le_of_ble_eq_true rfl⟩) (fm_preV hc hw hS kl_32 sh_32 rfl) rfl rfl hl.1 rfl (lv_room (Nat.le_of_ble_eq_true rfl)) dX5_readBoth_17 ⟨by decide +kernel, by decide +kernel⟩)) (fun r5 hr5 => ?_)
        have bqq6 := hI.bd (k := 0) bd_32_6
        have bqq7 := hI.bd (k := 0) bd_32_7
        rcases hr5 with ⟨rfl, c8⟩ | ⟨rfl, c8⟩
        · refine fx_if_eq (tgt := 47) hx hb dX5_readBoth_20 (by decide) zk_1 (fun c9 => by exfalso; omega) (fun c9 => ?_)
          refine lv_aload_n hx hb dX5_readBoth_23 rfl (lv_at hl 1 rfl) ?_
          refine fm_cv (va_runV (As := []) (rest := []) ⟨hx, hb, hml, hown, hts⟩ (fc_X5_advance l D ad C nb M_lp hI) (cwV 0 hts gX5_readBoth_X5_advance rfl rfl rfl (by decide +kernel) ⟨Nat.le_of_ble_eq_true rfl, Nat.le_of_ble_eq_true rfl⟩) (fm_preV hc hw hS kl_32 sh_32 rfl) rfl rfl hl.1 rfl (lv_room (Nat.le_of_ble_eq_true rfl)) dX5_readBoth_24 ⟨by decide +kernel, by decide +kernel⟩) hS hc (fun M11 H locs hr10 hw hS => ?_)
          obtain ⟨hI, hEM11, hr10⟩ := hr10
          have hE := hE.tr hEM11 (by decide)
          refine lv_aload_n hx hb dX5_readBoth_27 rfl (lv_at hl 1 rfl) ?_
          refine lv_iload_n hx hb dX5_readBoth_28 rfl (lv_at hl 2 rfl) ?_
          refine fm_cv (va_runV (As := [.int 3]) (rest := []) ⟨hx, hb, hml, hown, hts⟩ (fc_X5_readNot_3 l D ad C nb M11 hI) (cwV 1 hts gX5_readBoth_X5_readNot rfl rfl rfl (by decide +kernel) ⟨Nat.le_of_ble_eq_true rfl, Nat.le_of_ble_eq_true rfl⟩) (fm_preV hc hw hS kl_32 sh_32 rfl) rfl rfl hl.1 rfl (lv_room (Nat.le_of_ble_eq_true rfl)) dX5_readBoth_29 ⟨by decide +kernel, by decide +kernel⟩) hS hc (fun M13 H locs hr12 hw hS => ?_)
          obtain ⟨hI, hEM13, hr12⟩ := hr12
          have hE := hE.tr hEM13 (by decide)
          refine lv_aload_n hx hb dX5_readBoth_32 rfl (lv_at hl 1 rfl) ?_
          refine fm_getG (a := 32) (j := 5) (T := TX5) (N := 8) hx hb hts hinX5 hown hc hw kl_32 sh_32 rfl (by decide) rfl (hI.to kl_32 tg_32_5) (hts (.fieldLink RX5 27 "RedTent$Reader" "made" "LRedTent$Text;") (List.mem_cons_of_mem _ tw_1_203)) (fun _ h9 => h9) dX5_readBoth_33 ?_
          refine lv_bipush (v := (-12)) hx hb dX5_readBoth_36 (by decide) ?_
          refine fm_cv (va_runV (As := [.int (-12)]) (rest := []) ⟨hx, hb, hml, hown, hts⟩ (fc_X9_addStep l D ad C nb M13 hI (-12)) (cwV 1 hts gX5_readBoth_X9_addStep rfl rfl rfl (by decide +kernel) ⟨Nat.le_of_ble_eq_true rfl, Nat.le_of_ble_eq_true rfl⟩) (fm_preV hc hw hS kl_36 sh_36 rfl) rfl rfl hl.1 rfl (lv_room (Nat.le_of_ble_eq_true rfl)) dX5_readBoth_38 ⟨by decide +kernel, by decide +kernel⟩) hS hc (fun M15 H locs hr14 hw hS => ?_)
          obtain ⟨hI, hEM15, hr14⟩ := hr14
          have hE := hE.tr hEM15 (by decide)
          obtain ⟨y16, ey16⟩ : ∃ y : Int32, y = lp_2 + 1 := ⟨_, rfl⟩
          have ty16 : y16.toInt = lp_2.toInt + 1 := by rw [ey16, zi_add _ _ (by rw [zk_1]; omega) (by rw [zk_1]; omega), zk_1]
          refine lv_iinc (v := y16) (lv' := [(2, .int y16), (0, .ref (ad 32 0)), (1, .int 3)]) hx hb dX5_readBoth_41 hl (k := 0) rfl (by rw [ey16]; rfl) (by decide) rfl (fun ls hl => ?_)
          refine lv_goto (tgt := 7) hx hb dX5_readBoth_44 (by decide) ?_
          exact ih_lp y16 M15 (by omega) (by omega) hI hE _ _ hw hS ls (lv_sub hl [0, 1, 2] rfl)
        · refine fx_if_eq (tgt := 47) hx hb dX5_readBoth_20 (by decide) zk_0 (fun c17 => ?_) (fun c17 => by exfalso; omega)
          exact W.vret hx hb hr (fun t ht hW => ⟨⟨M_lp, rfl, ⟨hI, hE, trivial⟩, by show fm_at D ad C nb _ t.heap; rw [ht]; exact hw⟩, hS.F ht⟩) hS.2.2 dX5_readBoth_47
  exact lp _ 0 M2 (Nat.lt_succ_self _) (by decide) hI hE _ _ hw hS ls (lv_sub hl [0, 1, 2] rfl)
set_option maxHeartbeats 400000 in
set_option maxRecDepth 20000 in
theorem fc_X5_readChoice_3 (l : Launch) (D : va_G) (ad : Nat → Nat → Nat) (C : Nat → Nat → ClassId) (nb : Nat) (M : fm_M) (hI : fm_I nb ad M) : Met l yX5_readChoice wsX5_readChoice ({ frames := 21, cells := 0, slots := 0, locals := 458 }) (va_Pc [.ref (ad 32 0), .int 3] (fm_P D ad C nb M)) (va_Qv (fun (u : fm_M) => fm_I nb ad u ∧ fm_same [32006, 32007, 36001, 37000] M u ∧ True) (fun u t => fm_at D ad C nb u t.heap) (fm_A nb ad)) 0 0 (fm_A nb ad) := by
  refine Met.ofW (cc := cX5_readChoice) (maxL := 3) (ret := none) (by decide) rfl ?_
  intro p e s m args below meth c s₁ B hml hv
  obtain ⟨rfl, hw, hc⟩ := hv
  have hx := B.exec
  have hb := B.bytes
  have hr := B.returns
  have hts := atoms_spec (ws := wsX5_readChoice) B.pre
  have hown : s.vm.findClass RX5 = some m.cls := findClass_of_methodNamed B.named
  have hinX5 : ∀ w ∈ u_ws RX5 TX5 8, w ∈ wsX5_readChoice := fun w h => List.mem_cons_of_mem _ (iT_X5 w h)
  have hS : va_S (fm_A nb ad) s.heap s.heap [] := va_S.rf
  have hE : fm_same [32006, 32007, 36001, 37000] M M := fm_same.rf
  have hl := lv_entry ([.ref (ad 32 0), .int 3]) (n := 3) (Nat.le_of_ble_eq_true rfl)
  rw [lg_entry_eq]
  generalize (lg_sl ([.ref (ad 32 0), .int 3]) ++ List.replicate (3 - (lg_sl ([.ref (ad 32 0), .int 3])).length) Slot.unset).toArray = ls at hl ⊢
  have hl : lv_has ls 3 [(0, .ref (ad 32 0)), (1, .int 3)] := hl
  refine lv_aload_n hx hb dX5_readChoice_0 rfl (lv_at hl 0 rfl) ?_
  refine lv_iload_n hx hb dX5_readChoice_1 rfl (lv_at hl 1 rfl) ?_
  refine fm_cv (va_runV (As := [.int 3]) (rest := []) ⟨hx, hb, hml, hown, hts⟩ (fc_X5_readBoth_3 l D ad C nb M hI) (cwV 1 hts gX5_readChoice_X5_readBoth rfl rfl rfl (by decide +kernel) ⟨Nat.le_of_ble_eq_true rfl, Nat.le_of_ble_eq_true rfl⟩) (fm_preV hc hw hS kl_32 sh_32 rfl) rfl rfl hl.1 rfl (lv_room (Nat.le_of_ble_eq_true rfl)) dX5_readChoice_2 ⟨by decide +kernel, by decide +kernel⟩) hS hc (fun M2 H locs hr1 hw hS => ?_)
  obtain ⟨hI, hEM2, hr1⟩ := hr1
  have hE := hE.tr hEM2 (by decide)
  refine lv_iconst (v := 0) hx hb dX5_readChoice_5 (by decide) ?_
  refine lv_istore_n (lv' := [(2, .int 0), (0, .ref (ad 32 0)), (1, .int 3)]) hx hb dX5_readChoice_6 rfl hl (by decide) rfl (fun ls hl => ?_)
  have lp : ∀ (n_lp : Nat) (lp_2 : Int32) (M_lp : fm_M), (160 - lp_2.toInt).toNat < n_lp → (0 ≤ lp_2.toInt ∧ lp_2.toInt ≤ 160) → fm_I nb ad M_lp → fm_same [32006, 32007, 36001, 37000] M M_lp → ∀ (H : Heap) (locs : List Loc), fm_at D ad C nb M_lp H → va_S (fm_A nb ad) s.heap H locs → ∀ (ls : Array Slot), lv_has ls 3 [(2, .int lp_2), (0, .ref (ad 32 0)), (1, .int 3)] → W p l e (headSpec wsX5_readChoice ({ frames := 21, cells := 0, slots := 0, locals := 458 })).room s m ([.ref (ad 32 0), .int 3] : List Value).toArray below meth c H locs 0 0 (MQ below (va_Qv (fun (u : fm_M) => fm_I nb ad u ∧ fm_same [32006, 32007, 36001, 37000] M u ∧ True) (fun u t => fm_at D ad C nb u t.heap) (fm_A nb ad)) ([.ref (ad 32 0), .int 3] : List Value).toArray s 0 0 (fm_A nb ad)) (F0 m 7 ls []) := by
    intro n_lp
    induction n_lp with
    | zero => intro lp_2 M_lp hm_lp b_lp_2 hI hE H locs hw hS ls hl; exact absurd hm_lp (Nat.not_lt_zero _)
    | succ n_lp ih_lp =>
      intro lp_2 M_lp hm_lp b_lp_2 hI hE H locs hw hS ls hl
      refine lv_iload_n hx hb dX5_readChoice_7 rfl (lv_at hl 0 rfl) ?_
      refine lv_sipush (v := 160) hx hb dX5_readChoice_8 (by decide) ?_
      refine fx_icmp_ge (tgt := 47) hx hb dX5_readChoice_11 (by decide) rfl zk_160 (fun c3 => ?_) (fun c3 => ?_)
      · exact W.vret hx hb hr (fun t ht hW => ⟨⟨M_lp, rfl, ⟨hI, hE, trivial⟩, by show fm_at D ad C nb _ t.heap; rw [ht]; exact hw⟩, hS.F ht⟩) hS.2.2 dX5_readChoice_47
      · refine lv_aload_n hx hb dX5_readChoice_14 rfl (lv_at hl 1 rfl) ?_
        refine lv_bipush (v := 9) hx hb dX5_readChoice_15 (by decide) ?_
        have zz4 := zk_9
        refine vp_callSi (va_Run.run (va_runV (As := [.int 9]) (rest := []) ⟨hx, hb, hml, hown, hts⟩ (fc_X5_sees l D ad C nb M_lp hI 9) (cwV 1 hts gX5_readChoice_X5_sees rfl rfl rfl (by decide +kernel) ⟨Nat.le_of_ble_eq_true rfl, Nat.le_of_ble_eq_true rfl⟩) (fm_preV hc hw hS kl_32 sh_32 rfl) rfl rfl hl.1 rfl (lv_room (Nat.le_of_ble_eq_true rfl)) dX5_readChoice_17 ⟨by decide +kernel, by decide +kernel⟩)) (fun r5 hr5 => ?_)
        have bqq6 := hI.bd (k := 0) bd_32_6
        have bqq7 := hI.bd (k := 0) bd_32_7
        rcases hr5 with ⟨rfl, c8⟩ | ⟨rfl, c8⟩
        · refine fx_if_eq (tgt := 47) hx hb dX5_readChoice_20 (by decide) zk_1 (fun c9 => by exfalso; omega) (fun c9 => ?_)
          refine lv_aload_n hx hb dX5_readChoice_23 rfl (lv_at hl 1 rfl) ?_
          refine fm_cv (va_runV (As := []) (rest := []) ⟨hx, hb, hml, hown, hts⟩ (fc_X5_advance l D ad C nb M_lp hI) (cwV 0 hts gX5_readChoice_X5_advance rfl rfl rfl (by decide +kernel) ⟨Nat.le_of_ble_eq_true rfl, Nat.le_of_ble_eq_true rfl⟩) (fm_preV hc hw hS kl_32 sh_32 rfl) rfl rfl hl.1 rfl (lv_room (Nat.le_of_ble_eq_true rfl)) dX5_readChoice_24 ⟨by decide +kernel, by decide +kernel⟩) hS hc (fun M11 H locs hr10 hw hS => ?_)
          obtain ⟨hI, hEM11, hr10⟩ := hr10
          have hE := hE.tr hEM11 (by decide)
          refine lv_aload_n hx hb dX5_readChoice_27 rfl (lv_at hl 1 rfl) ?_
          refine lv_iload_n hx hb dX5_readChoice_28 rfl (lv_at hl 2 rfl) ?_
          refine fm_cv (va_runV (As := [.int 3]) (rest := []) ⟨hx, hb, hml, hown, hts⟩ (fc_X5_readBoth_3 l D ad C nb M11 hI) (cwV 1 hts gX5_readChoice_X5_readBoth rfl rfl rfl (by decide +kernel) ⟨Nat.le_of_ble_eq_true rfl, Nat.le_of_ble_eq_true rfl⟩) (fm_preV hc hw hS kl_32 sh_32 rfl) rfl rfl hl.1 rfl (lv_room (Nat.le_of_ble_eq_true rfl)) dX5_readChoice_29 ⟨by decide +kernel, by decide +kernel⟩) hS hc (fun M13 H locs hr12 hw hS => ?_)
          obtain ⟨hI, hEM13, hr12⟩ := hr12
          have hE := hE.tr hEM13 (by decide)
          refine lv_aload_n hx hb dX5_readChoice_32 rfl (lv_at hl 1 rfl) ?_
          refine fm_getG (a := 32) (j := 5) (T := TX5) (N := 8) hx hb hts hinX5 hown hc hw kl_32 sh_32 rfl (by decide) rfl (hI.to kl_32 tg_32_5) (hts (.fieldLink RX5 27 "RedTent$Reader" "made" "LRedTent$Text;") (List.mem_cons_of_mem _ tw_1_203)) (fun _ h9 => h9) dX5_readChoice_33 ?_
          refine lv_bipush (v := (-11)) hx hb dX5_readChoice_36 (by decide) ?_
          refine fm_cv (va_runV (As := [.int (-11)]) (rest := []) ⟨hx, hb, hml, hown, hts⟩ (fc_X9_addStep l D ad C nb M13 hI (-11)) (cwV 1 hts gX5_readChoice_X9_addStep rfl rfl rfl (by decide +kernel) ⟨Nat.le_of_ble_eq_true rfl, Nat.le_of_ble_eq_true rfl⟩) (fm_preV hc hw hS kl_36 sh_36 rfl) rfl rfl hl.1 rfl (lv_room (Nat.le_of_ble_eq_true rfl)) dX5_readChoice_38 ⟨by decide +kernel, by decide +kernel⟩) hS hc (fun M15 H locs hr14 hw hS => ?_)
          obtain ⟨hI, hEM15, hr14⟩ := hr14
          have hE := hE.tr hEM15 (by decide)
          obtain ⟨y16, ey16⟩ : ∃ y : Int32, y = lp_2 + 1 := ⟨_, rfl⟩
          have ty16 : y16.toInt = lp_2.toInt + 1 := by rw [ey16, zi_add _ _ (by rw [zk_1]; omega) (by rw [zk_1]; omega), zk_1]
          refine lv_iinc (v := y16) (lv' := [(2, .int y16), (0, .ref (ad 32 0)), (1, .int 3)]) hx hb dX5_readChoice_41 hl (k := 0) rfl (by rw [ey16]; rfl) (by decide) rfl (fun ls hl => ?_)
          refine lv_goto (tgt := 7) hx hb dX5_readChoice_44 (by decide) ?_
          exact ih_lp y16 M15 (by omega) (by omega) hI hE _ _ hw hS ls (lv_sub hl [0, 1, 2] rfl)
        · refine fx_if_eq (tgt := 47) hx hb dX5_readChoice_20 (by decide) zk_0 (fun c17 => ?_) (fun c17 => by exfalso; omega)
          exact W.vret hx hb hr (fun t ht hW => ⟨⟨M_lp, rfl, ⟨hI, hE, trivial⟩, by show fm_at D ad C nb _ t.heap; rw [ht]; exact hw⟩, hS.F ht⟩) hS.2.2 dX5_readChoice_47
  exact lp _ 0 M2 (Nat.lt_succ_self _) (by decide) hI hE _ _ hw hS ls (lv_sub hl [0, 1, 2] rfl)
set_option maxHeartbeats 400000 in
set_option maxRecDepth 20000 in
theorem fc_X5_readOne_2 (l : Launch) (D : va_G) (ad : Nat → Nat → Nat) (C : Nat → Nat → ClassId) (nb : Nat) (M : fm_M) (hI : fm_I nb ad M) : Met l yX5_readOne wsX5_readOne ({ frames := 22, cells := 0, slots := 0, locals := 480 }) (va_Pc [.ref (ad 32 0), .int 2] (fm_P D ad C nb M)) (va_Qv (fun (u : fm_M) => fm_I nb ad u ∧ fm_same [32006, 32007, 36001, 37000] M u ∧ True) (fun u t => fm_at D ad C nb u t.heap) (fm_A nb ad)) 0 0 (fm_A nb ad) := by
  refine Met.ofW (cc := cX5_readOne) (maxL := 2) (ret := none) (by decide) rfl ?_
  intro p e s m args below meth c s₁ B hml hv
  obtain ⟨rfl, hw, hc⟩ := hv
  have hx := B.exec
  have hb := B.bytes
  have hr := B.returns
  have hts := atoms_spec (ws := wsX5_readOne) B.pre
  have hown : s.vm.findClass RX5 = some m.cls := findClass_of_methodNamed B.named
  have hinX5 : ∀ w ∈ u_ws RX5 TX5 8, w ∈ wsX5_readOne := fun w h => List.mem_cons_of_mem _ (iT_X5 w h)
  have hS : va_S (fm_A nb ad) s.heap s.heap [] := va_S.rf
  have hE : fm_same [32006, 32007, 36001, 37000] M M := fm_same.rf
  have hl := lv_entry ([.ref (ad 32 0), .int 2]) (n := 2) (Nat.le_of_ble_eq_true rfl)
  rw [lg_entry_eq]
  generalize (lg_sl ([.ref (ad 32 0), .int 2]) ++ List.replicate (2 - (lg_sl ([.ref (ad 32 0), .int 2])).length) Slot.unset).toArray = ls at hl ⊢
  have hl : lv_has ls 2 [(0, .ref (ad 32 0)), (1, .int 2)] := hl
  have j1 : ∀  (M_j1 : fm_M), fm_I nb ad M_j1 → fm_same [32006, 32007, 36001, 37000] M M_j1 → ∀ (H : Heap) (locs : List Loc), fm_at D ad C nb M_j1 H → va_S (fm_A nb ad) s.heap H locs → ∀ (ls : Array Slot), lv_has ls 2 [(0, .ref (ad 32 0)), (1, .int 2)] → W p l e (headSpec wsX5_readOne ({ frames := 22, cells := 0, slots := 0, locals := 480 })).room s m ([.ref (ad 32 0), .int 2] : List Value).toArray below meth c H locs 0 0 (MQ below (va_Qv (fun (u : fm_M) => fm_I nb ad u ∧ fm_same [32006, 32007, 36001, 37000] M u ∧ True) (fun u t => fm_at D ad C nb u t.heap) (fm_A nb ad)) ([.ref (ad 32 0), .int 2] : List Value).toArray s 0 0 (fm_A nb ad)) (F0 m 89 ls []) := by
    intro  M_j1 hI hE H locs hw hS ls hl
    have j2 : ∀  (M_j2 : fm_M), fm_I nb ad M_j2 → fm_same [32006, 32007, 36001, 37000] M M_j2 → ∀ (H : Heap) (locs : List Loc), fm_at D ad C nb M_j2 H → va_S (fm_A nb ad) s.heap H locs → ∀ (ls : Array Slot), lv_has ls 2 [(0, .ref (ad 32 0)), (1, .int 2)] → W p l e (headSpec wsX5_readOne ({ frames := 22, cells := 0, slots := 0, locals := 480 })).room s m ([.ref (ad 32 0), .int 2] : List Value).toArray below meth c H locs 0 0 (MQ below (va_Qv (fun (u : fm_M) => fm_I nb ad u ∧ fm_same [32006, 32007, 36001, 37000] M u ∧ True) (fun u t => fm_at D ad C nb u t.heap) (fm_A nb ad)) ([.ref (ad 32 0), .int 2] : List Value).toArray s 0 0 (fm_A nb ad)) (F0 m 126 ls []) := by
      intro  M_j2 hI hE H locs hw hS ls hl
      have j3 : ∀  (M_j3 : fm_M), fm_I nb ad M_j3 → fm_same [32006, 32007, 36001, 37000] M M_j3 → ∀ (H : Heap) (locs : List Loc), fm_at D ad C nb M_j3 H → va_S (fm_A nb ad) s.heap H locs → ∀ (ls : Array Slot), lv_has ls 2 [(0, .ref (ad 32 0)), (1, .int 2)] → W p l e (headSpec wsX5_readOne ({ frames := 22, cells := 0, slots := 0, locals := 480 })).room s m ([.ref (ad 32 0), .int 2] : List Value).toArray below meth c H locs 0 0 (MQ below (va_Qv (fun (u : fm_M) => fm_I nb ad u ∧ fm_same [32006, 32007, 36001, 37000] M u ∧ True) (fun u t => fm_at D ad C nb u t.heap) (fm_A nb ad)) ([.ref (ad 32 0), .int 2] : List Value).toArray s 0 0 (fm_A nb ad)) (F0 m 160 ls []) := by
        intro  M_j3 hI hE H locs hw hS ls hl
        refine lv_aload_n hx hb dX5_readOne_160 rfl (lv_at hl 0 rfl) ?_
        refine fm_cv (va_runV (As := []) (rest := []) ⟨hx, hb, hml, hown, hts⟩ (fc_X5_fail l D ad C nb M_j3 hI) (cwV 0 hts gX5_readOne_X5_fail rfl rfl rfl (by decide +kernel) ⟨Nat.le_of_ble_eq_true rfl, Nat.le_of_ble_eq_true rfl⟩) (fm_preV hc hw hS kl_32 sh_32 rfl) rfl rfl hl.1 rfl (lv_room (Nat.le_of_ble_eq_true rfl)) dX5_readOne_161 ⟨by decide +kernel, by decide +kernel⟩) hS hc (fun M2 H locs hr1 hw hS => ?_)
        obtain ⟨hI, hEM2, hr1⟩ := hr1
        have hE := hE.tr hEM2 (by decide)
        exact W.vret hx hb hr (fun t ht hW => ⟨⟨M2, rfl, ⟨hI, hE, trivial⟩, by show fm_at D ad C nb _ t.heap; rw [ht]; exact hw⟩, hS.F ht⟩) hS.2.2 dX5_readOne_164
      refine lv_aload_n hx hb dX5_readOne_126 rfl (lv_at hl 0 rfl) ?_
      refine lv_bipush (v := 40) hx hb dX5_readOne_127 (by decide) ?_
      have zz3 := zk_40
      refine vp_callSi (va_Run.run (va_runV (As := [.int 40]) (rest := []) ⟨hx, hb, hml, hown, hts⟩ (fc_X5_sees l D ad C nb M_j2 hI 40) (cwV 1 hts gX5_readOne_X5_sees rfl rfl rfl (by decide +kernel) ⟨Nat.le_of_ble_eq_true rfl, Nat.le_of_ble_eq_true rfl⟩) (fm_preV hc hw hS kl_32 sh_32 rfl) rfl rfl hl.1 rfl (lv_room (Nat.le_of_ble_eq_true rfl)) dX5_readOne_129 ⟨by decide +kernel, by decide +kernel⟩)) (fun r4 hr4 => ?_)
      have bqq5 := hI.bd (k := 0) bd_32_6
      have bqq6 := hI.bd (k := 0) bd_32_7
      rcases hr4 with ⟨rfl, c7⟩ | ⟨rfl, c7⟩
      · refine fx_if_eq (tgt := 160) hx hb dX5_readOne_132 (by decide) zk_1 (fun c8 => by exfalso; omega) (fun c8 => ?_)
        refine lv_iload_n hx hb dX5_readOne_135 rfl (lv_at hl 1 rfl) ?_
        refine lv_iconst (v := 5) hx hb dX5_readOne_136 (by decide) ?_
        refine fx_icmp_ge (tgt := 160) hx hb dX5_readOne_137 (by decide) zk_2 zk_5 (fun c9 => by exfalso; omega) (fun c9 => ?_)
        refine lv_aload_n hx hb dX5_readOne_140 rfl (lv_at hl 0 rfl) ?_
        refine fm_cv (va_runV (As := []) (rest := []) ⟨hx, hb, hml, hown, hts⟩ (fc_X5_advance l D ad C nb M_j2 hI) (cwV 0 hts gX5_readOne_X5_advance rfl rfl rfl (by decide +kernel) ⟨Nat.le_of_ble_eq_true rfl, Nat.le_of_ble_eq_true rfl⟩) (fm_preV hc hw hS kl_32 sh_32 rfl) rfl rfl hl.1 rfl (lv_room (Nat.le_of_ble_eq_true rfl)) dX5_readOne_141 ⟨by decide +kernel, by decide +kernel⟩) hS hc (fun M11 H locs hr10 hw hS => ?_)
        obtain ⟨hI, hEM11, hr10⟩ := hr10
        have hE := hE.tr hEM11 (by decide)
        refine lv_aload_n hx hb dX5_readOne_144 rfl (lv_at hl 0 rfl) ?_
        refine lv_iload_n hx hb dX5_readOne_145 rfl (lv_at hl 1 rfl) ?_
        refine lv_iconst (v := 1) hx hb dX5_readOne_146 (by decide) ?_
        refine lv_iadd hx hb dX5_readOne_147 ?_
        refine lv_topi (fun y13 ey13 => ?_)
        obtain rfl : y13 = 3 := ey13.trans (by decide)
        refine fm_cv (va_runV (As := [.int 3]) (rest := []) ⟨hx, hb, hml, hown, hts⟩ (fc_X5_readChoice_3 l D ad C nb M11 hI) (cwV 1 hts gX5_readOne_X5_readChoice rfl rfl rfl (by decide +kernel) ⟨Nat.le_of_ble_eq_true rfl, Nat.le_of_ble_eq_true rfl⟩) (fm_preV hc hw hS kl_32 sh_32 rfl) rfl rfl hl.1 rfl (lv_room (Nat.le_of_ble_eq_true rfl)) dX5_readOne_148 ⟨by decide +kernel, by decide +kernel⟩) hS hc (fun M15 H locs hr14 hw hS => ?_)
        obtain ⟨hI, hEM15, hr14⟩ := hr14
        have hE := hE.tr hEM15 (by decide)
        refine lv_aload_n hx hb dX5_readOne_151 rfl (lv_at hl 0 rfl) ?_
        refine lv_bipush (v := 41) hx hb dX5_readOne_152 (by decide) ?_
        refine fm_cv (va_runV (As := [.int 41]) (rest := []) ⟨hx, hb, hml, hown, hts⟩ (fc_X5_need l D ad C nb M15 hI 41) (cwV 1 hts gX5_readOne_X5_need rfl rfl rfl (by decide +kernel) ⟨Nat.le_of_ble_eq_true rfl, Nat.le_of_ble_eq_true rfl⟩) (fm_preV hc hw hS kl_32 sh_32 rfl) rfl rfl hl.1 rfl (lv_room (Nat.le_of_ble_eq_true rfl)) dX5_readOne_154 ⟨by decide +kernel, by decide +kernel⟩) hS hc (fun M17 H locs hr16 hw hS => ?_)
        obtain ⟨hI, hEM17, hr16⟩ := hr16
        have hE := hE.tr hEM17 (by decide)
        refine lv_goto (tgt := 164) hx hb dX5_readOne_157 (by decide) ?_
        exact W.vret hx hb hr (fun t ht hW => ⟨⟨M17, rfl, ⟨hI, hE, trivial⟩, by show fm_at D ad C nb _ t.heap; rw [ht]; exact hw⟩, hS.F ht⟩) hS.2.2 dX5_readOne_164
      · refine fx_if_eq (tgt := 160) hx hb dX5_readOne_132 (by decide) zk_0 (fun c18 => ?_) (fun c18 => by exfalso; omega)
        exact j3 M_j2 hI hE _ _ hw hS ls (lv_sub hl [0, 1] rfl)
    refine lv_aload_n hx hb dX5_readOne_89 rfl (lv_at hl 0 rfl) ?_
    refine lv_bipush (v := 45) hx hb dX5_readOne_90 (by decide) ?_
    have zz19 := zk_45
    refine vp_callSi (va_Run.run (va_runV (As := [.int 45]) (rest := []) ⟨hx, hb, hml, hown, hts⟩ (fc_X5_sees l D ad C nb M_j1 hI 45) (cwV 1 hts gX5_readOne_X5_sees rfl rfl rfl (by decide +kernel) ⟨Nat.le_of_ble_eq_true rfl, Nat.le_of_ble_eq_true rfl⟩) (fm_preV hc hw hS kl_32 sh_32 rfl) rfl rfl hl.1 rfl (lv_room (Nat.le_of_ble_eq_true rfl)) dX5_readOne_92 ⟨by decide +kernel, by decide +kernel⟩)) (fun r20 hr20 => ?_)
    have bqq21 := hI.bd (k := 0) bd_32_6
    have bqq22 := hI.bd (k := 0) bd_32_7
    rcases hr20 with ⟨rfl, c23⟩ | ⟨rfl, c23⟩
    · refine fx_if_eq (tgt := 126) hx hb dX5_readOne_95 (by decide) zk_1 (fun c24 => by exfalso; omega) (fun c24 => ?_)
      refine lv_iload_n hx hb dX5_readOne_98 rfl (lv_at hl 1 rfl) ?_
      refine lv_iconst (v := 5) hx hb dX5_readOne_99 (by decide) ?_
      refine fx_icmp_ge (tgt := 126) hx hb dX5_readOne_100 (by decide) zk_2 zk_5 (fun c25 => by exfalso; omega) (fun c25 => ?_)
      refine lv_aload_n hx hb dX5_readOne_103 rfl (lv_at hl 0 rfl) ?_
      refine fm_cv (va_runV (As := []) (rest := []) ⟨hx, hb, hml, hown, hts⟩ (fc_X5_advance l D ad C nb M_j1 hI) (cwV 0 hts gX5_readOne_X5_advance rfl rfl rfl (by decide +kernel) ⟨Nat.le_of_ble_eq_true rfl, Nat.le_of_ble_eq_true rfl⟩) (fm_preV hc hw hS kl_32 sh_32 rfl) rfl rfl hl.1 rfl (lv_room (Nat.le_of_ble_eq_true rfl)) dX5_readOne_104 ⟨by decide +kernel, by decide +kernel⟩) hS hc (fun M27 H locs hr26 hw hS => ?_)
      obtain ⟨hI, hEM27, hr26⟩ := hr26
      have hE := hE.tr hEM27 (by decide)
      refine lv_aload_n hx hb dX5_readOne_107 rfl (lv_at hl 0 rfl) ?_
      refine lv_iload_n hx hb dX5_readOne_108 rfl (lv_at hl 1 rfl) ?_
      refine lv_iconst (v := 1) hx hb dX5_readOne_109 (by decide) ?_
      refine lv_iadd hx hb dX5_readOne_110 ?_
      refine lv_topi (fun y29 ey29 => ?_)
      obtain rfl : y29 = 3 := ey29.trans (by decide)
      refine fm_cv (va_runV (As := [.int 3]) (rest := []) ⟨hx, hb, hml, hown, hts⟩ (fc_X5_readOne_3 l D ad C nb M27 hI) (cwV 1 hts gX5_readOne_X5_readOne rfl rfl rfl (by decide +kernel) ⟨Nat.le_of_ble_eq_true rfl, Nat.le_of_ble_eq_true rfl⟩) (fm_preV hc hw hS kl_32 sh_32 rfl) rfl rfl hl.1 rfl (lv_room (Nat.le_of_ble_eq_true rfl)) dX5_readOne_111 ⟨by decide +kernel, by decide +kernel⟩) hS hc (fun M31 H locs hr30 hw hS => ?_)
      obtain ⟨hI, hEM31, hr30⟩ := hr30
      have hE := hE.tr hEM31 (by decide)
      refine lv_aload_n hx hb dX5_readOne_114 rfl (lv_at hl 0 rfl) ?_
      refine fm_getG (a := 32) (j := 5) (T := TX5) (N := 8) hx hb hts hinX5 hown hc hw kl_32 sh_32 rfl (by decide) rfl (hI.to kl_32 tg_32_5) (hts (.fieldLink RX5 27 "RedTent$Reader" "made" "LRedTent$Text;") (List.mem_cons_of_mem _ tw_1_203)) (fun _ h9 => h9) dX5_readOne_115 ?_
      refine lv_bipush (v := (-19)) hx hb dX5_readOne_118 (by decide) ?_
      refine fm_cv (va_runV (As := [.int (-19)]) (rest := []) ⟨hx, hb, hml, hown, hts⟩ (fc_X9_addStep l D ad C nb M31 hI (-19)) (cwV 1 hts gX5_readOne_X9_addStep rfl rfl rfl (by decide +kernel) ⟨Nat.le_of_ble_eq_true rfl, Nat.le_of_ble_eq_true rfl⟩) (fm_preV hc hw hS kl_36 sh_36 rfl) rfl rfl hl.1 rfl (lv_room (Nat.le_of_ble_eq_true rfl)) dX5_readOne_120 ⟨by decide +kernel, by decide +kernel⟩) hS hc (fun M33 H locs hr32 hw hS => ?_)
      obtain ⟨hI, hEM33, hr32⟩ := hr32
      have hE := hE.tr hEM33 (by decide)
      refine lv_goto (tgt := 164) hx hb dX5_readOne_123 (by decide) ?_
      exact W.vret hx hb hr (fun t ht hW => ⟨⟨M33, rfl, ⟨hI, hE, trivial⟩, by show fm_at D ad C nb _ t.heap; rw [ht]; exact hw⟩, hS.F ht⟩) hS.2.2 dX5_readOne_164
    · refine fx_if_eq (tgt := 126) hx hb dX5_readOne_95 (by decide) zk_0 (fun c34 => ?_) (fun c34 => by exfalso; omega)
      exact j2 M_j1 hI hE _ _ hw hS ls (lv_sub hl [0, 1] rfl)
  refine lv_aload_n hx hb dX5_readOne_0 rfl (lv_at hl 0 rfl) ?_
  refine lv_bipush (v := 12) hx hb dX5_readOne_1 (by decide) ?_
  have zz35 := zk_12
  refine vp_callSi (va_Run.run (va_runV (As := [.int 12]) (rest := []) ⟨hx, hb, hml, hown, hts⟩ (fc_X5_sees l D ad C nb M hI 12) (cwV 1 hts gX5_readOne_X5_sees rfl rfl rfl (by decide +kernel) ⟨Nat.le_of_ble_eq_true rfl, Nat.le_of_ble_eq_true rfl⟩) (fm_preV hc hw hS kl_32 sh_32 rfl) rfl rfl hl.1 rfl (lv_room (Nat.le_of_ble_eq_true rfl)) dX5_readOne_3 ⟨by decide +kernel, by decide +kernel⟩)) (fun r36 hr36 => ?_)
  have bqq37 := hI.bd (k := 0) bd_32_6
  have bqq38 := hI.bd (k := 0) bd_32_7
  rcases hr36 with ⟨rfl, c39⟩ | ⟨rfl, c39⟩
  · refine fx_if_eq (tgt := 32) hx hb dX5_readOne_6 (by decide) zk_1 (fun c40 => by exfalso; omega) (fun c40 => ?_)
    refine lv_aload_n hx hb dX5_readOne_9 rfl (lv_at hl 0 rfl) ?_
    refine fm_getG (a := 32) (j := 5) (T := TX5) (N := 8) hx hb hts hinX5 hown hc hw kl_32 sh_32 rfl (by decide) rfl (hI.to kl_32 tg_32_5) (hts (.fieldLink RX5 27 "RedTent$Reader" "made" "LRedTent$Text;") (List.mem_cons_of_mem _ tw_1_203)) (fun _ h9 => h9) dX5_readOne_10 ?_
    refine lv_aload_n hx hb dX5_readOne_13 rfl (lv_at hl 0 rfl) ?_
    refine fm_getG (a := 32) (j := 4) (T := TX5) (N := 8) hx hb hts hinX5 hown hc hw kl_32 sh_32 rfl (by decide) rfl (hI.to kl_32 tg_32_4) (hts (.fieldLink RX5 21 "RedTent$Reader" "numbers" "[I") (List.mem_cons_of_mem _ tw_1_202)) (fun _ h9 => h9) dX5_readOne_14 ?_
    refine lv_aload_n hx hb dX5_readOne_17 rfl (lv_at hl 0 rfl) ?_
    refine fm_getI (a := 32) (j := 6) (T := TX5) (N := 8) hx hb hts hinX5 hown hc hw hI kl_32 sh_32 rfl (by decide) rfl bd_32_6 (hts (.fieldLink RX5 47 "RedTent$Reader" "at" "I") (List.mem_cons_of_mem _ tw_1_205)) (fun _ h9 => h9) dX5_readOne_18 (fun x41 ex41 bx41 => ?_)
    refine fm_iald (a := 35) hx hb hc hw hI kl_35 sh_35 ty_35 bd_35 (by omega) dX5_readOne_21 (fun x42 ex42 bx42 => ?_)
    refine fm_cv (va_runV (As := [.int x42]) (rest := []) ⟨hx, hb, hml, hown, hts⟩ (fc_X9_addStep l D ad C nb M hI x42) (cwV 1 hts gX5_readOne_X9_addStep rfl rfl rfl (by decide +kernel) ⟨Nat.le_of_ble_eq_true rfl, Nat.le_of_ble_eq_true rfl⟩) (fm_preV hc hw hS kl_36 sh_36 rfl) rfl rfl hl.1 rfl (lv_room (Nat.le_of_ble_eq_true rfl)) dX5_readOne_22 ⟨by decide +kernel, by decide +kernel⟩) hS hc (fun M44 H locs hr43 hw hS => ?_)
    obtain ⟨hI, hEM44, hr43⟩ := hr43
    have hE := hE.tr hEM44 (by decide)
    refine lv_aload_n hx hb dX5_readOne_25 rfl (lv_at hl 0 rfl) ?_
    refine fm_cv (va_runV (As := []) (rest := []) ⟨hx, hb, hml, hown, hts⟩ (fc_X5_advance l D ad C nb M44 hI) (cwV 0 hts gX5_readOne_X5_advance rfl rfl rfl (by decide +kernel) ⟨Nat.le_of_ble_eq_true rfl, Nat.le_of_ble_eq_true rfl⟩) (fm_preV hc hw hS kl_32 sh_32 rfl) rfl rfl hl.1 rfl (lv_room (Nat.le_of_ble_eq_true rfl)) dX5_readOne_26 ⟨by decide +kernel, by decide +kernel⟩) hS hc (fun M46 H locs hr45 hw hS => ?_)
    obtain ⟨hI, hEM46, hr45⟩ := hr45
    have hE := hE.tr hEM46 (by decide)
    refine lv_goto (tgt := 164) hx hb dX5_readOne_29 (by decide) ?_
    exact W.vret hx hb hr (fun t ht hW => ⟨⟨M46, rfl, ⟨hI, hE, trivial⟩, by show fm_at D ad C nb _ t.heap; rw [ht]; exact hw⟩, hS.F ht⟩) hS.2.2 dX5_readOne_164
  · refine fx_if_eq (tgt := 32) hx hb dX5_readOne_6 (by decide) zk_0 (fun c47 => ?_) (fun c47 => by exfalso; omega)
    refine lv_aload_n hx hb dX5_readOne_32 rfl (lv_at hl 0 rfl) ?_
    refine fm_getI (a := 32) (j := 7) (T := TX5) (N := 8) hx hb hts hinX5 hown hc hw hI kl_32 sh_32 rfl (by decide) rfl bd_32_7 (hts (.fieldLink RX5 50 "RedTent$Reader" "fault" "I") (List.mem_cons_of_mem _ tw_1_206)) (fun _ h9 => h9) dX5_readOne_33 (fun x48 ex48 bx48 => ?_)
    refine fx_if_ge (tgt := 89) hx hb dX5_readOne_36 (by decide) rfl (fun c49 => ?_) (fun c49 => ?_)
    · exact j1 M hI hE _ _ hw hS ls (lv_sub hl [0, 1] rfl)
    · refine lv_aload_n hx hb dX5_readOne_39 rfl (lv_at hl 0 rfl) ?_
      refine fm_getG (a := 32) (j := 2) (T := TX5) (N := 8) hx hb hts hinX5 hown hc hw kl_32 sh_32 rfl (by decide) rfl (hI.to kl_32 tg_32_2) (hts (.fieldLink RX5 15 "RedTent$Reader" "tokens" "[I") (List.mem_cons_of_mem _ tw_1_200)) (fun _ h9 => h9) dX5_readOne_40 ?_
      refine lv_aload_n hx hb dX5_readOne_43 rfl (lv_at hl 0 rfl) ?_
      refine fm_getI (a := 32) (j := 6) (T := TX5) (N := 8) hx hb hts hinX5 hown hc hw hI kl_32 sh_32 rfl (by decide) rfl bd_32_6 (hts (.fieldLink RX5 47 "RedTent$Reader" "at" "I") (List.mem_cons_of_mem _ tw_1_205)) (fun _ h9 => h9) dX5_readOne_44 (fun x50 ex50 bx50 => ?_)
      refine fm_iald (a := 33) hx hb hc hw hI kl_33 sh_33 ty_33 bd_33 (by omega) dX5_readOne_47 (fun x51 ex51 bx51 => ?_)
      refine fx_if_le (tgt := 89) hx hb dX5_readOne_48 (by decide) rfl (fun c52 => ?_) (fun c52 => ?_)
      · exact j1 M hI hE _ _ hw hS ls (lv_sub hl [0, 1] rfl)
      · refine lv_aload_n hx hb dX5_readOne_51 rfl (lv_at hl 0 rfl) ?_
        refine fm_getG (a := 32) (j := 2) (T := TX5) (N := 8) hx hb hts hinX5 hown hc hw kl_32 sh_32 rfl (by decide) rfl (hI.to kl_32 tg_32_2) (hts (.fieldLink RX5 15 "RedTent$Reader" "tokens" "[I") (List.mem_cons_of_mem _ tw_1_200)) (fun _ h9 => h9) dX5_readOne_52 ?_
        refine lv_aload_n hx hb dX5_readOne_55 rfl (lv_at hl 0 rfl) ?_
        refine fm_getI (a := 32) (j := 6) (T := TX5) (N := 8) hx hb hts hinX5 hown hc hw hI kl_32 sh_32 rfl (by decide) rfl bd_32_6 (hts (.fieldLink RX5 47 "RedTent$Reader" "at" "I") (List.mem_cons_of_mem _ tw_1_205)) (fun _ h9 => h9) dX5_readOne_56 (fun x53 ex53 bx53 => ?_)
        obtain rfl : x50 = x53 := by rw [ex53]; exact ex50
        refine fm_iald (a := 33) hx hb hc hw hI kl_33 sh_33 ty_33 bd_33 (by omega) dX5_readOne_59 (fun x54 ex54 bx54 => ?_)
        obtain rfl : x51 = x54 := by rw [ex54]; exact ex51
        refine lv_bipush (v := 6) hx hb dX5_readOne_60 (by decide) ?_
        refine fx_icmp_gt (tgt := 89) hx hb dX5_readOne_62 (by decide) rfl zk_6 (fun c55 => ?_) (fun c55 => ?_)
        · exact j1 M hI hE _ _ hw hS ls (lv_sub hl [0, 1] rfl)
        · refine lv_aload_n hx hb dX5_readOne_65 rfl (lv_at hl 0 rfl) ?_
          refine fm_getG (a := 32) (j := 5) (T := TX5) (N := 8) hx hb hts hinX5 hown hc hw kl_32 sh_32 rfl (by decide) rfl (hI.to kl_32 tg_32_5) (hts (.fieldLink RX5 27 "RedTent$Reader" "made" "LRedTent$Text;") (List.mem_cons_of_mem _ tw_1_203)) (fun _ h9 => h9) dX5_readOne_66 ?_
          refine lv_aload_n hx hb dX5_readOne_69 rfl (lv_at hl 0 rfl) ?_
          refine fm_getG (a := 32) (j := 2) (T := TX5) (N := 8) hx hb hts hinX5 hown hc hw kl_32 sh_32 rfl (by decide) rfl (hI.to kl_32 tg_32_2) (hts (.fieldLink RX5 15 "RedTent$Reader" "tokens" "[I") (List.mem_cons_of_mem _ tw_1_200)) (fun _ h9 => h9) dX5_readOne_70 ?_
          refine lv_aload_n hx hb dX5_readOne_73 rfl (lv_at hl 0 rfl) ?_
          refine fm_getI (a := 32) (j := 6) (T := TX5) (N := 8) hx hb hts hinX5 hown hc hw hI kl_32 sh_32 rfl (by decide) rfl bd_32_6 (hts (.fieldLink RX5 47 "RedTent$Reader" "at" "I") (List.mem_cons_of_mem _ tw_1_205)) (fun _ h9 => h9) dX5_readOne_74 (fun x56 ex56 bx56 => ?_)
          obtain rfl : x50 = x56 := by rw [ex56]; exact ex50
          refine fm_iald (a := 33) hx hb hc hw hI kl_33 sh_33 ty_33 bd_33 (by omega) dX5_readOne_77 (fun x57 ex57 bx57 => ?_)
          obtain rfl : x51 = x57 := by rw [ex57]; exact ex51
          refine fx_ineg hx hb dX5_readOne_78 rfl (by omega) (fun y58 ey58 ty58 => ?_)
          refine fm_cv (va_runV (As := [.int y58]) (rest := []) ⟨hx, hb, hml, hown, hts⟩ (fc_X9_addStep l D ad C nb M hI y58) (cwV 1 hts gX5_readOne_X9_addStep rfl rfl rfl (by decide +kernel) ⟨Nat.le_of_ble_eq_true rfl, Nat.le_of_ble_eq_true rfl⟩) (fm_preV hc hw hS kl_36 sh_36 rfl) rfl rfl hl.1 rfl (lv_room (Nat.le_of_ble_eq_true rfl)) dX5_readOne_79 ⟨by decide +kernel, by decide +kernel⟩) hS hc (fun M60 H locs hr59 hw hS => ?_)
          obtain ⟨hI, hEM60, hr59⟩ := hr59
          have hE := hE.tr hEM60 (by decide)
          refine lv_aload_n hx hb dX5_readOne_82 rfl (lv_at hl 0 rfl) ?_
          refine fm_cv (va_runV (As := []) (rest := []) ⟨hx, hb, hml, hown, hts⟩ (fc_X5_advance l D ad C nb M60 hI) (cwV 0 hts gX5_readOne_X5_advance rfl rfl rfl (by decide +kernel) ⟨Nat.le_of_ble_eq_true rfl, Nat.le_of_ble_eq_true rfl⟩) (fm_preV hc hw hS kl_32 sh_32 rfl) rfl rfl hl.1 rfl (lv_room (Nat.le_of_ble_eq_true rfl)) dX5_readOne_83 ⟨by decide +kernel, by decide +kernel⟩) hS hc (fun M62 H locs hr61 hw hS => ?_)
          obtain ⟨hI, hEM62, hr61⟩ := hr61
          have hE := hE.tr hEM62 (by decide)
          refine lv_goto (tgt := 164) hx hb dX5_readOne_86 (by decide) ?_
          exact W.vret hx hb hr (fun t ht hW => ⟨⟨M62, rfl, ⟨hI, hE, trivial⟩, by show fm_at D ad C nb _ t.heap; rw [ht]; exact hw⟩, hS.F ht⟩) hS.2.2 dX5_readOne_164
set_option maxHeartbeats 400000 in
set_option maxRecDepth 20000 in
theorem fc_X5_readTerm_2 (l : Launch) (D : va_G) (ad : Nat → Nat → Nat) (C : Nat → Nat → ClassId) (nb : Nat) (M : fm_M) (hI : fm_I nb ad M) : Met l yX5_readTerm wsX5_readTerm ({ frames := 23, cells := 0, slots := 0, locals := 501 }) (va_Pc [.ref (ad 32 0), .int 2] (fm_P D ad C nb M)) (va_Qv (fun (u : fm_M) => fm_I nb ad u ∧ fm_same [32006, 32007, 36001, 37000] M u ∧ True) (fun u t => fm_at D ad C nb u t.heap) (fm_A nb ad)) 0 0 (fm_A nb ad) := by
  refine Met.ofW (cc := cX5_readTerm) (maxL := 3) (ret := none) (by decide) rfl ?_
  intro p e s m args below meth c s₁ B hml hv
  obtain ⟨rfl, hw, hc⟩ := hv
  have hx := B.exec
  have hb := B.bytes
  have hr := B.returns
  have hts := atoms_spec (ws := wsX5_readTerm) B.pre
  have hown : s.vm.findClass RX5 = some m.cls := findClass_of_methodNamed B.named
  have hinX5 : ∀ w ∈ u_ws RX5 TX5 8, w ∈ wsX5_readTerm := fun w h => List.mem_cons_of_mem _ (iT_X5 w h)
  have hS : va_S (fm_A nb ad) s.heap s.heap [] := va_S.rf
  have hE : fm_same [32006, 32007, 36001, 37000] M M := fm_same.rf
  have hl := lv_entry ([.ref (ad 32 0), .int 2]) (n := 3) (Nat.le_of_ble_eq_true rfl)
  rw [lg_entry_eq]
  generalize (lg_sl ([.ref (ad 32 0), .int 2]) ++ List.replicate (3 - (lg_sl ([.ref (ad 32 0), .int 2])).length) Slot.unset).toArray = ls at hl ⊢
  have hl : lv_has ls 3 [(0, .ref (ad 32 0)), (1, .int 2)] := hl
  refine lv_aload_n hx hb dX5_readTerm_0 rfl (lv_at hl 0 rfl) ?_
  refine lv_iload_n hx hb dX5_readTerm_1 rfl (lv_at hl 1 rfl) ?_
  refine fm_cv (va_runV (As := [.int 2]) (rest := []) ⟨hx, hb, hml, hown, hts⟩ (fc_X5_readOne_2 l D ad C nb M hI) (cwV 1 hts gX5_readTerm_X5_readOne rfl rfl rfl (by decide +kernel) ⟨Nat.le_of_ble_eq_true rfl, Nat.le_of_ble_eq_true rfl⟩) (fm_preV hc hw hS kl_32 sh_32 rfl) rfl rfl hl.1 rfl (lv_room (Nat.le_of_ble_eq_true rfl)) dX5_readTerm_2 ⟨by decide +kernel, by decide +kernel⟩) hS hc (fun M2 H locs hr1 hw hS => ?_)
  obtain ⟨hI, hEM2, hr1⟩ := hr1
  have hE := hE.tr hEM2 (by decide)
  refine lv_iconst (v := 0) hx hb dX5_readTerm_5 (by decide) ?_
  refine lv_istore_n (lv' := [(2, .int 0), (0, .ref (ad 32 0)), (1, .int 2)]) hx hb dX5_readTerm_6 rfl hl (by decide) rfl (fun ls hl => ?_)
  have lp : ∀ (n_lp : Nat) (lp_2 : Int32) (M_lp : fm_M), (160 - lp_2.toInt).toNat < n_lp → (0 ≤ lp_2.toInt ∧ lp_2.toInt ≤ 160) → fm_I nb ad M_lp → fm_same [32006, 32007, 36001, 37000] M M_lp → ∀ (H : Heap) (locs : List Loc), fm_at D ad C nb M_lp H → va_S (fm_A nb ad) s.heap H locs → ∀ (ls : Array Slot), lv_has ls 3 [(2, .int lp_2), (0, .ref (ad 32 0)), (1, .int 2)] → W p l e (headSpec wsX5_readTerm ({ frames := 23, cells := 0, slots := 0, locals := 501 })).room s m ([.ref (ad 32 0), .int 2] : List Value).toArray below meth c H locs 0 0 (MQ below (va_Qv (fun (u : fm_M) => fm_I nb ad u ∧ fm_same [32006, 32007, 36001, 37000] M u ∧ True) (fun u t => fm_at D ad C nb u t.heap) (fm_A nb ad)) ([.ref (ad 32 0), .int 2] : List Value).toArray s 0 0 (fm_A nb ad)) (F0 m 7 ls []) := by
    intro n_lp
    induction n_lp with
    | zero => intro lp_2 M_lp hm_lp b_lp_2 hI hE H locs hw hS ls hl; exact absurd hm_lp (Nat.not_lt_zero _)
    | succ n_lp ih_lp =>
      intro lp_2 M_lp hm_lp b_lp_2 hI hE H locs hw hS ls hl
      refine lv_iload_n hx hb dX5_readTerm_7 rfl (lv_at hl 0 rfl) ?_
      refine lv_sipush (v := 160) hx hb dX5_readTerm_8 (by decide) ?_
      refine fx_icmp_ge (tgt := 47) hx hb dX5_readTerm_11 (by decide) rfl zk_160 (fun c3 => ?_) (fun c3 => ?_)
      · exact W.vret hx hb hr (fun t ht hW => ⟨⟨M_lp, rfl, ⟨hI, hE, trivial⟩, by show fm_at D ad C nb _ t.heap; rw [ht]; exact hw⟩, hS.F ht⟩) hS.2.2 dX5_readTerm_47
      · refine lv_aload_n hx hb dX5_readTerm_14 rfl (lv_at hl 1 rfl) ?_
        refine lv_bipush (v := 42) hx hb dX5_readTerm_15 (by decide) ?_
        have zz4 := zk_42
        refine vp_callSi (va_Run.run (va_runV (As := [.int 42]) (rest := []) ⟨hx, hb, hml, hown, hts⟩ (fc_X5_sees l D ad C nb M_lp hI 42) (cwV 1 hts gX5_readTerm_X5_sees rfl rfl rfl (by decide +kernel) ⟨Nat.le_of_ble_eq_true rfl, Nat.le_of_ble_eq_true rfl⟩) (fm_preV hc hw hS kl_32 sh_32 rfl) rfl rfl hl.1 rfl (lv_room (Nat.le_of_ble_eq_true rfl)) dX5_readTerm_17 ⟨by decide +kernel, by decide +kernel⟩)) (fun r5 hr5 => ?_)
        have bqq6 := hI.bd (k := 0) bd_32_6
        have bqq7 := hI.bd (k := 0) bd_32_7
        rcases hr5 with ⟨rfl, c8⟩ | ⟨rfl, c8⟩
        · refine fx_if_eq (tgt := 47) hx hb dX5_readTerm_20 (by decide) zk_1 (fun c9 => by exfalso; omega) (fun c9 => ?_)
          refine lv_aload_n hx hb dX5_readTerm_23 rfl (lv_at hl 1 rfl) ?_
          refine fm_cv (va_runV (As := []) (rest := []) ⟨hx, hb, hml, hown, hts⟩ (fc_X5_advance l D ad C nb M_lp hI) (cwV 0 hts gX5_readTerm_X5_advance rfl rfl rfl (by decide +kernel) ⟨Nat.le_of_ble_eq_true rfl, Nat.le_of_ble_eq_true rfl⟩) (fm_preV hc hw hS kl_32 sh_32 rfl) rfl rfl hl.1 rfl (lv_room (Nat.le_of_ble_eq_true rfl)) dX5_readTerm_24 ⟨by decide +kernel, by decide +kernel⟩) hS hc (fun M11 H locs hr10 hw hS => ?_)
          obtain ⟨hI, hEM11, hr10⟩ := hr10
          have hE := hE.tr hEM11 (by decide)
          refine lv_aload_n hx hb dX5_readTerm_27 rfl (lv_at hl 1 rfl) ?_
          refine lv_iload_n hx hb dX5_readTerm_28 rfl (lv_at hl 2 rfl) ?_
          refine fm_cv (va_runV (As := [.int 2]) (rest := []) ⟨hx, hb, hml, hown, hts⟩ (fc_X5_readOne_2 l D ad C nb M11 hI) (cwV 1 hts gX5_readTerm_X5_readOne rfl rfl rfl (by decide +kernel) ⟨Nat.le_of_ble_eq_true rfl, Nat.le_of_ble_eq_true rfl⟩) (fm_preV hc hw hS kl_32 sh_32 rfl) rfl rfl hl.1 rfl (lv_room (Nat.le_of_ble_eq_true rfl)) dX5_readTerm_29 ⟨by decide +kernel, by decide +kernel⟩) hS hc (fun M13 H locs hr12 hw hS => ?_)
          obtain ⟨hI, hEM13, hr12⟩ := hr12
          have hE := hE.tr hEM13 (by decide)
          refine lv_aload_n hx hb dX5_readTerm_32 rfl (lv_at hl 1 rfl) ?_
          refine fm_getG (a := 32) (j := 5) (T := TX5) (N := 8) hx hb hts hinX5 hown hc hw kl_32 sh_32 rfl (by decide) rfl (hI.to kl_32 tg_32_5) (hts (.fieldLink RX5 27 "RedTent$Reader" "made" "LRedTent$Text;") (List.mem_cons_of_mem _ tw_1_203)) (fun _ h9 => h9) dX5_readTerm_33 ?_
          refine lv_bipush (v := (-18)) hx hb dX5_readTerm_36 (by decide) ?_
          refine fm_cv (va_runV (As := [.int (-18)]) (rest := []) ⟨hx, hb, hml, hown, hts⟩ (fc_X9_addStep l D ad C nb M13 hI (-18)) (cwV 1 hts gX5_readTerm_X9_addStep rfl rfl rfl (by decide +kernel) ⟨Nat.le_of_ble_eq_true rfl, Nat.le_of_ble_eq_true rfl⟩) (fm_preV hc hw hS kl_36 sh_36 rfl) rfl rfl hl.1 rfl (lv_room (Nat.le_of_ble_eq_true rfl)) dX5_readTerm_38 ⟨by decide +kernel, by decide +kernel⟩) hS hc (fun M15 H locs hr14 hw hS => ?_)
          obtain ⟨hI, hEM15, hr14⟩ := hr14
          have hE := hE.tr hEM15 (by decide)
          obtain ⟨y16, ey16⟩ : ∃ y : Int32, y = lp_2 + 1 := ⟨_, rfl⟩
          have ty16 : y16.toInt = lp_2.toInt + 1 := by rw [ey16, zi_add _ _ (by rw [zk_1]; omega) (by rw [zk_1]; omega), zk_1]
          refine lv_iinc (v := y16) (lv' := [(2, .int y16), (0, .ref (ad 32 0)), (1, .int 2)]) hx hb dX5_readTerm_41 hl (k := 0) rfl (by rw [ey16]; rfl) (by decide) rfl (fun ls hl => ?_)
          refine lv_goto (tgt := 7) hx hb dX5_readTerm_44 (by decide) ?_
          exact ih_lp y16 M15 (by omega) (by omega) hI hE _ _ hw hS ls (lv_sub hl [0, 1, 2] rfl)
        · refine fx_if_eq (tgt := 47) hx hb dX5_readTerm_20 (by decide) zk_0 (fun c17 => ?_) (fun c17 => by exfalso; omega)
          exact W.vret hx hb hr (fun t ht hW => ⟨⟨M_lp, rfl, ⟨hI, hE, trivial⟩, by show fm_at D ad C nb _ t.heap; rw [ht]; exact hw⟩, hS.F ht⟩) hS.2.2 dX5_readTerm_47
  exact lp _ 0 M2 (Nat.lt_succ_self _) (by decide) hI hE _ _ hw hS ls (lv_sub hl [0, 1, 2] rfl)
set_option maxHeartbeats 400000 in
set_option maxRecDepth 20000 in
theorem fc_X5_readSum_2 (l : Launch) (D : va_G) (ad : Nat → Nat → Nat) (C : Nat → Nat → ClassId) (nb : Nat) (M : fm_M) (hI : fm_I nb ad M) : Met l yX5_readSum wsX5_readSum ({ frames := 24, cells := 0, slots := 0, locals := 523 }) (va_Pc [.ref (ad 32 0), .int 2] (fm_P D ad C nb M)) (va_Qv (fun (u : fm_M) => fm_I nb ad u ∧ fm_same [32006, 32007, 36001, 37000] M u ∧ True) (fun u t => fm_at D ad C nb u t.heap) (fm_A nb ad)) 0 0 (fm_A nb ad) := by
  refine Met.ofW (cc := cX5_readSum) (maxL := 4) (ret := none) (by decide) rfl ?_
  intro p e s m args below meth c s₁ B hml hv
  obtain ⟨rfl, hw, hc⟩ := hv
  have hx := B.exec
  have hb := B.bytes
  have hr := B.returns
  have hts := atoms_spec (ws := wsX5_readSum) B.pre
  have hown : s.vm.findClass RX5 = some m.cls := findClass_of_methodNamed B.named
  have hinX5 : ∀ w ∈ u_ws RX5 TX5 8, w ∈ wsX5_readSum := fun w h => List.mem_cons_of_mem _ (iT_X5 w h)
  have hS : va_S (fm_A nb ad) s.heap s.heap [] := va_S.rf
  have hE : fm_same [32006, 32007, 36001, 37000] M M := fm_same.rf
  have hl := lv_entry ([.ref (ad 32 0), .int 2]) (n := 4) (Nat.le_of_ble_eq_true rfl)
  rw [lg_entry_eq]
  generalize (lg_sl ([.ref (ad 32 0), .int 2]) ++ List.replicate (4 - (lg_sl ([.ref (ad 32 0), .int 2])).length) Slot.unset).toArray = ls at hl ⊢
  have hl : lv_has ls 4 [(0, .ref (ad 32 0)), (1, .int 2)] := hl
  refine lv_aload_n hx hb dX5_readSum_0 rfl (lv_at hl 0 rfl) ?_
  refine lv_iload_n hx hb dX5_readSum_1 rfl (lv_at hl 1 rfl) ?_
  refine fm_cv (va_runV (As := [.int 2]) (rest := []) ⟨hx, hb, hml, hown, hts⟩ (fc_X5_readTerm_2 l D ad C nb M hI) (cwV 1 hts gX5_readSum_X5_readTerm rfl rfl rfl (by decide +kernel) ⟨Nat.le_of_ble_eq_true rfl, Nat.le_of_ble_eq_true rfl⟩) (fm_preV hc hw hS kl_32 sh_32 rfl) rfl rfl hl.1 rfl (lv_room (Nat.le_of_ble_eq_true rfl)) dX5_readSum_2 ⟨by decide +kernel, by decide +kernel⟩) hS hc (fun M2 H locs hr1 hw hS => ?_)
  obtain ⟨hI, hEM2, hr1⟩ := hr1
  have hE := hE.tr hEM2 (by decide)
  refine lv_iconst (v := 0) hx hb dX5_readSum_5 (by decide) ?_
  refine lv_istore_n (lv' := [(2, .int 0), (0, .ref (ad 32 0)), (1, .int 2)]) hx hb dX5_readSum_6 rfl hl (by decide) rfl (fun ls hl => ?_)
  have lp : ∀ (n_lp : Nat) (lp_2 : Int32) (M_lp : fm_M), (160 - lp_2.toInt).toNat < n_lp → (0 ≤ lp_2.toInt ∧ lp_2.toInt ≤ 160) → fm_I nb ad M_lp → fm_same [32006, 32007, 36001, 37000] M M_lp → ∀ (H : Heap) (locs : List Loc), fm_at D ad C nb M_lp H → va_S (fm_A nb ad) s.heap H locs → ∀ (ls : Array Slot), lv_has ls 4 [(2, .int lp_2), (0, .ref (ad 32 0)), (1, .int 2)] → W p l e (headSpec wsX5_readSum ({ frames := 24, cells := 0, slots := 0, locals := 523 })).room s m ([.ref (ad 32 0), .int 2] : List Value).toArray below meth c H locs 0 0 (MQ below (va_Qv (fun (u : fm_M) => fm_I nb ad u ∧ fm_same [32006, 32007, 36001, 37000] M u ∧ True) (fun u t => fm_at D ad C nb u t.heap) (fm_A nb ad)) ([.ref (ad 32 0), .int 2] : List Value).toArray s 0 0 (fm_A nb ad)) (F0 m 7 ls []) := by
    intro n_lp
    induction n_lp with
    | zero => intro lp_2 M_lp hm_lp b_lp_2 hI hE H locs hw hS ls hl; exact absurd hm_lp (Nat.not_lt_zero _)
    | succ n_lp ih_lp =>
      intro lp_2 M_lp hm_lp b_lp_2 hI hE H locs hw hS ls hl
      refine lv_iload_n hx hb dX5_readSum_7 rfl (lv_at hl 0 rfl) ?_
      refine lv_sipush (v := 160) hx hb dX5_readSum_8 (by decide) ?_
      refine fx_icmp_ge (tgt := 72) hx hb dX5_readSum_11 (by decide) rfl zk_160 (fun c3 => ?_) (fun c3 => ?_)
      · exact W.vret hx hb hr (fun t ht hW => ⟨⟨M_lp, rfl, ⟨hI, hE, trivial⟩, by show fm_at D ad C nb _ t.heap; rw [ht]; exact hw⟩, hS.F ht⟩) hS.2.2 dX5_readSum_72
      · have j1 : ∀  (M_j1 : fm_M), fm_I nb ad M_j1 → fm_same [32006, 32007, 36001, 37000] M M_j1 → ∀ (H : Heap) (locs : List Loc), fm_at D ad C nb M_j1 H → va_S (fm_A nb ad) s.heap H locs → ∀ (ls : Array Slot), lv_has ls 4 [(2, .int lp_2), (0, .ref (ad 32 0)), (1, .int 2)] → W p l e (headSpec wsX5_readSum ({ frames := 24, cells := 0, slots := 0, locals := 523 })).room s m ([.ref (ad 32 0), .int 2] : List Value).toArray below meth c H locs 0 0 (MQ below (va_Qv (fun (u : fm_M) => fm_I nb ad u ∧ fm_same [32006, 32007, 36001, 37000] M u ∧ True) (fun u t => fm_at D ad C nb u t.heap) (fm_A nb ad)) ([.ref (ad 32 0), .int 2] : List Value).toArray s 0 0 (fm_A nb ad)) (F0 m 32 ls []) := by
          intro  M_j1 hI hE H locs hw hS ls hl
          have j2 : ∀ (j2_3 : Int32) (M_j2 : fm_M), ((-17) ≤ j2_3.toInt ∧ j2_3.toInt ≤ (-16)) → fm_I nb ad M_j2 → fm_same [32006, 32007, 36001, 37000] M M_j2 → ∀ (H : Heap) (locs : List Loc), fm_at D ad C nb M_j2 H → va_S (fm_A nb ad) s.heap H locs → ∀ (ls : Array Slot), lv_has ls 4 [(2, .int lp_2), (0, .ref (ad 32 0)), (1, .int 2), (3, .int j2_3)] → W p l e (headSpec wsX5_readSum ({ frames := 24, cells := 0, slots := 0, locals := 523 })).room s m ([.ref (ad 32 0), .int 2] : List Value).toArray below meth c H locs 0 0 (MQ below (va_Qv (fun (u : fm_M) => fm_I nb ad u ∧ fm_same [32006, 32007, 36001, 37000] M u ∧ True) (fun u t => fm_at D ad C nb u t.heap) (fm_A nb ad)) ([.ref (ad 32 0), .int 2] : List Value).toArray s 0 0 (fm_A nb ad)) (F0 m 49 ls []) := by
            intro j2_3 M_j2 b_j2_3 hI hE H locs hw hS ls hl
            refine lv_aload_n hx hb dX5_readSum_49 rfl (lv_at hl 1 rfl) ?_
            refine fm_cv (va_runV (As := []) (rest := []) ⟨hx, hb, hml, hown, hts⟩ (fc_X5_advance l D ad C nb M_j2 hI) (cwV 0 hts gX5_readSum_X5_advance rfl rfl rfl (by decide +kernel) ⟨Nat.le_of_ble_eq_true rfl, Nat.le_of_ble_eq_true rfl⟩) (fm_preV hc hw hS kl_32 sh_32 rfl) rfl rfl hl.1 rfl (lv_room (Nat.le_of_ble_eq_true rfl)) dX5_readSum_50 ⟨by decide +kernel, by decide +kernel⟩) hS hc (fun M5 H locs hr4 hw hS => ?_)
            obtain ⟨hI, hEM5, hr4⟩ := hr4
            have hE := hE.tr hEM5 (by decide)
            refine lv_aload_n hx hb dX5_readSum_53 rfl (lv_at hl 1 rfl) ?_
            refine lv_iload_n hx hb dX5_readSum_54 rfl (lv_at hl 2 rfl) ?_
            refine fm_cv (va_runV (As := [.int 2]) (rest := []) ⟨hx, hb, hml, hown, hts⟩ (fc_X5_readTerm_2 l D ad C nb M5 hI) (cwV 1 hts gX5_readSum_X5_readTerm rfl rfl rfl (by decide +kernel) ⟨Nat.le_of_ble_eq_true rfl, Nat.le_of_ble_eq_true rfl⟩) (fm_preV hc hw hS kl_32 sh_32 rfl) rfl rfl hl.1 rfl (lv_room (Nat.le_of_ble_eq_true rfl)) dX5_readSum_55 ⟨by decide +kernel, by decide +kernel⟩) hS hc (fun M7 H locs hr6 hw hS => ?_)
            obtain ⟨hI, hEM7, hr6⟩ := hr6
            have hE := hE.tr hEM7 (by decide)
            refine lv_aload_n hx hb dX5_readSum_58 rfl (lv_at hl 1 rfl) ?_
            refine fm_getG (a := 32) (j := 5) (T := TX5) (N := 8) hx hb hts hinX5 hown hc hw kl_32 sh_32 rfl (by decide) rfl (hI.to kl_32 tg_32_5) (hts (.fieldLink RX5 27 "RedTent$Reader" "made" "LRedTent$Text;") (List.mem_cons_of_mem _ tw_1_203)) (fun _ h9 => h9) dX5_readSum_59 ?_
            refine lv_iload_n hx hb dX5_readSum_62 rfl (lv_at hl 3 rfl) ?_
            refine fm_cv (va_runV (As := [.int j2_3]) (rest := []) ⟨hx, hb, hml, hown, hts⟩ (fc_X9_addStep l D ad C nb M7 hI j2_3) (cwV 1 hts gX5_readSum_X9_addStep rfl rfl rfl (by decide +kernel) ⟨Nat.le_of_ble_eq_true rfl, Nat.le_of_ble_eq_true rfl⟩) (fm_preV hc hw hS kl_36 sh_36 rfl) rfl rfl hl.1 rfl (lv_room (Nat.le_of_ble_eq_true rfl)) dX5_readSum_63 ⟨by decide +kernel, by decide +kernel⟩) hS hc (fun M9 H locs hr8 hw hS => ?_)
            obtain ⟨hI, hEM9, hr8⟩ := hr8
            have hE := hE.tr hEM9 (by decide)
            obtain ⟨y10, ey10⟩ : ∃ y : Int32, y = lp_2 + 1 := ⟨_, rfl⟩
            have ty10 : y10.toInt = lp_2.toInt + 1 := by rw [ey10, zi_add _ _ (by rw [zk_1]; omega) (by rw [zk_1]; omega), zk_1]
            refine lv_iinc (v := y10) (lv' := [(2, .int y10), (0, .ref (ad 32 0)), (1, .int 2), (3, .int j2_3)]) hx hb dX5_readSum_66 hl (k := 0) rfl (by rw [ey10]; rfl) (by decide) rfl (fun ls hl => ?_)
            refine lv_goto (tgt := 7) hx hb dX5_readSum_69 (by decide) ?_
            exact ih_lp y10 M9 (by omega) (by omega) hI hE _ _ hw hS ls (lv_sub hl [0, 1, 2] rfl)
          refine lv_aload_n hx hb dX5_readSum_32 rfl (lv_at hl 1 rfl) ?_
          refine lv_bipush (v := 43) hx hb dX5_readSum_33 (by decide) ?_
          have zz11 := zk_43
          refine vp_callSi (va_Run.run (va_runV (As := [.int 43]) (rest := []) ⟨hx, hb, hml, hown, hts⟩ (fc_X5_sees l D ad C nb M_j1 hI 43) (cwV 1 hts gX5_readSum_X5_sees rfl rfl rfl (by decide +kernel) ⟨Nat.le_of_ble_eq_true rfl, Nat.le_of_ble_eq_true rfl⟩) (fm_preV hc hw hS kl_32 sh_32 rfl) rfl rfl hl.1 rfl (lv_room (Nat.le_of_ble_eq_true rfl)) dX5_readSum_35 ⟨by decide +kernel, by decide +kernel⟩)) (fun r12 hr12 => ?_)
          have bqq13 := hI.bd (k := 0) bd_32_6
          have bqq14 := hI.bd (k := 0) bd_32_7
          rcases hr12 with ⟨rfl, c15⟩ | ⟨rfl, c15⟩
          · refine fx_if_eq (tgt := 46) hx hb dX5_readSum_38 (by decide) zk_1 (fun c16 => by exfalso; omega) (fun c16 => ?_)
            refine lv_bipush (v := (-16)) hx hb dX5_readSum_41 (by decide) ?_
            refine lv_goto (tgt := 48) hx hb dX5_readSum_43 (by decide) ?_
            refine lv_istore_n (lv' := [(3, .int (-16)), (2, .int lp_2), (0, .ref (ad 32 0)), (1, .int 2)]) hx hb dX5_readSum_48 rfl hl (by decide) rfl (fun ls hl => ?_)
            exact j2 (-16) M_j1 (by decide) hI hE _ _ hw hS ls (lv_sub hl [1, 2, 3, 0] rfl)
          · refine fx_if_eq (tgt := 46) hx hb dX5_readSum_38 (by decide) zk_0 (fun c17 => ?_) (fun c17 => by exfalso; omega)
            refine lv_bipush (v := (-17)) hx hb dX5_readSum_46 (by decide) ?_
            refine lv_istore_n (lv' := [(3, .int (-17)), (2, .int lp_2), (0, .ref (ad 32 0)), (1, .int 2)]) hx hb dX5_readSum_48 rfl hl (by decide) rfl (fun ls hl => ?_)
            exact j2 (-17) M_j1 (by decide) hI hE _ _ hw hS ls (lv_sub hl [1, 2, 3, 0] rfl)
        refine lv_aload_n hx hb dX5_readSum_14 rfl (lv_at hl 1 rfl) ?_
        refine lv_bipush (v := 43) hx hb dX5_readSum_15 (by decide) ?_
        have zz18 := zk_43
        refine vp_callSi (va_Run.run (va_runV (As := [.int 43]) (rest := []) ⟨hx, hb, hml, hown, hts⟩ (fc_X5_sees l D ad C nb M_lp hI 43) (cwV 1 hts gX5_readSum_X5_sees rfl rfl rfl (by decide +kernel) ⟨Nat.le_of_ble_eq_true rfl, Nat.le_of_ble_eq_true rfl⟩) (fm_preV hc hw hS kl_32 sh_32 rfl) rfl rfl hl.1 rfl (lv_room (Nat.le_of_ble_eq_true rfl)) dX5_readSum_17 ⟨by decide +kernel, by decide +kernel⟩)) (fun r19 hr19 => ?_)
        have bqq20 := hI.bd (k := 0) bd_32_6
        have bqq21 := hI.bd (k := 0) bd_32_7
        rcases hr19 with ⟨rfl, c22⟩ | ⟨rfl, c22⟩
        · refine fx_if_ne (tgt := 32) hx hb dX5_readSum_20 (by decide) zk_1 (fun c23 => ?_) (fun c23 => by exfalso; omega)
          exact j1 M_lp hI hE _ _ hw hS ls (lv_sub hl [0, 1, 2] rfl)
        · refine fx_if_ne (tgt := 32) hx hb dX5_readSum_20 (by decide) zk_0 (fun c24 => by exfalso; omega) (fun c24 => ?_)
          refine lv_aload_n hx hb dX5_readSum_23 rfl (lv_at hl 1 rfl) ?_
          refine lv_bipush (v := 45) hx hb dX5_readSum_24 (by decide) ?_
          have zz25 := zk_45
          refine vp_callSi (va_Run.run (va_runV (As := [.int 45]) (rest := []) ⟨hx, hb, hml, hown, hts⟩ (fc_X5_sees l D ad C nb M_lp hI 45) (cwV 1 hts gX5_readSum_X5_sees rfl rfl rfl (by decide +kernel) ⟨Nat.le_of_ble_eq_true rfl, Nat.le_of_ble_eq_true rfl⟩) (fm_preV hc hw hS kl_32 sh_32 rfl) rfl rfl hl.1 rfl (lv_room (Nat.le_of_ble_eq_true rfl)) dX5_readSum_26 ⟨by decide +kernel, by decide +kernel⟩)) (fun r26 hr26 => ?_)
          have bqq27 := hI.bd (k := 0) bd_32_6
          have bqq28 := hI.bd (k := 0) bd_32_7
          rcases hr26 with ⟨rfl, c29⟩ | ⟨rfl, c29⟩
          · refine fx_if_eq (tgt := 72) hx hb dX5_readSum_29 (by decide) zk_1 (fun c30 => by exfalso; omega) (fun c30 => ?_)
            exact j1 M_lp hI hE _ _ hw hS ls (lv_sub hl [0, 1, 2] rfl)
          · refine fx_if_eq (tgt := 72) hx hb dX5_readSum_29 (by decide) zk_0 (fun c31 => ?_) (fun c31 => by exfalso; omega)
            exact W.vret hx hb hr (fun t ht hW => ⟨⟨M_lp, rfl, ⟨hI, hE, trivial⟩, by show fm_at D ad C nb _ t.heap; rw [ht]; exact hw⟩, hS.F ht⟩) hS.2.2 dX5_readSum_72
  exact lp _ 0 M2 (Nat.lt_succ_self _) (by decide) hI hE _ _ hw hS ls (lv_sub hl [0, 1, 2] rfl)
set_option maxHeartbeats 400000 in
set_option maxRecDepth 20000 in
theorem fc_X5_readCompared_2 (l : Launch) (D : va_G) (ad : Nat → Nat → Nat) (C : Nat → Nat → ClassId) (nb : Nat) (M : fm_M) (hI : fm_I nb ad M) : Met l yX5_readCompared wsX5_readCompared ({ frames := 25, cells := 0, slots := 0, locals := 546 }) (va_Pc [.ref (ad 32 0), .int 2] (fm_P D ad C nb M)) (va_Qv (fun (u : fm_M) => fm_I nb ad u ∧ fm_same [32006, 32007, 36001, 37000] M u ∧ True) (fun u t => fm_at D ad C nb u t.heap) (fm_A nb ad)) 0 0 (fm_A nb ad) := by
  refine Met.ofW (cc := cX5_readCompared) (maxL := 3) (ret := none) (by decide) rfl ?_
  intro p e s m args below meth c s₁ B hml hv
  obtain ⟨rfl, hw, hc⟩ := hv
  have hx := B.exec
  have hb := B.bytes
  have hr := B.returns
  have hts := atoms_spec (ws := wsX5_readCompared) B.pre
  have hown : s.vm.findClass RX5 = some m.cls := findClass_of_methodNamed B.named
  have hinX5 : ∀ w ∈ u_ws RX5 TX5 8, w ∈ wsX5_readCompared := fun w h => List.mem_cons_of_mem _ (iT_X5 w h)
  have hS : va_S (fm_A nb ad) s.heap s.heap [] := va_S.rf
  have hE : fm_same [32006, 32007, 36001, 37000] M M := fm_same.rf
  have hl := lv_entry ([.ref (ad 32 0), .int 2]) (n := 3) (Nat.le_of_ble_eq_true rfl)
  rw [lg_entry_eq]
  generalize (lg_sl ([.ref (ad 32 0), .int 2]) ++ List.replicate (3 - (lg_sl ([.ref (ad 32 0), .int 2])).length) Slot.unset).toArray = ls at hl ⊢
  have hl : lv_has ls 3 [(0, .ref (ad 32 0)), (1, .int 2)] := hl
  refine lv_aload_n hx hb dX5_readCompared_0 rfl (lv_at hl 0 rfl) ?_
  refine lv_iload_n hx hb dX5_readCompared_1 rfl (lv_at hl 1 rfl) ?_
  refine fm_cv (va_runV (As := [.int 2]) (rest := []) ⟨hx, hb, hml, hown, hts⟩ (fc_X5_readSum_2 l D ad C nb M hI) (cwV 1 hts gX5_readCompared_X5_readSum rfl rfl rfl (by decide +kernel) ⟨Nat.le_of_ble_eq_true rfl, Nat.le_of_ble_eq_true rfl⟩) (fm_preV hc hw hS kl_32 sh_32 rfl) rfl rfl hl.1 rfl (lv_room (Nat.le_of_ble_eq_true rfl)) dX5_readCompared_2 ⟨by decide +kernel, by decide +kernel⟩) hS hc (fun M2 H locs hr1 hw hS => ?_)
  obtain ⟨hI, hEM2, hr1⟩ := hr1
  have hE := hE.tr hEM2 (by decide)
  have j1 : ∀  (M_j1 : fm_M), fm_I nb ad M_j1 → fm_same [32006, 32007, 36001, 37000] M M_j1 → ∀ (H : Heap) (locs : List Loc), fm_at D ad C nb M_j1 H → va_S (fm_A nb ad) s.heap H locs → ∀ (ls : Array Slot), lv_has ls 3 [(0, .ref (ad 32 0)), (1, .int 2)] → W p l e (headSpec wsX5_readCompared ({ frames := 25, cells := 0, slots := 0, locals := 546 })).room s m ([.ref (ad 32 0), .int 2] : List Value).toArray below meth c H locs 0 0 (MQ below (va_Qv (fun (u : fm_M) => fm_I nb ad u ∧ fm_same [32006, 32007, 36001, 37000] M u ∧ True) (fun u t => fm_at D ad C nb u t.heap) (fm_A nb ad)) ([.ref (ad 32 0), .int 2] : List Value).toArray s 0 0 (fm_A nb ad)) (F0 m 23 ls []) := by
    intro  M_j1 hI hE H locs hw hS ls hl
    have j2 : ∀ (j2_2 : Int32) (M_j2 : fm_M), ((-15) ≤ j2_2.toInt ∧ j2_2.toInt ≤ (-14)) → fm_I nb ad M_j2 → fm_same [32006, 32007, 36001, 37000] M M_j2 → ∀ (H : Heap) (locs : List Loc), fm_at D ad C nb M_j2 H → va_S (fm_A nb ad) s.heap H locs → ∀ (ls : Array Slot), lv_has ls 3 [(0, .ref (ad 32 0)), (1, .int 2), (2, .int j2_2)] → W p l e (headSpec wsX5_readCompared ({ frames := 25, cells := 0, slots := 0, locals := 546 })).room s m ([.ref (ad 32 0), .int 2] : List Value).toArray below meth c H locs 0 0 (MQ below (va_Qv (fun (u : fm_M) => fm_I nb ad u ∧ fm_same [32006, 32007, 36001, 37000] M u ∧ True) (fun u t => fm_at D ad C nb u t.heap) (fm_A nb ad)) ([.ref (ad 32 0), .int 2] : List Value).toArray s 0 0 (fm_A nb ad)) (F0 m 40 ls []) := by
      intro j2_2 M_j2 b_j2_2 hI hE H locs hw hS ls hl
      refine lv_aload_n hx hb dX5_readCompared_40 rfl (lv_at hl 0 rfl) ?_
      refine fm_cv (va_runV (As := []) (rest := []) ⟨hx, hb, hml, hown, hts⟩ (fc_X5_advance l D ad C nb M_j2 hI) (cwV 0 hts gX5_readCompared_X5_advance rfl rfl rfl (by decide +kernel) ⟨Nat.le_of_ble_eq_true rfl, Nat.le_of_ble_eq_true rfl⟩) (fm_preV hc hw hS kl_32 sh_32 rfl) rfl rfl hl.1 rfl (lv_room (Nat.le_of_ble_eq_true rfl)) dX5_readCompared_41 ⟨by decide +kernel, by decide +kernel⟩) hS hc (fun M4 H locs hr3 hw hS => ?_)
      obtain ⟨hI, hEM4, hr3⟩ := hr3
      have hE := hE.tr hEM4 (by decide)
      refine lv_aload_n hx hb dX5_readCompared_44 rfl (lv_at hl 0 rfl) ?_
      refine lv_iload_n hx hb dX5_readCompared_45 rfl (lv_at hl 1 rfl) ?_
      refine fm_cv (va_runV (As := [.int 2]) (rest := []) ⟨hx, hb, hml, hown, hts⟩ (fc_X5_readSum_2 l D ad C nb M4 hI) (cwV 1 hts gX5_readCompared_X5_readSum rfl rfl rfl (by decide +kernel) ⟨Nat.le_of_ble_eq_true rfl, Nat.le_of_ble_eq_true rfl⟩) (fm_preV hc hw hS kl_32 sh_32 rfl) rfl rfl hl.1 rfl (lv_room (Nat.le_of_ble_eq_true rfl)) dX5_readCompared_46 ⟨by decide +kernel, by decide +kernel⟩) hS hc (fun M6 H locs hr5 hw hS => ?_)
      obtain ⟨hI, hEM6, hr5⟩ := hr5
      have hE := hE.tr hEM6 (by decide)
      refine lv_aload_n hx hb dX5_readCompared_49 rfl (lv_at hl 0 rfl) ?_
      refine fm_getG (a := 32) (j := 5) (T := TX5) (N := 8) hx hb hts hinX5 hown hc hw kl_32 sh_32 rfl (by decide) rfl (hI.to kl_32 tg_32_5) (hts (.fieldLink RX5 27 "RedTent$Reader" "made" "LRedTent$Text;") (List.mem_cons_of_mem _ tw_1_203)) (fun _ h9 => h9) dX5_readCompared_50 ?_
      refine lv_iload_n hx hb dX5_readCompared_53 rfl (lv_at hl 2 rfl) ?_
      refine fm_cv (va_runV (As := [.int j2_2]) (rest := []) ⟨hx, hb, hml, hown, hts⟩ (fc_X9_addStep l D ad C nb M6 hI j2_2) (cwV 1 hts gX5_readCompared_X9_addStep rfl rfl rfl (by decide +kernel) ⟨Nat.le_of_ble_eq_true rfl, Nat.le_of_ble_eq_true rfl⟩) (fm_preV hc hw hS kl_36 sh_36 rfl) rfl rfl hl.1 rfl (lv_room (Nat.le_of_ble_eq_true rfl)) dX5_readCompared_54 ⟨by decide +kernel, by decide +kernel⟩) hS hc (fun M8 H locs hr7 hw hS => ?_)
      obtain ⟨hI, hEM8, hr7⟩ := hr7
      have hE := hE.tr hEM8 (by decide)
      exact W.vret hx hb hr (fun t ht hW => ⟨⟨M8, rfl, ⟨hI, hE, trivial⟩, by show fm_at D ad C nb _ t.heap; rw [ht]; exact hw⟩, hS.F ht⟩) hS.2.2 dX5_readCompared_57
    refine lv_aload_n hx hb dX5_readCompared_23 rfl (lv_at hl 0 rfl) ?_
    refine lv_bipush (v := 60) hx hb dX5_readCompared_24 (by decide) ?_
    have zz9 := zk_60
    refine vp_callSi (va_Run.run (va_runV (As := [.int 60]) (rest := []) ⟨hx, hb, hml, hown, hts⟩ (fc_X5_sees l D ad C nb M_j1 hI 60) (cwV 1 hts gX5_readCompared_X5_sees rfl rfl rfl (by decide +kernel) ⟨Nat.le_of_ble_eq_true rfl, Nat.le_of_ble_eq_true rfl⟩) (fm_preV hc hw hS kl_32 sh_32 rfl) rfl rfl hl.1 rfl (lv_room (Nat.le_of_ble_eq_true rfl)) dX5_readCompared_26 ⟨by decide +kernel, by decide +kernel⟩)) (fun r10 hr10 => ?_)
    have bqq11 := hI.bd (k := 0) bd_32_6
    have bqq12 := hI.bd (k := 0) bd_32_7
    rcases hr10 with ⟨rfl, c13⟩ | ⟨rfl, c13⟩
    · refine fx_if_eq (tgt := 37) hx hb dX5_readCompared_29 (by decide) zk_1 (fun c14 => by exfalso; omega) (fun c14 => ?_)
      refine lv_bipush (v := (-14)) hx hb dX5_readCompared_32 (by decide) ?_
      refine lv_goto (tgt := 39) hx hb dX5_readCompared_34 (by decide) ?_
      refine lv_istore_n (lv' := [(2, .int (-14)), (0, .ref (ad 32 0)), (1, .int 2)]) hx hb dX5_readCompared_39 rfl hl (by decide) rfl (fun ls hl => ?_)
      exact j2 (-14) M_j1 (by decide) hI hE _ _ hw hS ls (lv_sub hl [1, 2, 0] rfl)
    · refine fx_if_eq (tgt := 37) hx hb dX5_readCompared_29 (by decide) zk_0 (fun c15 => ?_) (fun c15 => by exfalso; omega)
      refine lv_bipush (v := (-15)) hx hb dX5_readCompared_37 (by decide) ?_
      refine lv_istore_n (lv' := [(2, .int (-15)), (0, .ref (ad 32 0)), (1, .int 2)]) hx hb dX5_readCompared_39 rfl hl (by decide) rfl (fun ls hl => ?_)
      exact j2 (-15) M_j1 (by decide) hI hE _ _ hw hS ls (lv_sub hl [1, 2, 0] rfl)
  refine lv_aload_n hx hb dX5_readCompared_5 rfl (lv_at hl 0 rfl) ?_
  refine lv_bipush (v := 60) hx hb dX5_readCompared_6 (by decide) ?_
  have zz16 := zk_60
  refine vp_callSi (va_Run.run (va_runV (As := [.int 60]) (rest := []) ⟨hx, hb, hml, hown, hts⟩ (fc_X5_sees l D ad C nb M2 hI 60) (cwV 1 hts gX5_readCompared_X5_sees rfl rfl rfl (by decide +kernel) ⟨Nat.le_of_ble_eq_true rfl, Nat.le_of_ble_eq_true rfl⟩) (fm_preV hc hw hS kl_32 sh_32 rfl) rfl rfl hl.1 rfl (lv_room (Nat.le_of_ble_eq_true rfl)) dX5_readCompared_8 ⟨by decide +kernel, by decide +kernel⟩)) (fun r17 hr17 => ?_)
  have bqq18 := hI.bd (k := 0) bd_32_6
  have bqq19 := hI.bd (k := 0) bd_32_7
  rcases hr17 with ⟨rfl, c20⟩ | ⟨rfl, c20⟩
  · refine fx_if_ne (tgt := 23) hx hb dX5_readCompared_11 (by decide) zk_1 (fun c21 => ?_) (fun c21 => by exfalso; omega)
    exact j1 M2 hI hE _ _ hw hS ls (lv_sub hl [0, 1] rfl)
  · refine fx_if_ne (tgt := 23) hx hb dX5_readCompared_11 (by decide) zk_0 (fun c22 => by exfalso; omega) (fun c22 => ?_)
    refine lv_aload_n hx hb dX5_readCompared_14 rfl (lv_at hl 0 rfl) ?_
    refine lv_bipush (v := 61) hx hb dX5_readCompared_15 (by decide) ?_
    have zz23 := zk_61
    refine vp_callSi (va_Run.run (va_runV (As := [.int 61]) (rest := []) ⟨hx, hb, hml, hown, hts⟩ (fc_X5_sees l D ad C nb M2 hI 61) (cwV 1 hts gX5_readCompared_X5_sees rfl rfl rfl (by decide +kernel) ⟨Nat.le_of_ble_eq_true rfl, Nat.le_of_ble_eq_true rfl⟩) (fm_preV hc hw hS kl_32 sh_32 rfl) rfl rfl hl.1 rfl (lv_room (Nat.le_of_ble_eq_true rfl)) dX5_readCompared_17 ⟨by decide +kernel, by decide +kernel⟩)) (fun r24 hr24 => ?_)
    have bqq25 := hI.bd (k := 0) bd_32_6
    have bqq26 := hI.bd (k := 0) bd_32_7
    rcases hr24 with ⟨rfl, c27⟩ | ⟨rfl, c27⟩
    · refine fx_if_eq (tgt := 57) hx hb dX5_readCompared_20 (by decide) zk_1 (fun c28 => by exfalso; omega) (fun c28 => ?_)
      exact j1 M2 hI hE _ _ hw hS ls (lv_sub hl [0, 1] rfl)
    · refine fx_if_eq (tgt := 57) hx hb dX5_readCompared_20 (by decide) zk_0 (fun c29 => ?_) (fun c29 => by exfalso; omega)
      exact W.vret hx hb hr (fun t ht hW => ⟨⟨M2, rfl, ⟨hI, hE, trivial⟩, by show fm_at D ad C nb _ t.heap; rw [ht]; exact hw⟩, hS.F ht⟩) hS.2.2 dX5_readCompared_57
set_option maxHeartbeats 400000 in
set_option maxRecDepth 20000 in
theorem fc_X5_readNot_2 (l : Launch) (D : va_G) (ad : Nat → Nat → Nat) (C : Nat → Nat → ClassId) (nb : Nat) (M : fm_M) (hI : fm_I nb ad M) : Met l yX5_readNot wsX5_readNot ({ frames := 26, cells := 0, slots := 0, locals := 568 }) (va_Pc [.ref (ad 32 0), .int 2] (fm_P D ad C nb M)) (va_Qv (fun (u : fm_M) => fm_I nb ad u ∧ fm_same [32006, 32007, 36001, 37000] M u ∧ True) (fun u t => fm_at D ad C nb u t.heap) (fm_A nb ad)) 0 0 (fm_A nb ad) := by
  refine Met.ofW (cc := cX5_readNot) (maxL := 2) (ret := none) (by decide) rfl ?_
  intro p e s m args below meth c s₁ B hml hv
  obtain ⟨rfl, hw, hc⟩ := hv
  have hx := B.exec
  have hb := B.bytes
  have hr := B.returns
  have hts := atoms_spec (ws := wsX5_readNot) B.pre
  have hown : s.vm.findClass RX5 = some m.cls := findClass_of_methodNamed B.named
  have hinX5 : ∀ w ∈ u_ws RX5 TX5 8, w ∈ wsX5_readNot := fun w h => List.mem_cons_of_mem _ (iT_X5 w h)
  have hS : va_S (fm_A nb ad) s.heap s.heap [] := va_S.rf
  have hE : fm_same [32006, 32007, 36001, 37000] M M := fm_same.rf
  have hl := lv_entry ([.ref (ad 32 0), .int 2]) (n := 2) (Nat.le_of_ble_eq_true rfl)
  rw [lg_entry_eq]
  generalize (lg_sl ([.ref (ad 32 0), .int 2]) ++ List.replicate (2 - (lg_sl ([.ref (ad 32 0), .int 2])).length) Slot.unset).toArray = ls at hl ⊢
  have hl : lv_has ls 2 [(0, .ref (ad 32 0)), (1, .int 2)] := hl
  have j1 : ∀  (M_j1 : fm_M), fm_I nb ad M_j1 → fm_same [32006, 32007, 36001, 37000] M M_j1 → ∀ (H : Heap) (locs : List Loc), fm_at D ad C nb M_j1 H → va_S (fm_A nb ad) s.heap H locs → ∀ (ls : Array Slot), lv_has ls 2 [(0, .ref (ad 32 0)), (1, .int 2)] → W p l e (headSpec wsX5_readNot ({ frames := 26, cells := 0, slots := 0, locals := 568 })).room s m ([.ref (ad 32 0), .int 2] : List Value).toArray below meth c H locs 0 0 (MQ below (va_Qv (fun (u : fm_M) => fm_I nb ad u ∧ fm_same [32006, 32007, 36001, 37000] M u ∧ True) (fun u t => fm_at D ad C nb u t.heap) (fm_A nb ad)) ([.ref (ad 32 0), .int 2] : List Value).toArray s 0 0 (fm_A nb ad)) (F0 m 21 ls []) := by
    intro  M_j1 hI hE H locs hw hS ls hl
    refine lv_aload_n hx hb dX5_readNot_21 rfl (lv_at hl 0 rfl) ?_
    refine lv_bipush (v := 11) hx hb dX5_readNot_22 (by decide) ?_
    have zz1 := zk_11
    refine vp_callSi (va_Run.run (va_runV (As := [.int 11]) (rest := []) ⟨hx, hb, hml, hown, hts⟩ (fc_X5_sees l D ad C nb M_j1 hI 11) (cwV 1 hts gX5_readNot_X5_sees rfl rfl rfl (by decide +kernel) ⟨Nat.le_of_ble_eq_true rfl, Nat.le_of_ble_eq_true rfl⟩) (fm_preV hc hw hS kl_32 sh_32 rfl) rfl rfl hl.1 rfl (lv_room (Nat.le_of_ble_eq_true rfl)) dX5_readNot_24 ⟨by decide +kernel, by decide +kernel⟩)) (fun r2 hr2 => ?_)
    have bqq3 := hI.bd (k := 0) bd_32_6
    have bqq4 := hI.bd (k := 0) bd_32_7
    rcases hr2 with ⟨rfl, c5⟩ | ⟨rfl, c5⟩
    · refine fx_if_eq (tgt := 53) hx hb dX5_readNot_27 (by decide) zk_1 (fun c6 => by exfalso; omega) (fun c6 => ?_)
      refine lv_aload_n hx hb dX5_readNot_30 rfl (lv_at hl 0 rfl) ?_
      refine fm_cv (va_runV (As := []) (rest := []) ⟨hx, hb, hml, hown, hts⟩ (fc_X5_advance l D ad C nb M_j1 hI) (cwV 0 hts gX5_readNot_X5_advance rfl rfl rfl (by decide +kernel) ⟨Nat.le_of_ble_eq_true rfl, Nat.le_of_ble_eq_true rfl⟩) (fm_preV hc hw hS kl_32 sh_32 rfl) rfl rfl hl.1 rfl (lv_room (Nat.le_of_ble_eq_true rfl)) dX5_readNot_31 ⟨by decide +kernel, by decide +kernel⟩) hS hc (fun M8 H locs hr7 hw hS => ?_)
      obtain ⟨hI, hEM8, hr7⟩ := hr7
      have hE := hE.tr hEM8 (by decide)
      refine lv_aload_n hx hb dX5_readNot_34 rfl (lv_at hl 0 rfl) ?_
      refine lv_iload_n hx hb dX5_readNot_35 rfl (lv_at hl 1 rfl) ?_
      refine lv_iconst (v := 1) hx hb dX5_readNot_36 (by decide) ?_
      refine lv_iadd hx hb dX5_readNot_37 ?_
      refine lv_topi (fun y10 ey10 => ?_)
      obtain rfl : y10 = 3 := ey10.trans (by decide)
      refine fm_cv (va_runV (As := [.int 3]) (rest := []) ⟨hx, hb, hml, hown, hts⟩ (fc_X5_readNot_3 l D ad C nb M8 hI) (cwV 1 hts gX5_readNot_X5_readNot rfl rfl rfl (by decide +kernel) ⟨Nat.le_of_ble_eq_true rfl, Nat.le_of_ble_eq_true rfl⟩) (fm_preV hc hw hS kl_32 sh_32 rfl) rfl rfl hl.1 rfl (lv_room (Nat.le_of_ble_eq_true rfl)) dX5_readNot_38 ⟨by decide +kernel, by decide +kernel⟩) hS hc (fun M12 H locs hr11 hw hS => ?_)
      obtain ⟨hI, hEM12, hr11⟩ := hr11
      have hE := hE.tr hEM12 (by decide)
      refine lv_aload_n hx hb dX5_readNot_41 rfl (lv_at hl 0 rfl) ?_
      refine fm_getG (a := 32) (j := 5) (T := TX5) (N := 8) hx hb hts hinX5 hown hc hw kl_32 sh_32 rfl (by decide) rfl (hI.to kl_32 tg_32_5) (hts (.fieldLink RX5 27 "RedTent$Reader" "made" "LRedTent$Text;") (List.mem_cons_of_mem _ tw_1_203)) (fun _ h9 => h9) dX5_readNot_42 ?_
      refine lv_bipush (v := (-13)) hx hb dX5_readNot_45 (by decide) ?_
      refine fm_cv (va_runV (As := [.int (-13)]) (rest := []) ⟨hx, hb, hml, hown, hts⟩ (fc_X9_addStep l D ad C nb M12 hI (-13)) (cwV 1 hts gX5_readNot_X9_addStep rfl rfl rfl (by decide +kernel) ⟨Nat.le_of_ble_eq_true rfl, Nat.le_of_ble_eq_true rfl⟩) (fm_preV hc hw hS kl_36 sh_36 rfl) rfl rfl hl.1 rfl (lv_room (Nat.le_of_ble_eq_true rfl)) dX5_readNot_47 ⟨by decide +kernel, by decide +kernel⟩) hS hc (fun M14 H locs hr13 hw hS => ?_)
      obtain ⟨hI, hEM14, hr13⟩ := hr13
      have hE := hE.tr hEM14 (by decide)
      refine lv_goto (tgt := 58) hx hb dX5_readNot_50 (by decide) ?_
      exact W.vret hx hb hr (fun t ht hW => ⟨⟨M14, rfl, ⟨hI, hE, trivial⟩, by show fm_at D ad C nb _ t.heap; rw [ht]; exact hw⟩, hS.F ht⟩) hS.2.2 dX5_readNot_58
    · refine fx_if_eq (tgt := 53) hx hb dX5_readNot_27 (by decide) zk_0 (fun c15 => ?_) (fun c15 => by exfalso; omega)
      refine lv_aload_n hx hb dX5_readNot_53 rfl (lv_at hl 0 rfl) ?_
      refine lv_iload_n hx hb dX5_readNot_54 rfl (lv_at hl 1 rfl) ?_
      refine fm_cv (va_runV (As := [.int 2]) (rest := []) ⟨hx, hb, hml, hown, hts⟩ (fc_X5_readCompared_2 l D ad C nb M_j1 hI) (cwV 1 hts gX5_readNot_X5_readCompared rfl rfl rfl (by decide +kernel) ⟨Nat.le_of_ble_eq_true rfl, Nat.le_of_ble_eq_true rfl⟩) (fm_preV hc hw hS kl_32 sh_32 rfl) rfl rfl hl.1 rfl (lv_room (Nat.le_of_ble_eq_true rfl)) dX5_readNot_55 ⟨by decide +kernel, by decide +kernel⟩) hS hc (fun M17 H locs hr16 hw hS => ?_)
      obtain ⟨hI, hEM17, hr16⟩ := hr16
      have hE := hE.tr hEM17 (by decide)
      exact W.vret hx hb hr (fun t ht hW => ⟨⟨M17, rfl, ⟨hI, hE, trivial⟩, by show fm_at D ad C nb _ t.heap; rw [ht]; exact hw⟩, hS.F ht⟩) hS.2.2 dX5_readNot_58
  refine lv_aload_n hx hb dX5_readNot_0 rfl (lv_at hl 0 rfl) ?_
  refine lv_bipush (v := 11) hx hb dX5_readNot_1 (by decide) ?_
  have zz18 := zk_11
  refine vp_callSi (va_Run.run (va_runV (As := [.int 11]) (rest := []) ⟨hx, hb, hml, hown, hts⟩ (fc_X5_sees l D ad C nb M hI 11) (cwV 1 hts gX5_readNot_X5_sees rfl rfl rfl (by decide +kernel) ⟨Nat.le_of_ble_eq_true rfl, Nat.le_of_ble_eq_true rfl⟩) (fm_preV hc hw hS kl_32 sh_32 rfl) rfl rfl hl.1 rfl (lv_room (Nat.le_of_ble_eq_true rfl)) dX5_readNot_3 ⟨by decide +kernel, by decide +kernel⟩)) (fun r19 hr19 => ?_)
  have bqq20 := hI.bd (k := 0) bd_32_6
  have bqq21 := hI.bd (k := 0) bd_32_7
  rcases hr19 with ⟨rfl, c22⟩ | ⟨rfl, c22⟩
  · refine fx_if_eq (tgt := 21) hx hb dX5_readNot_6 (by decide) zk_1 (fun c23 => by exfalso; omega) (fun c23 => ?_)
    refine lv_iload_n hx hb dX5_readNot_9 rfl (lv_at hl 1 rfl) ?_
    refine lv_iconst (v := 5) hx hb dX5_readNot_10 (by decide) ?_
    refine fx_icmp_lt (tgt := 21) hx hb dX5_readNot_11 (by decide) zk_2 zk_5 (fun c24 => ?_) (fun c24 => by exfalso; omega)
    exact j1 M hI hE _ _ hw hS ls (lv_sub hl [0, 1] rfl)
  · refine fx_if_eq (tgt := 21) hx hb dX5_readNot_6 (by decide) zk_0 (fun c25 => ?_) (fun c25 => by exfalso; omega)
    exact j1 M hI hE _ _ hw hS ls (lv_sub hl [0, 1] rfl)
set_option maxHeartbeats 400000 in
set_option maxRecDepth 20000 in
theorem fc_X5_readBoth_2 (l : Launch) (D : va_G) (ad : Nat → Nat → Nat) (C : Nat → Nat → ClassId) (nb : Nat) (M : fm_M) (hI : fm_I nb ad M) : Met l yX5_readBoth wsX5_readBoth ({ frames := 27, cells := 0, slots := 0, locals := 589 }) (va_Pc [.ref (ad 32 0), .int 2] (fm_P D ad C nb M)) (va_Qv (fun (u : fm_M) => fm_I nb ad u ∧ fm_same [32006, 32007, 36001, 37000] M u ∧ True) (fun u t => fm_at D ad C nb u t.heap) (fm_A nb ad)) 0 0 (fm_A nb ad) := by
  refine Met.ofW (cc := cX5_readBoth) (maxL := 3) (ret := none) (by decide) rfl ?_
  intro p e s m args below meth c s₁ B hml hv
  obtain ⟨rfl, hw, hc⟩ := hv
  have hx := B.exec
  have hb := B.bytes
  have hr := B.returns
  have hts := atoms_spec (ws := wsX5_readBoth) B.pre
  have hown : s.vm.findClass RX5 = some m.cls := findClass_of_methodNamed B.named
  have hinX5 : ∀ w ∈ u_ws RX5 TX5 8, w ∈ wsX5_readBoth := fun w h => List.mem_cons_of_mem _ (iT_X5 w h)
  have hS : va_S (fm_A nb ad) s.heap s.heap [] := va_S.rf
  have hE : fm_same [32006, 32007, 36001, 37000] M M := fm_same.rf
  have hl := lv_entry ([.ref (ad 32 0), .int 2]) (n := 3) (Nat.le_of_ble_eq_true rfl)
  rw [lg_entry_eq]
  generalize (lg_sl ([.ref (ad 32 0), .int 2]) ++ List.replicate (3 - (lg_sl ([.ref (ad 32 0), .int 2])).length) Slot.unset).toArray = ls at hl ⊢
  have hl : lv_has ls 3 [(0, .ref (ad 32 0)), (1, .int 2)] := hl
  refine lv_aload_n hx hb dX5_readBoth_0 rfl (lv_at hl 0 rfl) ?_
  refine lv_iload_n hx hb dX5_readBoth_1 rfl (lv_at hl 1 rfl) ?_
  refine fm_cv (va_runV (As := [.int 2]) (rest := []) ⟨hx, hb, hml, hown, hts⟩ (fc_X5_readNot_2 l D ad C nb M hI) (cwV 1 hts gX5_readBoth_X5_readNot rfl rfl rfl (by decide +kernel) ⟨Nat.le_of_ble_eq_true rfl, Nat.le_of_ble_eq_true rfl⟩) (fm_preV hc hw hS kl_32 sh_32 rfl) rfl rfl hl.1 rfl (lv_room (Nat.le_of_ble_eq_true rfl)) dX5_readBoth_2 ⟨by decide +kernel, by decide +kernel⟩) hS hc (fun M2 H locs hr1 hw hS => ?_)
  obtain ⟨hI, hEM2, hr1⟩ := hr1
  have hE := hE.tr hEM2 (by decide)
  refine lv_iconst (v := 0) hx hb dX5_readBoth_5 (by decide) ?_
  refine lv_istore_n (lv' := [(2, .int 0), (0, .ref (ad 32 0)), (1, .int 2)]) hx hb dX5_readBoth_6 rfl hl (by decide) rfl (fun ls hl => ?_)
  have lp : ∀ (n_lp : Nat) (lp_2 : Int32) (M_lp : fm_M), (160 - lp_2.toInt).toNat < n_lp → (0 ≤ lp_2.toInt ∧ lp_2.toInt ≤ 160) → fm_I nb ad M_lp → fm_same [32006, 32007, 36001, 37000] M M_lp → ∀ (H : Heap) (locs : List Loc), fm_at D ad C nb M_lp H → va_S (fm_A nb ad) s.heap H locs → ∀ (ls : Array Slot), lv_has ls 3 [(2, .int lp_2), (0, .ref (ad 32 0)), (1, .int 2)] → W p l e (headSpec wsX5_readBoth ({ frames := 27, cells := 0, slots := 0, locals := 589 })).room s m ([.ref (ad 32 0), .int 2] : List Value).toArray below meth c H locs 0 0 (MQ below (va_Qv (fun (u : fm_M) => fm_I nb ad u ∧ fm_same [32006, 32007, 36001, 37000] M u ∧ True) (fun u t => fm_at D ad C nb u t.heap) (fm_A nb ad)) ([.ref (ad 32 0), .int 2] : List Value).toArray s 0 0 (fm_A nb ad)) (F0 m 7 ls []) := by
    intro n_lp
    induction n_lp with
    | zero => intro lp_2 M_lp hm_lp b_lp_2 hI hE H locs hw hS ls hl; exact absurd hm_lp (Nat.not_lt_zero _)
    | succ n_lp ih_lp =>
      intro lp_2 M_lp hm_lp b_lp_2 hI hE H locs hw hS ls hl
      refine lv_iload_n hx hb dX5_readBoth_7 rfl (lv_at hl 0 rfl) ?_
      refine lv_sipush (v := 160) hx hb dX5_readBoth_8 (by decide) ?_
      refine fx_icmp_ge (tgt := 47) hx hb dX5_readBoth_11 (by decide) rfl zk_160 (fun c3 => ?_) (fun c3 => ?_)
      · exact W.vret hx hb hr (fun t ht hW => ⟨⟨M_lp, rfl, ⟨hI, hE, trivial⟩, by show fm_at D ad C nb _ t.heap; rw [ht]; exact hw⟩, hS.F ht⟩) hS.2.2 dX5_readBoth_47
      · refine lv_aload_n hx hb dX5_readBoth_14 rfl (lv_at hl 1 rfl) ?_
        refine lv_bipush (v := 10) hx hb dX5_readBoth_15 (by decide) ?_
        have zz4 := zk_10
        refine vp_callSi (va_Run.run (va_runV (As := [.int 10]) (rest := []) ⟨hx, hb, hml, hown, hts⟩ (fc_X5_sees l D ad C nb M_lp hI 10) (cwV 1 hts gX5_readBoth_X5_sees rfl rfl rfl (by decide +kernel) ⟨Nat.le_of_ble_eq_true rfl, Nat.le_of_ble_eq_true rfl⟩) (fm_preV hc hw hS kl_32 sh_32 rfl) rfl rfl hl.1 rfl (lv_room (Nat.le_of_ble_eq_true rfl)) dX5_readBoth_17 ⟨by decide +kernel, by decide +kernel⟩)) (fun r5 hr5 => ?_)
        have bqq6 := hI.bd (k := 0) bd_32_6
        have bqq7 := hI.bd (k := 0) bd_32_7
        rcases hr5 with ⟨rfl, c8⟩ | ⟨rfl, c8⟩
        · refine fx_if_eq (tgt := 47) hx hb dX5_readBoth_20 (by decide) zk_1 (fun c9 => by exfalso; omega) (fun c9 => ?_)
          refine lv_aload_n hx hb dX5_readBoth_23 rfl (lv_at hl 1 rfl) ?_
          refine fm_cv (va_runV (As := []) (rest := []) ⟨hx, hb, hml, hown, hts⟩ (fc_X5_advance l D ad C nb M_lp hI) (cwV 0 hts gX5_readBoth_X5_advance rfl rfl rfl (by decide +kernel) ⟨Nat.le_of_ble_eq_true rfl, Nat.le_of_ble_eq_true rfl⟩) (fm_preV hc hw hS kl_32 sh_32 rfl) rfl rfl hl.1 rfl (lv_room (Nat.le_of_ble_eq_true rfl)) dX5_readBoth_24 ⟨by decide +kernel, by decide +kernel⟩) hS hc (fun M11 H locs hr10 hw hS => ?_)
          obtain ⟨hI, hEM11, hr10⟩ := hr10
          have hE := hE.tr hEM11 (by decide)
          refine lv_aload_n hx hb dX5_readBoth_27 rfl (lv_at hl 1 rfl) ?_
          refine lv_iload_n hx hb dX5_readBoth_28 rfl (lv_at hl 2 rfl) ?_
          refine fm_cv (va_runV (As := [.int 2]) (rest := []) ⟨hx, hb, hml, hown, hts⟩ (fc_X5_readNot_2 l D ad C nb M11 hI) (cwV 1 hts gX5_readBoth_X5_readNot rfl rfl rfl (by decide +kernel) ⟨Nat.le_of_ble_eq_true rfl, Nat.le_of_ble_eq_true rfl⟩) (fm_preV hc hw hS kl_32 sh_32 rfl) rfl rfl hl.1 rfl (lv_room (Nat.le_of_ble_eq_true rfl)) dX5_readBoth_29 ⟨by decide +kernel, by decide +kernel⟩) hS hc (fun M13 H locs hr12 hw hS => ?_)
          obtain ⟨hI, hEM13, hr12⟩ := hr12
          have hE := hE.tr hEM13 (by decide)
          refine lv_aload_n hx hb dX5_readBoth_32 rfl (lv_at hl 1 rfl) ?_
          refine fm_getG (a := 32) (j := 5) (T := TX5) (N := 8) hx hb hts hinX5 hown hc hw kl_32 sh_32 rfl (by decide) rfl (hI.to kl_32 tg_32_5) (hts (.fieldLink RX5 27 "RedTent$Reader" "made" "LRedTent$Text;") (List.mem_cons_of_mem _ tw_1_203)) (fun _ h9 => h9) dX5_readBoth_33 ?_
          refine lv_bipush (v := (-12)) hx hb dX5_readBoth_36 (by decide) ?_
          refine fm_cv (va_runV (As := [.int (-12)]) (rest := []) ⟨hx, hb, hml, hown, hts⟩ (fc_X9_addStep l D ad C nb M13 hI (-12)) (cwV 1 hts gX5_readBoth_X9_addStep rfl rfl rfl (by decide +kernel) ⟨Nat.le_of_ble_eq_true rfl, Nat.le_of_ble_eq_true rfl⟩) (fm_preV hc hw hS kl_36 sh_36 rfl) rfl rfl hl.1 rfl (lv_room (Nat.le_of_ble_eq_true rfl)) dX5_readBoth_38 ⟨by decide +kernel, by decide +kernel⟩) hS hc (fun M15 H locs hr14 hw hS => ?_)
          obtain ⟨hI, hEM15, hr14⟩ := hr14
          have hE := hE.tr hEM15 (by decide)
          obtain ⟨y16, ey16⟩ : ∃ y : Int32, y = lp_2 + 1 := ⟨_, rfl⟩
          have ty16 : y16.toInt = lp_2.toInt + 1 := by rw [ey16, zi_add _ _ (by rw [zk_1]; omega) (by rw [zk_1]; omega), zk_1]
          refine lv_iinc (v := y16) (lv' := [(2, .int y16), (0, .ref (ad 32 0)), (1, .int 2)]) hx hb dX5_readBoth_41 hl (k := 0) rfl (by rw [ey16]; rfl) (by decide) rfl (fun ls hl => ?_)
          refine lv_goto (tgt := 7) hx hb dX5_readBoth_44 (by decide) ?_
          exact ih_lp y16 M15 (by omega) (by omega) hI hE _ _ hw hS ls (lv_sub hl [0, 1, 2] rfl)
        · refine fx_if_eq (tgt := 47) hx hb dX5_readBoth_20 (by decide) zk_0 (fun c17 => ?_) (fun c17 => by exfalso; omega)
          exact W.vret hx hb hr (fun t ht hW => ⟨⟨M_lp, rfl, ⟨hI, hE, trivial⟩, by show fm_at D ad C nb _ t.heap; rw [ht]; exact hw⟩, hS.F ht⟩) hS.2.2 dX5_readBoth_47
  exact lp _ 0 M2 (Nat.lt_succ_self _) (by decide) hI hE _ _ hw hS ls (lv_sub hl [0, 1, 2] rfl)
set_option maxHeartbeats 400000 in
set_option maxRecDepth 20000 in
theorem fc_X5_readChoice_2 (l : Launch) (D : va_G) (ad : Nat → Nat → Nat) (C : Nat → Nat → ClassId) (nb : Nat) (M : fm_M) (hI : fm_I nb ad M) : Met l yX5_readChoice wsX5_readChoice ({ frames := 28, cells := 0, slots := 0, locals := 611 }) (va_Pc [.ref (ad 32 0), .int 2] (fm_P D ad C nb M)) (va_Qv (fun (u : fm_M) => fm_I nb ad u ∧ fm_same [32006, 32007, 36001, 37000] M u ∧ True) (fun u t => fm_at D ad C nb u t.heap) (fm_A nb ad)) 0 0 (fm_A nb ad) := by
  refine Met.ofW (cc := cX5_readChoice) (maxL := 3) (ret := none) (by decide) rfl ?_
  intro p e s m args below meth c s₁ B hml hv
  obtain ⟨rfl, hw, hc⟩ := hv
  have hx := B.exec
  have hb := B.bytes
  have hr := B.returns
  have hts := atoms_spec (ws := wsX5_readChoice) B.pre
  have hown : s.vm.findClass RX5 = some m.cls := findClass_of_methodNamed B.named
  have hinX5 : ∀ w ∈ u_ws RX5 TX5 8, w ∈ wsX5_readChoice := fun w h => List.mem_cons_of_mem _ (iT_X5 w h)
  have hS : va_S (fm_A nb ad) s.heap s.heap [] := va_S.rf
  have hE : fm_same [32006, 32007, 36001, 37000] M M := fm_same.rf
  have hl := lv_entry ([.ref (ad 32 0), .int 2]) (n := 3) (Nat.le_of_ble_eq_true rfl)
  rw [lg_entry_eq]
  generalize (lg_sl ([.ref (ad 32 0), .int 2]) ++ List.replicate (3 - (lg_sl ([.ref (ad 32 0), .int 2])).length) Slot.unset).toArray = ls at hl ⊢
  have hl : lv_has ls 3 [(0, .ref (ad 32 0)), (1, .int 2)] := hl
  refine lv_aload_n hx hb dX5_readChoice_0 rfl (lv_at hl 0 rfl) ?_
  refine lv_iload_n hx hb dX5_readChoice_1 rfl (lv_at hl 1 rfl) ?_
  refine fm_cv (va_runV (As := [.int 2]) (rest := []) ⟨hx, hb, hml, hown, hts⟩ (fc_X5_readBoth_2 l D ad C nb M hI) (cwV 1 hts gX5_readChoice_X5_readBoth rfl rfl rfl (by decide +kernel) ⟨Nat.le_of_ble_eq_true rfl, Nat.le_of_ble_eq_true rfl⟩) (fm_preV hc hw hS kl_32 sh_32 rfl) rfl rfl hl.1 rfl (lv_room (Nat.le_of_ble_eq_true rfl)) dX5_readChoice_2 ⟨by decide +kernel, by decide +kernel⟩) hS hc (fun M2 H locs hr1 hw hS => ?_)
  obtain ⟨hI, hEM2, hr1⟩ := hr1
  have hE := hE.tr hEM2 (by decide)
  refine lv_iconst (v := 0) hx hb dX5_readChoice_5 (by decide) ?_
  refine lv_istore_n (lv' := [(2, .int 0), (0, .ref (ad 32 0)), (1, .int 2)]) hx hb dX5_readChoice_6 rfl hl (by decide) rfl (fun ls hl => ?_)
  have lp : ∀ (n_lp : Nat) (lp_2 : Int32) (M_lp : fm_M), (160 - lp_2.toInt).toNat < n_lp → (0 ≤ lp_2.toInt ∧ lp_2.toInt ≤ 160) → fm_I nb ad M_lp → fm_same [32006, 32007, 36001, 37000] M M_lp → ∀ (H : Heap) (locs : List Loc), fm_at D ad C nb M_lp H → va_S (fm_A nb ad) s.heap H locs → ∀ (ls : Array Slot), lv_has ls 3 [(2, .int lp_2), (0, .ref (ad 32 0)), (1, .int 2)] → W p l e (headSpec wsX5_readChoice ({ frames := 28, cells := 0, slots := 0, locals := 611 })).room s m ([.ref (ad 32 0), .int 2] : List Value).toArray below meth c H locs 0 0 (MQ below (va_Qv (fun (u : fm_M) => fm_I nb ad u ∧ fm_same [32006, 32007, 36001, 37000] M u ∧ True) (fun u t => fm_at D ad C nb u t.heap) (fm_A nb ad)) ([.ref (ad 32 0), .int 2] : List Value).toArray s 0 0 (fm_A nb ad)) (F0 m 7 ls []) := by
    intro n_lp
    induction n_lp with
    | zero => intro lp_2 M_lp hm_lp b_lp_2 hI hE H locs hw hS ls hl; exact absurd hm_lp (Nat.not_lt_zero _)
    | succ n_lp ih_lp =>
      intro lp_2 M_lp hm_lp b_lp_2 hI hE H locs hw hS ls hl
      refine lv_iload_n hx hb dX5_readChoice_7 rfl (lv_at hl 0 rfl) ?_
      refine lv_sipush (v := 160) hx hb dX5_readChoice_8 (by decide) ?_
      refine fx_icmp_ge (tgt := 47) hx hb dX5_readChoice_11 (by decide) rfl zk_160 (fun c3 => ?_) (fun c3 => ?_)
      · exact W.vret hx hb hr (fun t ht hW => ⟨⟨M_lp, rfl, ⟨hI, hE, trivial⟩, by show fm_at D ad C nb _ t.heap; rw [ht]; exact hw⟩, hS.F ht⟩) hS.2.2 dX5_readChoice_47
      · refine lv_aload_n hx hb dX5_readChoice_14 rfl (lv_at hl 1 rfl) ?_
        refine lv_bipush (v := 9) hx hb dX5_readChoice_15 (by decide) ?_
        have zz4 := zk_9
        refine vp_callSi (va_Run.run (va_runV (As := [.int 9]) (rest := []) ⟨hx, hb, hml, hown, hts⟩ (fc_X5_sees l D ad C nb M_lp hI 9) (cwV 1 hts gX5_readChoice_X5_sees rfl rfl rfl (by decide +kernel) ⟨Nat.le_of_ble_eq_true rfl, Nat.le_of_ble_eq_true rfl⟩) (fm_preV hc hw hS kl_32 sh_32 rfl) rfl rfl hl.1 rfl (lv_room (Nat.le_of_ble_eq_true rfl)) dX5_readChoice_17 ⟨by decide +kernel, by decide +kernel⟩)) (fun r5 hr5 => ?_)
        have bqq6 := hI.bd (k := 0) bd_32_6
        have bqq7 := hI.bd (k := 0) bd_32_7
        rcases hr5 with ⟨rfl, c8⟩ | ⟨rfl, c8⟩
        · refine fx_if_eq (tgt := 47) hx hb dX5_readChoice_20 (by decide) zk_1 (fun c9 => by exfalso; omega) (fun c9 => ?_)
          refine lv_aload_n hx hb dX5_readChoice_23 rfl (lv_at hl 1 rfl) ?_
          refine fm_cv (va_runV (As := []) (rest := []) ⟨hx, hb, hml, hown, hts⟩ (fc_X5_advance l D ad C nb M_lp hI) (cwV 0 hts gX5_readChoice_X5_advance rfl rfl rfl (by decide +kernel) ⟨Nat.le_of_ble_eq_true rfl, Nat.le_of_ble_eq_true rfl⟩) (fm_preV hc hw hS kl_32 sh_32 rfl) rfl rfl hl.1 rfl (lv_room (Nat.le_of_ble_eq_true rfl)) dX5_readChoice_24 ⟨by decide +kernel, by decide +kernel⟩) hS hc (fun M11 H locs hr10 hw hS => ?_)
          obtain ⟨hI, hEM11, hr10⟩ := hr10
          have hE := hE.tr hEM11 (by decide)
          refine lv_aload_n hx hb dX5_readChoice_27 rfl (lv_at hl 1 rfl) ?_
          refine lv_iload_n hx hb dX5_readChoice_28 rfl (lv_at hl 2 rfl) ?_
          refine fm_cv (va_runV (As := [.int 2]) (rest := []) ⟨hx, hb, hml, hown, hts⟩ (fc_X5_readBoth_2 l D ad C nb M11 hI) (cwV 1 hts gX5_readChoice_X5_readBoth rfl rfl rfl (by decide +kernel) ⟨Nat.le_of_ble_eq_true rfl, Nat.le_of_ble_eq_true rfl⟩) (fm_preV hc hw hS kl_32 sh_32 rfl) rfl rfl hl.1 rfl (lv_room (Nat.le_of_ble_eq_true rfl)) dX5_readChoice_29 ⟨by decide +kernel, by decide +kernel⟩) hS hc (fun M13 H locs hr12 hw hS => ?_)
          obtain ⟨hI, hEM13, hr12⟩ := hr12
          have hE := hE.tr hEM13 (by decide)
          refine lv_aload_n hx hb dX5_readChoice_32 rfl (lv_at hl 1 rfl) ?_
          refine fm_getG (a := 32) (j := 5) (T := TX5) (N := 8) hx hb hts hinX5 hown hc hw kl_32 sh_32 rfl (by decide) rfl (hI.to kl_32 tg_32_5) (hts (.fieldLink RX5 27 "RedTent$Reader" "made" "LRedTent$Text;") (List.mem_cons_of_mem _ tw_1_203)) (fun _ h9 => h9) dX5_readChoice_33 ?_
          refine lv_bipush (v := (-11)) hx hb dX5_readChoice_36 (by decide) ?_
          refine fm_cv (va_runV (As := [.int (-11)]) (rest := []) ⟨hx, hb, hml, hown, hts⟩ (fc_X9_addStep l D ad C nb M13 hI (-11)) (cwV 1 hts gX5_readChoice_X9_addStep rfl rfl rfl (by decide +kernel) ⟨Nat.le_of_ble_eq_true rfl, Nat.le_of_ble_eq_true rfl⟩) (fm_preV hc hw hS kl_36 sh_36 rfl) rfl rfl hl.1 rfl (lv_room (Nat.le_of_ble_eq_true rfl)) dX5_readChoice_38 ⟨by decide +kernel, by decide +kernel⟩) hS hc (fun M15 H locs hr14 hw hS => ?_)
          obtain ⟨hI, hEM15, hr14⟩ := hr14
          have hE := hE.tr hEM15 (by decide)
          obtain ⟨y16, ey16⟩ : ∃ y : Int32, y = lp_2 + 1 := ⟨_, rfl⟩
          have ty16 : y16.toInt = lp_2.toInt + 1 := by rw [ey16, zi_add _ _ (by rw [zk_1]; omega) (by rw [zk_1]; omega), zk_1]
          refine lv_iinc (v := y16) (lv' := [(2, .int y16), (0, .ref (ad 32 0)), (1, .int 2)]) hx hb dX5_readChoice_41 hl (k := 0) rfl (by rw [ey16]; rfl) (by decide) rfl (fun ls hl => ?_)
          refine lv_goto (tgt := 7) hx hb dX5_readChoice_44 (by decide) ?_
          exact ih_lp y16 M15 (by omega) (by omega) hI hE _ _ hw hS ls (lv_sub hl [0, 1, 2] rfl)
        · refine fx_if_eq (tgt := 47) hx hb dX5_readChoice_20 (by decide) zk_0 (fun c17 => ?_) (fun c17 => by exfalso; omega)
          exact W.vret hx hb hr (fun t ht hW => ⟨⟨M_lp, rfl, ⟨hI, hE, trivial⟩, by show fm_at D ad C nb _ t.heap; rw [ht]; exact hw⟩, hS.F ht⟩) hS.2.2 dX5_readChoice_47
  exact lp _ 0 M2 (Nat.lt_succ_self _) (by decide) hI hE _ _ hw hS ls (lv_sub hl [0, 1, 2] rfl)
set_option maxHeartbeats 400000 in
set_option maxRecDepth 20000 in
theorem fc_X5_readOne_1 (l : Launch) (D : va_G) (ad : Nat → Nat → Nat) (C : Nat → Nat → ClassId) (nb : Nat) (M : fm_M) (hI : fm_I nb ad M) : Met l yX5_readOne wsX5_readOne ({ frames := 29, cells := 0, slots := 0, locals := 633 }) (va_Pc [.ref (ad 32 0), .int 1] (fm_P D ad C nb M)) (va_Qv (fun (u : fm_M) => fm_I nb ad u ∧ fm_same [32006, 32007, 36001, 37000] M u ∧ True) (fun u t => fm_at D ad C nb u t.heap) (fm_A nb ad)) 0 0 (fm_A nb ad) := by
  refine Met.ofW (cc := cX5_readOne) (maxL := 2) (ret := none) (by decide) rfl ?_
  intro p e s m args below meth c s₁ B hml hv
  obtain ⟨rfl, hw, hc⟩ := hv
  have hx := B.exec
  have hb := B.bytes
  have hr := B.returns
  have hts := atoms_spec (ws := wsX5_readOne) B.pre
  have hown : s.vm.findClass RX5 = some m.cls := findClass_of_methodNamed B.named
  have hinX5 : ∀ w ∈ u_ws RX5 TX5 8, w ∈ wsX5_readOne := fun w h => List.mem_cons_of_mem _ (iT_X5 w h)
  have hS : va_S (fm_A nb ad) s.heap s.heap [] := va_S.rf
  have hE : fm_same [32006, 32007, 36001, 37000] M M := fm_same.rf
  have hl := lv_entry ([.ref (ad 32 0), .int 1]) (n := 2) (Nat.le_of_ble_eq_true rfl)
  rw [lg_entry_eq]
  generalize (lg_sl ([.ref (ad 32 0), .int 1]) ++ List.replicate (2 - (lg_sl ([.ref (ad 32 0), .int 1])).length) Slot.unset).toArray = ls at hl ⊢
  have hl : lv_has ls 2 [(0, .ref (ad 32 0)), (1, .int 1)] := hl
  have j1 : ∀  (M_j1 : fm_M), fm_I nb ad M_j1 → fm_same [32006, 32007, 36001, 37000] M M_j1 → ∀ (H : Heap) (locs : List Loc), fm_at D ad C nb M_j1 H → va_S (fm_A nb ad) s.heap H locs → ∀ (ls : Array Slot), lv_has ls 2 [(0, .ref (ad 32 0)), (1, .int 1)] → W p l e (headSpec wsX5_readOne ({ frames := 29, cells := 0, slots := 0, locals := 633 })).room s m ([.ref (ad 32 0), .int 1] : List Value).toArray below meth c H locs 0 0 (MQ below (va_Qv (fun (u : fm_M) => fm_I nb ad u ∧ fm_same [32006, 32007, 36001, 37000] M u ∧ True) (fun u t => fm_at D ad C nb u t.heap) (fm_A nb ad)) ([.ref (ad 32 0), .int 1] : List Value).toArray s 0 0 (fm_A nb ad)) (F0 m 89 ls []) := by
    intro  M_j1 hI hE H locs hw hS ls hl
    have j2 : ∀  (M_j2 : fm_M), fm_I nb ad M_j2 → fm_same [32006, 32007, 36001, 37000] M M_j2 → ∀ (H : Heap) (locs : List Loc), fm_at D ad C nb M_j2 H → va_S (fm_A nb ad) s.heap H locs → ∀ (ls : Array Slot), lv_has ls 2 [(0, .ref (ad 32 0)), (1, .int 1)] → W p l e (headSpec wsX5_readOne ({ frames := 29, cells := 0, slots := 0, locals := 633 })).room s m ([.ref (ad 32 0), .int 1] : List Value).toArray below meth c H locs 0 0 (MQ below (va_Qv (fun (u : fm_M) => fm_I nb ad u ∧ fm_same [32006, 32007, 36001, 37000] M u ∧ True) (fun u t => fm_at D ad C nb u t.heap) (fm_A nb ad)) ([.ref (ad 32 0), .int 1] : List Value).toArray s 0 0 (fm_A nb ad)) (F0 m 126 ls []) := by
      intro  M_j2 hI hE H locs hw hS ls hl
      have j3 : ∀  (M_j3 : fm_M), fm_I nb ad M_j3 → fm_same [32006, 32007, 36001, 37000] M M_j3 → ∀ (H : Heap) (locs : List Loc), fm_at D ad C nb M_j3 H → va_S (fm_A nb ad) s.heap H locs → ∀ (ls : Array Slot), lv_has ls 2 [(0, .ref (ad 32 0)), (1, .int 1)] → W p l e (headSpec wsX5_readOne ({ frames := 29, cells := 0, slots := 0, locals := 633 })).room s m ([.ref (ad 32 0), .int 1] : List Value).toArray below meth c H locs 0 0 (MQ below (va_Qv (fun (u : fm_M) => fm_I nb ad u ∧ fm_same [32006, 32007, 36001, 37000] M u ∧ True) (fun u t => fm_at D ad C nb u t.heap) (fm_A nb ad)) ([.ref (ad 32 0), .int 1] : List Value).toArray s 0 0 (fm_A nb ad)) (F0 m 160 ls []) := by
        intro  M_j3 hI hE H locs hw hS ls hl
        refine lv_aload_n hx hb dX5_readOne_160 rfl (lv_at hl 0 rfl) ?_
        refine fm_cv (va_runV (As := []) (rest := []) ⟨hx, hb, hml, hown, hts⟩ (fc_X5_fail l D ad C nb M_j3 hI) (cwV 0 hts gX5_readOne_X5_fail rfl rfl rfl (by decide +kernel) ⟨Nat.le_of_ble_eq_true rfl, Nat.le_of_ble_eq_true rfl⟩) (fm_preV hc hw hS kl_32 sh_32 rfl) rfl rfl hl.1 rfl (lv_room (Nat.le_of_ble_eq_true rfl)) dX5_readOne_161 ⟨by decide +kernel, by decide +kernel⟩) hS hc (fun M2 H locs hr1 hw hS => ?_)
        obtain ⟨hI, hEM2, hr1⟩ := hr1
        have hE := hE.tr hEM2 (by decide)
        exact W.vret hx hb hr (fun t ht hW => ⟨⟨M2, rfl, ⟨hI, hE, trivial⟩, by show fm_at D ad C nb _ t.heap; rw [ht]; exact hw⟩, hS.F ht⟩) hS.2.2 dX5_readOne_164
      refine lv_aload_n hx hb dX5_readOne_126 rfl (lv_at hl 0 rfl) ?_
      refine lv_bipush (v := 40) hx hb dX5_readOne_127 (by decide) ?_
      have zz3 := zk_40
      refine vp_callSi (va_Run.run (va_runV (As := [.int 40]) (rest := []) ⟨hx, hb, hml, hown, hts⟩ (fc_X5_sees l D ad C nb M_j2 hI 40) (cwV 1 hts gX5_readOne_X5_sees rfl rfl rfl (by decide +kernel) ⟨Nat.le_of_ble_eq_true rfl, Nat.le_of_ble_eq_true rfl⟩) (fm_preV hc hw hS kl_32 sh_32 rfl) rfl rfl hl.1 rfl (lv_room (Nat.le_of_ble_eq_true rfl)) dX5_readOne_129 ⟨by decide +kernel, by decide +kernel⟩)) (fun r4 hr4 => ?_)
      have bqq5 := hI.bd (k := 0) bd_32_6
      have bqq6 := hI.bd (k := 0) bd_32_7
      rcases hr4 with ⟨rfl, c7⟩ | ⟨rfl, c7⟩
      · refine fx_if_eq (tgt := 160) hx hb dX5_readOne_132 (by decide) zk_1 (fun c8 => by exfalso; omega) (fun c8 => ?_)
        refine lv_iload_n hx hb dX5_readOne_135 rfl (lv_at hl 1 rfl) ?_
        refine lv_iconst (v := 5) hx hb dX5_readOne_136 (by decide) ?_
        refine fx_icmp_ge (tgt := 160) hx hb dX5_readOne_137 (by decide) zk_1 zk_5 (fun c9 => by exfalso; omega) (fun c9 => ?_)
        refine lv_aload_n hx hb dX5_readOne_140 rfl (lv_at hl 0 rfl) ?_
        refine fm_cv (va_runV (As := []) (rest := []) ⟨hx, hb, hml, hown, hts⟩ (fc_X5_advance l D ad C nb M_j2 hI) (cwV 0 hts gX5_readOne_X5_advance rfl rfl rfl (by decide +kernel) ⟨Nat.le_of_ble_eq_true rfl, Nat.le_of_ble_eq_true rfl⟩) (fm_preV hc hw hS kl_32 sh_32 rfl) rfl rfl hl.1 rfl (lv_room (Nat.le_of_ble_eq_true rfl)) dX5_readOne_141 ⟨by decide +kernel, by decide +kernel⟩) hS hc (fun M11 H locs hr10 hw hS => ?_)
        obtain ⟨hI, hEM11, hr10⟩ := hr10
        have hE := hE.tr hEM11 (by decide)
        refine lv_aload_n hx hb dX5_readOne_144 rfl (lv_at hl 0 rfl) ?_
        refine lv_iload_n hx hb dX5_readOne_145 rfl (lv_at hl 1 rfl) ?_
        refine lv_iconst (v := 1) hx hb dX5_readOne_146 (by decide) ?_
        refine lv_iadd hx hb dX5_readOne_147 ?_
        refine lv_topi (fun y13 ey13 => ?_)
        obtain rfl : y13 = 2 := ey13.trans (by decide)
        refine fm_cv (va_runV (As := [.int 2]) (rest := []) ⟨hx, hb, hml, hown, hts⟩ (fc_X5_readChoice_2 l D ad C nb M11 hI) (cwV 1 hts gX5_readOne_X5_readChoice rfl rfl rfl (by decide +kernel) ⟨Nat.le_of_ble_eq_true rfl, Nat.le_of_ble_eq_true rfl⟩) (fm_preV hc hw hS kl_32 sh_32 rfl) rfl rfl hl.1 rfl (lv_room (Nat.le_of_ble_eq_true rfl)) dX5_readOne_148 ⟨by decide +kernel, by decide +kernel⟩) hS hc (fun M15 H locs hr14 hw hS => ?_)
        obtain ⟨hI, hEM15, hr14⟩ := hr14
        have hE := hE.tr hEM15 (by decide)
        refine lv_aload_n hx hb dX5_readOne_151 rfl (lv_at hl 0 rfl) ?_
        refine lv_bipush (v := 41) hx hb dX5_readOne_152 (by decide) ?_
        refine fm_cv (va_runV (As := [.int 41]) (rest := []) ⟨hx, hb, hml, hown, hts⟩ (fc_X5_need l D ad C nb M15 hI 41) (cwV 1 hts gX5_readOne_X5_need rfl rfl rfl (by decide +kernel) ⟨Nat.le_of_ble_eq_true rfl, Nat.le_of_ble_eq_true rfl⟩) (fm_preV hc hw hS kl_32 sh_32 rfl) rfl rfl hl.1 rfl (lv_room (Nat.le_of_ble_eq_true rfl)) dX5_readOne_154 ⟨by decide +kernel, by decide +kernel⟩) hS hc (fun M17 H locs hr16 hw hS => ?_)
        obtain ⟨hI, hEM17, hr16⟩ := hr16
        have hE := hE.tr hEM17 (by decide)
        refine lv_goto (tgt := 164) hx hb dX5_readOne_157 (by decide) ?_
        exact W.vret hx hb hr (fun t ht hW => ⟨⟨M17, rfl, ⟨hI, hE, trivial⟩, by show fm_at D ad C nb _ t.heap; rw [ht]; exact hw⟩, hS.F ht⟩) hS.2.2 dX5_readOne_164
      · refine fx_if_eq (tgt := 160) hx hb dX5_readOne_132 (by decide) zk_0 (fun c18 => ?_) (fun c18 => by exfalso; omega)
        exact j3 M_j2 hI hE _ _ hw hS ls (lv_sub hl [0, 1] rfl)
    refine lv_aload_n hx hb dX5_readOne_89 rfl (lv_at hl 0 rfl) ?_
    refine lv_bipush (v := 45) hx hb dX5_readOne_90 (by decide) ?_
    have zz19 := zk_45
    refine vp_callSi (va_Run.run (va_runV (As := [.int 45]) (rest := []) ⟨hx, hb, hml, hown, hts⟩ (fc_X5_sees l D ad C nb M_j1 hI 45) (cwV 1 hts gX5_readOne_X5_sees rfl rfl rfl (by decide +kernel) ⟨Nat.le_of_ble_eq_true rfl, Nat.le_of_ble_eq_true rfl⟩) (fm_preV hc hw hS kl_32 sh_32 rfl) rfl rfl hl.1 rfl (lv_room (Nat.le_of_ble_eq_true rfl)) dX5_readOne_92 ⟨by decide +kernel, by decide +kernel⟩)) (fun r20 hr20 => ?_)
    have bqq21 := hI.bd (k := 0) bd_32_6
    have bqq22 := hI.bd (k := 0) bd_32_7
    rcases hr20 with ⟨rfl, c23⟩ | ⟨rfl, c23⟩
    · refine fx_if_eq (tgt := 126) hx hb dX5_readOne_95 (by decide) zk_1 (fun c24 => by exfalso; omega) (fun c24 => ?_)
      refine lv_iload_n hx hb dX5_readOne_98 rfl (lv_at hl 1 rfl) ?_
      refine lv_iconst (v := 5) hx hb dX5_readOne_99 (by decide) ?_
      refine fx_icmp_ge (tgt := 126) hx hb dX5_readOne_100 (by decide) zk_1 zk_5 (fun c25 => by exfalso; omega) (fun c25 => ?_)
      refine lv_aload_n hx hb dX5_readOne_103 rfl (lv_at hl 0 rfl) ?_
      refine fm_cv (va_runV (As := []) (rest := []) ⟨hx, hb, hml, hown, hts⟩ (fc_X5_advance l D ad C nb M_j1 hI) (cwV 0 hts gX5_readOne_X5_advance rfl rfl rfl (by decide +kernel) ⟨Nat.le_of_ble_eq_true rfl, Nat.le_of_ble_eq_true rfl⟩) (fm_preV hc hw hS kl_32 sh_32 rfl) rfl rfl hl.1 rfl (lv_room (Nat.le_of_ble_eq_true rfl)) dX5_readOne_104 ⟨by decide +kernel, by decide +kernel⟩) hS hc (fun M27 H locs hr26 hw hS => ?_)
      obtain ⟨hI, hEM27, hr26⟩ := hr26
      have hE := hE.tr hEM27 (by decide)
      refine lv_aload_n hx hb dX5_readOne_107 rfl (lv_at hl 0 rfl) ?_
      refine lv_iload_n hx hb dX5_readOne_108 rfl (lv_at hl 1 rfl) ?_
      refine lv_iconst (v := 1) hx hb dX5_readOne_109 (by decide) ?_
      refine lv_iadd hx hb dX5_readOne_110 ?_
      refine lv_topi (fun y29 ey29 => ?_)
      obtain rfl : y29 = 2 := ey29.trans (by decide)
      refine fm_cv (va_runV (As := [.int 2]) (rest := []) ⟨hx, hb, hml, hown, hts⟩ (fc_X5_readOne_2 l D ad C nb M27 hI) (cwV 1 hts gX5_readOne_X5_readOne rfl rfl rfl (by decide +kernel) ⟨Nat.le_of_ble_eq_true rfl, Nat.le_of_ble_eq_true rfl⟩) (fm_preV hc hw hS kl_32 sh_32 rfl) rfl rfl hl.1 rfl (lv_room (Nat.le_of_ble_eq_true rfl)) dX5_readOne_111 ⟨by decide +kernel, by decide +kernel⟩) hS hc (fun M31 H locs hr30 hw hS => ?_)
      obtain ⟨hI, hEM31, hr30⟩ := hr30
      have hE := hE.tr hEM31 (by decide)
      refine lv_aload_n hx hb dX5_readOne_114 rfl (lv_at hl 0 rfl) ?_
      refine fm_getG (a := 32) (j := 5) (T := TX5) (N := 8) hx hb hts hinX5 hown hc hw kl_32 sh_32 rfl (by decide) rfl (hI.to kl_32 tg_32_5) (hts (.fieldLink RX5 27 "RedTent$Reader" "made" "LRedTent$Text;") (List.mem_cons_of_mem _ tw_1_203)) (fun _ h9 => h9) dX5_readOne_115 ?_
      refine lv_bipush (v := (-19)) hx hb dX5_readOne_118 (by decide) ?_
      refine fm_cv (va_runV (As := [.int (-19)]) (rest := []) ⟨hx, hb, hml, hown, hts⟩ (fc_X9_addStep l D ad C nb M31 hI (-19)) (cwV 1 hts gX5_readOne_X9_addStep rfl rfl rfl (by decide +kernel) ⟨Nat.le_of_ble_eq_true rfl, Nat.le_of_ble_eq_true rfl⟩) (fm_preV hc hw hS kl_36 sh_36 rfl) rfl rfl hl.1 rfl (lv_room (Nat.le_of_ble_eq_true rfl)) dX5_readOne_120 ⟨by decide +kernel, by decide +kernel⟩) hS hc (fun M33 H locs hr32 hw hS => ?_)
      obtain ⟨hI, hEM33, hr32⟩ := hr32
      have hE := hE.tr hEM33 (by decide)
      refine lv_goto (tgt := 164) hx hb dX5_readOne_123 (by decide) ?_
      exact W.vret hx hb hr (fun t ht hW => ⟨⟨M33, rfl, ⟨hI, hE, trivial⟩, by show fm_at D ad C nb _ t.heap; rw [ht]; exact hw⟩, hS.F ht⟩) hS.2.2 dX5_readOne_164
    · refine fx_if_eq (tgt := 126) hx hb dX5_readOne_95 (by decide) zk_0 (fun c34 => ?_) (fun c34 => by exfalso; omega)
      exact j2 M_j1 hI hE _ _ hw hS ls (lv_sub hl [0, 1] rfl)
  refine lv_aload_n hx hb dX5_readOne_0 rfl (lv_at hl 0 rfl) ?_
  refine lv_bipush (v := 12) hx hb dX5_readOne_1 (by decide) ?_
  have zz35 := zk_12
  refine vp_callSi (va_Run.run (va_runV (As := [.int 12]) (rest := []) ⟨hx, hb, hml, hown, hts⟩ (fc_X5_sees l D ad C nb M hI 12) (cwV 1 hts gX5_readOne_X5_sees rfl rfl rfl (by decide +kernel) ⟨Nat.le_of_ble_eq_true rfl, Nat.le_of_ble_eq_true rfl⟩) (fm_preV hc hw hS kl_32 sh_32 rfl) rfl rfl hl.1 rfl (lv_room (Nat.le_of_ble_eq_true rfl)) dX5_readOne_3 ⟨by decide +kernel, by decide +kernel⟩)) (fun r36 hr36 => ?_)
  have bqq37 := hI.bd (k := 0) bd_32_6
  have bqq38 := hI.bd (k := 0) bd_32_7
  rcases hr36 with ⟨rfl, c39⟩ | ⟨rfl, c39⟩
  · refine fx_if_eq (tgt := 32) hx hb dX5_readOne_6 (by decide) zk_1 (fun c40 => by exfalso; omega) (fun c40 => ?_)
    refine lv_aload_n hx hb dX5_readOne_9 rfl (lv_at hl 0 rfl) ?_
    refine fm_getG (a := 32) (j := 5) (T := TX5) (N := 8) hx hb hts hinX5 hown hc hw kl_32 sh_32 rfl (by decide) rfl (hI.to kl_32 tg_32_5) (hts (.fieldLink RX5 27 "RedTent$Reader" "made" "LRedTent$Text;") (List.mem_cons_of_mem _ tw_1_203)) (fun _ h9 => h9) dX5_readOne_10 ?_
    refine lv_aload_n hx hb dX5_readOne_13 rfl (lv_at hl 0 rfl) ?_
    refine fm_getG (a := 32) (j := 4) (T := TX5) (N := 8) hx hb hts hinX5 hown hc hw kl_32 sh_32 rfl (by decide) rfl (hI.to kl_32 tg_32_4) (hts (.fieldLink RX5 21 "RedTent$Reader" "numbers" "[I") (List.mem_cons_of_mem _ tw_1_202)) (fun _ h9 => h9) dX5_readOne_14 ?_
    refine lv_aload_n hx hb dX5_readOne_17 rfl (lv_at hl 0 rfl) ?_
    refine fm_getI (a := 32) (j := 6) (T := TX5) (N := 8) hx hb hts hinX5 hown hc hw hI kl_32 sh_32 rfl (by decide) rfl bd_32_6 (hts (.fieldLink RX5 47 "RedTent$Reader" "at" "I") (List.mem_cons_of_mem _ tw_1_205)) (fun _ h9 => h9) dX5_readOne_18 (fun x41 ex41 bx41 => ?_)
    refine fm_iald (a := 35) hx hb hc hw hI kl_35 sh_35 ty_35 bd_35 (by omega) dX5_readOne_21 (fun x42 ex42 bx42 => ?_)
    refine fm_cv (va_runV (As := [.int x42]) (rest := []) ⟨hx, hb, hml, hown, hts⟩ (fc_X9_addStep l D ad C nb M hI x42) (cwV 1 hts gX5_readOne_X9_addStep rfl rfl rfl (by decide +kernel) ⟨Nat.le_of_ble_eq_true rfl, Nat.le_of_ble_eq_true rfl⟩) (fm_preV hc hw hS kl_36 sh_36 rfl) rfl rfl hl.1 rfl (lv_room (Nat.le_of_ble_eq_true rfl)) dX5_readOne_22 ⟨by decide +kernel, by decide +kernel⟩) hS hc (fun M44 H locs hr43 hw hS => ?_)
    obtain ⟨hI, hEM44, hr43⟩ := hr43
    have hE := hE.tr hEM44 (by decide)
    refine lv_aload_n hx hb dX5_readOne_25 rfl (lv_at hl 0 rfl) ?_
    refine fm_cv (va_runV (As := []) (rest := []) ⟨hx, hb, hml, hown, hts⟩ (fc_X5_advance l D ad C nb M44 hI) (cwV 0 hts gX5_readOne_X5_advance rfl rfl rfl (by decide +kernel) ⟨Nat.le_of_ble_eq_true rfl, Nat.le_of_ble_eq_true rfl⟩) (fm_preV hc hw hS kl_32 sh_32 rfl) rfl rfl hl.1 rfl (lv_room (Nat.le_of_ble_eq_true rfl)) dX5_readOne_26 ⟨by decide +kernel, by decide +kernel⟩) hS hc (fun M46 H locs hr45 hw hS => ?_)
    obtain ⟨hI, hEM46, hr45⟩ := hr45
    have hE := hE.tr hEM46 (by decide)
    refine lv_goto (tgt := 164) hx hb dX5_readOne_29 (by decide) ?_
    exact W.vret hx hb hr (fun t ht hW => ⟨⟨M46, rfl, ⟨hI, hE, trivial⟩, by show fm_at D ad C nb _ t.heap; rw [ht]; exact hw⟩, hS.F ht⟩) hS.2.2 dX5_readOne_164
  · refine fx_if_eq (tgt := 32) hx hb dX5_readOne_6 (by decide) zk_0 (fun c47 => ?_) (fun c47 => by exfalso; omega)
    refine lv_aload_n hx hb dX5_readOne_32 rfl (lv_at hl 0 rfl) ?_
    refine fm_getI (a := 32) (j := 7) (T := TX5) (N := 8) hx hb hts hinX5 hown hc hw hI kl_32 sh_32 rfl (by decide) rfl bd_32_7 (hts (.fieldLink RX5 50 "RedTent$Reader" "fault" "I") (List.mem_cons_of_mem _ tw_1_206)) (fun _ h9 => h9) dX5_readOne_33 (fun x48 ex48 bx48 => ?_)
    refine fx_if_ge (tgt := 89) hx hb dX5_readOne_36 (by decide) rfl (fun c49 => ?_) (fun c49 => ?_)
    · exact j1 M hI hE _ _ hw hS ls (lv_sub hl [0, 1] rfl)
    · refine lv_aload_n hx hb dX5_readOne_39 rfl (lv_at hl 0 rfl) ?_
      refine fm_getG (a := 32) (j := 2) (T := TX5) (N := 8) hx hb hts hinX5 hown hc hw kl_32 sh_32 rfl (by decide) rfl (hI.to kl_32 tg_32_2) (hts (.fieldLink RX5 15 "RedTent$Reader" "tokens" "[I") (List.mem_cons_of_mem _ tw_1_200)) (fun _ h9 => h9) dX5_readOne_40 ?_
      refine lv_aload_n hx hb dX5_readOne_43 rfl (lv_at hl 0 rfl) ?_
      refine fm_getI (a := 32) (j := 6) (T := TX5) (N := 8) hx hb hts hinX5 hown hc hw hI kl_32 sh_32 rfl (by decide) rfl bd_32_6 (hts (.fieldLink RX5 47 "RedTent$Reader" "at" "I") (List.mem_cons_of_mem _ tw_1_205)) (fun _ h9 => h9) dX5_readOne_44 (fun x50 ex50 bx50 => ?_)
      refine fm_iald (a := 33) hx hb hc hw hI kl_33 sh_33 ty_33 bd_33 (by omega) dX5_readOne_47 (fun x51 ex51 bx51 => ?_)
      refine fx_if_le (tgt := 89) hx hb dX5_readOne_48 (by decide) rfl (fun c52 => ?_) (fun c52 => ?_)
      · exact j1 M hI hE _ _ hw hS ls (lv_sub hl [0, 1] rfl)
      · refine lv_aload_n hx hb dX5_readOne_51 rfl (lv_at hl 0 rfl) ?_
        refine fm_getG (a := 32) (j := 2) (T := TX5) (N := 8) hx hb hts hinX5 hown hc hw kl_32 sh_32 rfl (by decide) rfl (hI.to kl_32 tg_32_2) (hts (.fieldLink RX5 15 "RedTent$Reader" "tokens" "[I") (List.mem_cons_of_mem _ tw_1_200)) (fun _ h9 => h9) dX5_readOne_52 ?_
        refine lv_aload_n hx hb dX5_readOne_55 rfl (lv_at hl 0 rfl) ?_
        refine fm_getI (a := 32) (j := 6) (T := TX5) (N := 8) hx hb hts hinX5 hown hc hw hI kl_32 sh_32 rfl (by decide) rfl bd_32_6 (hts (.fieldLink RX5 47 "RedTent$Reader" "at" "I") (List.mem_cons_of_mem _ tw_1_205)) (fun _ h9 => h9) dX5_readOne_56 (fun x53 ex53 bx53 => ?_)
        obtain rfl : x50 = x53 := by rw [ex53]; exact ex50
        refine fm_iald (a := 33) hx hb hc hw hI kl_33 sh_33 ty_33 bd_33 (by omega) dX5_readOne_59 (fun x54 ex54 bx54 => ?_)
        obtain rfl : x51 = x54 := by rw [ex54]; exact ex51
        refine lv_bipush (v := 6) hx hb dX5_readOne_60 (by decide) ?_
        refine fx_icmp_gt (tgt := 89) hx hb dX5_readOne_62 (by decide) rfl zk_6 (fun c55 => ?_) (fun c55 => ?_)
        · exact j1 M hI hE _ _ hw hS ls (lv_sub hl [0, 1] rfl)
        · refine lv_aload_n hx hb dX5_readOne_65 rfl (lv_at hl 0 rfl) ?_
          refine fm_getG (a := 32) (j := 5) (T := TX5) (N := 8) hx hb hts hinX5 hown hc hw kl_32 sh_32 rfl (by decide) rfl (hI.to kl_32 tg_32_5) (hts (.fieldLink RX5 27 "RedTent$Reader" "made" "LRedTent$Text;") (List.mem_cons_of_mem _ tw_1_203)) (fun _ h9 => h9) dX5_readOne_66 ?_
          refine lv_aload_n hx hb dX5_readOne_69 rfl (lv_at hl 0 rfl) ?_
          refine fm_getG (a := 32) (j := 2) (T := TX5) (N := 8) hx hb hts hinX5 hown hc hw kl_32 sh_32 rfl (by decide) rfl (hI.to kl_32 tg_32_2) (hts (.fieldLink RX5 15 "RedTent$Reader" "tokens" "[I") (List.mem_cons_of_mem _ tw_1_200)) (fun _ h9 => h9) dX5_readOne_70 ?_
          refine lv_aload_n hx hb dX5_readOne_73 rfl (lv_at hl 0 rfl) ?_
          refine fm_getI (a := 32) (j := 6) (T := TX5) (N := 8) hx hb hts hinX5 hown hc hw hI kl_32 sh_32 rfl (by decide) rfl bd_32_6 (hts (.fieldLink RX5 47 "RedTent$Reader" "at" "I") (List.mem_cons_of_mem _ tw_1_205)) (fun _ h9 => h9) dX5_readOne_74 (fun x56 ex56 bx56 => ?_)
          obtain rfl : x50 = x56 := by rw [ex56]; exact ex50
          refine fm_iald (a := 33) hx hb hc hw hI kl_33 sh_33 ty_33 bd_33 (by omega) dX5_readOne_77 (fun x57 ex57 bx57 => ?_)
          obtain rfl : x51 = x57 := by rw [ex57]; exact ex51
          refine fx_ineg hx hb dX5_readOne_78 rfl (by omega) (fun y58 ey58 ty58 => ?_)
          refine fm_cv (va_runV (As := [.int y58]) (rest := []) ⟨hx, hb, hml, hown, hts⟩ (fc_X9_addStep l D ad C nb M hI y58) (cwV 1 hts gX5_readOne_X9_addStep rfl rfl rfl (by decide +kernel) ⟨Nat.le_of_ble_eq_true rfl, Nat.le_of_ble_eq_true rfl⟩) (fm_preV hc hw hS kl_36 sh_36 rfl) rfl rfl hl.1 rfl (lv_room (Nat.le_of_ble_eq_true rfl)) dX5_readOne_79 ⟨by decide +kernel, by decide +kernel⟩) hS hc (fun M60 H locs hr59 hw hS => ?_)
          obtain ⟨hI, hEM60, hr59⟩ := hr59
          have hE := hE.tr hEM60 (by decide)
          refine lv_aload_n hx hb dX5_readOne_82 rfl (lv_at hl 0 rfl) ?_
          refine fm_cv (va_runV (As := []) (rest := []) ⟨hx, hb, hml, hown, hts⟩ (fc_X5_advance l D ad C nb M60 hI) (cwV 0 hts gX5_readOne_X5_advance rfl rfl rfl (by decide +kernel) ⟨Nat.le_of_ble_eq_true rfl, Nat.le_of_ble_eq_true rfl⟩) (fm_preV hc hw hS kl_32 sh_32 rfl) rfl rfl hl.1 rfl (lv_room (Nat.le_of_ble_eq_true rfl)) dX5_readOne_83 ⟨by decide +kernel, by decide +kernel⟩) hS hc (fun M62 H locs hr61 hw hS => ?_)
          obtain ⟨hI, hEM62, hr61⟩ := hr61
          have hE := hE.tr hEM62 (by decide)
          refine lv_goto (tgt := 164) hx hb dX5_readOne_86 (by decide) ?_
          exact W.vret hx hb hr (fun t ht hW => ⟨⟨M62, rfl, ⟨hI, hE, trivial⟩, by show fm_at D ad C nb _ t.heap; rw [ht]; exact hw⟩, hS.F ht⟩) hS.2.2 dX5_readOne_164
set_option maxHeartbeats 400000 in
set_option maxRecDepth 20000 in
theorem fc_X5_readTerm_1 (l : Launch) (D : va_G) (ad : Nat → Nat → Nat) (C : Nat → Nat → ClassId) (nb : Nat) (M : fm_M) (hI : fm_I nb ad M) : Met l yX5_readTerm wsX5_readTerm ({ frames := 30, cells := 0, slots := 0, locals := 654 }) (va_Pc [.ref (ad 32 0), .int 1] (fm_P D ad C nb M)) (va_Qv (fun (u : fm_M) => fm_I nb ad u ∧ fm_same [32006, 32007, 36001, 37000] M u ∧ True) (fun u t => fm_at D ad C nb u t.heap) (fm_A nb ad)) 0 0 (fm_A nb ad) := by
  refine Met.ofW (cc := cX5_readTerm) (maxL := 3) (ret := none) (by decide) rfl ?_
  intro p e s m args below meth c s₁ B hml hv
  obtain ⟨rfl, hw, hc⟩ := hv
  have hx := B.exec
  have hb := B.bytes
  have hr := B.returns
  have hts := atoms_spec (ws := wsX5_readTerm) B.pre
  have hown : s.vm.findClass RX5 = some m.cls := findClass_of_methodNamed B.named
  have hinX5 : ∀ w ∈ u_ws RX5 TX5 8, w ∈ wsX5_readTerm := fun w h => List.mem_cons_of_mem _ (iT_X5 w h)
  have hS : va_S (fm_A nb ad) s.heap s.heap [] := va_S.rf
  have hE : fm_same [32006, 32007, 36001, 37000] M M := fm_same.rf
  have hl := lv_entry ([.ref (ad 32 0), .int 1]) (n := 3) (Nat.le_of_ble_eq_true rfl)
  rw [lg_entry_eq]
  generalize (lg_sl ([.ref (ad 32 0), .int 1]) ++ List.replicate (3 - (lg_sl ([.ref (ad 32 0), .int 1])).length) Slot.unset).toArray = ls at hl ⊢
  have hl : lv_has ls 3 [(0, .ref (ad 32 0)), (1, .int 1)] := hl
  refine lv_aload_n hx hb dX5_readTerm_0 rfl (lv_at hl 0 rfl) ?_
  refine lv_iload_n hx hb dX5_readTerm_1 rfl (lv_at hl 1 rfl) ?_
  refine fm_cv (va_runV (As := [.int 1]) (rest := []) ⟨hx, hb, hml, hown, hts⟩ (fc_X5_readOne_1 l D ad C nb M hI) (cwV 1 hts gX5_readTerm_X5_readOne rfl rfl rfl (by decide +kernel) ⟨Nat.le_of_ble_eq_true rfl, Nat.le_of_ble_eq_true rfl⟩) (fm_preV hc hw hS kl_32 sh_32 rfl) rfl rfl hl.1 rfl (lv_room (Nat.le_of_ble_eq_true rfl)) dX5_readTerm_2 ⟨by decide +kernel, by decide +kernel⟩) hS hc (fun M2 H locs hr1 hw hS => ?_)
  obtain ⟨hI, hEM2, hr1⟩ := hr1
  have hE := hE.tr hEM2 (by decide)
  refine lv_iconst (v := 0) hx hb dX5_readTerm_5 (by decide) ?_
  refine lv_istore_n (lv' := [(2, .int 0), (0, .ref (ad 32 0)), (1, .int 1)]) hx hb dX5_readTerm_6 rfl hl (by decide) rfl (fun ls hl => ?_)
  have lp : ∀ (n_lp : Nat) (lp_2 : Int32) (M_lp : fm_M), (160 - lp_2.toInt).toNat < n_lp → (0 ≤ lp_2.toInt ∧ lp_2.toInt ≤ 160) → fm_I nb ad M_lp → fm_same [32006, 32007, 36001, 37000] M M_lp → ∀ (H : Heap) (locs : List Loc), fm_at D ad C nb M_lp H → va_S (fm_A nb ad) s.heap H locs → ∀ (ls : Array Slot), lv_has ls 3 [(2, .int lp_2), (0, .ref (ad 32 0)), (1, .int 1)] → W p l e (headSpec wsX5_readTerm ({ frames := 30, cells := 0, slots := 0, locals := 654 })).room s m ([.ref (ad 32 0), .int 1] : List Value).toArray below meth c H locs 0 0 (MQ below (va_Qv (fun (u : fm_M) => fm_I nb ad u ∧ fm_same [32006, 32007, 36001, 37000] M u ∧ True) (fun u t => fm_at D ad C nb u t.heap) (fm_A nb ad)) ([.ref (ad 32 0), .int 1] : List Value).toArray s 0 0 (fm_A nb ad)) (F0 m 7 ls []) := by
    intro n_lp
    induction n_lp with
    | zero => intro lp_2 M_lp hm_lp b_lp_2 hI hE H locs hw hS ls hl; exact absurd hm_lp (Nat.not_lt_zero _)
    | succ n_lp ih_lp =>
      intro lp_2 M_lp hm_lp b_lp_2 hI hE H locs hw hS ls hl
      refine lv_iload_n hx hb dX5_readTerm_7 rfl (lv_at hl 0 rfl) ?_
      refine lv_sipush (v := 160) hx hb dX5_readTerm_8 (by decide) ?_
      refine fx_icmp_ge (tgt := 47) hx hb dX5_readTerm_11 (by decide) rfl zk_160 (fun c3 => ?_) (fun c3 => ?_)
      · exact W.vret hx hb hr (fun t ht hW => ⟨⟨M_lp, rfl, ⟨hI, hE, trivial⟩, by show fm_at D ad C nb _ t.heap; rw [ht]; exact hw⟩, hS.F ht⟩) hS.2.2 dX5_readTerm_47
      · refine lv_aload_n hx hb dX5_readTerm_14 rfl (lv_at hl 1 rfl) ?_
        refine lv_bipush (v := 42) hx hb dX5_readTerm_15 (by decide) ?_
        have zz4 := zk_42
        refine vp_callSi (va_Run.run (va_runV (As := [.int 42]) (rest := []) ⟨hx, hb, hml, hown, hts⟩ (fc_X5_sees l D ad C nb M_lp hI 42) (cwV 1 hts gX5_readTerm_X5_sees rfl rfl rfl (by decide +kernel) ⟨Nat.le_of_ble_eq_true rfl, Nat.le_of_ble_eq_true rfl⟩) (fm_preV hc hw hS kl_32 sh_32 rfl) rfl rfl hl.1 rfl (lv_room (Nat.le_of_ble_eq_true rfl)) dX5_readTerm_17 ⟨by decide +kernel, by decide +kernel⟩)) (fun r5 hr5 => ?_)
        have bqq6 := hI.bd (k := 0) bd_32_6
        have bqq7 := hI.bd (k := 0) bd_32_7
        rcases hr5 with ⟨rfl, c8⟩ | ⟨rfl, c8⟩
        · refine fx_if_eq (tgt := 47) hx hb dX5_readTerm_20 (by decide) zk_1 (fun c9 => by exfalso; omega) (fun c9 => ?_)
          refine lv_aload_n hx hb dX5_readTerm_23 rfl (lv_at hl 1 rfl) ?_
          refine fm_cv (va_runV (As := []) (rest := []) ⟨hx, hb, hml, hown, hts⟩ (fc_X5_advance l D ad C nb M_lp hI) (cwV 0 hts gX5_readTerm_X5_advance rfl rfl rfl (by decide +kernel) ⟨Nat.le_of_ble_eq_true rfl, Nat.le_of_ble_eq_true rfl⟩) (fm_preV hc hw hS kl_32 sh_32 rfl) rfl rfl hl.1 rfl (lv_room (Nat.le_of_ble_eq_true rfl)) dX5_readTerm_24 ⟨by decide +kernel, by decide +kernel⟩) hS hc (fun M11 H locs hr10 hw hS => ?_)
          obtain ⟨hI, hEM11, hr10⟩ := hr10
          have hE := hE.tr hEM11 (by decide)
          refine lv_aload_n hx hb dX5_readTerm_27 rfl (lv_at hl 1 rfl) ?_
          refine lv_iload_n hx hb dX5_readTerm_28 rfl (lv_at hl 2 rfl) ?_
          refine fm_cv (va_runV (As := [.int 1]) (rest := []) ⟨hx, hb, hml, hown, hts⟩ (fc_X5_readOne_1 l D ad C nb M11 hI) (cwV 1 hts gX5_readTerm_X5_readOne rfl rfl rfl (by decide +kernel) ⟨Nat.le_of_ble_eq_true rfl, Nat.le_of_ble_eq_true rfl⟩) (fm_preV hc hw hS kl_32 sh_32 rfl) rfl rfl hl.1 rfl (lv_room (Nat.le_of_ble_eq_true rfl)) dX5_readTerm_29 ⟨by decide +kernel, by decide +kernel⟩) hS hc (fun M13 H locs hr12 hw hS => ?_)
          obtain ⟨hI, hEM13, hr12⟩ := hr12
          have hE := hE.tr hEM13 (by decide)
          refine lv_aload_n hx hb dX5_readTerm_32 rfl (lv_at hl 1 rfl) ?_
          refine fm_getG (a := 32) (j := 5) (T := TX5) (N := 8) hx hb hts hinX5 hown hc hw kl_32 sh_32 rfl (by decide) rfl (hI.to kl_32 tg_32_5) (hts (.fieldLink RX5 27 "RedTent$Reader" "made" "LRedTent$Text;") (List.mem_cons_of_mem _ tw_1_203)) (fun _ h9 => h9) dX5_readTerm_33 ?_
          refine lv_bipush (v := (-18)) hx hb dX5_readTerm_36 (by decide) ?_
          refine fm_cv (va_runV (As := [.int (-18)]) (rest := []) ⟨hx, hb, hml, hown, hts⟩ (fc_X9_addStep l D ad C nb M13 hI (-18)) (cwV 1 hts gX5_readTerm_X9_addStep rfl rfl rfl (by decide +kernel) ⟨Nat.le_of_ble_eq_true rfl, Nat.le_of_ble_eq_true rfl⟩) (fm_preV hc hw hS kl_36 sh_36 rfl) rfl rfl hl.1 rfl (lv_room (Nat.le_of_ble_eq_true rfl)) dX5_readTerm_38 ⟨by decide +kernel, by decide +kernel⟩) hS hc (fun M15 H locs hr14 hw hS => ?_)
          obtain ⟨hI, hEM15, hr14⟩ := hr14
          have hE := hE.tr hEM15 (by decide)
          obtain ⟨y16, ey16⟩ : ∃ y : Int32, y = lp_2 + 1 := ⟨_, rfl⟩
          have ty16 : y16.toInt = lp_2.toInt + 1 := by rw [ey16, zi_add _ _ (by rw [zk_1]; omega) (by rw [zk_1]; omega), zk_1]
          refine lv_iinc (v := y16) (lv' := [(2, .int y16), (0, .ref (ad 32 0)), (1, .int 1)]) hx hb dX5_readTerm_41 hl (k := 0) rfl (by rw [ey16]; rfl) (by decide) rfl (fun ls hl => ?_)
          refine lv_goto (tgt := 7) hx hb dX5_readTerm_44 (by decide) ?_
          exact ih_lp y16 M15 (by omega) (by omega) hI hE _ _ hw hS ls (lv_sub hl [0, 1, 2] rfl)
        · refine fx_if_eq (tgt := 47) hx hb dX5_readTerm_20 (by decide) zk_0 (fun c17 => ?_) (fun c17 => by exfalso; omega)
          exact W.vret hx hb hr (fun t ht hW => ⟨⟨M_lp, rfl, ⟨hI, hE, trivial⟩, by show fm_at D ad C nb _ t.heap; rw [ht]; exact hw⟩, hS.F ht⟩) hS.2.2 dX5_readTerm_47
  exact lp _ 0 M2 (Nat.lt_succ_self _) (by decide) hI hE _ _ hw hS ls (lv_sub hl [0, 1, 2] rfl)
set_option maxHeartbeats 400000 in
set_option maxRecDepth 20000 in
theorem fc_X5_readSum_1 (l : Launch) (D : va_G) (ad : Nat → Nat → Nat) (C : Nat → Nat → ClassId) (nb : Nat) (M : fm_M) (hI : fm_I nb ad M) : Met l yX5_readSum wsX5_readSum ({ frames := 31, cells := 0, slots := 0, locals := 676 }) (va_Pc [.ref (ad 32 0), .int 1] (fm_P D ad C nb M)) (va_Qv (fun (u : fm_M) => fm_I nb ad u ∧ fm_same [32006, 32007, 36001, 37000] M u ∧ True) (fun u t => fm_at D ad C nb u t.heap) (fm_A nb ad)) 0 0 (fm_A nb ad) := by
  refine Met.ofW (cc := cX5_readSum) (maxL := 4) (ret := none) (by decide) rfl ?_
  intro p e s m args below meth c s₁ B hml hv
  obtain ⟨rfl, hw, hc⟩ := hv
  have hx := B.exec
  have hb := B.bytes
  have hr := B.returns
  have hts := atoms_spec (ws := wsX5_readSum) B.pre
  have hown : s.vm.findClass RX5 = some m.cls := findClass_of_methodNamed B.named
  have hinX5 : ∀ w ∈ u_ws RX5 TX5 8, w ∈ wsX5_readSum := fun w h => List.mem_cons_of_mem _ (iT_X5 w h)
  have hS : va_S (fm_A nb ad) s.heap s.heap [] := va_S.rf
  have hE : fm_same [32006, 32007, 36001, 37000] M M := fm_same.rf
  have hl := lv_entry ([.ref (ad 32 0), .int 1]) (n := 4) (Nat.le_of_ble_eq_true rfl)
  rw [lg_entry_eq]
  generalize (lg_sl ([.ref (ad 32 0), .int 1]) ++ List.replicate (4 - (lg_sl ([.ref (ad 32 0), .int 1])).length) Slot.unset).toArray = ls at hl ⊢
  have hl : lv_has ls 4 [(0, .ref (ad 32 0)), (1, .int 1)] := hl
  refine lv_aload_n hx hb dX5_readSum_0 rfl (lv_at hl 0 rfl) ?_
  refine lv_iload_n hx hb dX5_readSum_1 rfl (lv_at hl 1 rfl) ?_
  refine fm_cv (va_runV (As := [.int 1]) (rest := []) ⟨hx, hb, hml, hown, hts⟩ (fc_X5_readTerm_1 l D ad C nb M hI) (cwV 1 hts gX5_readSum_X5_readTerm rfl rfl rfl (by decide +kernel) ⟨Nat.le_of_ble_eq_true rfl, Nat.le_of_ble_eq_true rfl⟩) (fm_preV hc hw hS kl_32 sh_32 rfl) rfl rfl hl.1 rfl (lv_room (Nat.le_of_ble_eq_true rfl)) dX5_readSum_2 ⟨by decide +kernel, by decide +kernel⟩) hS hc (fun M2 H locs hr1 hw hS => ?_)
  obtain ⟨hI, hEM2, hr1⟩ := hr1
  have hE := hE.tr hEM2 (by decide)
  refine lv_iconst (v := 0) hx hb dX5_readSum_5 (by decide) ?_
  refine lv_istore_n (lv' := [(2, .int 0), (0, .ref (ad 32 0)), (1, .int 1)]) hx hb dX5_readSum_6 rfl hl (by decide) rfl (fun ls hl => ?_)
  have lp : ∀ (n_lp : Nat) (lp_2 : Int32) (M_lp : fm_M), (160 - lp_2.toInt).toNat < n_lp → (0 ≤ lp_2.toInt ∧ lp_2.toInt ≤ 160) → fm_I nb ad M_lp → fm_same [32006, 32007, 36001, 37000] M M_lp → ∀ (H : Heap) (locs : List Loc), fm_at D ad C nb M_lp H → va_S (fm_A nb ad) s.heap H locs → ∀ (ls : Array Slot), lv_has ls 4 [(2, .int lp_2), (0, .ref (ad 32 0)), (1, .int 1)] → W p l e (headSpec wsX5_readSum ({ frames := 31, cells := 0, slots := 0, locals := 676 })).room s m ([.ref (ad 32 0), .int 1] : List Value).toArray below meth c H locs 0 0 (MQ below (va_Qv (fun (u : fm_M) => fm_I nb ad u ∧ fm_same [32006, 32007, 36001, 37000] M u ∧ True) (fun u t => fm_at D ad C nb u t.heap) (fm_A nb ad)) ([.ref (ad 32 0), .int 1] : List Value).toArray s 0 0 (fm_A nb ad)) (F0 m 7 ls []) := by
    intro n_lp
    induction n_lp with
    | zero => intro lp_2 M_lp hm_lp b_lp_2 hI hE H locs hw hS ls hl; exact absurd hm_lp (Nat.not_lt_zero _)
    | succ n_lp ih_lp =>
      intro lp_2 M_lp hm_lp b_lp_2 hI hE H locs hw hS ls hl
      refine lv_iload_n hx hb dX5_readSum_7 rfl (lv_at hl 0 rfl) ?_
      refine lv_sipush (v := 160) hx hb dX5_readSum_8 (by decide) ?_
      refine fx_icmp_ge (tgt := 72) hx hb dX5_readSum_11 (by decide) rfl zk_160 (fun c3 => ?_) (fun c3 => ?_)
      · exact W.vret hx hb hr (fun t ht hW => ⟨⟨M_lp, rfl, ⟨hI, hE, trivial⟩, by show fm_at D ad C nb _ t.heap; rw [ht]; exact hw⟩, hS.F ht⟩) hS.2.2 dX5_readSum_72
      · have j1 : ∀  (M_j1 : fm_M), fm_I nb ad M_j1 → fm_same [32006, 32007, 36001, 37000] M M_j1 → ∀ (H : Heap) (locs : List Loc), fm_at D ad C nb M_j1 H → va_S (fm_A nb ad) s.heap H locs → ∀ (ls : Array Slot), lv_has ls 4 [(2, .int lp_2), (0, .ref (ad 32 0)), (1, .int 1)] → W p l e (headSpec wsX5_readSum ({ frames := 31, cells := 0, slots := 0, locals := 676 })).room s m ([.ref (ad 32 0), .int 1] : List Value).toArray below meth c H locs 0 0 (MQ below (va_Qv (fun (u : fm_M) => fm_I nb ad u ∧ fm_same [32006, 32007, 36001, 37000] M u ∧ True) (fun u t => fm_at D ad C nb u t.heap) (fm_A nb ad)) ([.ref (ad 32 0), .int 1] : List Value).toArray s 0 0 (fm_A nb ad)) (F0 m 32 ls []) := by
          intro  M_j1 hI hE H locs hw hS ls hl
          have j2 : ∀ (j2_3 : Int32) (M_j2 : fm_M), ((-17) ≤ j2_3.toInt ∧ j2_3.toInt ≤ (-16)) → fm_I nb ad M_j2 → fm_same [32006, 32007, 36001, 37000] M M_j2 → ∀ (H : Heap) (locs : List Loc), fm_at D ad C nb M_j2 H → va_S (fm_A nb ad) s.heap H locs → ∀ (ls : Array Slot), lv_has ls 4 [(2, .int lp_2), (0, .ref (ad 32 0)), (1, .int 1), (3, .int j2_3)] → W p l e (headSpec wsX5_readSum ({ frames := 31, cells := 0, slots := 0, locals := 676 })).room s m ([.ref (ad 32 0), .int 1] : List Value).toArray below meth c H locs 0 0 (MQ below (va_Qv (fun (u : fm_M) => fm_I nb ad u ∧ fm_same [32006, 32007, 36001, 37000] M u ∧ True) (fun u t => fm_at D ad C nb u t.heap) (fm_A nb ad)) ([.ref (ad 32 0), .int 1] : List Value).toArray s 0 0 (fm_A nb ad)) (F0 m 49 ls []) := by
            intro j2_3 M_j2 b_j2_3 hI hE H locs hw hS ls hl
            refine lv_aload_n hx hb dX5_readSum_49 rfl (lv_at hl 1 rfl) ?_
            refine fm_cv (va_runV (As := []) (rest := []) ⟨hx, hb, hml, hown, hts⟩ (fc_X5_advance l D ad C nb M_j2 hI) (cwV 0 hts gX5_readSum_X5_advance rfl rfl rfl (by decide +kernel) ⟨Nat.le_of_ble_eq_true rfl, Nat.le_of_ble_eq_true rfl⟩) (fm_preV hc hw hS kl_32 sh_32 rfl) rfl rfl hl.1 rfl (lv_room (Nat.le_of_ble_eq_true rfl)) dX5_readSum_50 ⟨by decide +kernel, by decide +kernel⟩) hS hc (fun M5 H locs hr4 hw hS => ?_)
            obtain ⟨hI, hEM5, hr4⟩ := hr4
            have hE := hE.tr hEM5 (by decide)
            refine lv_aload_n hx hb dX5_readSum_53 rfl (lv_at hl 1 rfl) ?_
            refine lv_iload_n hx hb dX5_readSum_54 rfl (lv_at hl 2 rfl) ?_
            refine fm_cv (va_runV (As := [.int 1]) (rest := []) ⟨hx, hb, hml, hown, hts⟩ (fc_X5_readTerm_1 l D ad C nb M5 hI) (cwV 1 hts gX5_readSum_X5_readTerm rfl rfl rfl (by decide +kernel) ⟨Nat.le_of_ble_eq_true rfl, Nat.le_of_ble_eq_true rfl⟩) (fm_preV hc hw hS kl_32 sh_32 rfl) rfl rfl hl.1 rfl (lv_room (Nat.le_of_ble_eq_true rfl)) dX5_readSum_55 ⟨by decide +kernel, by decide +kernel⟩) hS hc (fun M7 H locs hr6 hw hS => ?_)
            obtain ⟨hI, hEM7, hr6⟩ := hr6
            have hE := hE.tr hEM7 (by decide)
            refine lv_aload_n hx hb dX5_readSum_58 rfl (lv_at hl 1 rfl) ?_
            refine fm_getG (a := 32) (j := 5) (T := TX5) (N := 8) hx hb hts hinX5 hown hc hw kl_32 sh_32 rfl (by decide) rfl (hI.to kl_32 tg_32_5) (hts (.fieldLink RX5 27 "RedTent$Reader" "made" "LRedTent$Text;") (List.mem_cons_of_mem _ tw_1_203)) (fun _ h9 => h9) dX5_readSum_59 ?_
            refine lv_iload_n hx hb dX5_readSum_62 rfl (lv_at hl 3 rfl) ?_
            refine fm_cv (va_runV (As := [.int j2_3]) (rest := []) ⟨hx, hb, hml, hown, hts⟩ (fc_X9_addStep l D ad C nb M7 hI j2_3) (cwV 1 hts gX5_readSum_X9_addStep rfl rfl rfl (by decide +kernel) ⟨Nat.le_of_ble_eq_true rfl, Nat.le_of_ble_eq_true rfl⟩) (fm_preV hc hw hS kl_36 sh_36 rfl) rfl rfl hl.1 rfl (lv_room (Nat.le_of_ble_eq_true rfl)) dX5_readSum_63 ⟨by decide +kernel, by decide +kernel⟩) hS hc (fun M9 H locs hr8 hw hS => ?_)
            obtain ⟨hI, hEM9, hr8⟩ := hr8
            have hE := hE.tr hEM9 (by decide)
            obtain ⟨y10, ey10⟩ : ∃ y : Int32, y = lp_2 + 1 := ⟨_, rfl⟩
            have ty10 : y10.toInt = lp_2.toInt + 1 := by rw [ey10, zi_add _ _ (by rw [zk_1]; omega) (by rw [zk_1]; omega), zk_1]
            refine lv_iinc (v := y10) (lv' := [(2, .int y10), (0, .ref (ad 32 0)), (1, .int 1), (3, .int j2_3)]) hx hb dX5_readSum_66 hl (k := 0) rfl (by rw [ey10]; rfl) (by decide) rfl (fun ls hl => ?_)
            refine lv_goto (tgt := 7) hx hb dX5_readSum_69 (by decide) ?_
            exact ih_lp y10 M9 (by omega) (by omega) hI hE _ _ hw hS ls (lv_sub hl [0, 1, 2] rfl)
          refine lv_aload_n hx hb dX5_readSum_32 rfl (lv_at hl 1 rfl) ?_
          refine lv_bipush (v := 43) hx hb dX5_readSum_33 (by decide) ?_
          have zz11 := zk_43
          refine vp_callSi (va_Run.run (va_runV (As := [.int 43]) (rest := []) ⟨hx, hb, hml, hown, hts⟩ (fc_X5_sees l D ad C nb M_j1 hI 43) (cwV 1 hts gX5_readSum_X5_sees rfl rfl rfl (by decide +kernel) ⟨Nat.le_of_ble_eq_true rfl, Nat.le_of_ble_eq_true rfl⟩) (fm_preV hc hw hS kl_32 sh_32 rfl) rfl rfl hl.1 rfl (lv_room (Nat.le_of_ble_eq_true rfl)) dX5_readSum_35 ⟨by decide +kernel, by decide +kernel⟩)) (fun r12 hr12 => ?_)
          have bqq13 := hI.bd (k := 0) bd_32_6
          have bqq14 := hI.bd (k := 0) bd_32_7
          rcases hr12 with ⟨rfl, c15⟩ | ⟨rfl, c15⟩
          · refine fx_if_eq (tgt := 46) hx hb dX5_readSum_38 (by decide) zk_1 (fun c16 => by exfalso; omega) (fun c16 => ?_)
            refine lv_bipush (v := (-16)) hx hb dX5_readSum_41 (by decide) ?_
            refine lv_goto (tgt := 48) hx hb dX5_readSum_43 (by decide) ?_
            refine lv_istore_n (lv' := [(3, .int (-16)), (2, .int lp_2), (0, .ref (ad 32 0)), (1, .int 1)]) hx hb dX5_readSum_48 rfl hl (by decide) rfl (fun ls hl => ?_)
            exact j2 (-16) M_j1 (by decide) hI hE _ _ hw hS ls (lv_sub hl [1, 2, 3, 0] rfl)
          · refine fx_if_eq (tgt := 46) hx hb dX5_readSum_38 (by decide) zk_0 (fun c17 => ?_) (fun c17 => by exfalso; omega)
            refine lv_bipush (v := (-17)) hx hb dX5_readSum_46 (by decide) ?_
            refine lv_istore_n (lv' := [(3, .int (-17)), (2, .int lp_2), (0, .ref (ad 32 0)), (1, .int 1)]) hx hb dX5_readSum_48 rfl hl (by decide) rfl (fun ls hl => ?_)
            exact j2 (-17) M_j1 (by decide) hI hE _ _ hw hS ls (lv_sub hl [1, 2, 3, 0] rfl)
        refine lv_aload_n hx hb dX5_readSum_14 rfl (lv_at hl 1 rfl) ?_
        refine lv_bipush (v := 43) hx hb dX5_readSum_15 (by decide) ?_
        have zz18 := zk_43
        refine vp_callSi (va_Run.run (va_runV (As := [.int 43]) (rest := []) ⟨hx, hb, hml, hown, hts⟩ (fc_X5_sees l D ad C nb M_lp hI 43) (cwV 1 hts gX5_readSum_X5_sees rfl rfl rfl (by decide +kernel) ⟨Nat.le_of_ble_eq_true rfl, Nat.le_of_ble_eq_true rfl⟩) (fm_preV hc hw hS kl_32 sh_32 rfl) rfl rfl hl.1 rfl (lv_room (Nat.le_of_ble_eq_true rfl)) dX5_readSum_17 ⟨by decide +kernel, by decide +kernel⟩)) (fun r19 hr19 => ?_)
        have bqq20 := hI.bd (k := 0) bd_32_6
        have bqq21 := hI.bd (k := 0) bd_32_7
        rcases hr19 with ⟨rfl, c22⟩ | ⟨rfl, c22⟩
        · refine fx_if_ne (tgt := 32) hx hb dX5_readSum_20 (by decide) zk_1 (fun c23 => ?_) (fun c23 => by exfalso; omega)
          exact j1 M_lp hI hE _ _ hw hS ls (lv_sub hl [0, 1, 2] rfl)
        · refine fx_if_ne (tgt := 32) hx hb dX5_readSum_20 (by decide) zk_0 (fun c24 => by exfalso; omega) (fun c24 => ?_)
          refine lv_aload_n hx hb dX5_readSum_23 rfl (lv_at hl 1 rfl) ?_
          refine lv_bipush (v := 45) hx hb dX5_readSum_24 (by decide) ?_
          have zz25 := zk_45
          refine vp_callSi (va_Run.run (va_runV (As := [.int 45]) (rest := []) ⟨hx, hb, hml, hown, hts⟩ (fc_X5_sees l D ad C nb M_lp hI 45) (cwV 1 hts gX5_readSum_X5_sees rfl rfl rfl (by decide +kernel) ⟨Nat.le_of_ble_eq_true rfl, Nat.le_of_ble_eq_true rfl⟩) (fm_preV hc hw hS kl_32 sh_32 rfl) rfl rfl hl.1 rfl (lv_room (Nat.le_of_ble_eq_true rfl)) dX5_readSum_26 ⟨by decide +kernel, by decide +kernel⟩)) (fun r26 hr26 => ?_)
          have bqq27 := hI.bd (k := 0) bd_32_6
          have bqq28 := hI.bd (k := 0) bd_32_7
          rcases hr26 with ⟨rfl, c29⟩ | ⟨rfl, c29⟩
          · refine fx_if_eq (tgt := 72) hx hb dX5_readSum_29 (by decide) zk_1 (fun c30 => by exfalso; omega) (fun c30 => ?_)
            exact j1 M_lp hI hE _ _ hw hS ls (lv_sub hl [0, 1, 2] rfl)
          · refine fx_if_eq (tgt := 72) hx hb dX5_readSum_29 (by decide) zk_0 (fun c31 => ?_) (fun c31 => by exfalso; omega)
            exact W.vret hx hb hr (fun t ht hW => ⟨⟨M_lp, rfl, ⟨hI, hE, trivial⟩, by show fm_at D ad C nb _ t.heap; rw [ht]; exact hw⟩, hS.F ht⟩) hS.2.2 dX5_readSum_72
  exact lp _ 0 M2 (Nat.lt_succ_self _) (by decide) hI hE _ _ hw hS ls (lv_sub hl [0, 1, 2] rfl)
set_option maxHeartbeats 400000 in
set_option maxRecDepth 20000 in
theorem fc_X5_readCompared_1 (l : Launch) (D : va_G) (ad : Nat → Nat → Nat) (C : Nat → Nat → ClassId) (nb : Nat) (M : fm_M) (hI : fm_I nb ad M) : Met l yX5_readCompared wsX5_readCompared ({ frames := 32, cells := 0, slots := 0, locals := 699 }) (va_Pc [.ref (ad 32 0), .int 1] (fm_P D ad C nb M)) (va_Qv (fun (u : fm_M) => fm_I nb ad u ∧ fm_same [32006, 32007, 36001, 37000] M u ∧ True) (fun u t => fm_at D ad C nb u t.heap) (fm_A nb ad)) 0 0 (fm_A nb ad) := by
  refine Met.ofW (cc := cX5_readCompared) (maxL := 3) (ret := none) (by decide) rfl ?_
  intro p e s m args below meth c s₁ B hml hv
  obtain ⟨rfl, hw, hc⟩ := hv
  have hx := B.exec
  have hb := B.bytes
  have hr := B.returns
  have hts := atoms_spec (ws := wsX5_readCompared) B.pre
  have hown : s.vm.findClass RX5 = some m.cls := findClass_of_methodNamed B.named
  have hinX5 : ∀ w ∈ u_ws RX5 TX5 8, w ∈ wsX5_readCompared := fun w h => List.mem_cons_of_mem _ (iT_X5 w h)
  have hS : va_S (fm_A nb ad) s.heap s.heap [] := va_S.rf
  have hE : fm_same [32006, 32007, 36001, 37000] M M := fm_same.rf
  have hl := lv_entry ([.ref (ad 32 0), .int 1]) (n := 3) (Nat.le_of_ble_eq_true rfl)
  rw [lg_entry_eq]
  generalize (lg_sl ([.ref (ad 32 0), .int 1]) ++ List.replicate (3 - (lg_sl ([.ref (ad 32 0), .int 1])).length) Slot.unset).toArray = ls at hl ⊢
  have hl : lv_has ls 3 [(0, .ref (ad 32 0)), (1, .int 1)] := hl
  refine lv_aload_n hx hb dX5_readCompared_0 rfl (lv_at hl 0 rfl) ?_
  refine lv_iload_n hx hb dX5_readCompared_1 rfl (lv_at hl 1 rfl) ?_
  refine fm_cv (va_runV (As := [.int 1]) (rest := []) ⟨hx, hb, hml, hown, hts⟩ (fc_X5_readSum_1 l D ad C nb M hI) (cwV 1 hts gX5_readCompared_X5_readSum rfl rfl rfl (by decide +kernel) ⟨Nat.le_of_ble_eq_true rfl, Nat.le_of_ble_eq_true rfl⟩) (fm_preV hc hw hS kl_32 sh_32 rfl) rfl rfl hl.1 rfl (lv_room (Nat.le_of_ble_eq_true rfl)) dX5_readCompared_2 ⟨by decide +kernel, by decide +kernel⟩) hS hc (fun M2 H locs hr1 hw hS => ?_)
  obtain ⟨hI, hEM2, hr1⟩ := hr1
  have hE := hE.tr hEM2 (by decide)
  have j1 : ∀  (M_j1 : fm_M), fm_I nb ad M_j1 → fm_same [32006, 32007, 36001, 37000] M M_j1 → ∀ (H : Heap) (locs : List Loc), fm_at D ad C nb M_j1 H → va_S (fm_A nb ad) s.heap H locs → ∀ (ls : Array Slot), lv_has ls 3 [(0, .ref (ad 32 0)), (1, .int 1)] → W p l e (headSpec wsX5_readCompared ({ frames := 32, cells := 0, slots := 0, locals := 699 })).room s m ([.ref (ad 32 0), .int 1] : List Value).toArray below meth c H locs 0 0 (MQ below (va_Qv (fun (u : fm_M) => fm_I nb ad u ∧ fm_same [32006, 32007, 36001, 37000] M u ∧ True) (fun u t => fm_at D ad C nb u t.heap) (fm_A nb ad)) ([.ref (ad 32 0), .int 1] : List Value).toArray s 0 0 (fm_A nb ad)) (F0 m 23 ls []) := by
    intro  M_j1 hI hE H locs hw hS ls hl
    have j2 : ∀ (j2_2 : Int32) (M_j2 : fm_M), ((-15) ≤ j2_2.toInt ∧ j2_2.toInt ≤ (-14)) → fm_I nb ad M_j2 → fm_same [32006, 32007, 36001, 37000] M M_j2 → ∀ (H : Heap) (locs : List Loc), fm_at D ad C nb M_j2 H → va_S (fm_A nb ad) s.heap H locs → ∀ (ls : Array Slot), lv_has ls 3 [(0, .ref (ad 32 0)), (1, .int 1), (2, .int j2_2)] → W p l e (headSpec wsX5_readCompared ({ frames := 32, cells := 0, slots := 0, locals := 699 })).room s m ([.ref (ad 32 0), .int 1] : List Value).toArray below meth c H locs 0 0 (MQ below (va_Qv (fun (u : fm_M) => fm_I nb ad u ∧ fm_same [32006, 32007, 36001, 37000] M u ∧ True) (fun u t => fm_at D ad C nb u t.heap) (fm_A nb ad)) ([.ref (ad 32 0), .int 1] : List Value).toArray s 0 0 (fm_A nb ad)) (F0 m 40 ls []) := by
      intro j2_2 M_j2 b_j2_2 hI hE H locs hw hS ls hl
      refine lv_aload_n hx hb dX5_readCompared_40 rfl (lv_at hl 0 rfl) ?_
      refine fm_cv (va_runV (As := []) (rest := []) ⟨hx, hb, hml, hown, hts⟩ (fc_X5_advance l D ad C nb M_j2 hI) (cwV 0 hts gX5_readCompared_X5_advance rfl rfl rfl (by decide +kernel) ⟨Nat.le_of_ble_eq_true rfl, Nat.le_of_ble_eq_true rfl⟩) (fm_preV hc hw hS kl_32 sh_32 rfl) rfl rfl hl.1 rfl (lv_room (Nat.le_of_ble_eq_true rfl)) dX5_readCompared_41 ⟨by decide +kernel, by decide +kernel⟩) hS hc (fun M4 H locs hr3 hw hS => ?_)
      obtain ⟨hI, hEM4, hr3⟩ := hr3
      have hE := hE.tr hEM4 (by decide)
      refine lv_aload_n hx hb dX5_readCompared_44 rfl (lv_at hl 0 rfl) ?_
      refine lv_iload_n hx hb dX5_readCompared_45 rfl (lv_at hl 1 rfl) ?_
      refine fm_cv (va_runV (As := [.int 1]) (rest := []) ⟨hx, hb, hml, hown, hts⟩ (fc_X5_readSum_1 l D ad C nb M4 hI) (cwV 1 hts gX5_readCompared_X5_readSum rfl rfl rfl (by decide +kernel) ⟨Nat.le_of_ble_eq_true rfl, Nat.le_of_ble_eq_true rfl⟩) (fm_preV hc hw hS kl_32 sh_32 rfl) rfl rfl hl.1 rfl (lv_room (Nat.le_of_ble_eq_true rfl)) dX5_readCompared_46 ⟨by decide +kernel, by decide +kernel⟩) hS hc (fun M6 H locs hr5 hw hS => ?_)
      obtain ⟨hI, hEM6, hr5⟩ := hr5
      have hE := hE.tr hEM6 (by decide)
      refine lv_aload_n hx hb dX5_readCompared_49 rfl (lv_at hl 0 rfl) ?_
      refine fm_getG (a := 32) (j := 5) (T := TX5) (N := 8) hx hb hts hinX5 hown hc hw kl_32 sh_32 rfl (by decide) rfl (hI.to kl_32 tg_32_5) (hts (.fieldLink RX5 27 "RedTent$Reader" "made" "LRedTent$Text;") (List.mem_cons_of_mem _ tw_1_203)) (fun _ h9 => h9) dX5_readCompared_50 ?_
      refine lv_iload_n hx hb dX5_readCompared_53 rfl (lv_at hl 2 rfl) ?_
      refine fm_cv (va_runV (As := [.int j2_2]) (rest := []) ⟨hx, hb, hml, hown, hts⟩ (fc_X9_addStep l D ad C nb M6 hI j2_2) (cwV 1 hts gX5_readCompared_X9_addStep rfl rfl rfl (by decide +kernel) ⟨Nat.le_of_ble_eq_true rfl, Nat.le_of_ble_eq_true rfl⟩) (fm_preV hc hw hS kl_36 sh_36 rfl) rfl rfl hl.1 rfl (lv_room (Nat.le_of_ble_eq_true rfl)) dX5_readCompared_54 ⟨by decide +kernel, by decide +kernel⟩) hS hc (fun M8 H locs hr7 hw hS => ?_)
      obtain ⟨hI, hEM8, hr7⟩ := hr7
      have hE := hE.tr hEM8 (by decide)
      exact W.vret hx hb hr (fun t ht hW => ⟨⟨M8, rfl, ⟨hI, hE, trivial⟩, by show fm_at D ad C nb _ t.heap; rw [ht]; exact hw⟩, hS.F ht⟩) hS.2.2 dX5_readCompared_57
    refine lv_aload_n hx hb dX5_readCompared_23 rfl (lv_at hl 0 rfl) ?_
    refine lv_bipush (v := 60) hx hb dX5_readCompared_24 (by decide) ?_
    have zz9 := zk_60
    refine vp_callSi (va_Run.run (va_runV (As := [.int 60]) (rest := []) ⟨hx, hb, hml, hown, hts⟩ (fc_X5_sees l D ad C nb M_j1 hI 60) (cwV 1 hts gX5_readCompared_X5_sees rfl rfl rfl (by decide +kernel) ⟨Nat.le_of_ble_eq_true rfl, Nat.le_of_ble_eq_true rfl⟩) (fm_preV hc hw hS kl_32 sh_32 rfl) rfl rfl hl.1 rfl (lv_room (Nat.le_of_ble_eq_true rfl)) dX5_readCompared_26 ⟨by decide +kernel, by decide +kernel⟩)) (fun r10 hr10 => ?_)
    have bqq11 := hI.bd (k := 0) bd_32_6
    have bqq12 := hI.bd (k := 0) bd_32_7
    rcases hr10 with ⟨rfl, c13⟩ | ⟨rfl, c13⟩
    · refine fx_if_eq (tgt := 37) hx hb dX5_readCompared_29 (by decide) zk_1 (fun c14 => by exfalso; omega) (fun c14 => ?_)
      refine lv_bipush (v := (-14)) hx hb dX5_readCompared_32 (by decide) ?_
      refine lv_goto (tgt := 39) hx hb dX5_readCompared_34 (by decide) ?_
      refine lv_istore_n (lv' := [(2, .int (-14)), (0, .ref (ad 32 0)), (1, .int 1)]) hx hb dX5_readCompared_39 rfl hl (by decide) rfl (fun ls hl => ?_)
      exact j2 (-14) M_j1 (by decide) hI hE _ _ hw hS ls (lv_sub hl [1, 2, 0] rfl)
    · refine fx_if_eq (tgt := 37) hx hb dX5_readCompared_29 (by decide) zk_0 (fun c15 => ?_) (fun c15 => by exfalso; omega)
      refine lv_bipush (v := (-15)) hx hb dX5_readCompared_37 (by decide) ?_
      refine lv_istore_n (lv' := [(2, .int (-15)), (0, .ref (ad 32 0)), (1, .int 1)]) hx hb dX5_readCompared_39 rfl hl (by decide) rfl (fun ls hl => ?_)
      exact j2 (-15) M_j1 (by decide) hI hE _ _ hw hS ls (lv_sub hl [1, 2, 0] rfl)
  refine lv_aload_n hx hb dX5_readCompared_5 rfl (lv_at hl 0 rfl) ?_
  refine lv_bipush (v := 60) hx hb dX5_readCompared_6 (by decide) ?_
  have zz16 := zk_60
  refine vp_callSi (va_Run.run (va_runV (As := [.int 60]) (rest := []) ⟨hx, hb, hml, hown, hts⟩ (fc_X5_sees l D ad C nb M2 hI 60) (cwV 1 hts gX5_readCompared_X5_sees rfl rfl rfl (by decide +kernel) ⟨Nat.le_of_ble_eq_true rfl, Nat.le_of_ble_eq_true rfl⟩) (fm_preV hc hw hS kl_32 sh_32 rfl) rfl rfl hl.1 rfl (lv_room (Nat.le_of_ble_eq_true rfl)) dX5_readCompared_8 ⟨by decide +kernel, by decide +kernel⟩)) (fun r17 hr17 => ?_)
  have bqq18 := hI.bd (k := 0) bd_32_6
  have bqq19 := hI.bd (k := 0) bd_32_7
  rcases hr17 with ⟨rfl, c20⟩ | ⟨rfl, c20⟩
  · refine fx_if_ne (tgt := 23) hx hb dX5_readCompared_11 (by decide) zk_1 (fun c21 => ?_) (fun c21 => by exfalso; omega)
    exact j1 M2 hI hE _ _ hw hS ls (lv_sub hl [0, 1] rfl)
  · refine fx_if_ne (tgt := 23) hx hb dX5_readCompared_11 (by decide) zk_0 (fun c22 => by exfalso; omega) (fun c22 => ?_)
    refine lv_aload_n hx hb dX5_readCompared_14 rfl (lv_at hl 0 rfl) ?_
    refine lv_bipush (v := 61) hx hb dX5_readCompared_15 (by decide) ?_
    have zz23 := zk_61
    refine vp_callSi (va_Run.run (va_runV (As := [.int 61]) (rest := []) ⟨hx, hb, hml, hown, hts⟩ (fc_X5_sees l D ad C nb M2 hI 61) (cwV 1 hts gX5_readCompared_X5_sees rfl rfl rfl (by decide +kernel) ⟨Nat.le_of_ble_eq_true rfl, Nat.le_of_ble_eq_true rfl⟩) (fm_preV hc hw hS kl_32 sh_32 rfl) rfl rfl hl.1 rfl (lv_room (Nat.le_of_ble_eq_true rfl)) dX5_readCompared_17 ⟨by decide +kernel, by decide +kernel⟩)) (fun r24 hr24 => ?_)
    have bqq25 := hI.bd (k := 0) bd_32_6
    have bqq26 := hI.bd (k := 0) bd_32_7
    rcases hr24 with ⟨rfl, c27⟩ | ⟨rfl, c27⟩
    · refine fx_if_eq (tgt := 57) hx hb dX5_readCompared_20 (by decide) zk_1 (fun c28 => by exfalso; omega) (fun c28 => ?_)
      exact j1 M2 hI hE _ _ hw hS ls (lv_sub hl [0, 1] rfl)
    · refine fx_if_eq (tgt := 57) hx hb dX5_readCompared_20 (by decide) zk_0 (fun c29 => ?_) (fun c29 => by exfalso; omega)
      exact W.vret hx hb hr (fun t ht hW => ⟨⟨M2, rfl, ⟨hI, hE, trivial⟩, by show fm_at D ad C nb _ t.heap; rw [ht]; exact hw⟩, hS.F ht⟩) hS.2.2 dX5_readCompared_57
set_option maxHeartbeats 400000 in
set_option maxRecDepth 20000 in
theorem fc_X5_readNot_1 (l : Launch) (D : va_G) (ad : Nat → Nat → Nat) (C : Nat → Nat → ClassId) (nb : Nat) (M : fm_M) (hI : fm_I nb ad M) : Met l yX5_readNot wsX5_readNot ({ frames := 33, cells := 0, slots := 0, locals := 721 }) (va_Pc [.ref (ad 32 0), .int 1] (fm_P D ad C nb M)) (va_Qv (fun (u : fm_M) => fm_I nb ad u ∧ fm_same [32006, 32007, 36001, 37000] M u ∧ True) (fun u t => fm_at D ad C nb u t.heap) (fm_A nb ad)) 0 0 (fm_A nb ad) := by
  refine Met.ofW (cc := cX5_readNot) (maxL := 2) (ret := none) (by decide) rfl ?_
  intro p e s m args below meth c s₁ B hml hv
  obtain ⟨rfl, hw, hc⟩ := hv
  have hx := B.exec
  have hb := B.bytes
  have hr := B.returns
  have hts := atoms_spec (ws := wsX5_readNot) B.pre
  have hown : s.vm.findClass RX5 = some m.cls := findClass_of_methodNamed B.named
  have hinX5 : ∀ w ∈ u_ws RX5 TX5 8, w ∈ wsX5_readNot := fun w h => List.mem_cons_of_mem _ (iT_X5 w h)
  have hS : va_S (fm_A nb ad) s.heap s.heap [] := va_S.rf
  have hE : fm_same [32006, 32007, 36001, 37000] M M := fm_same.rf
  have hl := lv_entry ([.ref (ad 32 0), .int 1]) (n := 2) (Nat.le_of_ble_eq_true rfl)
  rw [lg_entry_eq]
  generalize (lg_sl ([.ref (ad 32 0), .int 1]) ++ List.replicate (2 - (lg_sl ([.ref (ad 32 0), .int 1])).length) Slot.unset).toArray = ls at hl ⊢
  have hl : lv_has ls 2 [(0, .ref (ad 32 0)), (1, .int 1)] := hl
  have j1 : ∀  (M_j1 : fm_M), fm_I nb ad M_j1 → fm_same [32006, 32007, 36001, 37000] M M_j1 → ∀ (H : Heap) (locs : List Loc), fm_at D ad C nb M_j1 H → va_S (fm_A nb ad) s.heap H locs → ∀ (ls : Array Slot), lv_has ls 2 [(0, .ref (ad 32 0)), (1, .int 1)] → W p l e (headSpec wsX5_readNot ({ frames := 33, cells := 0, slots := 0, locals := 721 })).room s m ([.ref (ad 32 0), .int 1] : List Value).toArray below meth c H locs 0 0 (MQ below (va_Qv (fun (u : fm_M) => fm_I nb ad u ∧ fm_same [32006, 32007, 36001, 37000] M u ∧ True) (fun u t => fm_at D ad C nb u t.heap) (fm_A nb ad)) ([.ref (ad 32 0), .int 1] : List Value).toArray s 0 0 (fm_A nb ad)) (F0 m 21 ls []) := by
    intro  M_j1 hI hE H locs hw hS ls hl
    refine lv_aload_n hx hb dX5_readNot_21 rfl (lv_at hl 0 rfl) ?_
    refine lv_bipush (v := 11) hx hb dX5_readNot_22 (by decide) ?_
    have zz1 := zk_11
    refine vp_callSi (va_Run.run (va_runV (As := [.int 11]) (rest := []) ⟨hx, hb, hml, hown, hts⟩ (fc_X5_sees l D ad C nb M_j1 hI 11) (cwV 1 hts gX5_readNot_X5_sees rfl rfl rfl (by decide +kernel) ⟨Nat.le_of_ble_eq_true rfl, Nat.le_of_ble_eq_true rfl⟩) (fm_preV hc hw hS kl_32 sh_32 rfl) rfl rfl hl.1 rfl (lv_room (Nat.le_of_ble_eq_true rfl)) dX5_readNot_24 ⟨by decide +kernel, by decide +kernel⟩)) (fun r2 hr2 => ?_)
    have bqq3 := hI.bd (k := 0) bd_32_6
    have bqq4 := hI.bd (k := 0) bd_32_7
    rcases hr2 with ⟨rfl, c5⟩ | ⟨rfl, c5⟩
    · refine fx_if_eq (tgt := 53) hx hb dX5_readNot_27 (by decide) zk_1 (fun c6 => by exfalso; omega) (fun c6 => ?_)
      refine lv_aload_n hx hb dX5_readNot_30 rfl (lv_at hl 0 rfl) ?_
      refine fm_cv (va_runV (As := []) (rest := []) ⟨hx, hb, hml, hown, hts⟩ (fc_X5_advance l D ad C nb M_j1 hI) (cwV 0 hts gX5_readNot_X5_advance rfl rfl rfl (by decide +kernel) ⟨Nat.le_of_ble_eq_true rfl, Nat.le_of_ble_eq_true rfl⟩) (fm_preV hc hw hS kl_32 sh_32 rfl) rfl rfl hl.1 rfl (lv_room (Nat.le_of_ble_eq_true rfl)) dX5_readNot_31 ⟨by decide +kernel, by decide +kernel⟩) hS hc (fun M8 H locs hr7 hw hS => ?_)
      obtain ⟨hI, hEM8, hr7⟩ := hr7
      have hE := hE.tr hEM8 (by decide)
      refine lv_aload_n hx hb dX5_readNot_34 rfl (lv_at hl 0 rfl) ?_
      refine lv_iload_n hx hb dX5_readNot_35 rfl (lv_at hl 1 rfl) ?_
      refine lv_iconst (v := 1) hx hb dX5_readNot_36 (by decide) ?_
      refine lv_iadd hx hb dX5_readNot_37 ?_
      refine lv_topi (fun y10 ey10 => ?_)
      obtain rfl : y10 = 2 := ey10.trans (by decide)
      refine fm_cv (va_runV (As := [.int 2]) (rest := []) ⟨hx, hb, hml, hown, hts⟩ (fc_X5_readNot_2 l D ad C nb M8 hI) (cwV 1 hts gX5_readNot_X5_readNot rfl rfl rfl (by decide +kernel) ⟨Nat.le_of_ble_eq_true rfl, Nat.le_of_ble_eq_true rfl⟩) (fm_preV hc hw hS kl_32 sh_32 rfl) rfl rfl hl.1 rfl (lv_room (Nat.le_of_ble_eq_true rfl)) dX5_readNot_38 ⟨by decide +kernel, by decide +kernel⟩) hS hc (fun M12 H locs hr11 hw hS => ?_)
      obtain ⟨hI, hEM12, hr11⟩ := hr11
      have hE := hE.tr hEM12 (by decide)
      refine lv_aload_n hx hb dX5_readNot_41 rfl (lv_at hl 0 rfl) ?_
      refine fm_getG (a := 32) (j := 5) (T := TX5) (N := 8) hx hb hts hinX5 hown hc hw kl_32 sh_32 rfl (by decide) rfl (hI.to kl_32 tg_32_5) (hts (.fieldLink RX5 27 "RedTent$Reader" "made" "LRedTent$Text;") (List.mem_cons_of_mem _ tw_1_203)) (fun _ h9 => h9) dX5_readNot_42 ?_
      refine lv_bipush (v := (-13)) hx hb dX5_readNot_45 (by decide) ?_
      refine fm_cv (va_runV (As := [.int (-13)]) (rest := []) ⟨hx, hb, hml, hown, hts⟩ (fc_X9_addStep l D ad C nb M12 hI (-13)) (cwV 1 hts gX5_readNot_X9_addStep rfl rfl rfl (by decide +kernel) ⟨Nat.le_of_ble_eq_true rfl, Nat.le_of_ble_eq_true rfl⟩) (fm_preV hc hw hS kl_36 sh_36 rfl) rfl rfl hl.1 rfl (lv_room (Nat.le_of_ble_eq_true rfl)) dX5_readNot_47 ⟨by decide +kernel, by decide +kernel⟩) hS hc (fun M14 H locs hr13 hw hS => ?_)
      obtain ⟨hI, hEM14, hr13⟩ := hr13
      have hE := hE.tr hEM14 (by decide)
      refine lv_goto (tgt := 58) hx hb dX5_readNot_50 (by decide) ?_
      exact W.vret hx hb hr (fun t ht hW => ⟨⟨M14, rfl, ⟨hI, hE, trivial⟩, by show fm_at D ad C nb _ t.heap; rw [ht]; exact hw⟩, hS.F ht⟩) hS.2.2 dX5_readNot_58
    · refine fx_if_eq (tgt := 53) hx hb dX5_readNot_27 (by decide) zk_0 (fun c15 => ?_) (fun c15 => by exfalso; omega)
      refine lv_aload_n hx hb dX5_readNot_53 rfl (lv_at hl 0 rfl) ?_
      refine lv_iload_n hx hb dX5_readNot_54 rfl (lv_at hl 1 rfl) ?_
      refine fm_cv (va_runV (As := [.int 1]) (rest := []) ⟨hx, hb, hml, hown, hts⟩ (fc_X5_readCompared_1 l D ad C nb M_j1 hI) (cwV 1 hts gX5_readNot_X5_readCompared rfl rfl rfl (by decide +kernel) ⟨Nat.le_of_ble_eq_true rfl, Nat.le_of_ble_eq_true rfl⟩) (fm_preV hc hw hS kl_32 sh_32 rfl) rfl rfl hl.1 rfl (lv_room (Nat.le_of_ble_eq_true rfl)) dX5_readNot_55 ⟨by decide +kernel, by decide +kernel⟩) hS hc (fun M17 H locs hr16 hw hS => ?_)
      obtain ⟨hI, hEM17, hr16⟩ := hr16
      have hE := hE.tr hEM17 (by decide)
      exact W.vret hx hb hr (fun t ht hW => ⟨⟨M17, rfl, ⟨hI, hE, trivial⟩, by show fm_at D ad C nb _ t.heap; rw [ht]; exact hw⟩, hS.F ht⟩) hS.2.2 dX5_readNot_58
  refine lv_aload_n hx hb dX5_readNot_0 rfl (lv_at hl 0 rfl) ?_
  refine lv_bipush (v := 11) hx hb dX5_readNot_1 (by decide) ?_
  have zz18 := zk_11
  refine vp_callSi (va_Run.run (va_runV (As := [.int 11]) (rest := []) ⟨hx, hb, hml, hown, hts⟩ (fc_X5_sees l D ad C nb M hI 11) (cwV 1 hts gX5_readNot_X5_sees rfl rfl rfl (by decide +kernel) ⟨Nat.le_of_ble_eq_true rfl, Nat.le_of_ble_eq_true rfl⟩) (fm_preV hc hw hS kl_32 sh_32 rfl) rfl rfl hl.1 rfl (lv_room (Nat.le_of_ble_eq_true rfl)) dX5_readNot_3 ⟨by decide +kernel, by decide +kernel⟩)) (fun r19 hr19 => ?_)
  have bqq20 := hI.bd (k := 0) bd_32_6
  have bqq21 := hI.bd (k := 0) bd_32_7
  rcases hr19 with ⟨rfl, c22⟩ | ⟨rfl, c22⟩
  · refine fx_if_eq (tgt := 21) hx hb dX5_readNot_6 (by decide) zk_1 (fun c23 => by exfalso; omega) (fun c23 => ?_)
    refine lv_iload_n hx hb dX5_readNot_9 rfl (lv_at hl 1 rfl) ?_
    refine lv_iconst (v := 5) hx hb dX5_readNot_10 (by decide) ?_
    refine fx_icmp_lt (tgt := 21) hx hb dX5_readNot_11 (by decide) zk_1 zk_5 (fun c24 => ?_) (fun c24 => by exfalso; omega)
    exact j1 M hI hE _ _ hw hS ls (lv_sub hl [0, 1] rfl)
  · refine fx_if_eq (tgt := 21) hx hb dX5_readNot_6 (by decide) zk_0 (fun c25 => ?_) (fun c25 => by exfalso; omega)
    exact j1 M hI hE _ _ hw hS ls (lv_sub hl [0, 1] rfl)
set_option maxHeartbeats 400000 in
set_option maxRecDepth 20000 in
theorem fc_X5_readBoth_1 (l : Launch) (D : va_G) (ad : Nat → Nat → Nat) (C : Nat → Nat → ClassId) (nb : Nat) (M : fm_M) (hI : fm_I nb ad M) : Met l yX5_readBoth wsX5_readBoth ({ frames := 34, cells := 0, slots := 0, locals := 742 }) (va_Pc [.ref (ad 32 0), .int 1] (fm_P D ad C nb M)) (va_Qv (fun (u : fm_M) => fm_I nb ad u ∧ fm_same [32006, 32007, 36001, 37000] M u ∧ True) (fun u t => fm_at D ad C nb u t.heap) (fm_A nb ad)) 0 0 (fm_A nb ad) := by
  refine Met.ofW (cc := cX5_readBoth) (maxL := 3) (ret := none) (by decide) rfl ?_
  intro p e s m args below meth c s₁ B hml hv
  obtain ⟨rfl, hw, hc⟩ := hv
  have hx := B.exec
  have hb := B.bytes
  have hr := B.returns
  have hts := atoms_spec (ws := wsX5_readBoth) B.pre
  have hown : s.vm.findClass RX5 = some m.cls := findClass_of_methodNamed B.named
  have hinX5 : ∀ w ∈ u_ws RX5 TX5 8, w ∈ wsX5_readBoth := fun w h => List.mem_cons_of_mem _ (iT_X5 w h)
  have hS : va_S (fm_A nb ad) s.heap s.heap [] := va_S.rf
  have hE : fm_same [32006, 32007, 36001, 37000] M M := fm_same.rf
  have hl := lv_entry ([.ref (ad 32 0), .int 1]) (n := 3) (Nat.le_of_ble_eq_true rfl)
  rw [lg_entry_eq]
  generalize (lg_sl ([.ref (ad 32 0), .int 1]) ++ List.replicate (3 - (lg_sl ([.ref (ad 32 0), .int 1])).length) Slot.unset).toArray = ls at hl ⊢
  have hl : lv_has ls 3 [(0, .ref (ad 32 0)), (1, .int 1)] := hl
  refine lv_aload_n hx hb dX5_readBoth_0 rfl (lv_at hl 0 rfl) ?_
  refine lv_iload_n hx hb dX5_readBoth_1 rfl (lv_at hl 1 rfl) ?_
  refine fm_cv (va_runV (As := [.int 1]) (rest := []) ⟨hx, hb, hml, hown, hts⟩ (fc_X5_readNot_1 l D ad C nb M hI) (cwV 1 hts gX5_readBoth_X5_readNot rfl rfl rfl (by decide +kernel) ⟨Nat.le_of_ble_eq_true rfl, Nat.le_of_ble_eq_true rfl⟩) (fm_preV hc hw hS kl_32 sh_32 rfl) rfl rfl hl.1 rfl (lv_room (Nat.le_of_ble_eq_true rfl)) dX5_readBoth_2 ⟨by decide +kernel, by decide +kernel⟩) hS hc (fun M2 H locs hr1 hw hS => ?_)
  obtain ⟨hI, hEM2, hr1⟩ := hr1
  have hE := hE.tr hEM2 (by decide)
  refine lv_iconst (v := 0) hx hb dX5_readBoth_5 (by decide) ?_
  refine lv_istore_n (lv' := [(2, .int 0), (0, .ref (ad 32 0)), (1, .int 1)]) hx hb dX5_readBoth_6 rfl hl (by decide) rfl (fun ls hl => ?_)
  have lp : ∀ (n_lp : Nat) (lp_2 : Int32) (M_lp : fm_M), (160 - lp_2.toInt).toNat < n_lp → (0 ≤ lp_2.toInt ∧ lp_2.toInt ≤ 160) → fm_I nb ad M_lp → fm_same [32006, 32007, 36001, 37000] M M_lp → ∀ (H : Heap) (locs : List Loc), fm_at D ad C nb M_lp H → va_S (fm_A nb ad) s.heap H locs → ∀ (ls : Array Slot), lv_has ls 3 [(2, .int lp_2), (0, .ref (ad 32 0)), (1, .int 1)] → W p l e (headSpec wsX5_readBoth ({ frames := 34, cells := 0, slots := 0, locals := 742 })).room s m ([.ref (ad 32 0), .int 1] : List Value).toArray below meth c H locs 0 0 (MQ below (va_Qv (fun (u : fm_M) => fm_I nb ad u ∧ fm_same [32006, 32007, 36001, 37000] M u ∧ True) (fun u t => fm_at D ad C nb u t.heap) (fm_A nb ad)) ([.ref (ad 32 0), .int 1] : List Value).toArray s 0 0 (fm_A nb ad)) (F0 m 7 ls []) := by
    intro n_lp
    induction n_lp with
    | zero => intro lp_2 M_lp hm_lp b_lp_2 hI hE H locs hw hS ls hl; exact absurd hm_lp (Nat.not_lt_zero _)
    | succ n_lp ih_lp =>
      intro lp_2 M_lp hm_lp b_lp_2 hI hE H locs hw hS ls hl
      refine lv_iload_n hx hb dX5_readBoth_7 rfl (lv_at hl 0 rfl) ?_
      refine lv_sipush (v := 160) hx hb dX5_readBoth_8 (by decide) ?_
      refine fx_icmp_ge (tgt := 47) hx hb dX5_readBoth_11 (by decide) rfl zk_160 (fun c3 => ?_) (fun c3 => ?_)
      · exact W.vret hx hb hr (fun t ht hW => ⟨⟨M_lp, rfl, ⟨hI, hE, trivial⟩, by show fm_at D ad C nb _ t.heap; rw [ht]; exact hw⟩, hS.F ht⟩) hS.2.2 dX5_readBoth_47
      · refine lv_aload_n hx hb dX5_readBoth_14 rfl (lv_at hl 1 rfl) ?_
        refine lv_bipush (v := 10) hx hb dX5_readBoth_15 (by decide) ?_
        have zz4 := zk_10
        refine vp_callSi (va_Run.run (va_runV (As := [.int 10]) (rest := []) ⟨hx, hb, hml, hown, hts⟩ (fc_X5_sees l D ad C nb M_lp hI 10) (cwV 1 hts gX5_readBoth_X5_sees rfl rfl rfl (by decide +kernel) ⟨Nat.le_of_ble_eq_true rfl, Nat.le_of_ble_eq_true rfl⟩) (fm_preV hc hw hS kl_32 sh_32 rfl) rfl rfl hl.1 rfl (lv_room (Nat.le_of_ble_eq_true rfl)) dX5_readBoth_17 ⟨by decide +kernel, by decide +kernel⟩)) (fun r5 hr5 => ?_)
        have bqq6 := hI.bd (k := 0) bd_32_6
        have bqq7 := hI.bd (k := 0) bd_32_7
        rcases hr5 with ⟨rfl, c8⟩ | ⟨rfl, c8⟩
        · refine fx_if_eq (tgt := 47) hx hb dX5_readBoth_20 (by decide) zk_1 (fun c9 => by exfalso; omega) (fun c9 => ?_)
          refine lv_aload_n hx hb dX5_readBoth_23 rfl (lv_at hl 1 rfl) ?_
          refine fm_cv (va_runV (As := []) (rest := []) ⟨hx, hb, hml, hown, hts⟩ (fc_X5_advance l D ad C nb M_lp hI) (cwV 0 hts gX5_readBoth_X5_advance rfl rfl rfl (by decide +kernel) ⟨Nat.le_of_ble_eq_true rfl, Nat.le_of_ble_eq_true rfl⟩) (fm_preV hc hw hS kl_32 sh_32 rfl) rfl rfl hl.1 rfl (lv_room (Nat.le_of_ble_eq_true rfl)) dX5_readBoth_24 ⟨by decide +kernel, by decide +kernel⟩) hS hc (fun M11 H locs hr10 hw hS => ?_)
          obtain ⟨hI, hEM11, hr10⟩ := hr10
          have hE := hE.tr hEM11 (by decide)
          refine lv_aload_n hx hb dX5_readBoth_27 rfl (lv_at hl 1 rfl) ?_
          refine lv_iload_n hx hb dX5_readBoth_28 rfl (lv_at hl 2 rfl) ?_
          refine fm_cv (va_runV (As := [.int 1]) (rest := []) ⟨hx, hb, hml, hown, hts⟩ (fc_X5_readNot_1 l D ad C nb M11 hI) (cwV 1 hts gX5_readBoth_X5_readNot rfl rfl rfl (by decide +kernel) ⟨Nat.le_of_ble_eq_true rfl, Nat.le_of_ble_eq_true rfl⟩) (fm_preV hc hw hS kl_32 sh_32 rfl) rfl rfl hl.1 rfl (lv_room (Nat.le_of_ble_eq_true rfl)) dX5_readBoth_29 ⟨by decide +kernel, by decide +kernel⟩) hS hc (fun M13 H locs hr12 hw hS => ?_)
          obtain ⟨hI, hEM13, hr12⟩ := hr12
          have hE := hE.tr hEM13 (by decide)
          refine lv_aload_n hx hb dX5_readBoth_32 rfl (lv_at hl 1 rfl) ?_
          refine fm_getG (a := 32) (j := 5) (T := TX5) (N := 8) hx hb hts hinX5 hown hc hw kl_32 sh_32 rfl (by decide) rfl (hI.to kl_32 tg_32_5) (hts (.fieldLink RX5 27 "RedTent$Reader" "made" "LRedTent$Text;") (List.mem_cons_of_mem _ tw_1_203)) (fun _ h9 => h9) dX5_readBoth_33 ?_
          refine lv_bipush (v := (-12)) hx hb dX5_readBoth_36 (by decide) ?_
          refine fm_cv (va_runV (As := [.int (-12)]) (rest := []) ⟨hx, hb, hml, hown, hts⟩ (fc_X9_addStep l D ad C nb M13 hI (-12)) (cwV 1 hts gX5_readBoth_X9_addStep rfl rfl rfl (by decide +kernel) ⟨Nat.le_of_ble_eq_true rfl, Nat.le_of_ble_eq_true rfl⟩) (fm_preV hc hw hS kl_36 sh_36 rfl) rfl rfl hl.1 rfl (lv_room (Nat.le_of_ble_eq_true rfl)) dX5_readBoth_38 ⟨by decide +kernel, by decide +kernel⟩) hS hc (fun M15 H locs hr14 hw hS => ?_)
          obtain ⟨hI, hEM15, hr14⟩ := hr14
          have hE := hE.tr hEM15 (by decide)
          obtain ⟨y16, ey16⟩ : ∃ y : Int32, y = lp_2 + 1 := ⟨_, rfl⟩
          have ty16 : y16.toInt = lp_2.toInt + 1 := by rw [ey16, zi_add _ _ (by rw [zk_1]; omega) (by rw [zk_1]; omega), zk_1]
          refine lv_iinc (v := y16) (lv' := [(2, .int y16), (0, .ref (ad 32 0)), (1, .int 1)]) hx hb dX5_readBoth_41 hl (k := 0) rfl (by rw [ey16]; rfl) (by decide) rfl (fun ls hl => ?_)
          refine lv_goto (tgt := 7) hx hb dX5_readBoth_44 (by decide) ?_
          exact ih_lp y16 M15 (by omega) (by omega) hI hE _ _ hw hS ls (lv_sub hl [0, 1, 2] rfl)
        · refine fx_if_eq (tgt := 47) hx hb dX5_readBoth_20 (by decide) zk_0 (fun c17 => ?_) (fun c17 => by exfalso; omega)
          exact W.vret hx hb hr (fun t ht hW => ⟨⟨M_lp, rfl, ⟨hI, hE, trivial⟩, by show fm_at D ad C nb _ t.heap; rw [ht]; exact hw⟩, hS.F ht⟩) hS.2.2 dX5_readBoth_47
  exact lp _ 0 M2 (Nat.lt_succ_self _) (by decide) hI hE _ _ hw hS ls (lv_sub hl [0, 1, 2] rfl)
set_option maxHeartbeats 400000 in
set_option maxRecDepth 20000 in
theorem fc_X5_readChoice_1 (l : Launch) (D : va_G) (ad : Nat → Nat → Nat) (C : Nat → Nat → ClassId) (nb : Nat) (M : fm_M) (hI : fm_I nb ad M) : Met l yX5_readChoice wsX5_readChoice ({ frames := 35, cells := 0, slots := 0, locals := 764 }) (va_Pc [.ref (ad 32 0), .int 1] (fm_P D ad C nb M)) (va_Qv (fun (u : fm_M) => fm_I nb ad u ∧ fm_same [32006, 32007, 36001, 37000] M u ∧ True) (fun u t => fm_at D ad C nb u t.heap) (fm_A nb ad)) 0 0 (fm_A nb ad) := by
  refine Met.ofW (cc := cX5_readChoice) (maxL := 3) (ret := none) (by decide) rfl ?_
  intro p e s m args below meth c s₁ B hml hv
  obtain ⟨rfl, hw, hc⟩ := hv
  have hx := B.exec
  have hb := B.bytes
  have hr := B.returns
  have hts := atoms_spec (ws := wsX5_readChoice) B.pre
  have hown : s.vm.findClass RX5 = some m.cls := findClass_of_methodNamed B.named
  have hinX5 : ∀ w ∈ u_ws RX5 TX5 8, w ∈ wsX5_readChoice := fun w h => List.mem_cons_of_mem _ (iT_X5 w h)
  have hS : va_S (fm_A nb ad) s.heap s.heap [] := va_S.rf
  have hE : fm_same [32006, 32007, 36001, 37000] M M := fm_same.rf
  have hl := lv_entry ([.ref (ad 32 0), .int 1]) (n := 3) (Nat.le_of_ble_eq_true rfl)
  rw [lg_entry_eq]
  generalize (lg_sl ([.ref (ad 32 0), .int 1]) ++ List.replicate (3 - (lg_sl ([.ref (ad 32 0), .int 1])).length) Slot.unset).toArray = ls at hl ⊢
  have hl : lv_has ls 3 [(0, .ref (ad 32 0)), (1, .int 1)] := hl
  refine lv_aload_n hx hb dX5_readChoice_0 rfl (lv_at hl 0 rfl) ?_
  refine lv_iload_n hx hb dX5_readChoice_1 rfl (lv_at hl 1 rfl) ?_
  refine fm_cv (va_runV (As := [.int 1]) (rest := []) ⟨hx, hb, hml, hown, hts⟩ (fc_X5_readBoth_1 l D ad C nb M hI) (cwV 1 hts gX5_readChoice_X5_readBoth rfl rfl rfl (by decide +kernel) ⟨Nat.le_of_ble_eq_true rfl, Nat.le_of_ble_eq_true rfl⟩) (fm_preV hc hw hS kl_32 sh_32 rfl) rfl rfl hl.1 rfl (lv_room (Nat.le_of_ble_eq_true rfl)) dX5_readChoice_2 ⟨by decide +kernel, by decide +kernel⟩) hS hc (fun M2 H locs hr1 hw hS => ?_)
  obtain ⟨hI, hEM2, hr1⟩ := hr1
  have hE := hE.tr hEM2 (by decide)
  refine lv_iconst (v := 0) hx hb dX5_readChoice_5 (by decide) ?_
  refine lv_istore_n (lv' := [(2, .int 0), (0, .ref (ad 32 0)), (1, .int 1)]) hx hb dX5_readChoice_6 rfl hl (by decide) rfl (fun ls hl => ?_)
  have lp : ∀ (n_lp : Nat) (lp_2 : Int32) (M_lp : fm_M), (160 - lp_2.toInt).toNat < n_lp → (0 ≤ lp_2.toInt ∧ lp_2.toInt ≤ 160) → fm_I nb ad M_lp → fm_same [32006, 32007, 36001, 37000] M M_lp → ∀ (H : Heap) (locs : List Loc), fm_at D ad C nb M_lp H → va_S (fm_A nb ad) s.heap H locs → ∀ (ls : Array Slot), lv_has ls 3 [(2, .int lp_2), (0, .ref (ad 32 0)), (1, .int 1)] → W p l e (headSpec wsX5_readChoice ({ frames := 35, cells := 0, slots := 0, locals := 764 })).room s m ([.ref (ad 32 0), .int 1] : List Value).toArray below meth c H locs 0 0 (MQ below (va_Qv (fun (u : fm_M) => fm_I nb ad u ∧ fm_same [32006, 32007, 36001, 37000] M u ∧ True) (fun u t => fm_at D ad C nb u t.heap) (fm_A nb ad)) ([.ref (ad 32 0), .int 1] : List Value).toArray s 0 0 (fm_A nb ad)) (F0 m 7 ls []) := by
    intro n_lp
    induction n_lp with
    | zero => intro lp_2 M_lp hm_lp b_lp_2 hI hE H locs hw hS ls hl; exact absurd hm_lp (Nat.not_lt_zero _)
    | succ n_lp ih_lp =>
      intro lp_2 M_lp hm_lp b_lp_2 hI hE H locs hw hS ls hl
      refine lv_iload_n hx hb dX5_readChoice_7 rfl (lv_at hl 0 rfl) ?_
      refine lv_sipush (v := 160) hx hb dX5_readChoice_8 (by decide) ?_
      refine fx_icmp_ge (tgt := 47) hx hb dX5_readChoice_11 (by decide) rfl zk_160 (fun c3 => ?_) (fun c3 => ?_)
      · exact W.vret hx hb hr (fun t ht hW => ⟨⟨M_lp, rfl, ⟨hI, hE, trivial⟩, by show fm_at D ad C nb _ t.heap; rw [ht]; exact hw⟩, hS.F ht⟩) hS.2.2 dX5_readChoice_47
      · refine lv_aload_n hx hb dX5_readChoice_14 rfl (lv_at hl 1 rfl) ?_
        refine lv_bipush (v := 9) hx hb dX5_readChoice_15 (by decide) ?_
        have zz4 := zk_9
        refine vp_callSi (va_Run.run (va_runV (As := [.int 9]) (rest := []) ⟨hx, hb, hml, hown, hts⟩ (fc_X5_sees l D ad C nb M_lp hI 9) (cwV 1 hts gX5_readChoice_X5_sees rfl rfl rfl (by decide +kernel) ⟨Nat.le_of_ble_eq_true rfl, Nat.le_of_ble_eq_true rfl⟩) (fm_preV hc hw hS kl_32 sh_32 rfl) rfl rfl hl.1 rfl (lv_room (Nat.le_of_ble_eq_true rfl)) dX5_readChoice_17 ⟨by decide +kernel, by decide +kernel⟩)) (fun r5 hr5 => ?_)
        have bqq6 := hI.bd (k := 0) bd_32_6
        have bqq7 := hI.bd (k := 0) bd_32_7
        rcases hr5 with ⟨rfl, c8⟩ | ⟨rfl, c8⟩
        · refine fx_if_eq (tgt := 47) hx hb dX5_readChoice_20 (by decide) zk_1 (fun c9 => by exfalso; omega) (fun c9 => ?_)
          refine lv_aload_n hx hb dX5_readChoice_23 rfl (lv_at hl 1 rfl) ?_
          refine fm_cv (va_runV (As := []) (rest := []) ⟨hx, hb, hml, hown, hts⟩ (fc_X5_advance l D ad C nb M_lp hI) (cwV 0 hts gX5_readChoice_X5_advance rfl rfl rfl (by decide +kernel) ⟨Nat.le_of_ble_eq_true rfl, Nat.le_of_ble_eq_true rfl⟩) (fm_preV hc hw hS kl_32 sh_32 rfl) rfl rfl hl.1 rfl (lv_room (Nat.le_of_ble_eq_true rfl)) dX5_readChoice_24 ⟨by decide +kernel, by decide +kernel⟩) hS hc (fun M11 H locs hr10 hw hS => ?_)
          obtain ⟨hI, hEM11, hr10⟩ := hr10
          have hE := hE.tr hEM11 (by decide)
          refine lv_aload_n hx hb dX5_readChoice_27 rfl (lv_at hl 1 rfl) ?_
          refine lv_iload_n hx hb dX5_readChoice_28 rfl (lv_at hl 2 rfl) ?_
          refine fm_cv (va_runV (As := [.int 1]) (rest := []) ⟨hx, hb, hml, hown, hts⟩ (fc_X5_readBoth_1 l D ad C nb M11 hI) (cwV 1 hts gX5_readChoice_X5_readBoth rfl rfl rfl (by decide +kernel) ⟨Nat.le_of_ble_eq_true rfl, Nat.le_of_ble_eq_true rfl⟩) (fm_preV hc hw hS kl_32 sh_32 rfl) rfl rfl hl.1 rfl (lv_room (Nat.le_of_ble_eq_true rfl)) dX5_readChoice_29 ⟨by decide +kernel, by decide +kernel⟩) hS hc (fun M13 H locs hr12 hw hS => ?_)
          obtain ⟨hI, hEM13, hr12⟩ := hr12
          have hE := hE.tr hEM13 (by decide)
          refine lv_aload_n hx hb dX5_readChoice_32 rfl (lv_at hl 1 rfl) ?_
          refine fm_getG (a := 32) (j := 5) (T := TX5) (N := 8) hx hb hts hinX5 hown hc hw kl_32 sh_32 rfl (by decide) rfl (hI.to kl_32 tg_32_5) (hts (.fieldLink RX5 27 "RedTent$Reader" "made" "LRedTent$Text;") (List.mem_cons_of_mem _ tw_1_203)) (fun _ h9 => h9) dX5_readChoice_33 ?_
          refine lv_bipush (v := (-11)) hx hb dX5_readChoice_36 (by decide) ?_
          refine fm_cv (va_runV (As := [.int (-11)]) (rest := []) ⟨hx, hb, hml, hown, hts⟩ (fc_X9_addStep l D ad C nb M13 hI (-11)) (cwV 1 hts gX5_readChoice_X9_addStep rfl rfl rfl (by decide +kernel) ⟨Nat.le_of_ble_eq_true rfl, Nat.le_of_ble_eq_true rfl⟩) (fm_preV hc hw hS kl_36 sh_36 rfl) rfl rfl hl.1 rfl (lv_room (Nat.le_of_ble_eq_true rfl)) dX5_readChoice_38 ⟨by decide +kernel, by decide +kernel⟩) hS hc (fun M15 H locs hr14 hw hS => ?_)
          obtain ⟨hI, hEM15, hr14⟩ := hr14
          have hE := hE.tr hEM15 (by decide)
          obtain ⟨y16, ey16⟩ : ∃ y : Int32, y = lp_2 + 1 := ⟨_, rfl⟩
          have ty16 : y16.toInt = lp_2.toInt + 1 := by rw [ey16, zi_add _ _ (by rw [zk_1]; omega) (by rw [zk_1]; omega), zk_1]
          refine lv_iinc (v := y16) (lv' := [(2, .int y16), (0, .ref (ad 32 0)), (1, .int 1)]) hx hb dX5_readChoice_41 hl (k := 0) rfl (by rw [ey16]; rfl) (by decide) rfl (fun ls hl => ?_)
          refine lv_goto (tgt := 7) hx hb dX5_readChoice_44 (by decide) ?_
          exact ih_lp y16 M15 (by omega) (by omega) hI hE _ _ hw hS ls (lv_sub hl [0, 1, 2] rfl)
        · refine fx_if_eq (tgt := 47) hx hb dX5_readChoice_20 (by decide) zk_0 (fun c17 => ?_) (fun c17 => by exfalso; omega)
          exact W.vret hx hb hr (fun t ht hW => ⟨⟨M_lp, rfl, ⟨hI, hE, trivial⟩, by show fm_at D ad C nb _ t.heap; rw [ht]; exact hw⟩, hS.F ht⟩) hS.2.2 dX5_readChoice_47
  exact lp _ 0 M2 (Nat.lt_succ_self _) (by decide) hI hE _ _ hw hS ls (lv_sub hl [0, 1, 2] rfl)
set_option maxHeartbeats 400000 in
set_option maxRecDepth 20000 in
theorem fc_X5_readOne_0 (l : Launch) (D : va_G) (ad : Nat → Nat → Nat) (C : Nat → Nat → ClassId) (nb : Nat) (M : fm_M) (hI : fm_I nb ad M) : Met l yX5_readOne wsX5_readOne ({ frames := 36, cells := 0, slots := 0, locals := 786 }) (va_Pc [.ref (ad 32 0), .int 0] (fm_P D ad C nb M)) (va_Qv (fun (u : fm_M) => fm_I nb ad u ∧ fm_same [32006, 32007, 36001, 37000] M u ∧ True) (fun u t => fm_at D ad C nb u t.heap) (fm_A nb ad)) 0 0 (fm_A nb ad) := by
  refine Met.ofW (cc := cX5_readOne) (maxL := 2) (ret := none) (by decide) rfl ?_
  intro p e s m args below meth c s₁ B hml hv
  obtain ⟨rfl, hw, hc⟩ := hv
  have hx := B.exec
  have hb := B.bytes
  have hr := B.returns
  have hts := atoms_spec (ws := wsX5_readOne) B.pre
  have hown : s.vm.findClass RX5 = some m.cls := findClass_of_methodNamed B.named
  have hinX5 : ∀ w ∈ u_ws RX5 TX5 8, w ∈ wsX5_readOne := fun w h => List.mem_cons_of_mem _ (iT_X5 w h)
  have hS : va_S (fm_A nb ad) s.heap s.heap [] := va_S.rf
  have hE : fm_same [32006, 32007, 36001, 37000] M M := fm_same.rf
  have hl := lv_entry ([.ref (ad 32 0), .int 0]) (n := 2) (Nat.le_of_ble_eq_true rfl)
  rw [lg_entry_eq]
  generalize (lg_sl ([.ref (ad 32 0), .int 0]) ++ List.replicate (2 - (lg_sl ([.ref (ad 32 0), .int 0])).length) Slot.unset).toArray = ls at hl ⊢
  have hl : lv_has ls 2 [(0, .ref (ad 32 0)), (1, .int 0)] := hl
  have j1 : ∀  (M_j1 : fm_M), fm_I nb ad M_j1 → fm_same [32006, 32007, 36001, 37000] M M_j1 → ∀ (H : Heap) (locs : List Loc), fm_at D ad C nb M_j1 H → va_S (fm_A nb ad) s.heap H locs → ∀ (ls : Array Slot), lv_has ls 2 [(0, .ref (ad 32 0)), (1, .int 0)] → W p l e (headSpec wsX5_readOne ({ frames := 36, cells := 0, slots := 0, locals := 786 })).room s m ([.ref (ad 32 0), .int 0] : List Value).toArray below meth c H locs 0 0 (MQ below (va_Qv (fun (u : fm_M) => fm_I nb ad u ∧ fm_same [32006, 32007, 36001, 37000] M u ∧ True) (fun u t => fm_at D ad C nb u t.heap) (fm_A nb ad)) ([.ref (ad 32 0), .int 0] : List Value).toArray s 0 0 (fm_A nb ad)) (F0 m 89 ls []) := by
    intro  M_j1 hI hE H locs hw hS ls hl
    have j2 : ∀  (M_j2 : fm_M), fm_I nb ad M_j2 → fm_same [32006, 32007, 36001, 37000] M M_j2 → ∀ (H : Heap) (locs : List Loc), fm_at D ad C nb M_j2 H → va_S (fm_A nb ad) s.heap H locs → ∀ (ls : Array Slot), lv_has ls 2 [(0, .ref (ad 32 0)), (1, .int 0)] → W p l e (headSpec wsX5_readOne ({ frames := 36, cells := 0, slots := 0, locals := 786 })).room s m ([.ref (ad 32 0), .int 0] : List Value).toArray below meth c H locs 0 0 (MQ below (va_Qv (fun (u : fm_M) => fm_I nb ad u ∧ fm_same [32006, 32007, 36001, 37000] M u ∧ True) (fun u t => fm_at D ad C nb u t.heap) (fm_A nb ad)) ([.ref (ad 32 0), .int 0] : List Value).toArray s 0 0 (fm_A nb ad)) (F0 m 126 ls []) := by
      intro  M_j2 hI hE H locs hw hS ls hl
      have j3 : ∀  (M_j3 : fm_M), fm_I nb ad M_j3 → fm_same [32006, 32007, 36001, 37000] M M_j3 → ∀ (H : Heap) (locs : List Loc), fm_at D ad C nb M_j3 H → va_S (fm_A nb ad) s.heap H locs → ∀ (ls : Array Slot), lv_has ls 2 [(0, .ref (ad 32 0)), (1, .int 0)] → W p l e (headSpec wsX5_readOne ({ frames := 36, cells := 0, slots := 0, locals := 786 })).room s m ([.ref (ad 32 0), .int 0] : List Value).toArray below meth c H locs 0 0 (MQ below (va_Qv (fun (u : fm_M) => fm_I nb ad u ∧ fm_same [32006, 32007, 36001, 37000] M u ∧ True) (fun u t => fm_at D ad C nb u t.heap) (fm_A nb ad)) ([.ref (ad 32 0), .int 0] : List Value).toArray s 0 0 (fm_A nb ad)) (F0 m 160 ls []) := by
        intro  M_j3 hI hE H locs hw hS ls hl
        refine lv_aload_n hx hb dX5_readOne_160 rfl (lv_at hl 0 rfl) ?_
        refine fm_cv (va_runV (As := []) (rest := []) ⟨hx, hb, hml, hown, hts⟩ (fc_X5_fail l D ad C nb M_j3 hI) (cwV 0 hts gX5_readOne_X5_fail rfl rfl rfl (by decide +kernel) ⟨Nat.le_of_ble_eq_true rfl, Nat.le_of_ble_eq_true rfl⟩) (fm_preV hc hw hS kl_32 sh_32 rfl) rfl rfl hl.1 rfl (lv_room (Nat.le_of_ble_eq_true rfl)) dX5_readOne_161 ⟨by decide +kernel, by decide +kernel⟩) hS hc (fun M2 H locs hr1 hw hS => ?_)
        obtain ⟨hI, hEM2, hr1⟩ := hr1
        have hE := hE.tr hEM2 (by decide)
        exact W.vret hx hb hr (fun t ht hW => ⟨⟨M2, rfl, ⟨hI, hE, trivial⟩, by show fm_at D ad C nb _ t.heap; rw [ht]; exact hw⟩, hS.F ht⟩) hS.2.2 dX5_readOne_164
      refine lv_aload_n hx hb dX5_readOne_126 rfl (lv_at hl 0 rfl) ?_
      refine lv_bipush (v := 40) hx hb dX5_readOne_127 (by decide) ?_
      have zz3 := zk_40
      refine vp_callSi (va_Run.run (va_runV (As := [.int 40]) (rest := []) ⟨hx, hb, hml, hown, hts⟩ (fc_X5_sees l D ad C nb M_j2 hI 40) (cwV 1 hts gX5_readOne_X5_sees rfl rfl rfl (by decide +kernel) ⟨Nat.le_of_ble_eq_true rfl, Nat.le_of_ble_eq_true rfl⟩) (fm_preV hc hw hS kl_32 sh_32 rfl) rfl rfl hl.1 rfl (lv_room (Nat.le_of_ble_eq_true rfl)) dX5_readOne_129 ⟨by decide +kernel, by decide +kernel⟩)) (fun r4 hr4 => ?_)
      have bqq5 := hI.bd (k := 0) bd_32_6
      have bqq6 := hI.bd (k := 0) bd_32_7
      rcases hr4 with ⟨rfl, c7⟩ | ⟨rfl, c7⟩
      · refine fx_if_eq (tgt := 160) hx hb dX5_readOne_132 (by decide) zk_1 (fun c8 => by exfalso; omega) (fun c8 => ?_)
        refine lv_iload_n hx hb dX5_readOne_135 rfl (lv_at hl 1 rfl) ?_
        refine lv_iconst (v := 5) hx hb dX5_readOne_136 (by decide) ?_
        refine fx_icmp_ge (tgt := 160) hx hb dX5_readOne_137 (by decide) zk_0 zk_5 (fun c9 => by exfalso; omega) (fun c9 => ?_)
        refine lv_aload_n hx hb dX5_readOne_140 rfl (lv_at hl 0 rfl) ?_
        refine fm_cv (va_runV (As := []) (rest := []) ⟨hx, hb, hml, hown, hts⟩ (fc_X5_advance l D ad C nb M_j2 hI) (cwV 0 hts gX5_readOne_X5_advance rfl rfl rfl (by decide +kernel) ⟨Nat.le_of_ble_eq_true rfl, Nat.le_of_ble_eq_true rfl⟩) (fm_preV hc hw hS kl_32 sh_32 rfl) rfl rfl hl.1 rfl (lv_room (Nat.le_of_ble_eq_true rfl)) dX5_readOne_141 ⟨by decide +kernel, by decide +kernel⟩) hS hc (fun M11 H locs hr10 hw hS => ?_)
        obtain ⟨hI, hEM11, hr10⟩ := hr10
        have hE := hE.tr hEM11 (by decide)
        refine lv_aload_n hx hb dX5_readOne_144 rfl (lv_at hl 0 rfl) ?_
        refine lv_iload_n hx hb dX5_readOne_145 rfl (lv_at hl 1 rfl) ?_
        refine lv_iconst (v := 1) hx hb dX5_readOne_146 (by decide) ?_
        refine lv_iadd hx hb dX5_readOne_147 ?_
        refine lv_topi (fun y13 ey13 => ?_)
        obtain rfl : y13 = 1 := ey13.trans (by decide)
        refine fm_cv (va_runV (As := [.int 1]) (rest := []) ⟨hx, hb, hml, hown, hts⟩ (fc_X5_readChoice_1 l D ad C nb M11 hI) (cwV 1 hts gX5_readOne_X5_readChoice rfl rfl rfl (by decide +kernel) ⟨Nat.le_of_ble_eq_true rfl, Nat.le_of_ble_eq_true rfl⟩) (fm_preV hc hw hS kl_32 sh_32 rfl) rfl rfl hl.1 rfl (lv_room (Nat.le_of_ble_eq_true rfl)) dX5_readOne_148 ⟨by decide +kernel, by decide +kernel⟩) hS hc (fun M15 H locs hr14 hw hS => ?_)
        obtain ⟨hI, hEM15, hr14⟩ := hr14
        have hE := hE.tr hEM15 (by decide)
        refine lv_aload_n hx hb dX5_readOne_151 rfl (lv_at hl 0 rfl) ?_
        refine lv_bipush (v := 41) hx hb dX5_readOne_152 (by decide) ?_
        refine fm_cv (va_runV (As := [.int 41]) (rest := []) ⟨hx, hb, hml, hown, hts⟩ (fc_X5_need l D ad C nb M15 hI 41) (cwV 1 hts gX5_readOne_X5_need rfl rfl rfl (by decide +kernel) ⟨Nat.le_of_ble_eq_true rfl, Nat.le_of_ble_eq_true rfl⟩) (fm_preV hc hw hS kl_32 sh_32 rfl) rfl rfl hl.1 rfl (lv_room (Nat.le_of_ble_eq_true rfl)) dX5_readOne_154 ⟨by decide +kernel, by decide +kernel⟩) hS hc (fun M17 H locs hr16 hw hS => ?_)
        obtain ⟨hI, hEM17, hr16⟩ := hr16
        have hE := hE.tr hEM17 (by decide)
        refine lv_goto (tgt := 164) hx hb dX5_readOne_157 (by decide) ?_
        exact W.vret hx hb hr (fun t ht hW => ⟨⟨M17, rfl, ⟨hI, hE, trivial⟩, by show fm_at D ad C nb _ t.heap; rw [ht]; exact hw⟩, hS.F ht⟩) hS.2.2 dX5_readOne_164
      · refine fx_if_eq (tgt := 160) hx hb dX5_readOne_132 (by decide) zk_0 (fun c18 => ?_) (fun c18 => by exfalso; omega)
        exact j3 M_j2 hI hE _ _ hw hS ls (lv_sub hl [0, 1] rfl)
    refine lv_aload_n hx hb dX5_readOne_89 rfl (lv_at hl 0 rfl) ?_
    refine lv_bipush (v := 45) hx hb dX5_readOne_90 (by decide) ?_
    have zz19 := zk_45
    refine vp_callSi (va_Run.run (va_runV (As := [.int 45]) (rest := []) ⟨hx, hb, hml, hown, hts⟩ (fc_X5_sees l D ad C nb M_j1 hI 45) (cwV 1 hts gX5_readOne_X5_sees rfl rfl rfl (by decide +kernel) ⟨Nat.le_of_ble_eq_true rfl, Nat.le_of_ble_eq_true rfl⟩) (fm_preV hc hw hS kl_32 sh_32 rfl) rfl rfl hl.1 rfl (lv_room (Nat.le_of_ble_eq_true rfl)) dX5_readOne_92 ⟨by decide +kernel, by decide +kernel⟩)) (fun r20 hr20 => ?_)
    have bqq21 := hI.bd (k := 0) bd_32_6
    have bqq22 := hI.bd (k := 0) bd_32_7
    rcases hr20 with ⟨rfl, c23⟩ | ⟨rfl, c23⟩
    · refine fx_if_eq (tgt := 126) hx hb dX5_readOne_95 (by decide) zk_1 (fun c24 => by exfalso; omega) (fun c24 => ?_)
      refine lv_iload_n hx hb dX5_readOne_98 rfl (lv_at hl 1 rfl) ?_
      refine lv_iconst (v := 5) hx hb dX5_readOne_99 (by decide) ?_
      refine fx_icmp_ge (tgt := 126) hx hb dX5_readOne_100 (by decide) zk_0 zk_5 (fun c25 => by exfalso; omega) (fun c25 => ?_)
      refine lv_aload_n hx hb dX5_readOne_103 rfl (lv_at hl 0 rfl) ?_
      refine fm_cv (va_runV (As := []) (rest := []) ⟨hx, hb, hml, hown, hts⟩ (fc_X5_advance l D ad C nb M_j1 hI) (cwV 0 hts gX5_readOne_X5_advance rfl rfl rfl (by decide +kernel) ⟨Nat.le_of_ble_eq_true rfl, Nat.le_of_ble_eq_true rfl⟩) (fm_preV hc hw hS kl_32 sh_32 rfl) rfl rfl hl.1 rfl (lv_room (Nat.le_of_ble_eq_true rfl)) dX5_readOne_104 ⟨by decide +kernel, by decide +kernel⟩) hS hc (fun M27 H locs hr26 hw hS => ?_)
      obtain ⟨hI, hEM27, hr26⟩ := hr26
      have hE := hE.tr hEM27 (by decide)
      refine lv_aload_n hx hb dX5_readOne_107 rfl (lv_at hl 0 rfl) ?_
      refine lv_iload_n hx hb dX5_readOne_108 rfl (lv_at hl 1 rfl) ?_
      refine lv_iconst (v := 1) hx hb dX5_readOne_109 (by decide) ?_
      refine lv_iadd hx hb dX5_readOne_110 ?_
      refine lv_topi (fun y29 ey29 => ?_)
      obtain rfl : y29 = 1 := ey29.trans (by decide)
      refine fm_cv (va_runV (As := [.int 1]) (rest := []) ⟨hx, hb, hml, hown, hts⟩ (fc_X5_readOne_1 l D ad C nb M27 hI) (cwV 1 hts gX5_readOne_X5_readOne rfl rfl rfl (by decide +kernel) ⟨Nat.le_of_ble_eq_true rfl, Nat.le_of_ble_eq_true rfl⟩) (fm_preV hc hw hS kl_32 sh_32 rfl) rfl rfl hl.1 rfl (lv_room (Nat.le_of_ble_eq_true rfl)) dX5_readOne_111 ⟨by decide +kernel, by decide +kernel⟩) hS hc (fun M31 H locs hr30 hw hS => ?_)
      obtain ⟨hI, hEM31, hr30⟩ := hr30
      have hE := hE.tr hEM31 (by decide)
      refine lv_aload_n hx hb dX5_readOne_114 rfl (lv_at hl 0 rfl) ?_
      refine fm_getG (a := 32) (j := 5) (T := TX5) (N := 8) hx hb hts hinX5 hown hc hw kl_32 sh_32 rfl (by decide) rfl (hI.to kl_32 tg_32_5) (hts (.fieldLink RX5 27 "RedTent$Reader" "made" "LRedTent$Text;") (List.mem_cons_of_mem _ tw_1_203)) (fun _ h9 => h9) dX5_readOne_115 ?_
      refine lv_bipush (v := (-19)) hx hb dX5_readOne_118 (by decide) ?_
      refine fm_cv (va_runV (As := [.int (-19)]) (rest := []) ⟨hx, hb, hml, hown, hts⟩ (fc_X9_addStep l D ad C nb M31 hI (-19)) (cwV 1 hts gX5_readOne_X9_addStep rfl rfl rfl (by decide +kernel) ⟨Nat.le_of_ble_eq_true rfl, Nat.le_of_ble_eq_true rfl⟩) (fm_preV hc hw hS kl_36 sh_36 rfl) rfl rfl hl.1 rfl (lv_room (Nat.le_of_ble_eq_true rfl)) dX5_readOne_120 ⟨by decide +kernel, by decide +kernel⟩) hS hc (fun M33 H locs hr32 hw hS => ?_)
      obtain ⟨hI, hEM33, hr32⟩ := hr32
      have hE := hE.tr hEM33 (by decide)
      refine lv_goto (tgt := 164) hx hb dX5_readOne_123 (by decide) ?_
      exact W.vret hx hb hr (fun t ht hW => ⟨⟨M33, rfl, ⟨hI, hE, trivial⟩, by show fm_at D ad C nb _ t.heap; rw [ht]; exact hw⟩, hS.F ht⟩) hS.2.2 dX5_readOne_164
    · refine fx_if_eq (tgt := 126) hx hb dX5_readOne_95 (by decide) zk_0 (fun c34 => ?_) (fun c34 => by exfalso; omega)
      exact j2 M_j1 hI hE _ _ hw hS ls (lv_sub hl [0, 1] rfl)
  refine lv_aload_n hx hb dX5_readOne_0 rfl (lv_at hl 0 rfl) ?_
  refine lv_bipush (v := 12) hx hb dX5_readOne_1 (by decide) ?_
  have zz35 := zk_12
  refine vp_callSi (va_Run.run (va_runV (As := [.int 12]) (rest := []) ⟨hx, hb, hml, hown, hts⟩ (fc_X5_sees l D ad C nb M hI 12) (cwV 1 hts gX5_readOne_X5_sees rfl rfl rfl (by decide +kernel) ⟨Nat.le_of_ble_eq_true rfl, Nat.le_of_ble_eq_true rfl⟩) (fm_preV hc hw hS kl_32 sh_32 rfl) rfl rfl hl.1 rfl (lv_room (Nat.le_of_ble_eq_true rfl)) dX5_readOne_3 ⟨by decide +kernel, by decide +kernel⟩)) (fun r36 hr36 => ?_)
  have bqq37 := hI.bd (k := 0) bd_32_6
  have bqq38 := hI.bd (k := 0) bd_32_7
  rcases hr36 with ⟨rfl, c39⟩ | ⟨rfl, c39⟩
  · refine fx_if_eq (tgt := 32) hx hb dX5_readOne_6 (by decide) zk_1 (fun c40 => by exfalso; omega) (fun c40 => ?_)
    refine lv_aload_n hx hb dX5_readOne_9 rfl (lv_at hl 0 rfl) ?_
    refine fm_getG (a := 32) (j := 5) (T := TX5) (N := 8) hx hb hts hinX5 hown hc hw kl_32 sh_32 rfl (by decide) rfl (hI.to kl_32 tg_32_5) (hts (.fieldLink RX5 27 "RedTent$Reader" "made" "LRedTent$Text;") (List.mem_cons_of_mem _ tw_1_203)) (fun _ h9 => h9) dX5_readOne_10 ?_
    refine lv_aload_n hx hb dX5_readOne_13 rfl (lv_at hl 0 rfl) ?_
    refine fm_getG (a := 32) (j := 4) (T := TX5) (N := 8) hx hb hts hinX5 hown hc hw kl_32 sh_32 rfl (by decide) rfl (hI.to kl_32 tg_32_4) (hts (.fieldLink RX5 21 "RedTent$Reader" "numbers" "[I") (List.mem_cons_of_mem _ tw_1_202)) (fun _ h9 => h9) dX5_readOne_14 ?_
    refine lv_aload_n hx hb dX5_readOne_17 rfl (lv_at hl 0 rfl) ?_
    refine fm_getI (a := 32) (j := 6) (T := TX5) (N := 8) hx hb hts hinX5 hown hc hw hI kl_32 sh_32 rfl (by decide) rfl bd_32_6 (hts (.fieldLink RX5 47 "RedTent$Reader" "at" "I") (List.mem_cons_of_mem _ tw_1_205)) (fun _ h9 => h9) dX5_readOne_18 (fun x41 ex41 bx41 => ?_)
    refine fm_iald (a := 35) hx hb hc hw hI kl_35 sh_35 ty_35 bd_35 (by omega) dX5_readOne_21 (fun x42 ex42 bx42 => ?_)
    refine fm_cv (va_runV (As := [.int x42]) (rest := []) ⟨hx, hb, hml, hown, hts⟩ (fc_X9_addStep l D ad C nb M hI x42) (cwV 1 hts gX5_readOne_X9_addStep rfl rfl rfl (by decide +kernel) ⟨Nat.le_of_ble_eq_true rfl, Nat.le_of_ble_eq_true rfl⟩) (fm_preV hc hw hS kl_36 sh_36 rfl) rfl rfl hl.1 rfl (lv_room (Nat.le_of_ble_eq_true rfl)) dX5_readOne_22 ⟨by decide +kernel, by decide +kernel⟩) hS hc (fun M44 H locs hr43 hw hS => ?_)
    obtain ⟨hI, hEM44, hr43⟩ := hr43
    have hE := hE.tr hEM44 (by decide)
    refine lv_aload_n hx hb dX5_readOne_25 rfl (lv_at hl 0 rfl) ?_
    refine fm_cv (va_runV (As := []) (rest := []) ⟨hx, hb, hml, hown, hts⟩ (fc_X5_advance l D ad C nb M44 hI) (cwV 0 hts gX5_readOne_X5_advance rfl rfl rfl (by decide +kernel) ⟨Nat.le_of_ble_eq_true rfl, Nat.le_of_ble_eq_true rfl⟩) (fm_preV hc hw hS kl_32 sh_32 rfl) rfl rfl hl.1 rfl (lv_room (Nat.le_of_ble_eq_true rfl)) dX5_readOne_26 ⟨by decide +kernel, by decide +kernel⟩) hS hc (fun M46 H locs hr45 hw hS => ?_)
    obtain ⟨hI, hEM46, hr45⟩ := hr45
    have hE := hE.tr hEM46 (by decide)
    refine lv_goto (tgt := 164) hx hb dX5_readOne_29 (by decide) ?_
    exact W.vret hx hb hr (fun t ht hW => ⟨⟨M46, rfl, ⟨hI, hE, trivial⟩, by show fm_at D ad C nb _ t.heap; rw [ht]; exact hw⟩, hS.F ht⟩) hS.2.2 dX5_readOne_164
  · refine fx_if_eq (tgt := 32) hx hb dX5_readOne_6 (by decide) zk_0 (fun c47 => ?_) (fun c47 => by exfalso; omega)
    refine lv_aload_n hx hb dX5_readOne_32 rfl (lv_at hl 0 rfl) ?_
    refine fm_getI (a := 32) (j := 7) (T := TX5) (N := 8) hx hb hts hinX5 hown hc hw hI kl_32 sh_32 rfl (by decide) rfl bd_32_7 (hts (.fieldLink RX5 50 "RedTent$Reader" "fault" "I") (List.mem_cons_of_mem _ tw_1_206)) (fun _ h9 => h9) dX5_readOne_33 (fun x48 ex48 bx48 => ?_)
    refine fx_if_ge (tgt := 89) hx hb dX5_readOne_36 (by decide) rfl (fun c49 => ?_) (fun c49 => ?_)
    · exact j1 M hI hE _ _ hw hS ls (lv_sub hl [0, 1] rfl)
    · refine lv_aload_n hx hb dX5_readOne_39 rfl (lv_at hl 0 rfl) ?_
      refine fm_getG (a := 32) (j := 2) (T := TX5) (N := 8) hx hb hts hinX5 hown hc hw kl_32 sh_32 rfl (by decide) rfl (hI.to kl_32 tg_32_2) (hts (.fieldLink RX5 15 "RedTent$Reader" "tokens" "[I") (List.mem_cons_of_mem _ tw_1_200)) (fun _ h9 => h9) dX5_readOne_40 ?_
      refine lv_aload_n hx hb dX5_readOne_43 rfl (lv_at hl 0 rfl) ?_
      refine fm_getI (a := 32) (j := 6) (T := TX5) (N := 8) hx hb hts hinX5 hown hc hw hI kl_32 sh_32 rfl (by decide) rfl bd_32_6 (hts (.fieldLink RX5 47 "RedTent$Reader" "at" "I") (List.mem_cons_of_mem _ tw_1_205)) (fun _ h9 => h9) dX5_readOne_44 (fun x50 ex50 bx50 => ?_)
      refine fm_iald (a := 33) hx hb hc hw hI kl_33 sh_33 ty_33 bd_33 (by omega) dX5_readOne_47 (fun x51 ex51 bx51 => ?_)
      refine fx_if_le (tgt := 89) hx hb dX5_readOne_48 (by decide) rfl (fun c52 => ?_) (fun c52 => ?_)
      · exact j1 M hI hE _ _ hw hS ls (lv_sub hl [0, 1] rfl)
      · refine lv_aload_n hx hb dX5_readOne_51 rfl (lv_at hl 0 rfl) ?_
        refine fm_getG (a := 32) (j := 2) (T := TX5) (N := 8) hx hb hts hinX5 hown hc hw kl_32 sh_32 rfl (by decide) rfl (hI.to kl_32 tg_32_2) (hts (.fieldLink RX5 15 "RedTent$Reader" "tokens" "[I") (List.mem_cons_of_mem _ tw_1_200)) (fun _ h9 => h9) dX5_readOne_52 ?_
        refine lv_aload_n hx hb dX5_readOne_55 rfl (lv_at hl 0 rfl) ?_
        refine fm_getI (a := 32) (j := 6) (T := TX5) (N := 8) hx hb hts hinX5 hown hc hw hI kl_32 sh_32 rfl (by decide) rfl bd_32_6 (hts (.fieldLink RX5 47 "RedTent$Reader" "at" "I") (List.mem_cons_of_mem _ tw_1_205)) (fun _ h9 => h9) dX5_readOne_56 (fun x53 ex53 bx53 => ?_)
        obtain rfl : x50 = x53 := by rw [ex53]; exact ex50
        refine fm_iald (a := 33) hx hb hc hw hI kl_33 sh_33 ty_33 bd_33 (by omega) dX5_readOne_59 (fun x54 ex54 bx54 => ?_)
        obtain rfl : x51 = x54 := by rw [ex54]; exact ex51
        refine lv_bipush (v := 6) hx hb dX5_readOne_60 (by decide) ?_
        refine fx_icmp_gt (tgt := 89) hx hb dX5_readOne_62 (by decide) rfl zk_6 (fun c55 => ?_) (fun c55 => ?_)
        · exact j1 M hI hE _ _ hw hS ls (lv_sub hl [0, 1] rfl)
        · refine lv_aload_n hx hb dX5_readOne_65 rfl (lv_at hl 0 rfl) ?_
          refine fm_getG (a := 32) (j := 5) (T := TX5) (N := 8) hx hb hts hinX5 hown hc hw kl_32 sh_32 rfl (by decide) rfl (hI.to kl_32 tg_32_5) (hts (.fieldLink RX5 27 "RedTent$Reader" "made" "LRedTent$Text;") (List.mem_cons_of_mem _ tw_1_203)) (fun _ h9 => h9) dX5_readOne_66 ?_
          refine lv_aload_n hx hb dX5_readOne_69 rfl (lv_at hl 0 rfl) ?_
          refine fm_getG (a := 32) (j := 2) (T := TX5) (N := 8) hx hb hts hinX5 hown hc hw kl_32 sh_32 rfl (by decide) rfl (hI.to kl_32 tg_32_2) (hts (.fieldLink RX5 15 "RedTent$Reader" "tokens" "[I") (List.mem_cons_of_mem _ tw_1_200)) (fun _ h9 => h9) dX5_readOne_70 ?_
          refine lv_aload_n hx hb dX5_readOne_73 rfl (lv_at hl 0 rfl) ?_
          refine fm_getI (a := 32) (j := 6) (T := TX5) (N := 8) hx hb hts hinX5 hown hc hw hI kl_32 sh_32 rfl (by decide) rfl bd_32_6 (hts (.fieldLink RX5 47 "RedTent$Reader" "at" "I") (List.mem_cons_of_mem _ tw_1_205)) (fun _ h9 => h9) dX5_readOne_74 (fun x56 ex56 bx56 => ?_)
          obtain rfl : x50 = x56 := by rw [ex56]; exact ex50
          refine fm_iald (a := 33) hx hb hc hw hI kl_33 sh_33 ty_33 bd_33 (by omega) dX5_readOne_77 (fun x57 ex57 bx57 => ?_)
          obtain rfl : x51 = x57 := by rw [ex57]; exact ex51
          refine fx_ineg hx hb dX5_readOne_78 rfl (by omega) (fun y58 ey58 ty58 => ?_)
          refine fm_cv (va_runV (As := [.int y58]) (rest := []) ⟨hx, hb, hml, hown, hts⟩ (fc_X9_addStep l D ad C nb M hI y58) (cwV 1 hts gX5_readOne_X9_addStep rfl rfl rfl (by decide +kernel) ⟨Nat.le_of_ble_eq_true rfl, Nat.le_of_ble_eq_true rfl⟩) (fm_preV hc hw hS kl_36 sh_36 rfl) rfl rfl hl.1 rfl (lv_room (Nat.le_of_ble_eq_true rfl)) dX5_readOne_79 ⟨by decide +kernel, by decide +kernel⟩) hS hc (fun M60 H locs hr59 hw hS => ?_)
          obtain ⟨hI, hEM60, hr59⟩ := hr59
          have hE := hE.tr hEM60 (by decide)
          refine lv_aload_n hx hb dX5_readOne_82 rfl (lv_at hl 0 rfl) ?_
          refine fm_cv (va_runV (As := []) (rest := []) ⟨hx, hb, hml, hown, hts⟩ (fc_X5_advance l D ad C nb M60 hI) (cwV 0 hts gX5_readOne_X5_advance rfl rfl rfl (by decide +kernel) ⟨Nat.le_of_ble_eq_true rfl, Nat.le_of_ble_eq_true rfl⟩) (fm_preV hc hw hS kl_32 sh_32 rfl) rfl rfl hl.1 rfl (lv_room (Nat.le_of_ble_eq_true rfl)) dX5_readOne_83 ⟨by decide +kernel, by decide +kernel⟩) hS hc (fun M62 H locs hr61 hw hS => ?_)
          obtain ⟨hI, hEM62, hr61⟩ := hr61
          have hE := hE.tr hEM62 (by decide)
          refine lv_goto (tgt := 164) hx hb dX5_readOne_86 (by decide) ?_
          exact W.vret hx hb hr (fun t ht hW => ⟨⟨M62, rfl, ⟨hI, hE, trivial⟩, by show fm_at D ad C nb _ t.heap; rw [ht]; exact hw⟩, hS.F ht⟩) hS.2.2 dX5_readOne_164
set_option maxHeartbeats 400000 in
set_option maxRecDepth 20000 in
theorem fc_X5_readTerm_0 (l : Launch) (D : va_G) (ad : Nat → Nat → Nat) (C : Nat → Nat → ClassId) (nb : Nat) (M : fm_M) (hI : fm_I nb ad M) : Met l yX5_readTerm wsX5_readTerm ({ frames := 37, cells := 0, slots := 0, locals := 807 }) (va_Pc [.ref (ad 32 0), .int 0] (fm_P D ad C nb M)) (va_Qv (fun (u : fm_M) => fm_I nb ad u ∧ fm_same [32006, 32007, 36001, 37000] M u ∧ True) (fun u t => fm_at D ad C nb u t.heap) (fm_A nb ad)) 0 0 (fm_A nb ad) := by
  refine Met.ofW (cc := cX5_readTerm) (maxL := 3) (ret := none) (by decide) rfl ?_
  intro p e s m args below meth c s₁ B hml hv
  obtain ⟨rfl, hw, hc⟩ := hv
  have hx := B.exec
  have hb := B.bytes
  have hr := B.returns
  have hts := atoms_spec (ws := wsX5_readTerm) B.pre
  have hown : s.vm.findClass RX5 = some m.cls := findClass_of_methodNamed B.named
  have hinX5 : ∀ w ∈ u_ws RX5 TX5 8, w ∈ wsX5_readTerm := fun w h => List.mem_cons_of_mem _ (iT_X5 w h)
  have hS : va_S (fm_A nb ad) s.heap s.heap [] := va_S.rf
  have hE : fm_same [32006, 32007, 36001, 37000] M M := fm_same.rf
  have hl := lv_entry ([.ref (ad 32 0), .int 0]) (n := 3) (Nat.le_of_ble_eq_true rfl)
  rw [lg_entry_eq]
  generalize (lg_sl ([.ref (ad 32 0), .int 0]) ++ List.replicate (3 - (lg_sl ([.ref (ad 32 0), .int 0])).length) Slot.unset).toArray = ls at hl ⊢
  have hl : lv_has ls 3 [(0, .ref (ad 32 0)), (1, .int 0)] := hl
  refine lv_aload_n hx hb dX5_readTerm_0 rfl (lv_at hl 0 rfl) ?_
  refine lv_iload_n hx hb dX5_readTerm_1 rfl (lv_at hl 1 rfl) ?_
  refine fm_cv (va_runV (As := [.int 0]) (rest := []) ⟨hx, hb, hml, hown, hts⟩ (fc_X5_readOne_0 l D ad C nb M hI) (cwV 1 hts gX5_readTerm_X5_readOne rfl rfl rfl (by decide +kernel) ⟨Nat.le_of_ble_eq_true rfl, Nat.le_of_ble_eq_true rfl⟩) (fm_preV hc hw hS kl_32 sh_32 rfl) rfl rfl hl.1 rfl (lv_room (Nat.le_of_ble_eq_true rfl)) dX5_readTerm_2 ⟨by decide +kernel, by decide +kernel⟩) hS hc (fun M2 H locs hr1 hw hS => ?_)
  obtain ⟨hI, hEM2, hr1⟩ := hr1
  have hE := hE.tr hEM2 (by decide)
  refine lv_iconst (v := 0) hx hb dX5_readTerm_5 (by decide) ?_
  refine lv_istore_n (lv' := [(2, .int 0), (0, .ref (ad 32 0)), (1, .int 0)]) hx hb dX5_readTerm_6 rfl hl (by decide) rfl (fun ls hl => ?_)
  have lp : ∀ (n_lp : Nat) (lp_2 : Int32) (M_lp : fm_M), (160 - lp_2.toInt).toNat < n_lp → (0 ≤ lp_2.toInt ∧ lp_2.toInt ≤ 160) → fm_I nb ad M_lp → fm_same [32006, 32007, 36001, 37000] M M_lp → ∀ (H : Heap) (locs : List Loc), fm_at D ad C nb M_lp H → va_S (fm_A nb ad) s.heap H locs → ∀ (ls : Array Slot), lv_has ls 3 [(2, .int lp_2), (0, .ref (ad 32 0)), (1, .int 0)] → W p l e (headSpec wsX5_readTerm ({ frames := 37, cells := 0, slots := 0, locals := 807 })).room s m ([.ref (ad 32 0), .int 0] : List Value).toArray below meth c H locs 0 0 (MQ below (va_Qv (fun (u : fm_M) => fm_I nb ad u ∧ fm_same [32006, 32007, 36001, 37000] M u ∧ True) (fun u t => fm_at D ad C nb u t.heap) (fm_A nb ad)) ([.ref (ad 32 0), .int 0] : List Value).toArray s 0 0 (fm_A nb ad)) (F0 m 7 ls []) := by
    intro n_lp
    induction n_lp with
    | zero => intro lp_2 M_lp hm_lp b_lp_2 hI hE H locs hw hS ls hl; exact absurd hm_lp (Nat.not_lt_zero _)
    | succ n_lp ih_lp =>
      intro lp_2 M_lp hm_lp b_lp_2 hI hE H locs hw hS ls hl
      refine lv_iload_n hx hb dX5_readTerm_7 rfl (lv_at hl 0 rfl) ?_
      refine lv_sipush (v := 160) hx hb dX5_readTerm_8 (by decide) ?_
      refine fx_icmp_ge (tgt := 47) hx hb dX5_readTerm_11 (by decide) rfl zk_160 (fun c3 => ?_) (fun c3 => ?_)
      · exact W.vret hx hb hr (fun t ht hW => ⟨⟨M_lp, rfl, ⟨hI, hE, trivial⟩, by show fm_at D ad C nb _ t.heap; rw [ht]; exact hw⟩, hS.F ht⟩) hS.2.2 dX5_readTerm_47
      · refine lv_aload_n hx hb dX5_readTerm_14 rfl (lv_at hl 1 rfl) ?_
        refine lv_bipush (v := 42) hx hb dX5_readTerm_15 (by decide) ?_
        have zz4 := zk_42
        refine vp_callSi (va_Run.run (va_runV (As := [.int 42]) (rest := []) ⟨hx, hb, hml, hown, hts⟩ (fc_X5_sees l D ad C nb M_lp hI 42) (cwV 1 hts gX5_readTerm_X5_sees rfl rfl rfl (by decide +kernel) ⟨Nat.le_of_ble_eq_true rfl, Nat.le_of_ble_eq_true rfl⟩) (fm_preV hc hw hS kl_32 sh_32 rfl) rfl rfl hl.1 rfl (lv_room (Nat.le_of_ble_eq_true rfl)) dX5_readTerm_17 ⟨by decide +kernel, by decide +kernel⟩)) (fun r5 hr5 => ?_)
        have bqq6 := hI.bd (k := 0) bd_32_6
        have bqq7 := hI.bd (k := 0) bd_32_7
        rcases hr5 with ⟨rfl, c8⟩ | ⟨rfl, c8⟩
        · refine fx_if_eq (tgt := 47) hx hb dX5_readTerm_20 (by decide) zk_1 (fun c9 => by exfalso; omega) (fun c9 => ?_)
          refine lv_aload_n hx hb dX5_readTerm_23 rfl (lv_at hl 1 rfl) ?_
          refine fm_cv (va_runV (As := []) (rest := []) ⟨hx, hb, hml, hown, hts⟩ (fc_X5_advance l D ad C nb M_lp hI) (cwV 0 hts gX5_readTerm_X5_advance rfl rfl rfl (by decide +kernel) ⟨Nat.le_of_ble_eq_true rfl, Nat.le_of_ble_eq_true rfl⟩) (fm_preV hc hw hS kl_32 sh_32 rfl) rfl rfl hl.1 rfl (lv_room (Nat.le_of_ble_eq_true rfl)) dX5_readTerm_24 ⟨by decide +kernel, by decide +kernel⟩) hS hc (fun M11 H locs hr10 hw hS => ?_)
          obtain ⟨hI, hEM11, hr10⟩ := hr10
          have hE := hE.tr hEM11 (by decide)
          refine lv_aload_n hx hb dX5_readTerm_27 rfl (lv_at hl 1 rfl) ?_
          refine lv_iload_n hx hb dX5_readTerm_28 rfl (lv_at hl 2 rfl) ?_
          refine fm_cv (va_runV (As := [.int 0]) (rest := []) ⟨hx, hb, hml, hown, hts⟩ (fc_X5_readOne_0 l D ad C nb M11 hI) (cwV 1 hts gX5_readTerm_X5_readOne rfl rfl rfl (by decide +kernel) ⟨Nat.le_of_ble_eq_true rfl, Nat.le_of_ble_eq_true rfl⟩) (fm_preV hc hw hS kl_32 sh_32 rfl) rfl rfl hl.1 rfl (lv_room (Nat.le_of_ble_eq_true rfl)) dX5_readTerm_29 ⟨by decide +kernel, by decide +kernel⟩) hS hc (fun M13 H locs hr12 hw hS => ?_)
          obtain ⟨hI, hEM13, hr12⟩ := hr12
          have hE := hE.tr hEM13 (by decide)
          refine lv_aload_n hx hb dX5_readTerm_32 rfl (lv_at hl 1 rfl) ?_
          refine fm_getG (a := 32) (j := 5) (T := TX5) (N := 8) hx hb hts hinX5 hown hc hw kl_32 sh_32 rfl (by decide) rfl (hI.to kl_32 tg_32_5) (hts (.fieldLink RX5 27 "RedTent$Reader" "made" "LRedTent$Text;") (List.mem_cons_of_mem _ tw_1_203)) (fun _ h9 => h9) dX5_readTerm_33 ?_
          refine lv_bipush (v := (-18)) hx hb dX5_readTerm_36 (by decide) ?_
          refine fm_cv (va_runV (As := [.int (-18)]) (rest := []) ⟨hx, hb, hml, hown, hts⟩ (fc_X9_addStep l D ad C nb M13 hI (-18)) (cwV 1 hts gX5_readTerm_X9_addStep rfl rfl rfl (by decide +kernel) ⟨Nat.le_of_ble_eq_true rfl, Nat.le_of_ble_eq_true rfl⟩) (fm_preV hc hw hS kl_36 sh_36 rfl) rfl rfl hl.1 rfl (lv_room (Nat.le_of_ble_eq_true rfl)) dX5_readTerm_38 ⟨by decide +kernel, by decide +kernel⟩) hS hc (fun M15 H locs hr14 hw hS => ?_)
          obtain ⟨hI, hEM15, hr14⟩ := hr14
          have hE := hE.tr hEM15 (by decide)
          obtain ⟨y16, ey16⟩ : ∃ y : Int32, y = lp_2 + 1 := ⟨_, rfl⟩
          have ty16 : y16.toInt = lp_2.toInt + 1 := by rw [ey16, zi_add _ _ (by rw [zk_1]; omega) (by rw [zk_1]; omega), zk_1]
          refine lv_iinc (v := y16) (lv' := [(2, .int y16), (0, .ref (ad 32 0)), (1, .int 0)]) hx hb dX5_readTerm_41 hl (k := 0) rfl (by rw [ey16]; rfl) (by decide) rfl (fun ls hl => ?_)
          refine lv_goto (tgt := 7) hx hb dX5_readTerm_44 (by decide) ?_
          exact ih_lp y16 M15 (by omega) (by omega) hI hE _ _ hw hS ls (lv_sub hl [0, 1, 2] rfl)
        · refine fx_if_eq (tgt := 47) hx hb dX5_readTerm_20 (by decide) zk_0 (fun c17 => ?_) (fun c17 => by exfalso; omega)
          exact W.vret hx hb hr (fun t ht hW => ⟨⟨M_lp, rfl, ⟨hI, hE, trivial⟩, by show fm_at D ad C nb _ t.heap; rw [ht]; exact hw⟩, hS.F ht⟩) hS.2.2 dX5_readTerm_47
  exact lp _ 0 M2 (Nat.lt_succ_self _) (by decide) hI hE _ _ hw hS ls (lv_sub hl [0, 1, 2] rfl)
set_option maxHeartbeats 400000 in
set_option maxRecDepth 20000 in
theorem fc_X5_readSum_0 (l : Launch) (D : va_G) (ad : Nat → Nat → Nat) (C : Nat → Nat → ClassId) (nb : Nat) (M : fm_M) (hI : fm_I nb ad M) : Met l yX5_readSum wsX5_readSum ({ frames := 38, cells := 0, slots := 0, locals := 829 }) (va_Pc [.ref (ad 32 0), .int 0] (fm_P D ad C nb M)) (va_Qv (fun (u : fm_M) => fm_I nb ad u ∧ fm_same [32006, 32007, 36001, 37000] M u ∧ True) (fun u t => fm_at D ad C nb u t.heap) (fm_A nb ad)) 0 0 (fm_A nb ad) := by
  refine Met.ofW (cc := cX5_readSum) (maxL := 4) (ret := none) (by decide) rfl ?_
  intro p e s m args below meth c s₁ B hml hv
  obtain ⟨rfl, hw, hc⟩ := hv
  have hx := B.exec
  have hb := B.bytes
  have hr := B.returns
  have hts := atoms_spec (ws := wsX5_readSum) B.pre
  have hown : s.vm.findClass RX5 = some m.cls := findClass_of_methodNamed B.named
  have hinX5 : ∀ w ∈ u_ws RX5 TX5 8, w ∈ wsX5_readSum := fun w h => List.mem_cons_of_mem _ (iT_X5 w h)
  have hS : va_S (fm_A nb ad) s.heap s.heap [] := va_S.rf
  have hE : fm_same [32006, 32007, 36001, 37000] M M := fm_same.rf
  have hl := lv_entry ([.ref (ad 32 0), .int 0]) (n := 4) (Nat.le_of_ble_eq_true rfl)
  rw [lg_entry_eq]
  generalize (lg_sl ([.ref (ad 32 0), .int 0]) ++ List.replicate (4 - (lg_sl ([.ref (ad 32 0), .int 0])).length) Slot.unset).toArray = ls at hl ⊢
  have hl : lv_has ls 4 [(0, .ref (ad 32 0)), (1, .int 0)] := hl
  refine lv_aload_n hx hb dX5_readSum_0 rfl (lv_at hl 0 rfl) ?_
  refine lv_iload_n hx hb dX5_readSum_1 rfl (lv_at hl 1 rfl) ?_
  refine fm_cv (va_runV (As := [.int 0]) (rest := []) ⟨hx, hb, hml, hown, hts⟩ (fc_X5_readTerm_0 l D ad C nb M hI) (cwV 1 hts gX5_readSum_X5_readTerm rfl rfl rfl (by decide +kernel) ⟨Nat.le_of_ble_eq_true rfl, Nat.le_of_ble_eq_true rfl⟩) (fm_preV hc hw hS kl_32 sh_32 rfl) rfl rfl hl.1 rfl (lv_room (Nat.le_of_ble_eq_true rfl)) dX5_readSum_2 ⟨by decide +kernel, by decide +kernel⟩) hS hc (fun M2 H locs hr1 hw hS => ?_)
  obtain ⟨hI, hEM2, hr1⟩ := hr1
  have hE := hE.tr hEM2 (by decide)
  refine lv_iconst (v := 0) hx hb dX5_readSum_5 (by decide) ?_
  refine lv_istore_n (lv' := [(2, .int 0), (0, .ref (ad 32 0)), (1, .int 0)]) hx hb dX5_readSum_6 rfl hl (by decide) rfl (fun ls hl => ?_)
  have lp : ∀ (n_lp : Nat) (lp_2 : Int32) (M_lp : fm_M), (160 - lp_2.toInt).toNat < n_lp → (0 ≤ lp_2.toInt ∧ lp_2.toInt ≤ 160) → fm_I nb ad M_lp → fm_same [32006, 32007, 36001, 37000] M M_lp → ∀ (H : Heap) (locs : List Loc), fm_at D ad C nb M_lp H → va_S (fm_A nb ad) s.heap H locs → ∀ (ls : Array Slot), lv_has ls 4 [(2, .int lp_2), (0, .ref (ad 32 0)), (1, .int 0)] → W p l e (headSpec wsX5_readSum ({ frames := 38, cells := 0, slots := 0, locals := 829 })).room s m ([.ref (ad 32 0), .int 0] : List Value).toArray below meth c H locs 0 0 (MQ below (va_Qv (fun (u : fm_M) => fm_I nb ad u ∧ fm_same [32006, 32007, 36001, 37000] M u ∧ True) (fun u t => fm_at D ad C nb u t.heap) (fm_A nb ad)) ([.ref (ad 32 0), .int 0] : List Value).toArray s 0 0 (fm_A nb ad)) (F0 m 7 ls []) := by
    intro n_lp
    induction n_lp with
    | zero => intro lp_2 M_lp hm_lp b_lp_2 hI hE H locs hw hS ls hl; exact absurd hm_lp (Nat.not_lt_zero _)
    | succ n_lp ih_lp =>
      intro lp_2 M_lp hm_lp b_lp_2 hI hE H locs hw hS ls hl
      refine lv_iload_n hx hb dX5_readSum_7 rfl (lv_at hl 0 rfl) ?_
      refine lv_sipush (v := 160) hx hb dX5_readSum_8 (by decide) ?_
      refine fx_icmp_ge (tgt := 72) hx hb dX5_readSum_11 (by decide) rfl zk_160 (fun c3 => ?_) (fun c3 => ?_)
      · exact W.vret hx hb hr (fun t ht hW => ⟨⟨M_lp, rfl, ⟨hI, hE, trivial⟩, by show fm_at D ad C nb _ t.heap; rw [ht]; exact hw⟩, hS.F ht⟩) hS.2.2 dX5_readSum_72
      · have j1 : ∀  (M_j1 : fm_M), fm_I nb ad M_j1 → fm_same [32006, 32007, 36001, 37000] M M_j1 → ∀ (H : Heap) (locs : List Loc), fm_at D ad C nb M_j1 H → va_S (fm_A nb ad) s.heap H locs → ∀ (ls : Array Slot), lv_has ls 4 [(2, .int lp_2), (0, .ref (ad 32 0)), (1, .int 0)] → W p l e (headSpec wsX5_readSum ({ frames := 38, cells := 0, slots := 0, locals := 829 })).room s m ([.ref (ad 32 0), .int 0] : List Value).toArray below meth c H locs 0 0 (MQ below (va_Qv (fun (u : fm_M) => fm_I nb ad u ∧ fm_same [32006, 32007, 36001, 37000] M u ∧ True) (fun u t => fm_at D ad C nb u t.heap) (fm_A nb ad)) ([.ref (ad 32 0), .int 0] : List Value).toArray s 0 0 (fm_A nb ad)) (F0 m 32 ls []) := by
          intro  M_j1 hI hE H locs hw hS ls hl
          have j2 : ∀ (j2_3 : Int32) (M_j2 : fm_M), ((-17) ≤ j2_3.toInt ∧ j2_3.toInt ≤ (-16)) → fm_I nb ad M_j2 → fm_same [32006, 32007, 36001, 37000] M M_j2 → ∀ (H : Heap) (locs : List Loc), fm_at D ad C nb M_j2 H → va_S (fm_A nb ad) s.heap H locs → ∀ (ls : Array Slot), lv_has ls 4 [(2, .int lp_2), (0, .ref (ad 32 0)), (1, .int 0), (3, .int j2_3)] → W p l e (headSpec wsX5_readSum ({ frames := 38, cells := 0, slots := 0, locals := 829 })).room s m ([.ref (ad 32 0), .int 0] : List Value).toArray below meth c H locs 0 0 (MQ below (va_Qv (fun (u : fm_M) => fm_I nb ad u ∧ fm_same [32006, 32007, 36001, 37000] M u ∧ True) (fun u t => fm_at D ad C nb u t.heap) (fm_A nb ad)) ([.ref (ad 32 0), .int 0] : List Value).toArray s 0 0 (fm_A nb ad)) (F0 m 49 ls []) := by
            intro j2_3 M_j2 b_j2_3 hI hE H locs hw hS ls hl
            refine lv_aload_n hx hb dX5_readSum_49 rfl (lv_at hl 1 rfl) ?_
            refine fm_cv (va_runV (As := []) (rest := []) ⟨hx, hb, hml, hown, hts⟩ (fc_X5_advance l D ad C nb M_j2 hI) (cwV 0 hts gX5_readSum_X5_advance rfl rfl rfl (by decide +kernel) ⟨Nat.le_of_ble_eq_true rfl, Nat.le_of_ble_eq_true rfl⟩) (fm_preV hc hw hS kl_32 sh_32 rfl) rfl rfl hl.1 rfl (lv_room (Nat.le_of_ble_eq_true rfl)) dX5_readSum_50 ⟨by decide +kernel, by decide +kernel⟩) hS hc (fun M5 H locs hr4 hw hS => ?_)
            obtain ⟨hI, hEM5, hr4⟩ := hr4
            have hE := hE.tr hEM5 (by decide)
            refine lv_aload_n hx hb dX5_readSum_53 rfl (lv_at hl 1 rfl) ?_
            refine lv_iload_n hx hb dX5_readSum_54 rfl (lv_at hl 2 rfl) ?_
            refine fm_cv (va_runV (As := [.int 0]) (rest := []) ⟨hx, hb, hml, hown, hts⟩ (fc_X5_readTerm_0 l D ad C nb M5 hI) (cwV 1 hts gX5_readSum_X5_readTerm rfl rfl rfl (by decide +kernel) ⟨Nat.le_of_ble_eq_true rfl, Nat.le_of_ble_eq_true rfl⟩) (fm_preV hc hw hS kl_32 sh_32 rfl) rfl rfl hl.1 rfl (lv_room (Nat.le_of_ble_eq_true rfl)) dX5_readSum_55 ⟨by decide +kernel, by decide +kernel⟩) hS hc (fun M7 H locs hr6 hw hS => ?_)
            obtain ⟨hI, hEM7, hr6⟩ := hr6
            have hE := hE.tr hEM7 (by decide)
            refine lv_aload_n hx hb dX5_readSum_58 rfl (lv_at hl 1 rfl) ?_
            refine fm_getG (a := 32) (j := 5) (T := TX5) (N := 8) hx hb hts hinX5 hown hc hw kl_32 sh_32 rfl (by decide) rfl (hI.to kl_32 tg_32_5) (hts (.fieldLink RX5 27 "RedTent$Reader" "made" "LRedTent$Text;") (List.mem_cons_of_mem _ tw_1_203)) (fun _ h9 => h9) dX5_readSum_59 ?_
            refine lv_iload_n hx hb dX5_readSum_62 rfl (lv_at hl 3 rfl) ?_
            refine fm_cv (va_runV (As := [.int j2_3]) (rest := []) ⟨hx, hb, hml, hown, hts⟩ (fc_X9_addStep l D ad C nb M7 hI j2_3) (cwV 1 hts gX5_readSum_X9_addStep rfl rfl rfl (by decide +kernel) ⟨Nat.le_of_ble_eq_true rfl, Nat.le_of_ble_eq_true rfl⟩) (fm_preV hc hw hS kl_36 sh_36 rfl) rfl rfl hl.1 rfl (lv_room (Nat.le_of_ble_eq_true rfl)) dX5_readSum_63 ⟨by decide +kernel, by decide +kernel⟩) hS hc (fun M9 H locs hr8 hw hS => ?_)
            obtain ⟨hI, hEM9, hr8⟩ := hr8
            have hE := hE.tr hEM9 (by decide)
            obtain ⟨y10, ey10⟩ : ∃ y : Int32, y = lp_2 + 1 := ⟨_, rfl⟩
            have ty10 : y10.toInt = lp_2.toInt + 1 := by rw [ey10, zi_add _ _ (by rw [zk_1]; omega) (by rw [zk_1]; omega), zk_1]
            refine lv_iinc (v := y10) (lv' := [(2, .int y10), (0, .ref (ad 32 0)), (1, .int 0), (3, .int j2_3)]) hx hb dX5_readSum_66 hl (k := 0) rfl (by rw [ey10]; rfl) (by decide) rfl (fun ls hl => ?_)
            refine lv_goto (tgt := 7) hx hb dX5_readSum_69 (by decide) ?_
            exact ih_lp y10 M9 (by omega) (by omega) hI hE _ _ hw hS ls (lv_sub hl [0, 1, 2] rfl)
          refine lv_aload_n hx hb dX5_readSum_32 rfl (lv_at hl 1 rfl) ?_
          refine lv_bipush (v := 43) hx hb dX5_readSum_33 (by decide) ?_
          have zz11 := zk_43
          refine vp_callSi (va_Run.run (va_runV (As := [.int 43]) (rest := []) ⟨hx, hb, hml, hown, hts⟩ (fc_X5_sees l D ad C nb M_j1 hI 43) (cwV 1 hts gX5_readSum_X5_sees rfl rfl rfl (by decide +kernel) ⟨Nat.le_of_ble_eq_true rfl, Nat.le_of_ble_eq_true rfl⟩) (fm_preV hc hw hS kl_32 sh_32 rfl) rfl rfl hl.1 rfl (lv_room (Nat.le_of_ble_eq_true rfl)) dX5_readSum_35 ⟨by decide +kernel, by decide +kernel⟩)) (fun r12 hr12 => ?_)
          have bqq13 := hI.bd (k := 0) bd_32_6
          have bqq14 := hI.bd (k := 0) bd_32_7
          rcases hr12 with ⟨rfl, c15⟩ | ⟨rfl, c15⟩
          · refine fx_if_eq (tgt := 46) hx hb dX5_readSum_38 (by decide) zk_1 (fun c16 => by exfalso; omega) (fun c16 => ?_)
            refine lv_bipush (v := (-16)) hx hb dX5_readSum_41 (by decide) ?_
            refine lv_goto (tgt := 48) hx hb dX5_readSum_43 (by decide) ?_
            refine lv_istore_n (lv' := [(3, .int (-16)), (2, .int lp_2), (0, .ref (ad 32 0)), (1, .int 0)]) hx hb dX5_readSum_48 rfl hl (by decide) rfl (fun ls hl => ?_)
            exact j2 (-16) M_j1 (by decide) hI hE _ _ hw hS ls (lv_sub hl [1, 2, 3, 0] rfl)
          · refine fx_if_eq (tgt := 46) hx hb dX5_readSum_38 (by decide) zk_0 (fun c17 => ?_) (fun c17 => by exfalso; omega)
            refine lv_bipush (v := (-17)) hx hb dX5_readSum_46 (by decide) ?_
            refine lv_istore_n (lv' := [(3, .int (-17)), (2, .int lp_2), (0, .ref (ad 32 0)), (1, .int 0)]) hx hb dX5_readSum_48 rfl hl (by decide) rfl (fun ls hl => ?_)
            exact j2 (-17) M_j1 (by decide) hI hE _ _ hw hS ls (lv_sub hl [1, 2, 3, 0] rfl)
        refine lv_aload_n hx hb dX5_readSum_14 rfl (lv_at hl 1 rfl) ?_
        refine lv_bipush (v := 43) hx hb dX5_readSum_15 (by decide) ?_
        have zz18 := zk_43
        refine vp_callSi (va_Run.run (va_runV (As := [.int 43]) (rest := []) ⟨hx, hb, hml, hown, hts⟩ (fc_X5_sees l D ad C nb M_lp hI 43) (cwV 1 hts gX5_readSum_X5_sees rfl rfl rfl (by decide +kernel) ⟨Nat.le_of_ble_eq_true rfl, Nat.le_of_ble_eq_true rfl⟩) (fm_preV hc hw hS kl_32 sh_32 rfl) rfl rfl hl.1 rfl (lv_room (Nat.le_of_ble_eq_true rfl)) dX5_readSum_17 ⟨by decide +kernel, by decide +kernel⟩)) (fun r19 hr19 => ?_)
        have bqq20 := hI.bd (k := 0) bd_32_6
        have bqq21 := hI.bd (k := 0) bd_32_7
        rcases hr19 with ⟨rfl, c22⟩ | ⟨rfl, c22⟩
        · refine fx_if_ne (tgt := 32) hx hb dX5_readSum_20 (by decide) zk_1 (fun c23 => ?_) (fun c23 => by exfalso; omega)
          exact j1 M_lp hI hE _ _ hw hS ls (lv_sub hl [0, 1, 2] rfl)
        · refine fx_if_ne (tgt := 32) hx hb dX5_readSum_20 (by decide) zk_0 (fun c24 => by exfalso; omega) (fun c24 => ?_)
          refine lv_aload_n hx hb dX5_readSum_23 rfl (lv_at hl 1 rfl) ?_
          refine lv_bipush (v := 45) hx hb dX5_readSum_24 (by decide) ?_
          have zz25 := zk_45
          refine vp_callSi (va_Run.run (va_runV (As := [.int 45]) (rest := []) ⟨hx, hb, hml, hown, hts⟩ (fc_X5_sees l D ad C nb M_lp hI 45) (cwV 1 hts gX5_readSum_X5_sees rfl rfl rfl (by decide +kernel) ⟨Nat.le_of_ble_eq_true rfl, Nat.le_of_ble_eq_true rfl⟩) (fm_preV hc hw hS kl_32 sh_32 rfl) rfl rfl hl.1 rfl (lv_room (Nat.le_of_ble_eq_true rfl)) dX5_readSum_26 ⟨by decide +kernel, by decide +kernel⟩)) (fun r26 hr26 => ?_)
          have bqq27 := hI.bd (k := 0) bd_32_6
          have bqq28 := hI.bd (k := 0) bd_32_7
          rcases hr26 with ⟨rfl, c29⟩ | ⟨rfl, c29⟩
          · refine fx_if_eq (tgt := 72) hx hb dX5_readSum_29 (by decide) zk_1 (fun c30 => by exfalso; omega) (fun c30 => ?_)
            exact j1 M_lp hI hE _ _ hw hS ls (lv_sub hl [0, 1, 2] rfl)
          · refine fx_if_eq (tgt := 72) hx hb dX5_readSum_29 (by decide) zk_0 (fun c31 => ?_) (fun c31 => by exfalso; omega)
            exact W.vret hx hb hr (fun t ht hW => ⟨⟨M_lp, rfl, ⟨hI, hE, trivial⟩, by show fm_at D ad C nb _ t.heap; rw [ht]; exact hw⟩, hS.F ht⟩) hS.2.2 dX5_readSum_72
  exact lp _ 0 M2 (Nat.lt_succ_self _) (by decide) hI hE _ _ hw hS ls (lv_sub hl [0, 1, 2] rfl)
set_option maxHeartbeats 400000 in
set_option maxRecDepth 20000 in
theorem fc_X5_readCompared_0 (l : Launch) (D : va_G) (ad : Nat → Nat → Nat) (C : Nat → Nat → ClassId) (nb : Nat) (M : fm_M) (hI : fm_I nb ad M) : Met l yX5_readCompared wsX5_readCompared ({ frames := 39, cells := 0, slots := 0, locals := 852 }) (va_Pc [.ref (ad 32 0), .int 0] (fm_P D ad C nb M)) (va_Qv (fun (u : fm_M) => fm_I nb ad u ∧ fm_same [32006, 32007, 36001, 37000] M u ∧ True) (fun u t => fm_at D ad C nb u t.heap) (fm_A nb ad)) 0 0 (fm_A nb ad) := by
  refine Met.ofW (cc := cX5_readCompared) (maxL := 3) (ret := none) (by decide) rfl ?_
  intro p e s m args below meth c s₁ B hml hv
  obtain ⟨rfl, hw, hc⟩ := hv
  have hx := B.exec
  have hb := B.bytes
  have hr := B.returns
  have hts := atoms_spec (ws := wsX5_readCompared) B.pre
  have hown : s.vm.findClass RX5 = some m.cls := findClass_of_methodNamed B.named
  have hinX5 : ∀ w ∈ u_ws RX5 TX5 8, w ∈ wsX5_readCompared := fun w h => List.mem_cons_of_mem _ (iT_X5 w h)
  have hS : va_S (fm_A nb ad) s.heap s.heap [] := va_S.rf
  have hE : fm_same [32006, 32007, 36001, 37000] M M := fm_same.rf
  have hl := lv_entry ([.ref (ad 32 0), .int 0]) (n := 3) (Nat.le_of_ble_eq_true rfl)
  rw [lg_entry_eq]
  generalize (lg_sl ([.ref (ad 32 0), .int 0]) ++ List.replicate (3 - (lg_sl ([.ref (ad 32 0), .int 0])).length) Slot.unset).toArray = ls at hl ⊢
  have hl : lv_has ls 3 [(0, .ref (ad 32 0)), (1, .int 0)] := hl
  refine lv_aload_n hx hb dX5_readCompared_0 rfl (lv_at hl 0 rfl) ?_
  refine lv_iload_n hx hb dX5_readCompared_1 rfl (lv_at hl 1 rfl) ?_
  refine fm_cv (va_runV (As := [.int 0]) (rest := []) ⟨hx, hb, hml, hown, hts⟩ (fc_X5_readSum_0 l D ad C nb M hI) (cwV 1 hts gX5_readCompared_X5_readSum rfl rfl rfl (by decide +kernel) ⟨Nat.le_of_ble_eq_true rfl, Nat.le_of_ble_eq_true rfl⟩) (fm_preV hc hw hS kl_32 sh_32 rfl) rfl rfl hl.1 rfl (lv_room (Nat.le_of_ble_eq_true rfl)) dX5_readCompared_2 ⟨by decide +kernel, by decide +kernel⟩) hS hc (fun M2 H locs hr1 hw hS => ?_)
  obtain ⟨hI, hEM2, hr1⟩ := hr1
  have hE := hE.tr hEM2 (by decide)
  have j1 : ∀  (M_j1 : fm_M), fm_I nb ad M_j1 → fm_same [32006, 32007, 36001, 37000] M M_j1 → ∀ (H : Heap) (locs : List Loc), fm_at D ad C nb M_j1 H → va_S (fm_A nb ad) s.heap H locs → ∀ (ls : Array Slot), lv_has ls 3 [(0, .ref (ad 32 0)), (1, .int 0)] → W p l e (headSpec wsX5_readCompared ({ frames := 39, cells := 0, slots := 0, locals := 852 })).room s m ([.ref (ad 32 0), .int 0] : List Value).toArray below meth c H locs 0 0 (MQ below (va_Qv (fun (u : fm_M) => fm_I nb ad u ∧ fm_same [32006, 32007, 36001, 37000] M u ∧ True) (fun u t => fm_at D ad C nb u t.heap) (fm_A nb ad)) ([.ref (ad 32 0), .int 0] : List Value).toArray s 0 0 (fm_A nb ad)) (F0 m 23 ls []) := by
    intro  M_j1 hI hE H locs hw hS ls hl
    have j2 : ∀ (j2_2 : Int32) (M_j2 : fm_M), ((-15) ≤ j2_2.toInt ∧ j2_2.toInt ≤ (-14)) → fm_I nb ad M_j2 → fm_same [32006, 32007, 36001, 37000] M M_j2 → ∀ (H : Heap) (locs : List Loc), fm_at D ad C nb M_j2 H → va_S (fm_A nb ad) s.heap H locs → ∀ (ls : Array Slot), lv_has ls 3 [(0, .ref (ad 32 0)), (1, .int 0), (2, .int j2_2)] → W p l e (headSpec wsX5_readCompared ({ frames := 39, cells := 0, slots := 0, locals := 852 })).room s m ([.ref (ad 32 0), .int 0] : List Value).toArray below meth c H locs 0 0 (MQ below (va_Qv (fun (u : fm_M) => fm_I nb ad u ∧ fm_same [32006, 32007, 36001, 37000] M u ∧ True) (fun u t => fm_at D ad C nb u t.heap) (fm_A nb ad)) ([.ref (ad 32 0), .int 0] : List Value).toArray s 0 0 (fm_A nb ad)) (F0 m 40 ls []) := by
      intro j2_2 M_j2 b_j2_2 hI hE H locs hw hS ls hl
      refine lv_aload_n hx hb dX5_readCompared_40 rfl (lv_at hl 0 rfl) ?_
      refine fm_cv (va_runV (As := []) (rest := []) ⟨hx, hb, hml, hown, hts⟩ (fc_X5_advance l D ad C nb M_j2 hI) (cwV 0 hts gX5_readCompared_X5_advance rfl rfl rfl (by decide +kernel) ⟨Nat.le_of_ble_eq_true rfl, Nat.le_of_ble_eq_true rfl⟩) (fm_preV hc hw hS kl_32 sh_32 rfl) rfl rfl hl.1 rfl (lv_room (Nat.le_of_ble_eq_true rfl)) dX5_readCompared_41 ⟨by decide +kernel, by decide +kernel⟩) hS hc (fun M4 H locs hr3 hw hS => ?_)
      obtain ⟨hI, hEM4, hr3⟩ := hr3
      have hE := hE.tr hEM4 (by decide)
      refine lv_aload_n hx hb dX5_readCompared_44 rfl (lv_at hl 0 rfl) ?_
      refine lv_iload_n hx hb dX5_readCompared_45 rfl (lv_at hl 1 rfl) ?_
      refine fm_cv (va_runV (As := [.int 0]) (rest := []) ⟨hx, hb, hml, hown, hts⟩ (fc_X5_readSum_0 l D ad C nb M4 hI) (cwV 1 hts gX5_readCompared_X5_readSum rfl rfl rfl (by decide +kernel) ⟨Nat.le_of_ble_eq_true rfl, Nat.le_of_ble_eq_true rfl⟩) (fm_preV hc hw hS kl_32 sh_32 rfl) rfl rfl hl.1 rfl (lv_room (Nat.le_of_ble_eq_true rfl)) dX5_readCompared_46 ⟨by decide +kernel, by decide +kernel⟩) hS hc (fun M6 H locs hr5 hw hS => ?_)
      obtain ⟨hI, hEM6, hr5⟩ := hr5
      have hE := hE.tr hEM6 (by decide)
      refine lv_aload_n hx hb dX5_readCompared_49 rfl (lv_at hl 0 rfl) ?_
      refine fm_getG (a := 32) (j := 5) (T := TX5) (N := 8) hx hb hts hinX5 hown hc hw kl_32 sh_32 rfl (by decide) rfl (hI.to kl_32 tg_32_5) (hts (.fieldLink RX5 27 "RedTent$Reader" "made" "LRedTent$Text;") (List.mem_cons_of_mem _ tw_1_203)) (fun _ h9 => h9) dX5_readCompared_50 ?_
      refine lv_iload_n hx hb dX5_readCompared_53 rfl (lv_at hl 2 rfl) ?_
      refine fm_cv (va_runV (As := [.int j2_2]) (rest := []) ⟨hx, hb, hml, hown, hts⟩ (fc_X9_addStep l D ad C nb M6 hI j2_2) (cwV 1 hts gX5_readCompared_X9_addStep rfl rfl rfl (by decide +kernel) ⟨Nat.le_of_ble_eq_true rfl, Nat.le_of_ble_eq_true rfl⟩) (fm_preV hc hw hS kl_36 sh_36 rfl) rfl rfl hl.1 rfl (lv_room (Nat.le_of_ble_eq_true rfl)) dX5_readCompared_54 ⟨by decide +kernel, by decide +kernel⟩) hS hc (fun M8 H locs hr7 hw hS => ?_)
      obtain ⟨hI, hEM8, hr7⟩ := hr7
      have hE := hE.tr hEM8 (by decide)
      exact W.vret hx hb hr (fun t ht hW => ⟨⟨M8, rfl, ⟨hI, hE, trivial⟩, by show fm_at D ad C nb _ t.heap; rw [ht]; exact hw⟩, hS.F ht⟩) hS.2.2 dX5_readCompared_57
    refine lv_aload_n hx hb dX5_readCompared_23 rfl (lv_at hl 0 rfl) ?_
    refine lv_bipush (v := 60) hx hb dX5_readCompared_24 (by decide) ?_
    have zz9 := zk_60
    refine vp_callSi (va_Run.run (va_runV (As := [.int 60]) (rest := []) ⟨hx, hb, hml, hown, hts⟩ (fc_X5_sees l D ad C nb M_j1 hI 60) (cwV 1 hts gX5_readCompared_X5_sees rfl rfl rfl (by decide +kernel) ⟨Nat.le_of_ble_eq_true rfl, Nat.le_of_ble_eq_true rfl⟩) (fm_preV hc hw hS kl_32 sh_32 rfl) rfl rfl hl.1 rfl (lv_room (Nat.le_of_ble_eq_true rfl)) dX5_readCompared_26 ⟨by decide +kernel, by decide +kernel⟩)) (fun r10 hr10 => ?_)
    have bqq11 := hI.bd (k := 0) bd_32_6
    have bqq12 := hI.bd (k := 0) bd_32_7
    rcases hr10 with ⟨rfl, c13⟩ | ⟨rfl, c13⟩
    · refine fx_if_eq (tgt := 37) hx hb dX5_readCompared_29 (by decide) zk_1 (fun c14 => by exfalso; omega) (fun c14 => ?_)
      refine lv_bipush (v := (-14)) hx hb dX5_readCompared_32 (by decide) ?_
      refine lv_goto (tgt := 39) hx hb dX5_readCompared_34 (by decide) ?_
      refine lv_istore_n (lv' := [(2, .int (-14)), (0, .ref (ad 32 0)), (1, .int 0)]) hx hb dX5_readCompared_39 rfl hl (by decide) rfl (fun ls hl => ?_)
      exact j2 (-14) M_j1 (by decide) hI hE _ _ hw hS ls (lv_sub hl [1, 2, 0] rfl)
    · refine fx_if_eq (tgt := 37) hx hb dX5_readCompared_29 (by decide) zk_0 (fun c15 => ?_) (fun c15 => by exfalso; omega)
      refine lv_bipush (v := (-15)) hx hb dX5_readCompared_37 (by decide) ?_
      refine lv_istore_n (lv' := [(2, .int (-15)), (0, .ref (ad 32 0)), (1, .int 0)]) hx hb dX5_readCompared_39 rfl hl (by decide) rfl (fun ls hl => ?_)
      exact j2 (-15) M_j1 (by decide) hI hE _ _ hw hS ls (lv_sub hl [1, 2, 0] rfl)
  refine lv_aload_n hx hb dX5_readCompared_5 rfl (lv_at hl 0 rfl) ?_
  refine lv_bipush (v := 60) hx hb dX5_readCompared_6 (by decide) ?_
  have zz16 := zk_60
  refine vp_callSi (va_Run.run (va_runV (As := [.int 60]) (rest := []) ⟨hx, hb, hml, hown, hts⟩ (fc_X5_sees l D ad C nb M2 hI 60) (cwV 1 hts gX5_readCompared_X5_sees rfl rfl rfl (by decide +kernel) ⟨Nat.le_of_ble_eq_true rfl, Nat.le_of_ble_eq_true rfl⟩) (fm_preV hc hw hS kl_32 sh_32 rfl) rfl rfl hl.1 rfl (lv_room (Nat.le_of_ble_eq_true rfl)) dX5_readCompared_8 ⟨by decide +kernel, by decide +kernel⟩)) (fun r17 hr17 => ?_)
  have bqq18 := hI.bd (k := 0) bd_32_6
  have bqq19 := hI.bd (k := 0) bd_32_7
  rcases hr17 with ⟨rfl, c20⟩ | ⟨rfl, c20⟩
  · refine fx_if_ne (tgt := 23) hx hb dX5_readCompared_11 (by decide) zk_1 (fun c21 => ?_) (fun c21 => by exfalso; omega)
    exact j1 M2 hI hE _ _ hw hS ls (lv_sub hl [0, 1] rfl)
  · refine fx_if_ne (tgt := 23) hx hb dX5_readCompared_11 (by decide) zk_0 (fun c22 => by exfalso; omega) (fun c22 => ?_)
    refine lv_aload_n hx hb dX5_readCompared_14 rfl (lv_at hl 0 rfl) ?_
    refine lv_bipush (v := 61) hx hb dX5_readCompared_15 (by decide) ?_
    have zz23 := zk_61
    refine vp_callSi (va_Run.run (va_runV (As := [.int 61]) (rest := []) ⟨hx, hb, hml, hown, hts⟩ (fc_X5_sees l D ad C nb M2 hI 61) (cwV 1 hts gX5_readCompared_X5_sees rfl rfl rfl (by decide +kernel) ⟨Nat.le_of_ble_eq_true rfl, Nat.le_of_ble_eq_true rfl⟩) (fm_preV hc hw hS kl_32 sh_32 rfl) rfl rfl hl.1 rfl (lv_room (Nat.le_of_ble_eq_true rfl)) dX5_readCompared_17 ⟨by decide +kernel, by decide +kernel⟩)) (fun r24 hr24 => ?_)
    have bqq25 := hI.bd (k := 0) bd_32_6
    have bqq26 := hI.bd (k := 0) bd_32_7
    rcases hr24 with ⟨rfl, c27⟩ | ⟨rfl, c27⟩
    · refine fx_if_eq (tgt := 57) hx hb dX5_readCompared_20 (by decide) zk_1 (fun c28 => by exfalso; omega) (fun c28 => ?_)
      exact j1 M2 hI hE _ _ hw hS ls (lv_sub hl [0, 1] rfl)
    · refine fx_if_eq (tgt := 57) hx hb dX5_readCompared_20 (by decide) zk_0 (fun c29 => ?_) (fun c29 => by exfalso; omega)
      exact W.vret hx hb hr (fun t ht hW => ⟨⟨M2, rfl, ⟨hI, hE, trivial⟩, by show fm_at D ad C nb _ t.heap; rw [ht]; exact hw⟩, hS.F ht⟩) hS.2.2 dX5_readCompared_57
set_option maxHeartbeats 400000 in
set_option maxRecDepth 20000 in
theorem fc_X5_readNot_0 (l : Launch) (D : va_G) (ad : Nat → Nat → Nat) (C : Nat → Nat → ClassId) (nb : Nat) (M : fm_M) (hI : fm_I nb ad M) : Met l yX5_readNot wsX5_readNot ({ frames := 40, cells := 0, slots := 0, locals := 874 }) (va_Pc [.ref (ad 32 0), .int 0] (fm_P D ad C nb M)) (va_Qv (fun (u : fm_M) => fm_I nb ad u ∧ fm_same [32006, 32007, 36001, 37000] M u ∧ True) (fun u t => fm_at D ad C nb u t.heap) (fm_A nb ad)) 0 0 (fm_A nb ad) := by
  refine Met.ofW (cc := cX5_readNot) (maxL := 2) (ret := none) (by decide) rfl ?_
  intro p e s m args below meth c s₁ B hml hv
  obtain ⟨rfl, hw, hc⟩ := hv
  have hx := B.exec
  have hb := B.bytes
  have hr := B.returns
  have hts := atoms_spec (ws := wsX5_readNot) B.pre
  have hown : s.vm.findClass RX5 = some m.cls := findClass_of_methodNamed B.named
  have hinX5 : ∀ w ∈ u_ws RX5 TX5 8, w ∈ wsX5_readNot := fun w h => List.mem_cons_of_mem _ (iT_X5 w h)
  have hS : va_S (fm_A nb ad) s.heap s.heap [] := va_S.rf
  have hE : fm_same [32006, 32007, 36001, 37000] M M := fm_same.rf
  have hl := lv_entry ([.ref (ad 32 0), .int 0]) (n := 2) (Nat.le_of_ble_eq_true rfl)
  rw [lg_entry_eq]
  generalize (lg_sl ([.ref (ad 32 0), .int 0]) ++ List.replicate (2 - (lg_sl ([.ref (ad 32 0), .int 0])).length) Slot.unset).toArray = ls at hl ⊢
  have hl : lv_has ls 2 [(0, .ref (ad 32 0)), (1, .int 0)] := hl
  have j1 : ∀  (M_j1 : fm_M), fm_I nb ad M_j1 → fm_same [32006, 32007, 36001, 37000] M M_j1 → ∀ (H : Heap) (locs : List Loc), fm_at D ad C nb M_j1 H → va_S (fm_A nb ad) s.heap H locs → ∀ (ls : Array Slot), lv_has ls 2 [(0, .ref (ad 32 0)), (1, .int 0)] → W p l e (headSpec wsX5_readNot ({ frames := 40, cells := 0, slots := 0, locals := 874 })).room s m ([.ref (ad 32 0), .int 0] : List Value).toArray below meth c H locs 0 0 (MQ below (va_Qv (fun (u : fm_M) => fm_I nb ad u ∧ fm_same [32006, 32007, 36001, 37000] M u ∧ True) (fun u t => fm_at D ad C nb u t.heap) (fm_A nb ad)) ([.ref (ad 32 0), .int 0] : List Value).toArray s 0 0 (fm_A nb ad)) (F0 m 21 ls []) := by
    intro  M_j1 hI hE H locs hw hS ls hl
    refine lv_aload_n hx hb dX5_readNot_21 rfl (lv_at hl 0 rfl) ?_
    refine lv_bipush (v := 11) hx hb dX5_readNot_22 (by decide) ?_
    have zz1 := zk_11
    refine vp_callSi (va_Run.run (va_runV (As := [.int 11]) (rest := []) ⟨hx, hb, hml, hown, hts⟩ (fc_X5_sees l D ad C nb M_j1 hI 11) (cwV 1 hts gX5_readNot_X5_sees rfl rfl rfl (by decide +kernel) ⟨Nat.le_of_ble_eq_true rfl, Nat.le_of_ble_eq_true rfl⟩) (fm_preV hc hw hS kl_32 sh_32 rfl) rfl rfl hl.1 rfl (lv_room (Nat.le_of_ble_eq_true rfl)) dX5_readNot_24 ⟨by decide +kernel, by decide +kernel⟩)) (fun r2 hr2 => ?_)
    have bqq3 := hI.bd (k := 0) bd_32_6
    have bqq4 := hI.bd (k := 0) bd_32_7
    rcases hr2 with ⟨rfl, c5⟩ | ⟨rfl, c5⟩
    · refine fx_if_eq (tgt := 53) hx hb dX5_readNot_27 (by decide) zk_1 (fun c6 => by exfalso; omega) (fun c6 => ?_)
      refine lv_aload_n hx hb dX5_readNot_30 rfl (lv_at hl 0 rfl) ?_
      refine fm_cv (va_runV (As := []) (rest := []) ⟨hx, hb, hml, hown, hts⟩ (fc_X5_advance l D ad C nb M_j1 hI) (cwV 0 hts gX5_readNot_X5_advance rfl rfl rfl (by decide +kernel) ⟨Nat.le_of_ble_eq_true rfl, Nat.le_of_ble_eq_true rfl⟩) (fm_preV hc hw hS kl_32 sh_32 rfl) rfl rfl hl.1 rfl (lv_room (Nat.le_of_ble_eq_true rfl)) dX5_readNot_31 ⟨by decide +kernel, by decide +kernel⟩) hS hc (fun M8 H locs hr7 hw hS => ?_)
      obtain ⟨hI, hEM8, hr7⟩ := hr7
      have hE := hE.tr hEM8 (by decide)
      refine lv_aload_n hx hb dX5_readNot_34 rfl (lv_at hl 0 rfl) ?_
      refine lv_iload_n hx hb dX5_readNot_35 rfl (lv_at hl 1 rfl) ?_
      refine lv_iconst (v := 1) hx hb dX5_readNot_36 (by decide) ?_
      refine lv_iadd hx hb dX5_readNot_37 ?_
      refine lv_topi (fun y10 ey10 => ?_)
      obtain rfl : y10 = 1 := ey10.trans (by decide)
      refine fm_cv (va_runV (As := [.int 1]) (rest := []) ⟨hx, hb, hml, hown, hts⟩ (fc_X5_readNot_1 l D ad C nb M8 hI) (cwV 1 hts gX5_readNot_X5_readNot rfl rfl rfl (by decide +kernel) ⟨Nat.le_of_ble_eq_true rfl, Nat.le_of_ble_eq_true rfl⟩) (fm_preV hc hw hS kl_32 sh_32 rfl) rfl rfl hl.1 rfl (lv_room (Nat.le_of_ble_eq_true rfl)) dX5_readNot_38 ⟨by decide +kernel, by decide +kernel⟩) hS hc (fun M12 H locs hr11 hw hS => ?_)
      obtain ⟨hI, hEM12, hr11⟩ := hr11
      have hE := hE.tr hEM12 (by decide)
      refine lv_aload_n hx hb dX5_readNot_41 rfl (lv_at hl 0 rfl) ?_
      refine fm_getG (a := 32) (j := 5) (T := TX5) (N := 8) hx hb hts hinX5 hown hc hw kl_32 sh_32 rfl (by decide) rfl (hI.to kl_32 tg_32_5) (hts (.fieldLink RX5 27 "RedTent$Reader" "made" "LRedTent$Text;") (List.mem_cons_of_mem _ tw_1_203)) (fun _ h9 => h9) dX5_readNot_42 ?_
      refine lv_bipush (v := (-13)) hx hb dX5_readNot_45 (by decide) ?_
      refine fm_cv (va_runV (As := [.int (-13)]) (rest := []) ⟨hx, hb, hml, hown, hts⟩ (fc_X9_addStep l D ad C nb M12 hI (-13)) (cwV 1 hts gX5_readNot_X9_addStep rfl rfl rfl (by decide +kernel) ⟨Nat.le_of_ble_eq_true rfl, Nat.le_of_ble_eq_true rfl⟩) (fm_preV hc hw hS kl_36 sh_36 rfl) rfl rfl hl.1 rfl (lv_room (Nat.le_of_ble_eq_true rfl)) dX5_readNot_47 ⟨by decide +kernel, by decide +kernel⟩) hS hc (fun M14 H locs hr13 hw hS => ?_)
      obtain ⟨hI, hEM14, hr13⟩ := hr13
      have hE := hE.tr hEM14 (by decide)
      refine lv_goto (tgt := 58) hx hb dX5_readNot_50 (by decide) ?_
      exact W.vret hx hb hr (fun t ht hW => ⟨⟨M14, rfl, ⟨hI, hE, trivial⟩, by show fm_at D ad C nb _ t.heap; rw [ht]; exact hw⟩, hS.F ht⟩) hS.2.2 dX5_readNot_58
    · refine fx_if_eq (tgt := 53) hx hb dX5_readNot_27 (by decide) zk_0 (fun c15 => ?_) (fun c15 => by exfalso; omega)
      refine lv_aload_n hx hb dX5_readNot_53 rfl (lv_at hl 0 rfl) ?_
      refine lv_iload_n hx hb dX5_readNot_54 rfl (lv_at hl 1 rfl) ?_
      refine fm_cv (va_runV (As := [.int 0]) (rest := []) ⟨hx, hb, hml, hown, hts⟩ (fc_X5_readCompared_0 l D ad C nb M_j1 hI) (cwV 1 hts gX5_readNot_X5_readCompared rfl rfl rfl (by decide +kernel) ⟨Nat.le_of_ble_eq_true rfl, Nat.le_of_ble_eq_true rfl⟩) (fm_preV hc hw hS kl_32 sh_32 rfl) rfl rfl hl.1 rfl (lv_room (Nat.le_of_ble_eq_true rfl)) dX5_readNot_55 ⟨by decide +kernel, by decide +kernel⟩) hS hc (fun M17 H locs hr16 hw hS => ?_)
      obtain ⟨hI, hEM17, hr16⟩ := hr16
      have hE := hE.tr hEM17 (by decide)
      exact W.vret hx hb hr (fun t ht hW => ⟨⟨M17, rfl, ⟨hI, hE, trivial⟩, by show fm_at D ad C nb _ t.heap; rw [ht]; exact hw⟩, hS.F ht⟩) hS.2.2 dX5_readNot_58
  refine lv_aload_n hx hb dX5_readNot_0 rfl (lv_at hl 0 rfl) ?_
  refine lv_bipush (v := 11) hx hb dX5_readNot_1 (by decide) ?_
  have zz18 := zk_11
  refine vp_callSi (va_Run.run (va_runV (As := [.int 11]) (rest := []) ⟨hx, hb, hml, hown, hts⟩ (fc_X5_sees l D ad C nb M hI 11) (cwV 1 hts gX5_readNot_X5_sees rfl rfl rfl (by decide +kernel) ⟨Nat.le_of_ble_eq_true rfl, Nat.le_of_ble_eq_true rfl⟩) (fm_preV hc hw hS kl_32 sh_32 rfl) rfl rfl hl.1 rfl (lv_room (Nat.le_of_ble_eq_true rfl)) dX5_readNot_3 ⟨by decide +kernel, by decide +kernel⟩)) (fun r19 hr19 => ?_)
  have bqq20 := hI.bd (k := 0) bd_32_6
  have bqq21 := hI.bd (k := 0) bd_32_7
  rcases hr19 with ⟨rfl, c22⟩ | ⟨rfl, c22⟩
  · refine fx_if_eq (tgt := 21) hx hb dX5_readNot_6 (by decide) zk_1 (fun c23 => by exfalso; omega) (fun c23 => ?_)
    refine lv_iload_n hx hb dX5_readNot_9 rfl (lv_at hl 1 rfl) ?_
    refine lv_iconst (v := 5) hx hb dX5_readNot_10 (by decide) ?_
    refine fx_icmp_lt (tgt := 21) hx hb dX5_readNot_11 (by decide) zk_0 zk_5 (fun c24 => ?_) (fun c24 => by exfalso; omega)
    exact j1 M hI hE _ _ hw hS ls (lv_sub hl [0, 1] rfl)
  · refine fx_if_eq (tgt := 21) hx hb dX5_readNot_6 (by decide) zk_0 (fun c25 => ?_) (fun c25 => by exfalso; omega)
    exact j1 M hI hE _ _ hw hS ls (lv_sub hl [0, 1] rfl)
set_option maxHeartbeats 400000 in
set_option maxRecDepth 20000 in
theorem fc_X5_readBoth_0 (l : Launch) (D : va_G) (ad : Nat → Nat → Nat) (C : Nat → Nat → ClassId) (nb : Nat) (M : fm_M) (hI : fm_I nb ad M) : Met l yX5_readBoth wsX5_readBoth ({ frames := 41, cells := 0, slots := 0, locals := 895 }) (va_Pc [.ref (ad 32 0), .int 0] (fm_P D ad C nb M)) (va_Qv (fun (u : fm_M) => fm_I nb ad u ∧ fm_same [32006, 32007, 36001, 37000] M u ∧ True) (fun u t => fm_at D ad C nb u t.heap) (fm_A nb ad)) 0 0 (fm_A nb ad) := by
  refine Met.ofW (cc := cX5_readBoth) (maxL := 3) (ret := none) (by decide) rfl ?_
  intro p e s m args below meth c s₁ B hml hv
  obtain ⟨rfl, hw, hc⟩ := hv
  have hx := B.exec
  have hb := B.bytes
  have hr := B.returns
  have hts := atoms_spec (ws := wsX5_readBoth) B.pre
  have hown : s.vm.findClass RX5 = some m.cls := findClass_of_methodNamed B.named
  have hinX5 : ∀ w ∈ u_ws RX5 TX5 8, w ∈ wsX5_readBoth := fun w h => List.mem_cons_of_mem _ (iT_X5 w h)
  have hS : va_S (fm_A nb ad) s.heap s.heap [] := va_S.rf
  have hE : fm_same [32006, 32007, 36001, 37000] M M := fm_same.rf
  have hl := lv_entry ([.ref (ad 32 0), .int 0]) (n := 3) (Nat.le_of_ble_eq_true rfl)
  rw [lg_entry_eq]
  generalize (lg_sl ([.ref (ad 32 0), .int 0]) ++ List.replicate (3 - (lg_sl ([.ref (ad 32 0), .int 0])).length) Slot.unset).toArray = ls at hl ⊢
  have hl : lv_has ls 3 [(0, .ref (ad 32 0)), (1, .int 0)] := hl
  refine lv_aload_n hx hb dX5_readBoth_0 rfl (lv_at hl 0 rfl) ?_
  refine lv_iload_n hx hb dX5_readBoth_1 rfl (lv_at hl 1 rfl) ?_
  refine fm_cv (va_runV (As := [.int 0]) (rest := []) ⟨hx, hb, hml, hown, hts⟩ (fc_X5_readNot_0 l D ad C nb M hI) (cwV 1 hts gX5_readBoth_X5_readNot rfl rfl rfl (by decide +kernel) ⟨Nat.le_of_ble_eq_true rfl, Nat.le_of_ble_eq_true rfl⟩) (fm_preV hc hw hS kl_32 sh_32 rfl) rfl rfl hl.1 rfl (lv_room (Nat.le_of_ble_eq_true rfl)) dX5_readBoth_2 ⟨by decide +kernel, by decide +kernel⟩) hS hc (fun M2 H locs hr1 hw hS => ?_)
  obtain ⟨hI, hEM2, hr1⟩ := hr1
  have hE := hE.tr hEM2 (by decide)
  refine lv_iconst (v := 0) hx hb dX5_readBoth_5 (by decide) ?_
  refine lv_istore_n (lv' := [(2, .int 0), (0, .ref (ad 32 0)), (1, .int 0)]) hx hb dX5_readBoth_6 rfl hl (by decide) rfl (fun ls hl => ?_)
  have lp : ∀ (n_lp : Nat) (lp_2 : Int32) (M_lp : fm_M), (160 - lp_2.toInt).toNat < n_lp → (0 ≤ lp_2.toInt ∧ lp_2.toInt ≤ 160) → fm_I nb ad M_lp → fm_same [32006, 32007, 36001, 37000] M M_lp → ∀ (H : Heap) (locs : List Loc), fm_at D ad C nb M_lp H → va_S (fm_A nb ad) s.heap H locs → ∀ (ls : Array Slot), lv_has ls 3 [(2, .int lp_2), (0, .ref (ad 32 0)), (1, .int 0)] → W p l e (headSpec wsX5_readBoth ({ frames := 41, cells := 0, slots := 0, locals := 895 })).room s m ([.ref (ad 32 0), .int 0] : List Value).toArray below meth c H locs 0 0 (MQ below (va_Qv (fun (u : fm_M) => fm_I nb ad u ∧ fm_same [32006, 32007, 36001, 37000] M u ∧ True) (fun u t => fm_at D ad C nb u t.heap) (fm_A nb ad)) ([.ref (ad 32 0), .int 0] : List Value).toArray s 0 0 (fm_A nb ad)) (F0 m 7 ls []) := by
    intro n_lp
    induction n_lp with
    | zero => intro lp_2 M_lp hm_lp b_lp_2 hI hE H locs hw hS ls hl; exact absurd hm_lp (Nat.not_lt_zero _)
    | succ n_lp ih_lp =>
      intro lp_2 M_lp hm_lp b_lp_2 hI hE H locs hw hS ls hl
      refine lv_iload_n hx hb dX5_readBoth_7 rfl (lv_at hl 0 rfl) ?_
      refine lv_sipush (v := 160) hx hb dX5_readBoth_8 (by decide) ?_
      refine fx_icmp_ge (tgt := 47) hx hb dX5_readBoth_11 (by decide) rfl zk_160 (fun c3 => ?_) (fun c3 => ?_)
      · exact W.vret hx hb hr (fun t ht hW => ⟨⟨M_lp, rfl, ⟨hI, hE, trivial⟩, by show fm_at D ad C nb _ t.heap; rw [ht]; exact hw⟩, hS.F ht⟩) hS.2.2 dX5_readBoth_47
      · refine lv_aload_n hx hb dX5_readBoth_14 rfl (lv_at hl 1 rfl) ?_
        refine lv_bipush (v := 10) hx hb dX5_readBoth_15 (by decide) ?_
        have zz4 := zk_10
        refine vp_callSi (va_Run.run (va_runV (As := [.int 10]) (rest := []) ⟨hx, hb, hml, hown, hts⟩ (fc_X5_sees l D ad C nb M_lp hI 10) (cwV 1 hts gX5_readBoth_X5_sees rfl rfl rfl (by decide +kernel) ⟨Nat.le_of_ble_eq_true rfl, Nat.le_of_ble_eq_true rfl⟩) (fm_preV hc hw hS kl_32 sh_32 rfl) rfl rfl hl.1 rfl (lv_room (Nat.le_of_ble_eq_true rfl)) dX5_readBoth_17 ⟨by decide +kernel, by decide +kernel⟩)) (fun r5 hr5 => ?_)
        have bqq6 := hI.bd (k := 0) bd_32_6
        have bqq7 := hI.bd (k := 0) bd_32_7
        rcases hr5 with ⟨rfl, c8⟩ | ⟨rfl, c8⟩
        · refine fx_if_eq (tgt := 47) hx hb dX5_readBoth_20 (by decide) zk_1 (fun c9 => by exfalso; omega) (fun c9 => ?_)
          refine lv_aload_n hx hb dX5_readBoth_23 rfl (lv_at hl 1 rfl) ?_
          refine fm_cv (va_runV (As := []) (rest := []) ⟨hx, hb, hml, hown, hts⟩ (fc_X5_advance l D ad C nb M_lp hI) (cwV 0 hts gX5_readBoth_X5_advance rfl rfl rfl (by decide +kernel) ⟨Nat.le_of_ble_eq_true rfl, Nat.le_of_ble_eq_true rfl⟩) (fm_preV hc hw hS kl_32 sh_32 rfl) rfl rfl hl.1 rfl (lv_room (Nat.le_of_ble_eq_true rfl)) dX5_readBoth_24 ⟨by decide +kernel, by decide +kernel⟩) hS hc (fun M11 H locs hr10 hw hS => ?_)
          obtain ⟨hI, hEM11, hr10⟩ := hr10
          have hE := hE.tr hEM11 (by decide)
          refine lv_aload_n hx hb dX5_readBoth_27 rfl (lv_at hl 1 rfl) ?_
          refine lv_iload_n hx hb dX5_readBoth_28 rfl (lv_at hl 2 rfl) ?_
          refine fm_cv (va_runV (As := [.int 0]) (rest := []) ⟨hx, hb, hml, hown, hts⟩ (fc_X5_readNot_0 l D ad C nb M11 hI) (cwV 1 hts gX5_readBoth_X5_readNot rfl rfl rfl (by decide +kernel) ⟨Nat.le_of_ble_eq_true rfl, Nat.le_of_ble_eq_true rfl⟩) (fm_preV hc hw hS kl_32 sh_32 rfl) rfl rfl hl.1 rfl (lv_room (Nat.le_of_ble_eq_true rfl)) dX5_readBoth_29 ⟨by decide +kernel, by decide +kernel⟩) hS hc (fun M13 H locs hr12 hw hS => ?_)
          obtain ⟨hI, hEM13, hr12⟩ := hr12
          have hE := hE.tr hEM13 (by decide)
          refine lv_aload_n hx hb dX5_readBoth_32 rfl (lv_at hl 1 rfl) ?_
          refine fm_getG (a := 32) (j := 5) (T := TX5) (N := 8) hx hb hts hinX5 hown hc hw kl_32 sh_32 rfl (by decide) rfl (hI.to kl_32 tg_32_5) (hts (.fieldLink RX5 27 "RedTent$Reader" "made" "LRedTent$Text;") (List.mem_cons_of_mem _ tw_1_203)) (fun _ h9 => h9) dX5_readBoth_33 ?_
          refine lv_bipush (v := (-12)) hx hb dX5_readBoth_36 (by decide) ?_
          refine fm_cv (va_runV (As := [.int (-12)]) (rest := []) ⟨hx, hb, hml, hown, hts⟩ (fc_X9_addStep l D ad C nb M13 hI (-12)) (cwV 1 hts gX5_readBoth_X9_addStep rfl rfl rfl (by decide +kernel) ⟨Nat.le_of_ble_eq_true rfl, Nat.le_of_ble_eq_true rfl⟩) (fm_preV hc hw hS kl_36 sh_36 rfl) rfl rfl hl.1 rfl (lv_room (Nat.le_of_ble_eq_true rfl)) dX5_readBoth_38 ⟨by decide +kernel, by decide +kernel⟩) hS hc (fun M15 H locs hr14 hw hS => ?_)
          obtain ⟨hI, hEM15, hr14⟩ := hr14
          have hE := hE.tr hEM15 (by decide)
          obtain ⟨y16, ey16⟩ : ∃ y : Int32, y = lp_2 + 1 := ⟨_, rfl⟩
          have ty16 : y16.toInt = lp_2.toInt + 1 := by rw [ey16, zi_add _ _ (by rw [zk_1]; omega) (by rw [zk_1]; omega), zk_1]
          refine lv_iinc (v := y16) (lv' := [(2, .int y16), (0, .ref (ad 32 0)), (1, .int 0)]) hx hb dX5_readBoth_41 hl (k := 0) rfl (by rw [ey16]; rfl) (by decide) rfl (fun ls hl => ?_)
          refine lv_goto (tgt := 7) hx hb dX5_readBoth_44 (by decide) ?_
          exact ih_lp y16 M15 (by omega) (by omega) hI hE _ _ hw hS ls (lv_sub hl [0, 1, 2] rfl)
        · refine fx_if_eq (tgt := 47) hx hb dX5_readBoth_20 (by decide) zk_0 (fun c17 => ?_) (fun c17 => by exfalso; omega)
          exact W.vret hx hb hr (fun t ht hW => ⟨⟨M_lp, rfl, ⟨hI, hE, trivial⟩, by show fm_at D ad C nb _ t.heap; rw [ht]; exact hw⟩, hS.F ht⟩) hS.2.2 dX5_readBoth_47
  exact lp _ 0 M2 (Nat.lt_succ_self _) (by decide) hI hE _ _ hw hS ls (lv_sub hl [0, 1, 2] rfl)
set_option maxHeartbeats 400000 in
set_option maxRecDepth 20000 in
theorem fc_X5_readChoice_0 (l : Launch) (D : va_G) (ad : Nat → Nat → Nat) (C : Nat → Nat → ClassId) (nb : Nat) (M : fm_M) (hI : fm_I nb ad M) : Met l yX5_readChoice wsX5_readChoice ({ frames := 42, cells := 0, slots := 0, locals := 917 }) (va_Pc [.ref (ad 32 0), .int 0] (fm_P D ad C nb M)) (va_Qv (fun (u : fm_M) => fm_I nb ad u ∧ fm_same [32006, 32007, 36001, 37000] M u ∧ True) (fun u t => fm_at D ad C nb u t.heap) (fm_A nb ad)) 0 0 (fm_A nb ad) := by
  refine Met.ofW (cc := cX5_readChoice) (maxL := 3) (ret := none) (by decide) rfl ?_
  intro p e s m args below meth c s₁ B hml hv
  obtain ⟨rfl, hw, hc⟩ := hv
  have hx := B.exec
  have hb := B.bytes
  have hr := B.returns
  have hts := atoms_spec (ws := wsX5_readChoice) B.pre
  have hown : s.vm.findClass RX5 = some m.cls := findClass_of_methodNamed B.named
  have hinX5 : ∀ w ∈ u_ws RX5 TX5 8, w ∈ wsX5_readChoice := fun w h => List.mem_cons_of_mem _ (iT_X5 w h)
  have hS : va_S (fm_A nb ad) s.heap s.heap [] := va_S.rf
  have hE : fm_same [32006, 32007, 36001, 37000] M M := fm_same.rf
  have hl := lv_entry ([.ref (ad 32 0), .int 0]) (n := 3) (Nat.le_of_ble_eq_true rfl)
  rw [lg_entry_eq]
  generalize (lg_sl ([.ref (ad 32 0), .int 0]) ++ List.replicate (3 - (lg_sl ([.ref (ad 32 0), .int 0])).length) Slot.unset).toArray = ls at hl ⊢
  have hl : lv_has ls 3 [(0, .ref (ad 32 0)), (1, .int 0)] := hl
  refine lv_aload_n hx hb dX5_readChoice_0 rfl (lv_at hl 0 rfl) ?_
  refine lv_iload_n hx hb dX5_readChoice_1 rfl (lv_at hl 1 rfl) ?_
  refine fm_cv (va_runV (As := [.int 0]) (rest := []) ⟨hx, hb, hml, hown, hts⟩ (fc_X5_readBoth_0 l D ad C nb M hI) (cwV 1 hts gX5_readChoice_X5_readBoth rfl rfl rfl (by decide +kernel) ⟨Nat.le_of_ble_eq_true rfl, Nat.le_of_ble_eq_true rfl⟩) (fm_preV hc hw hS kl_32 sh_32 rfl) rfl rfl hl.1 rfl (lv_room (Nat.le_of_ble_eq_true rfl)) dX5_readChoice_2 ⟨by decide +kernel, by decide +kernel⟩) hS hc (fun M2 H locs hr1 hw hS => ?_)
  obtain ⟨hI, hEM2, hr1⟩ := hr1
  have hE := hE.tr hEM2 (by decide)
  refine lv_iconst (v := 0) hx hb dX5_readChoice_5 (by decide) ?_
  refine lv_istore_n (lv' := [(2, .int 0), (0, .ref (ad 32 0)), (1, .int 0)]) hx hb dX5_readChoice_6 rfl hl (by decide) rfl (fun ls hl => ?_)
  have lp : ∀ (n_lp : Nat) (lp_2 : Int32) (M_lp : fm_M), (160 - lp_2.toInt).toNat < n_lp → (0 ≤ lp_2.toInt ∧ lp_2.toInt ≤ 160) → fm_I nb ad M_lp → fm_same [32006, 32007, 36001, 37000] M M_lp → ∀ (H : Heap) (locs : List Loc), fm_at D ad C nb M_lp H → va_S (fm_A nb ad) s.heap H locs → ∀ (ls : Array Slot), lv_has ls 3 [(2, .int lp_2), (0, .ref (ad 32 0)), (1, .int 0)] → W p l e (headSpec wsX5_readChoice ({ frames := 42, cells := 0, slots := 0, locals := 917 })).room s m ([.ref (ad 32 0), .int 0] : List Value).toArray below meth c H locs 0 0 (MQ below (va_Qv (fun (u : fm_M) => fm_I nb ad u ∧ fm_same [32006, 32007, 36001, 37000] M u ∧ True) (fun u t => fm_at D ad C nb u t.heap) (fm_A nb ad)) ([.ref (ad 32 0), .int 0] : List Value).toArray s 0 0 (fm_A nb ad)) (F0 m 7 ls []) := by
    intro n_lp
    induction n_lp with
    | zero => intro lp_2 M_lp hm_lp b_lp_2 hI hE H locs hw hS ls hl; exact absurd hm_lp (Nat.not_lt_zero _)
    | succ n_lp ih_lp =>
      intro lp_2 M_lp hm_lp b_lp_2 hI hE H locs hw hS ls hl
      refine lv_iload_n hx hb dX5_readChoice_7 rfl (lv_at hl 0 rfl) ?_
      refine lv_sipush (v := 160) hx hb dX5_readChoice_8 (by decide) ?_
      refine fx_icmp_ge (tgt := 47) hx hb dX5_readChoice_11 (by decide) rfl zk_160 (fun c3 => ?_) (fun c3 => ?_)
      · exact W.vret hx hb hr (fun t ht hW => ⟨⟨M_lp, rfl, ⟨hI, hE, trivial⟩, by show fm_at D ad C nb _ t.heap; rw [ht]; exact hw⟩, hS.F ht⟩) hS.2.2 dX5_readChoice_47
      · refine lv_aload_n hx hb dX5_readChoice_14 rfl (lv_at hl 1 rfl) ?_
        refine lv_bipush (v := 9) hx hb dX5_readChoice_15 (by decide) ?_
        have zz4 := zk_9
        refine vp_callSi (va_Run.run (va_runV (As := [.int 9]) (rest := []) ⟨hx, hb, hml, hown, hts⟩ (fc_X5_sees l D ad C nb M_lp hI 9) (cwV 1 hts gX5_readChoice_X5_sees rfl rfl rfl (by decide +kernel) ⟨Nat.le_of_ble_eq_true rfl, Nat.le_of_ble_eq_true rfl⟩) (fm_preV hc hw hS kl_32 sh_32 rfl) rfl rfl hl.1 rfl (lv_room (Nat.le_of_ble_eq_true rfl)) dX5_readChoice_17 ⟨by decide +kernel, by decide +kernel⟩)) (fun r5 hr5 => ?_)
        have bqq6 := hI.bd (k := 0) bd_32_6
        have bqq7 := hI.bd (k := 0) bd_32_7
        rcases hr5 with ⟨rfl, c8⟩ | ⟨rfl, c8⟩
        · refine fx_if_eq (tgt := 47) hx hb dX5_readChoice_20 (by decide) zk_1 (fun c9 => by exfalso; omega) (fun c9 => ?_)
          refine lv_aload_n hx hb dX5_readChoice_23 rfl (lv_at hl 1 rfl) ?_
          refine fm_cv (va_runV (As := []) (rest := []) ⟨hx, hb, hml, hown, hts⟩ (fc_X5_advance l D ad C nb M_lp hI) (cwV 0 hts gX5_readChoice_X5_advance rfl rfl rfl (by decide +kernel) ⟨Nat.le_of_ble_eq_true rfl, Nat.le_of_ble_eq_true rfl⟩) (fm_preV hc hw hS kl_32 sh_32 rfl) rfl rfl hl.1 rfl (lv_room (Nat.le_of_ble_eq_true rfl)) dX5_readChoice_24 ⟨by decide +kernel, by decide +kernel⟩) hS hc (fun M11 H locs hr10 hw hS => ?_)
          obtain ⟨hI, hEM11, hr10⟩ := hr10
          have hE := hE.tr hEM11 (by decide)
          refine lv_aload_n hx hb dX5_readChoice_27 rfl (lv_at hl 1 rfl) ?_
          refine lv_iload_n hx hb dX5_readChoice_28 rfl (lv_at hl 2 rfl) ?_
          refine fm_cv (va_runV (As := [.int 0]) (rest := []) ⟨hx, hb, hml, hown, hts⟩ (fc_X5_readBoth_0 l D ad C nb M11 hI) (cwV 1 hts gX5_readChoice_X5_readBoth rfl rfl rfl (by decide +kernel) ⟨Nat.le_of_ble_eq_true rfl, Nat.le_of_ble_eq_true rfl⟩) (fm_preV hc hw hS kl_32 sh_32 rfl) rfl rfl hl.1 rfl (lv_room (Nat.le_of_ble_eq_true rfl)) dX5_readChoice_29 ⟨by decide +kernel, by decide +kernel⟩) hS hc (fun M13 H locs hr12 hw hS => ?_)
          obtain ⟨hI, hEM13, hr12⟩ := hr12
          have hE := hE.tr hEM13 (by decide)
          refine lv_aload_n hx hb dX5_readChoice_32 rfl (lv_at hl 1 rfl) ?_
          refine fm_getG (a := 32) (j := 5) (T := TX5) (N := 8) hx hb hts hinX5 hown hc hw kl_32 sh_32 rfl (by decide) rfl (hI.to kl_32 tg_32_5) (hts (.fieldLink RX5 27 "RedTent$Reader" "made" "LRedTent$Text;") (List.mem_cons_of_mem _ tw_1_203)) (fun _ h9 => h9) dX5_readChoice_33 ?_
          refine lv_bipush (v := (-11)) hx hb dX5_readChoice_36 (by decide) ?_
          refine fm_cv (va_runV (As := [.int (-11)]) (rest := []) ⟨hx, hb, hml, hown, hts⟩ (fc_X9_addStep l D ad C nb M13 hI (-11)) (cwV 1 hts gX5_readChoice_X9_addStep rfl rfl rfl (by decide +kernel) ⟨Nat.le_of_ble_eq_true rfl, Nat.le_of_ble_eq_true rfl⟩) (fm_preV hc hw hS kl_36 sh_36 rfl) rfl rfl hl.1 rfl (lv_room (Nat.le_of_ble_eq_true rfl)) dX5_readChoice_38 ⟨by decide +kernel, by decide +kernel⟩) hS hc (fun M15 H locs hr14 hw hS => ?_)
          obtain ⟨hI, hEM15, hr14⟩ := hr14
          have hE := hE.tr hEM15 (by decide)
          obtain ⟨y16, ey16⟩ : ∃ y : Int32, y = lp_2 + 1 := ⟨_, rfl⟩
          have ty16 : y16.toInt = lp_2.toInt + 1 := by rw [ey16, zi_add _ _ (by rw [zk_1]; omega) (by rw [zk_1]; omega), zk_1]
          refine lv_iinc (v := y16) (lv' := [(2, .int y16), (0, .ref (ad 32 0)), (1, .int 0)]) hx hb dX5_readChoice_41 hl (k := 0) rfl (by rw [ey16]; rfl) (by decide) rfl (fun ls hl => ?_)
          refine lv_goto (tgt := 7) hx hb dX5_readChoice_44 (by decide) ?_
          exact ih_lp y16 M15 (by omega) (by omega) hI hE _ _ hw hS ls (lv_sub hl [0, 1, 2] rfl)
        · refine fx_if_eq (tgt := 47) hx hb dX5_readChoice_20 (by decide) zk_0 (fun c17 => ?_) (fun c17 => by exfalso; omega)
          exact W.vret hx hb hr (fun t ht hW => ⟨⟨M_lp, rfl, ⟨hI, hE, trivial⟩, by show fm_at D ad C nb _ t.heap; rw [ht]; exact hw⟩, hS.F ht⟩) hS.2.2 dX5_readChoice_47
  exact lp _ 0 M2 (Nat.lt_succ_self _) (by decide) hI hE _ _ hw hS ls (lv_sub hl [0, 1, 2] rfl)

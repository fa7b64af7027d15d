theorem zb_X12_goThrough_0 : (decode cX12_goThrough 0 = .ok (.aload_n 0, 1)) ∧ (decode cX12_goThrough 1 = .ok (.iload_n 1, 1)) ∧ (decode cX12_goThrough 2 = .ok (.putfield 331, 3)) ∧ (decode cX12_goThrough 5 = .ok (.aload_n 0, 1)) ∧ (decode cX12_goThrough 6 = .ok (.iload_n 2, 1)) ∧ (decode cX12_goThrough 7 = .ok (.putfield 328, 3)) ∧ (decode cX12_goThrough 10 = .ok (.aload_n 0, 1)) ∧ (decode cX12_goThrough 11 = .ok (.iconst 0, 1)) ∧ (decode cX12_goThrough 12 = .ok (.putfield 337, 3)) ∧ (decode cX12_goThrough 15 = .ok (.aload_n 0, 1)) ∧ (decode cX12_goThrough 16 = .ok (.iconst 0, 1)) := by decide +kernel
theorem dX12_goThrough_0 : decode cX12_goThrough 0 = .ok (.aload_n 0, 1) := zb_X12_goThrough_0.1
theorem dX12_goThrough_1 : decode cX12_goThrough 1 = .ok (.iload_n 1, 1) := zb_X12_goThrough_0.2.1
theorem dX12_goThrough_2 : decode cX12_goThrough 2 = .ok (.putfield 331, 3) := zb_X12_goThrough_0.2.2.1
theorem dX12_goThrough_5 : decode cX12_goThrough 5 = .ok (.aload_n 0, 1) := zb_X12_goThrough_0.2.2.2.1
theorem dX12_goThrough_6 : decode cX12_goThrough 6 = .ok (.iload_n 2, 1) := zb_X12_goThrough_0.2.2.2.2.1
theorem dX12_goThrough_7 : decode cX12_goThrough 7 = .ok (.putfield 328, 3) := zb_X12_goThrough_0.2.2.2.2.2.1
theorem dX12_goThrough_10 : decode cX12_goThrough 10 = .ok (.aload_n 0, 1) := zb_X12_goThrough_0.2.2.2.2.2.2.1
theorem dX12_goThrough_11 : decode cX12_goThrough 11 = .ok (.iconst 0, 1) := zb_X12_goThrough_0.2.2.2.2.2.2.2.1
theorem dX12_goThrough_12 : decode cX12_goThrough 12 = .ok (.putfield 337, 3) := zb_X12_goThrough_0.2.2.2.2.2.2.2.2.1
theorem dX12_goThrough_15 : decode cX12_goThrough 15 = .ok (.aload_n 0, 1) := zb_X12_goThrough_0.2.2.2.2.2.2.2.2.2.1
theorem dX12_goThrough_16 : decode cX12_goThrough 16 = .ok (.iconst 0, 1) := zb_X12_goThrough_0.2.2.2.2.2.2.2.2.2.2
theorem zb_X12_goThrough_17 : (decode cX12_goThrough 17 = .ok (.putfield 372, 3)) ∧ (decode cX12_goThrough 20 = .ok (.aload_n 0, 1)) ∧ (decode cX12_goThrough 21 = .ok (.iconst (-1), 1)) ∧ (decode cX12_goThrough 22 = .ok (.putfield 349, 3)) ∧ (decode cX12_goThrough 25 = .ok (.aload_n 0, 1)) ∧ (decode cX12_goThrough 26 = .ok (.invokevirtual 356, 3)) ∧ (decode cX12_goThrough 109 = .ok (.aload_n 0, 1)) ∧ (decode cX12_goThrough 110 = .ok (.getfield 340, 3)) ∧ (decode cX12_goThrough 113 = .ok (.aload_n 0, 1)) ∧ (decode cX12_goThrough 114 = .ok (.getfield 328, 3)) ∧ (decode cX12_goThrough 117 = .ok (.if_icmp .ge 8, 3)) := by decide +kernel
theorem dX12_goThrough_17 : decode cX12_goThrough 17 = .ok (.putfield 372, 3) := zb_X12_goThrough_17.1
theorem dX12_goThrough_20 : decode cX12_goThrough 20 = .ok (.aload_n 0, 1) := zb_X12_goThrough_17.2.1
theorem dX12_goThrough_21 : decode cX12_goThrough 21 = .ok (.iconst (-1), 1) := zb_X12_goThrough_17.2.2.1
theorem dX12_goThrough_22 : decode cX12_goThrough 22 = .ok (.putfield 349, 3) := zb_X12_goThrough_17.2.2.2.1
theorem dX12_goThrough_25 : decode cX12_goThrough 25 = .ok (.aload_n 0, 1) := zb_X12_goThrough_17.2.2.2.2.1
theorem dX12_goThrough_26 : decode cX12_goThrough 26 = .ok (.invokevirtual 356, 3) := zb_X12_goThrough_17.2.2.2.2.2.1
theorem dX12_goThrough_109 : decode cX12_goThrough 109 = .ok (.aload_n 0, 1) := zb_X12_goThrough_17.2.2.2.2.2.2.1
theorem dX12_goThrough_110 : decode cX12_goThrough 110 = .ok (.getfield 340, 3) := zb_X12_goThrough_17.2.2.2.2.2.2.2.1
theorem dX12_goThrough_113 : decode cX12_goThrough 113 = .ok (.aload_n 0, 1) := zb_X12_goThrough_17.2.2.2.2.2.2.2.2.1
theorem dX12_goThrough_114 : decode cX12_goThrough 114 = .ok (.getfield 328, 3) := zb_X12_goThrough_17.2.2.2.2.2.2.2.2.2.1
theorem dX12_goThrough_117 : decode cX12_goThrough 117 = .ok (.if_icmp .ge 8, 3) := zb_X12_goThrough_17.2.2.2.2.2.2.2.2.2.2
theorem zb_X12_goThrough_125 : (decode cX12_goThrough 125 = .ok (.aload_n 0, 1)) ∧ (decode cX12_goThrough 126 = .ok (.getfield 349, 3)) ∧ (decode cX12_goThrough 129 = .ok (.ireturn, 1)) ∧ (decode cX12_goThrough 120 = .ok (.aload_n 0, 1)) ∧ (decode cX12_goThrough 121 = .ok (.invokevirtual 375, 3)) ∧ (decode cX12_goThrough 124 = .ok (.istore_n 3, 1)) ∧ (decode cX12_goThrough 94 = .ok (.aload_n 0, 1)) ∧ (decode cX12_goThrough 95 = .ok (.ldc_w 421, 3)) ∧ (decode cX12_goThrough 98 = .ok (.invokevirtual 364, 3)) ∧ (decode cX12_goThrough 101 = .ok (.ifCond .ne 8, 3)) ∧ (decode cX12_goThrough 104 = .ok (.aload_n 0, 1)) := by decide +kernel
theorem dX12_goThrough_125 : decode cX12_goThrough 125 = .ok (.aload_n 0, 1) := zb_X12_goThrough_125.1
theorem dX12_goThrough_126 : decode cX12_goThrough 126 = .ok (.getfield 349, 3) := zb_X12_goThrough_125.2.1
theorem dX12_goThrough_129 : decode cX12_goThrough 129 = .ok (.ireturn, 1) := zb_X12_goThrough_125.2.2.1
theorem dX12_goThrough_120 : decode cX12_goThrough 120 = .ok (.aload_n 0, 1) := zb_X12_goThrough_125.2.2.2.1
theorem dX12_goThrough_121 : decode cX12_goThrough 121 = .ok (.invokevirtual 375, 3) := zb_X12_goThrough_125.2.2.2.2.1
theorem dX12_goThrough_124 : decode cX12_goThrough 124 = .ok (.istore_n 3, 1) := zb_X12_goThrough_125.2.2.2.2.2.1
theorem dX12_goThrough_94 : decode cX12_goThrough 94 = .ok (.aload_n 0, 1) := zb_X12_goThrough_125.2.2.2.2.2.2.1
theorem dX12_goThrough_95 : decode cX12_goThrough 95 = .ok (.ldc_w 421, 3) := zb_X12_goThrough_125.2.2.2.2.2.2.2.1
theorem dX12_goThrough_98 : decode cX12_goThrough 98 = .ok (.invokevirtual 364, 3) := zb_X12_goThrough_125.2.2.2.2.2.2.2.2.1
theorem dX12_goThrough_101 : decode cX12_goThrough 101 = .ok (.ifCond .ne 8, 3) := zb_X12_goThrough_125.2.2.2.2.2.2.2.2.2.1
theorem dX12_goThrough_104 : decode cX12_goThrough 104 = .ok (.aload_n 0, 1) := zb_X12_goThrough_125.2.2.2.2.2.2.2.2.2.2
theorem zb_X12_goThrough_105 : (decode cX12_goThrough 105 = .ok (.invokevirtual 375, 3)) ∧ (decode cX12_goThrough 108 = .ok (.istore_n 3, 1)) ∧ (decode cX12_goThrough 69 = .ok (.aload_n 0, 1)) ∧ (decode cX12_goThrough 70 = .ok (.aload_n 0, 1)) ∧ (decode cX12_goThrough 71 = .ok (.ldc_w 423, 3)) ∧ (decode cX12_goThrough 74 = .ok (.invokevirtual 364, 3)) ∧ (decode cX12_goThrough 77 = .ok (.ifCond .eq 10, 3)) ∧ (decode cX12_goThrough 80 = .ok (.aload_n 0, 1)) ∧ (decode cX12_goThrough 81 = .ok (.invokevirtual 405, 3)) ∧ (decode cX12_goThrough 84 = .ok (.goto 7, 3)) ∧ (decode cX12_goThrough 91 = .ok (.putfield 425, 3)) := by decide +kernel
theorem dX12_goThrough_105 : decode cX12_goThrough 105 = .ok (.invokevirtual 375, 3) := zb_X12_goThrough_105.1
theorem dX12_goThrough_108 : decode cX12_goThrough 108 = .ok (.istore_n 3, 1) := zb_X12_goThrough_105.2.1
theorem dX12_goThrough_69 : decode cX12_goThrough 69 = .ok (.aload_n 0, 1) := zb_X12_goThrough_105.2.2.1
theorem dX12_goThrough_70 : decode cX12_goThrough 70 = .ok (.aload_n 0, 1) := zb_X12_goThrough_105.2.2.2.1
theorem dX12_goThrough_71 : decode cX12_goThrough 71 = .ok (.ldc_w 423, 3) := zb_X12_goThrough_105.2.2.2.2.1
theorem dX12_goThrough_74 : decode cX12_goThrough 74 = .ok (.invokevirtual 364, 3) := zb_X12_goThrough_105.2.2.2.2.2.1
theorem dX12_goThrough_77 : decode cX12_goThrough 77 = .ok (.ifCond .eq 10, 3) := zb_X12_goThrough_105.2.2.2.2.2.2.1
theorem dX12_goThrough_80 : decode cX12_goThrough 80 = .ok (.aload_n 0, 1) := zb_X12_goThrough_105.2.2.2.2.2.2.2.1
theorem dX12_goThrough_81 : decode cX12_goThrough 81 = .ok (.invokevirtual 405, 3) := zb_X12_goThrough_105.2.2.2.2.2.2.2.2.1
theorem dX12_goThrough_84 : decode cX12_goThrough 84 = .ok (.goto 7, 3) := zb_X12_goThrough_105.2.2.2.2.2.2.2.2.2.1
theorem dX12_goThrough_91 : decode cX12_goThrough 91 = .ok (.putfield 425, 3) := zb_X12_goThrough_105.2.2.2.2.2.2.2.2.2.2
theorem zb_X12_goThrough_87 : (decode cX12_goThrough 87 = .ok (.aload_n 0, 1)) ∧ (decode cX12_goThrough 88 = .ok (.invokevirtual 375, 3)) ∧ (decode cX12_goThrough 54 = .ok (.aload_n 0, 1)) ∧ (decode cX12_goThrough 55 = .ok (.ldc_w 421, 3)) ∧ (decode cX12_goThrough 58 = .ok (.invokevirtual 364, 3)) ∧ (decode cX12_goThrough 61 = .ok (.ifCond .ne 8, 3)) ∧ (decode cX12_goThrough 64 = .ok (.aload_n 0, 1)) ∧ (decode cX12_goThrough 65 = .ok (.invokevirtual 375, 3)) ∧ (decode cX12_goThrough 68 = .ok (.istore_n 3, 1)) ∧ (decode cX12_goThrough 29 = .ok (.aload_n 0, 1)) ∧ (decode cX12_goThrough 30 = .ok (.aload_n 0, 1)) := by decide +kernel
theorem dX12_goThrough_87 : decode cX12_goThrough 87 = .ok (.aload_n 0, 1) := zb_X12_goThrough_87.1
theorem dX12_goThrough_88 : decode cX12_goThrough 88 = .ok (.invokevirtual 375, 3) := zb_X12_goThrough_87.2.1
theorem dX12_goThrough_54 : decode cX12_goThrough 54 = .ok (.aload_n 0, 1) := zb_X12_goThrough_87.2.2.1
theorem dX12_goThrough_55 : decode cX12_goThrough 55 = .ok (.ldc_w 421, 3) := zb_X12_goThrough_87.2.2.2.1
theorem dX12_goThrough_58 : decode cX12_goThrough 58 = .ok (.invokevirtual 364, 3) := zb_X12_goThrough_87.2.2.2.2.1
theorem dX12_goThrough_61 : decode cX12_goThrough 61 = .ok (.ifCond .ne 8, 3) := zb_X12_goThrough_87.2.2.2.2.2.1
theorem dX12_goThrough_64 : decode cX12_goThrough 64 = .ok (.aload_n 0, 1) := zb_X12_goThrough_87.2.2.2.2.2.2.1
theorem dX12_goThrough_65 : decode cX12_goThrough 65 = .ok (.invokevirtual 375, 3) := zb_X12_goThrough_87.2.2.2.2.2.2.2.1
theorem dX12_goThrough_68 : decode cX12_goThrough 68 = .ok (.istore_n 3, 1) := zb_X12_goThrough_87.2.2.2.2.2.2.2.2.1
theorem dX12_goThrough_29 : decode cX12_goThrough 29 = .ok (.aload_n 0, 1) := zb_X12_goThrough_87.2.2.2.2.2.2.2.2.2.1
theorem dX12_goThrough_30 : decode cX12_goThrough 30 = .ok (.aload_n 0, 1) := zb_X12_goThrough_87.2.2.2.2.2.2.2.2.2.2
theorem zb_X12_goThrough_31 : (decode cX12_goThrough 31 = .ok (.ldc_w 417, 3)) ∧ (decode cX12_goThrough 34 = .ok (.invokevirtual 364, 3)) ∧ (decode cX12_goThrough 37 = .ok (.ifCond .eq 10, 3)) ∧ (decode cX12_goThrough 40 = .ok (.aload_n 0, 1)) ∧ (decode cX12_goThrough 41 = .ok (.invokevirtual 405, 3)) ∧ (decode cX12_goThrough 44 = .ok (.goto 7, 3)) ∧ (decode cX12_goThrough 51 = .ok (.putfield 418, 3)) ∧ (decode cX12_goThrough 47 = .ok (.aload_n 0, 1)) ∧ (decode cX12_goThrough 48 = .ok (.invokevirtual 375, 3)) := by decide +kernel
theorem dX12_goThrough_31 : decode cX12_goThrough 31 = .ok (.ldc_w 417, 3) := zb_X12_goThrough_31.1
theorem dX12_goThrough_34 : decode cX12_goThrough 34 = .ok (.invokevirtual 364, 3) := zb_X12_goThrough_31.2.1
theorem dX12_goThrough_37 : decode cX12_goThrough 37 = .ok (.ifCond .eq 10, 3) := zb_X12_goThrough_31.2.2.1
theorem dX12_goThrough_40 : decode cX12_goThrough 40 = .ok (.aload_n 0, 1) := zb_X12_goThrough_31.2.2.2.1
theorem dX12_goThrough_41 : decode cX12_goThrough 41 = .ok (.invokevirtual 405, 3) := zb_X12_goThrough_31.2.2.2.2.1
theorem dX12_goThrough_44 : decode cX12_goThrough 44 = .ok (.goto 7, 3) := zb_X12_goThrough_31.2.2.2.2.2.1
theorem dX12_goThrough_51 : decode cX12_goThrough 51 = .ok (.putfield 418, 3) := zb_X12_goThrough_31.2.2.2.2.2.2.1
theorem dX12_goThrough_47 : decode cX12_goThrough 47 = .ok (.aload_n 0, 1) := zb_X12_goThrough_31.2.2.2.2.2.2.2.1
theorem dX12_goThrough_48 : decode cX12_goThrough 48 = .ok (.invokevirtual 375, 3) := zb_X12_goThrough_31.2.2.2.2.2.2.2.2
theorem zb_X12_text_0 : (decode cX12_text 0 = .ok (.aload_n 0, 1)) ∧ (decode cX12_text 1 = .ok (.getfield 182, 3)) ∧ (decode cX12_text 4 = .ok (.bipush 6, 2)) ∧ (decode cX12_text 6 = .ok (.if_icmp .ne 6, 3)) ∧ (decode cX12_text 12 = .ok (.aload_n 0, 1)) ∧ (decode cX12_text 13 = .ok (.iconst (-1), 1)) ∧ (decode cX12_text 14 = .ok (.aload_n 0, 1)) ∧ (decode cX12_text 15 = .ok (.getfield 323, 3)) ∧ (decode cX12_text 18 = .ok (.invokevirtual 428, 3)) ∧ (decode cX12_text 21 = .ok (.istore_n 1, 1)) ∧ (decode cX12_text 22 = .ok (.aload_n 0, 1)) := by decide +kernel
theorem dX12_text_0 : decode cX12_text 0 = .ok (.aload_n 0, 1) := zb_X12_text_0.1
theorem dX12_text_1 : decode cX12_text 1 = .ok (.getfield 182, 3) := zb_X12_text_0.2.1
theorem dX12_text_4 : decode cX12_text 4 = .ok (.bipush 6, 2) := zb_X12_text_0.2.2.1
theorem dX12_text_6 : decode cX12_text 6 = .ok (.if_icmp .ne 6, 3) := zb_X12_text_0.2.2.2.1
theorem dX12_text_12 : decode cX12_text 12 = .ok (.aload_n 0, 1) := zb_X12_text_0.2.2.2.2.1
theorem dX12_text_13 : decode cX12_text 13 = .ok (.iconst (-1), 1) := zb_X12_text_0.2.2.2.2.2.1
theorem dX12_text_14 : decode cX12_text 14 = .ok (.aload_n 0, 1) := zb_X12_text_0.2.2.2.2.2.2.1
theorem dX12_text_15 : decode cX12_text 15 = .ok (.getfield 323, 3) := zb_X12_text_0.2.2.2.2.2.2.2.1
theorem dX12_text_18 : decode cX12_text 18 = .ok (.invokevirtual 428, 3) := zb_X12_text_0.2.2.2.2.2.2.2.2.1
theorem dX12_text_21 : decode cX12_text 21 = .ok (.istore_n 1, 1) := zb_X12_text_0.2.2.2.2.2.2.2.2.2.1
theorem dX12_text_22 : decode cX12_text 22 = .ok (.aload_n 0, 1) := zb_X12_text_0.2.2.2.2.2.2.2.2.2.2
theorem zb_X12_text_23 : (decode cX12_text 23 = .ok (.getfield 323, 3)) ∧ (decode cX12_text 26 = .ok (.istore_n 2, 1)) ∧ (decode cX12_text 27 = .ok (.aload_n 0, 1)) ∧ (decode cX12_text 28 = .ok (.iconst 0, 1)) ∧ (decode cX12_text 29 = .ok (.putfield 323, 3)) ∧ (decode cX12_text 32 = .ok (.iload_n 1, 1)) ∧ (decode cX12_text 33 = .ok (.ifCond .lt 8, 3)) ∧ (decode cX12_text 41 = .ok (.iconst 0, 1)) ∧ (decode cX12_text 42 = .ok (.istore_n 3, 1)) ∧ (decode cX12_text 43 = .ok (.iload_n 3, 1)) ∧ (decode cX12_text 44 = .ok (.iload_n 2, 1)) := by decide +kernel
theorem dX12_text_23 : decode cX12_text 23 = .ok (.getfield 323, 3) := zb_X12_text_23.1
theorem dX12_text_26 : decode cX12_text 26 = .ok (.istore_n 2, 1) := zb_X12_text_23.2.1
theorem dX12_text_27 : decode cX12_text 27 = .ok (.aload_n 0, 1) := zb_X12_text_23.2.2.1
theorem dX12_text_28 : decode cX12_text 28 = .ok (.iconst 0, 1) := zb_X12_text_23.2.2.2.1
theorem dX12_text_29 : decode cX12_text 29 = .ok (.putfield 323, 3) := zb_X12_text_23.2.2.2.2.1
theorem dX12_text_32 : decode cX12_text 32 = .ok (.iload_n 1, 1) := zb_X12_text_23.2.2.2.2.2.1
theorem dX12_text_33 : decode cX12_text 33 = .ok (.ifCond .lt 8, 3) := zb_X12_text_23.2.2.2.2.2.2.1
theorem dX12_text_41 : decode cX12_text 41 = .ok (.iconst 0, 1) := zb_X12_text_23.2.2.2.2.2.2.2.1
theorem dX12_text_42 : decode cX12_text 42 = .ok (.istore_n 3, 1) := zb_X12_text_23.2.2.2.2.2.2.2.2.1
theorem dX12_text_43 : decode cX12_text 43 = .ok (.iload_n 3, 1) := zb_X12_text_23.2.2.2.2.2.2.2.2.2.1
theorem dX12_text_44 : decode cX12_text 44 = .ok (.iload_n 2, 1) := zb_X12_text_23.2.2.2.2.2.2.2.2.2.2
theorem zb_X12_text_45 : (decode cX12_text 45 = .ok (.if_icmp .ge 30, 3)) ∧ (decode cX12_text 75 = .ok (.aload_n 0, 1)) ∧ (decode cX12_text 76 = .ok (.getfield 131, 3)) ∧ (decode cX12_text 79 = .ok (.aload_n 0, 1)) ∧ (decode cX12_text 80 = .ok (.getfield 182, 3)) ∧ (decode cX12_text 83 = .ok (.iload_n 2, 1)) ∧ (decode cX12_text 84 = .ok (.iastore, 1)) ∧ (decode cX12_text 85 = .ok (.aload_n 0, 1)) ∧ (decode cX12_text 86 = .ok (.dup, 1)) ∧ (decode cX12_text 87 = .ok (.getfield 182, 3)) ∧ (decode cX12_text 90 = .ok (.iconst 1, 1)) := by decide +kernel
theorem dX12_text_45 : decode cX12_text 45 = .ok (.if_icmp .ge 30, 3) := zb_X12_text_45.1
theorem dX12_text_75 : decode cX12_text 75 = .ok (.aload_n 0, 1) := zb_X12_text_45.2.1
theorem dX12_text_76 : decode cX12_text 76 = .ok (.getfield 131, 3) := zb_X12_text_45.2.2.1
theorem dX12_text_79 : decode cX12_text 79 = .ok (.aload_n 0, 1) := zb_X12_text_45.2.2.2.1
theorem dX12_text_80 : decode cX12_text 80 = .ok (.getfield 182, 3) := zb_X12_text_45.2.2.2.2.1
theorem dX12_text_83 : decode cX12_text 83 = .ok (.iload_n 2, 1) := zb_X12_text_45.2.2.2.2.2.1
theorem dX12_text_84 : decode cX12_text 84 = .ok (.iastore, 1) := zb_X12_text_45.2.2.2.2.2.2.1
theorem dX12_text_85 : decode cX12_text 85 = .ok (.aload_n 0, 1) := zb_X12_text_45.2.2.2.2.2.2.2.1
theorem dX12_text_86 : decode cX12_text 86 = .ok (.dup, 1) := zb_X12_text_45.2.2.2.2.2.2.2.2.1
theorem dX12_text_87 : decode cX12_text 87 = .ok (.getfield 182, 3) := zb_X12_text_45.2.2.2.2.2.2.2.2.2.1
theorem dX12_text_90 : decode cX12_text 90 = .ok (.iconst 1, 1) := zb_X12_text_45.2.2.2.2.2.2.2.2.2.2
theorem zb_X12_text_91 : (decode cX12_text 91 = .ok (.iadd, 1)) ∧ (decode cX12_text 92 = .ok (.putfield 182, 3)) ∧ (decode cX12_text 95 = .ok (.aload_n 0, 1)) ∧ (decode cX12_text 96 = .ok (.getfield 182, 3)) ∧ (decode cX12_text 99 = .ok (.iconst 1, 1)) ∧ (decode cX12_text 100 = .ok (.isub, 1)) ∧ (decode cX12_text 101 = .ok (.ireturn, 1)) ∧ (decode cX12_text 48 = .ok (.aload_n 0, 1)) ∧ (decode cX12_text 49 = .ok (.getfield 128, 3)) ∧ (decode cX12_text 52 = .ok (.sipush 160, 3)) ∧ (decode cX12_text 55 = .ok (.aload_n 0, 1)) := by decide +kernel
theorem dX12_text_91 : decode cX12_text 91 = .ok (.iadd, 1) := zb_X12_text_91.1
theorem dX12_text_92 : decode cX12_text 92 = .ok (.putfield 182, 3) := zb_X12_text_91.2.1
theorem dX12_text_95 : decode cX12_text 95 = .ok (.aload_n 0, 1) := zb_X12_text_91.2.2.1
theorem dX12_text_96 : decode cX12_text 96 = .ok (.getfield 182, 3) := zb_X12_text_91.2.2.2.1
theorem dX12_text_99 : decode cX12_text 99 = .ok (.iconst 1, 1) := zb_X12_text_91.2.2.2.2.1
theorem dX12_text_100 : decode cX12_text 100 = .ok (.isub, 1) := zb_X12_text_91.2.2.2.2.2.1
theorem dX12_text_101 : decode cX12_text 101 = .ok (.ireturn, 1) := zb_X12_text_91.2.2.2.2.2.2.1
theorem dX12_text_48 : decode cX12_text 48 = .ok (.aload_n 0, 1) := zb_X12_text_91.2.2.2.2.2.2.2.1
theorem dX12_text_49 : decode cX12_text 49 = .ok (.getfield 128, 3) := zb_X12_text_91.2.2.2.2.2.2.2.2.1
theorem dX12_text_52 : decode cX12_text 52 = .ok (.sipush 160, 3) := zb_X12_text_91.2.2.2.2.2.2.2.2.2.1
theorem dX12_text_55 : decode cX12_text 55 = .ok (.aload_n 0, 1) := zb_X12_text_91.2.2.2.2.2.2.2.2.2.2
theorem zb_X12_text_56 : (decode cX12_text 56 = .ok (.getfield 182, 3)) ∧ (decode cX12_text 59 = .ok (.imul, 1)) ∧ (decode cX12_text 60 = .ok (.iload_n 3, 1)) ∧ (decode cX12_text 61 = .ok (.iadd, 1)) ∧ (decode cX12_text 62 = .ok (.aload_n 0, 1)) ∧ (decode cX12_text 63 = .ok (.getfield 125, 3)) ∧ (decode cX12_text 66 = .ok (.iload_n 3, 1)) ∧ (decode cX12_text 67 = .ok (.iaload, 1)) ∧ (decode cX12_text 68 = .ok (.iastore, 1)) ∧ (decode cX12_text 69 = .ok (.iinc 3 1, 3)) ∧ (decode cX12_text 72 = .ok (.goto (-29), 3)) := by decide +kernel
theorem dX12_text_56 : decode cX12_text 56 = .ok (.getfield 182, 3) := zb_X12_text_56.1
theorem dX12_text_59 : decode cX12_text 59 = .ok (.imul, 1) := zb_X12_text_56.2.1
theorem dX12_text_60 : decode cX12_text 60 = .ok (.iload_n 3, 1) := zb_X12_text_56.2.2.1
theorem dX12_text_61 : decode cX12_text 61 = .ok (.iadd, 1) := zb_X12_text_56.2.2.2.1
theorem dX12_text_62 : decode cX12_text 62 = .ok (.aload_n 0, 1) := zb_X12_text_56.2.2.2.2.1
theorem dX12_text_63 : decode cX12_text 63 = .ok (.getfield 125, 3) := zb_X12_text_56.2.2.2.2.2.1
theorem dX12_text_66 : decode cX12_text 66 = .ok (.iload_n 3, 1) := zb_X12_text_56.2.2.2.2.2.2.1
theorem dX12_text_67 : decode cX12_text 67 = .ok (.iaload, 1) := zb_X12_text_56.2.2.2.2.2.2.2.1
theorem dX12_text_68 : decode cX12_text 68 = .ok (.iastore, 1) := zb_X12_text_56.2.2.2.2.2.2.2.2.1
theorem dX12_text_69 : decode cX12_text 69 = .ok (.iinc 3 1, 3) := zb_X12_text_56.2.2.2.2.2.2.2.2.2.1
theorem dX12_text_72 : decode cX12_text 72 = .ok (.goto (-29), 3) := zb_X12_text_56.2.2.2.2.2.2.2.2.2.2
theorem zb_X12_text_36 : (decode cX12_text 36 = .ok (.bipush (-100), 2)) ∧ (decode cX12_text 38 = .ok (.iload_n 1, 1)) ∧ (decode cX12_text 39 = .ok (.isub, 1)) ∧ (decode cX12_text 40 = .ok (.ireturn, 1)) ∧ (decode cX12_text 9 = .ok (.bipush (-4), 2)) ∧ (decode cX12_text 11 = .ok (.ireturn, 1)) := by decide +kernel
theorem dX12_text_36 : decode cX12_text 36 = .ok (.bipush (-100), 2) := zb_X12_text_36.1
theorem dX12_text_38 : decode cX12_text 38 = .ok (.iload_n 1, 1) := zb_X12_text_36.2.1
theorem dX12_text_39 : decode cX12_text 39 = .ok (.isub, 1) := zb_X12_text_36.2.2.1
theorem dX12_text_40 : decode cX12_text 40 = .ok (.ireturn, 1) := zb_X12_text_36.2.2.2.1
theorem dX12_text_9 : decode cX12_text 9 = .ok (.bipush (-4), 2) := zb_X12_text_36.2.2.2.2.1
theorem dX12_text_11 : decode cX12_text 11 = .ok (.ireturn, 1) := zb_X12_text_36.2.2.2.2.2
theorem zb_X12_takeOf_0 : (decode cX12_takeOf 0 = .ok (.aload_n 0, 1)) ∧ (decode cX12_takeOf 1 = .ok (.getfield 143, 3)) ∧ (decode cX12_takeOf 4 = .ok (.iconst 0, 1)) ∧ (decode cX12_takeOf 5 = .ok (.aload_n 0, 1)) ∧ (decode cX12_takeOf 6 = .ok (.getfield 104, 3)) ∧ (decode cX12_takeOf 9 = .ok (.iload_n 1, 1)) ∧ (decode cX12_takeOf 10 = .ok (.iaload, 1)) ∧ (decode cX12_takeOf 11 = .ok (.iastore, 1)) ∧ (decode cX12_takeOf 12 = .ok (.aload_n 0, 1)) ∧ (decode cX12_takeOf 13 = .ok (.getfield 143, 3)) ∧ (decode cX12_takeOf 16 = .ok (.iconst 1, 1)) := by decide +kernel
theorem dX12_takeOf_0 : decode cX12_takeOf 0 = .ok (.aload_n 0, 1) := zb_X12_takeOf_0.1
theorem dX12_takeOf_1 : decode cX12_takeOf 1 = .ok (.getfield 143, 3) := zb_X12_takeOf_0.2.1
theorem dX12_takeOf_4 : decode cX12_takeOf 4 = .ok (.iconst 0, 1) := zb_X12_takeOf_0.2.2.1
theorem dX12_takeOf_5 : decode cX12_takeOf 5 = .ok (.aload_n 0, 1) := zb_X12_takeOf_0.2.2.2.1
theorem dX12_takeOf_6 : decode cX12_takeOf 6 = .ok (.getfield 104, 3) := zb_X12_takeOf_0.2.2.2.2.1
theorem dX12_takeOf_9 : decode cX12_takeOf 9 = .ok (.iload_n 1, 1) := zb_X12_takeOf_0.2.2.2.2.2.1
theorem dX12_takeOf_10 : decode cX12_takeOf 10 = .ok (.iaload, 1) := zb_X12_takeOf_0.2.2.2.2.2.2.1
theorem dX12_takeOf_11 : decode cX12_takeOf 11 = .ok (.iastore, 1) := zb_X12_takeOf_0.2.2.2.2.2.2.2.1
theorem dX12_takeOf_12 : decode cX12_takeOf 12 = .ok (.aload_n 0, 1) := zb_X12_takeOf_0.2.2.2.2.2.2.2.2.1
theorem dX12_takeOf_13 : decode cX12_takeOf 13 = .ok (.getfield 143, 3) := zb_X12_takeOf_0.2.2.2.2.2.2.2.2.2.1
theorem dX12_takeOf_16 : decode cX12_takeOf 16 = .ok (.iconst 1, 1) := zb_X12_takeOf_0.2.2.2.2.2.2.2.2.2.2
theorem zb_X12_takeOf_17 : (decode cX12_takeOf 17 = .ok (.aload_n 0, 1)) ∧ (decode cX12_takeOf 18 = .ok (.getfield 107, 3)) ∧ (decode cX12_takeOf 21 = .ok (.iload_n 1, 1)) ∧ (decode cX12_takeOf 22 = .ok (.iaload, 1)) ∧ (decode cX12_takeOf 23 = .ok (.iastore, 1)) ∧ (decode cX12_takeOf 24 = .ok (.aload_n 0, 1)) ∧ (decode cX12_takeOf 25 = .ok (.getfield 143, 3)) ∧ (decode cX12_takeOf 28 = .ok (.iconst 2, 1)) ∧ (decode cX12_takeOf 29 = .ok (.aload_n 0, 1)) ∧ (decode cX12_takeOf 30 = .ok (.getfield 110, 3)) ∧ (decode cX12_takeOf 33 = .ok (.iload_n 1, 1)) := by decide +kernel
theorem dX12_takeOf_17 : decode cX12_takeOf 17 = .ok (.aload_n 0, 1) := zb_X12_takeOf_17.1
theorem dX12_takeOf_18 : decode cX12_takeOf 18 = .ok (.getfield 107, 3) := zb_X12_takeOf_17.2.1
theorem dX12_takeOf_21 : decode cX12_takeOf 21 = .ok (.iload_n 1, 1) := zb_X12_takeOf_17.2.2.1
theorem dX12_takeOf_22 : decode cX12_takeOf 22 = .ok (.iaload, 1) := zb_X12_takeOf_17.2.2.2.1
theorem dX12_takeOf_23 : decode cX12_takeOf 23 = .ok (.iastore, 1) := zb_X12_takeOf_17.2.2.2.2.1
theorem dX12_takeOf_24 : decode cX12_takeOf 24 = .ok (.aload_n 0, 1) := zb_X12_takeOf_17.2.2.2.2.2.1
theorem dX12_takeOf_25 : decode cX12_takeOf 25 = .ok (.getfield 143, 3) := zb_X12_takeOf_17.2.2.2.2.2.2.1
theorem dX12_takeOf_28 : decode cX12_takeOf 28 = .ok (.iconst 2, 1) := zb_X12_takeOf_17.2.2.2.2.2.2.2.1
theorem dX12_takeOf_29 : decode cX12_takeOf 29 = .ok (.aload_n 0, 1) := zb_X12_takeOf_17.2.2.2.2.2.2.2.2.1
theorem dX12_takeOf_30 : decode cX12_takeOf 30 = .ok (.getfield 110, 3) := zb_X12_takeOf_17.2.2.2.2.2.2.2.2.2.1
theorem dX12_takeOf_33 : decode cX12_takeOf 33 = .ok (.iload_n 1, 1) := zb_X12_takeOf_17.2.2.2.2.2.2.2.2.2.2
theorem zb_X12_takeOf_34 : (decode cX12_takeOf 34 = .ok (.iaload, 1)) ∧ (decode cX12_takeOf 35 = .ok (.iastore, 1)) ∧ (decode cX12_takeOf 36 = .ok (.aload_n 0, 1)) ∧ (decode cX12_takeOf 37 = .ok (.getfield 143, 3)) ∧ (decode cX12_takeOf 40 = .ok (.iconst 3, 1)) ∧ (decode cX12_takeOf 41 = .ok (.aload_n 0, 1)) ∧ (decode cX12_takeOf 42 = .ok (.getfield 201, 3)) ∧ (decode cX12_takeOf 45 = .ok (.iastore, 1)) ∧ (decode cX12_takeOf 46 = .ok (.aload_n 0, 1)) ∧ (decode cX12_takeOf 47 = .ok (.getfield 143, 3)) ∧ (decode cX12_takeOf 50 = .ok (.iconst 4, 1)) := by decide +kernel
theorem dX12_takeOf_34 : decode cX12_takeOf 34 = .ok (.iaload, 1) := zb_X12_takeOf_34.1
theorem dX12_takeOf_35 : decode cX12_takeOf 35 = .ok (.iastore, 1) := zb_X12_takeOf_34.2.1
theorem dX12_takeOf_36 : decode cX12_takeOf 36 = .ok (.aload_n 0, 1) := zb_X12_takeOf_34.2.2.1
theorem dX12_takeOf_37 : decode cX12_takeOf 37 = .ok (.getfield 143, 3) := zb_X12_takeOf_34.2.2.2.1
theorem dX12_takeOf_40 : decode cX12_takeOf 40 = .ok (.iconst 3, 1) := zb_X12_takeOf_34.2.2.2.2.1
theorem dX12_takeOf_41 : decode cX12_takeOf 41 = .ok (.aload_n 0, 1) := zb_X12_takeOf_34.2.2.2.2.2.1
theorem dX12_takeOf_42 : decode cX12_takeOf 42 = .ok (.getfield 201, 3) := zb_X12_takeOf_34.2.2.2.2.2.2.1
theorem dX12_takeOf_45 : decode cX12_takeOf 45 = .ok (.iastore, 1) := zb_X12_takeOf_34.2.2.2.2.2.2.2.1
theorem dX12_takeOf_46 : decode cX12_takeOf 46 = .ok (.aload_n 0, 1) := zb_X12_takeOf_34.2.2.2.2.2.2.2.2.1
theorem dX12_takeOf_47 : decode cX12_takeOf 47 = .ok (.getfield 143, 3) := zb_X12_takeOf_34.2.2.2.2.2.2.2.2.2.1
theorem dX12_takeOf_50 : decode cX12_takeOf 50 = .ok (.iconst 4, 1) := zb_X12_takeOf_34.2.2.2.2.2.2.2.2.2.2
theorem zb_X12_takeOf_51 : (decode cX12_takeOf 51 = .ok (.aload_n 0, 1)) ∧ (decode cX12_takeOf 52 = .ok (.getfield 43, 3)) ∧ (decode cX12_takeOf 55 = .ok (.aload_n 0, 1)) ∧ (decode cX12_takeOf 56 = .ok (.getfield 101, 3)) ∧ (decode cX12_takeOf 59 = .ok (.iload_n 1, 1)) ∧ (decode cX12_takeOf 60 = .ok (.iaload, 1)) ∧ (decode cX12_takeOf 61 = .ok (.iaload, 1)) ∧ (decode cX12_takeOf 62 = .ok (.iastore, 1)) ∧ (decode cX12_takeOf 63 = .ok (.aload_n 0, 1)) ∧ (decode cX12_takeOf 64 = .ok (.getfield 143, 3)) ∧ (decode cX12_takeOf 67 = .ok (.iconst 5, 1)) := by decide +kernel
theorem dX12_takeOf_51 : decode cX12_takeOf 51 = .ok (.aload_n 0, 1) := zb_X12_takeOf_51.1
theorem dX12_takeOf_52 : decode cX12_takeOf 52 = .ok (.getfield 43, 3) := zb_X12_takeOf_51.2.1
theorem dX12_takeOf_55 : decode cX12_takeOf 55 = .ok (.aload_n 0, 1) := zb_X12_takeOf_51.2.2.1
theorem dX12_takeOf_56 : decode cX12_takeOf 56 = .ok (.getfield 101, 3) := zb_X12_takeOf_51.2.2.2.1
theorem dX12_takeOf_59 : decode cX12_takeOf 59 = .ok (.iload_n 1, 1) := zb_X12_takeOf_51.2.2.2.2.1
theorem dX12_takeOf_60 : decode cX12_takeOf 60 = .ok (.iaload, 1) := zb_X12_takeOf_51.2.2.2.2.2.1
theorem dX12_takeOf_61 : decode cX12_takeOf 61 = .ok (.iaload, 1) := zb_X12_takeOf_51.2.2.2.2.2.2.1
theorem dX12_takeOf_62 : decode cX12_takeOf 62 = .ok (.iastore, 1) := zb_X12_takeOf_51.2.2.2.2.2.2.2.1
theorem dX12_takeOf_63 : decode cX12_takeOf 63 = .ok (.aload_n 0, 1) := zb_X12_takeOf_51.2.2.2.2.2.2.2.2.1
theorem dX12_takeOf_64 : decode cX12_takeOf 64 = .ok (.getfield 143, 3) := zb_X12_takeOf_51.2.2.2.2.2.2.2.2.2.1
theorem dX12_takeOf_67 : decode cX12_takeOf 67 = .ok (.iconst 5, 1) := zb_X12_takeOf_51.2.2.2.2.2.2.2.2.2.2
theorem zb_X12_takeOf_68 : (decode cX12_takeOf 68 = .ok (.iconst 0, 1)) ∧ (decode cX12_takeOf 69 = .ok (.iastore, 1)) ∧ (decode cX12_takeOf 70 = .ok (.aload_n 0, 1)) ∧ (decode cX12_takeOf 71 = .ok (.sipush 160, 3)) ∧ (decode cX12_takeOf 74 = .ok (.aload_n 0, 1)) ∧ (decode cX12_takeOf 75 = .ok (.getfield 431, 3)) ∧ (decode cX12_takeOf 78 = .ok (.imul, 1)) ∧ (decode cX12_takeOf 79 = .ok (.aload_n 0, 1)) ∧ (decode cX12_takeOf 80 = .ok (.getfield 131, 3)) ∧ (decode cX12_takeOf 83 = .ok (.aload_n 0, 1)) ∧ (decode cX12_takeOf 84 = .ok (.getfield 431, 3)) := by decide +kernel
theorem dX12_takeOf_68 : decode cX12_takeOf 68 = .ok (.iconst 0, 1) := zb_X12_takeOf_68.1
theorem dX12_takeOf_69 : decode cX12_takeOf 69 = .ok (.iastore, 1) := zb_X12_takeOf_68.2.1
theorem dX12_takeOf_70 : decode cX12_takeOf 70 = .ok (.aload_n 0, 1) := zb_X12_takeOf_68.2.2.1
theorem dX12_takeOf_71 : decode cX12_takeOf 71 = .ok (.sipush 160, 3) := zb_X12_takeOf_68.2.2.2.1
theorem dX12_takeOf_74 : decode cX12_takeOf 74 = .ok (.aload_n 0, 1) := zb_X12_takeOf_68.2.2.2.2.1
theorem dX12_takeOf_75 : decode cX12_takeOf 75 = .ok (.getfield 431, 3) := zb_X12_takeOf_68.2.2.2.2.2.1
theorem dX12_takeOf_78 : decode cX12_takeOf 78 = .ok (.imul, 1) := zb_X12_takeOf_68.2.2.2.2.2.2.1
theorem dX12_takeOf_79 : decode cX12_takeOf 79 = .ok (.aload_n 0, 1) := zb_X12_takeOf_68.2.2.2.2.2.2.2.1
theorem dX12_takeOf_80 : decode cX12_takeOf 80 = .ok (.getfield 131, 3) := zb_X12_takeOf_68.2.2.2.2.2.2.2.2.1
theorem dX12_takeOf_83 : decode cX12_takeOf 83 = .ok (.aload_n 0, 1) := zb_X12_takeOf_68.2.2.2.2.2.2.2.2.2.1
theorem dX12_takeOf_84 : decode cX12_takeOf 84 = .ok (.getfield 431, 3) := zb_X12_takeOf_68.2.2.2.2.2.2.2.2.2.2
theorem zb_X12_takeOf_87 : (decode cX12_takeOf 87 = .ok (.iaload, 1)) ∧ (decode cX12_takeOf 88 = .ok (.invokevirtual 428, 3)) ∧ (decode cX12_takeOf 91 = .ok (.istore_n 2, 1)) ∧ (decode cX12_takeOf 92 = .ok (.aload_n 0, 1)) ∧ (decode cX12_takeOf 93 = .ok (.getfield 418, 3)) ∧ (decode cX12_takeOf 96 = .ok (.ireturn, 1)) := by decide +kernel
theorem dX12_takeOf_87 : decode cX12_takeOf 87 = .ok (.iaload, 1) := zb_X12_takeOf_87.1
theorem dX12_takeOf_88 : decode cX12_takeOf 88 = .ok (.invokevirtual 428, 3) := zb_X12_takeOf_87.2.1
theorem dX12_takeOf_91 : decode cX12_takeOf 91 = .ok (.istore_n 2, 1) := zb_X12_takeOf_87.2.2.1
theorem dX12_takeOf_92 : decode cX12_takeOf 92 = .ok (.aload_n 0, 1) := zb_X12_takeOf_87.2.2.2.1
theorem dX12_takeOf_93 : decode cX12_takeOf 93 = .ok (.getfield 418, 3) := zb_X12_takeOf_87.2.2.2.2.1
theorem dX12_takeOf_96 : decode cX12_takeOf 96 = .ok (.ireturn, 1) := zb_X12_takeOf_87.2.2.2.2.2
theorem zb_X12_goOf_13 : (decode cX12_goOf 13 = .ok (.lstore_n 3, 1)) ∧ (decode cX12_goOf 16 = .ok (.istore 5, 2)) ∧ (decode cX12_goOf 19 = .ok (.istore 6, 2)) ∧ (decode cX12_goOf 21 = .ok (.iload 6, 2)) ∧ (decode cX12_goOf 122 = .ok (.iload 5, 2)) ∧ (decode cX12_goOf 133 = .ok (.imul, 1)) ∧ (decode cX12_goOf 146 = .ok (.istore 6, 2)) ∧ (decode cX12_goOf 28 = .ok (.iload 6, 2)) ∧ (decode cX12_goOf 39 = .ok (.istore 7, 2)) := by decide +kernel
theorem dX12_goOf_13 : decode cX12_goOf 13 = .ok (.lstore_n 3, 1) := zb_X12_goOf_13.1
theorem dX12_goOf_16 : decode cX12_goOf 16 = .ok (.istore 5, 2) := zb_X12_goOf_13.2.1
theorem dX12_goOf_19 : decode cX12_goOf 19 = .ok (.istore 6, 2) := zb_X12_goOf_13.2.2.1
theorem dX12_goOf_21 : decode cX12_goOf 21 = .ok (.iload 6, 2) := zb_X12_goOf_13.2.2.2.1
theorem dX12_goOf_122 : decode cX12_goOf 122 = .ok (.iload 5, 2) := zb_X12_goOf_13.2.2.2.2.1
theorem dX12_goOf_133 : decode cX12_goOf 133 = .ok (.imul, 1) := zb_X12_goOf_13.2.2.2.2.2.1
theorem dX12_goOf_146 : decode cX12_goOf 146 = .ok (.istore 6, 2) := zb_X12_goOf_13.2.2.2.2.2.2.1
theorem dX12_goOf_28 : decode cX12_goOf 28 = .ok (.iload 6, 2) := zb_X12_goOf_13.2.2.2.2.2.2.2.1
theorem dX12_goOf_39 : decode cX12_goOf 39 = .ok (.istore 7, 2) := zb_X12_goOf_13.2.2.2.2.2.2.2.2
theorem zb_X12_goOf_41 : (decode cX12_goOf 41 = .ok (.lload_n 3, 1)) ∧ (decode cX12_goOf 42 = .ok (.iload 6, 2)) ∧ (decode cX12_goOf 44 = .ok (.lushr, 1)) ∧ (decode cX12_goOf 64 = .ok (.iload 5, 2)) ∧ (decode cX12_goOf 66 = .ok (.istore 5, 2)) ∧ (decode cX12_goOf 68 = .ok (.iinc 6 1, 3)) ∧ (decode cX12_goOf 52 = .ok (.iload 7, 2)) ∧ (decode cX12_goOf 54 = .ok (.iload 5, 2)) ∧ (decode cX12_goOf 59 = .ok (.iload 7, 2)) := by decide +kernel
theorem dX12_goOf_41 : decode cX12_goOf 41 = .ok (.lload_n 3, 1) := zb_X12_goOf_41.1
theorem dX12_goOf_42 : decode cX12_goOf 42 = .ok (.iload 6, 2) := zb_X12_goOf_41.2.1
theorem dX12_goOf_44 : decode cX12_goOf 44 = .ok (.lushr, 1) := zb_X12_goOf_41.2.2.1
theorem dX12_goOf_64 : decode cX12_goOf 64 = .ok (.iload 5, 2) := zb_X12_goOf_41.2.2.2.1
theorem dX12_goOf_66 : decode cX12_goOf 66 = .ok (.istore 5, 2) := zb_X12_goOf_41.2.2.2.2.1
theorem dX12_goOf_68 : decode cX12_goOf 68 = .ok (.iinc 6 1, 3) := zb_X12_goOf_41.2.2.2.2.2.1
theorem dX12_goOf_52 : decode cX12_goOf 52 = .ok (.iload 7, 2) := zb_X12_goOf_41.2.2.2.2.2.2.1
theorem dX12_goOf_54 : decode cX12_goOf 54 = .ok (.iload 5, 2) := zb_X12_goOf_41.2.2.2.2.2.2.2.1
theorem dX12_goOf_59 : decode cX12_goOf 59 = .ok (.iload 7, 2) := zb_X12_goOf_41.2.2.2.2.2.2.2.2
theorem zb_X12_says_23 : (decode cX12_says 23 = .ok (.iload_n 1, 1)) ∧ (decode cX12_says 24 = .ok (.iconst 1, 1)) ∧ (decode cX12_says 25 = .ok (.if_icmp .ne 29, 3)) ∧ (decode cX12_says 54 = .ok (.ldc2_w 236, 3)) ∧ (decode cX12_says 57 = .ok (.lreturn, 1)) ∧ (decode cX12_says 28 = .ok (.aload_n 0, 1)) ∧ (decode cX12_says 29 = .ok (.iload_n 2, 1)) ∧ (decode cX12_says 30 = .ok (.invokevirtual 275, 3)) ∧ (decode cX12_says 33 = .ok (.ifCond .eq 21, 3)) ∧ (decode cX12_says 36 = .ok (.aload_n 0, 1)) ∧ (decode cX12_says 37 = .ok (.iload_n 3, 1)) := by decide +kernel
theorem dX12_says_23 : decode cX12_says 23 = .ok (.iload_n 1, 1) := zb_X12_says_23.1
theorem dX12_says_24 : decode cX12_says 24 = .ok (.iconst 1, 1) := zb_X12_says_23.2.1
theorem dX12_says_25 : decode cX12_says 25 = .ok (.if_icmp .ne 29, 3) := zb_X12_says_23.2.2.1
theorem dX12_says_54 : decode cX12_says 54 = .ok (.ldc2_w 236, 3) := zb_X12_says_23.2.2.2.1
theorem dX12_says_57 : decode cX12_says 57 = .ok (.lreturn, 1) := zb_X12_says_23.2.2.2.2.1
theorem dX12_says_28 : decode cX12_says 28 = .ok (.aload_n 0, 1) := zb_X12_says_23.2.2.2.2.2.1
theorem dX12_says_29 : decode cX12_says 29 = .ok (.iload_n 2, 1) := zb_X12_says_23.2.2.2.2.2.2.1
theorem dX12_says_30 : decode cX12_says 30 = .ok (.invokevirtual 275, 3) := zb_X12_says_23.2.2.2.2.2.2.2.1
theorem dX12_says_33 : decode cX12_says 33 = .ok (.ifCond .eq 21, 3) := zb_X12_says_23.2.2.2.2.2.2.2.2.1
theorem dX12_says_36 : decode cX12_says 36 = .ok (.aload_n 0, 1) := zb_X12_says_23.2.2.2.2.2.2.2.2.2.1
theorem dX12_says_37 : decode cX12_says 37 = .ok (.iload_n 3, 1) := zb_X12_says_23.2.2.2.2.2.2.2.2.2.2
theorem zb_X12_says_38 : (decode cX12_says 38 = .ok (.invokevirtual 193, 3)) ∧ (decode cX12_says 41 = .ok (.ifCond .eq 13, 3)) ∧ (decode cX12_says 44 = .ok (.aload_n 0, 1)) ∧ (decode cX12_says 45 = .ok (.iload_n 2, 1)) ∧ (decode cX12_says 46 = .ok (.iload_n 3, 1)) ∧ (decode cX12_says 47 = .ok (.invokevirtual 437, 3)) ∧ (decode cX12_says 50 = .ok (.i2l, 1)) ∧ (decode cX12_says 51 = .ok (.goto 6, 3)) ∧ (decode cX12_says 0 = .ok (.iload_n 1, 1)) ∧ (decode cX12_says 1 = .ok (.ifCond .ne 22, 3)) ∧ (decode cX12_says 4 = .ok (.iload_n 2, 1)) := by decide +kernel
theorem dX12_says_38 : decode cX12_says 38 = .ok (.invokevirtual 193, 3) := zb_X12_says_38.1
theorem dX12_says_41 : decode cX12_says 41 = .ok (.ifCond .eq 13, 3) := zb_X12_says_38.2.1
theorem dX12_says_44 : decode cX12_says 44 = .ok (.aload_n 0, 1) := zb_X12_says_38.2.2.1
theorem dX12_says_45 : decode cX12_says 45 = .ok (.iload_n 2, 1) := zb_X12_says_38.2.2.2.1
theorem dX12_says_46 : decode cX12_says 46 = .ok (.iload_n 3, 1) := zb_X12_says_38.2.2.2.2.1
theorem dX12_says_47 : decode cX12_says 47 = .ok (.invokevirtual 437, 3) := zb_X12_says_38.2.2.2.2.2.1
theorem dX12_says_50 : decode cX12_says 50 = .ok (.i2l, 1) := zb_X12_says_38.2.2.2.2.2.2.1
theorem dX12_says_51 : decode cX12_says 51 = .ok (.goto 6, 3) := zb_X12_says_38.2.2.2.2.2.2.2.1
theorem dX12_says_0 : decode cX12_says 0 = .ok (.iload_n 1, 1) := zb_X12_says_38.2.2.2.2.2.2.2.2.1
theorem dX12_says_1 : decode cX12_says 1 = .ok (.ifCond .ne 22, 3) := zb_X12_says_38.2.2.2.2.2.2.2.2.2.1
theorem dX12_says_4 : decode cX12_says 4 = .ok (.iload_n 2, 1) := zb_X12_says_38.2.2.2.2.2.2.2.2.2.2
theorem zb_X12_says_5 : (decode cX12_says 5 = .ok (.ifCond .lt 18, 3)) ∧ (decode cX12_says 8 = .ok (.iload_n 2, 1)) ∧ (decode cX12_says 9 = .ok (.aload_n 0, 1)) ∧ (decode cX12_says 10 = .ok (.getfield 320, 3)) ∧ (decode cX12_says 13 = .ok (.if_icmp .ge 10, 3)) ∧ (decode cX12_says 16 = .ok (.aload_n 0, 1)) ∧ (decode cX12_says 17 = .ok (.iload_n 2, 1)) ∧ (decode cX12_says 18 = .ok (.invokevirtual 434, 3)) ∧ (decode cX12_says 21 = .ok (.i2l, 1)) ∧ (decode cX12_says 22 = .ok (.lreturn, 1)) := by decide +kernel
theorem dX12_says_5 : decode cX12_says 5 = .ok (.ifCond .lt 18, 3) := zb_X12_says_5.1
theorem dX12_says_8 : decode cX12_says 8 = .ok (.iload_n 2, 1) := zb_X12_says_5.2.1
theorem dX12_says_9 : decode cX12_says 9 = .ok (.aload_n 0, 1) := zb_X12_says_5.2.2.1
theorem dX12_says_10 : decode cX12_says 10 = .ok (.getfield 320, 3) := zb_X12_says_5.2.2.2.1
theorem dX12_says_13 : decode cX12_says 13 = .ok (.if_icmp .ge 10, 3) := zb_X12_says_5.2.2.2.2.1
theorem dX12_says_16 : decode cX12_says 16 = .ok (.aload_n 0, 1) := zb_X12_says_5.2.2.2.2.2.1
theorem dX12_says_17 : decode cX12_says 17 = .ok (.iload_n 2, 1) := zb_X12_says_5.2.2.2.2.2.2.1
theorem dX12_says_18 : decode cX12_says 18 = .ok (.invokevirtual 434, 3) := zb_X12_says_5.2.2.2.2.2.2.2.1
theorem dX12_says_21 : decode cX12_says 21 = .ok (.i2l, 1) := zb_X12_says_5.2.2.2.2.2.2.2.2.1
theorem dX12_says_22 : decode cX12_says 22 = .ok (.lreturn, 1) := zb_X12_says_5.2.2.2.2.2.2.2.2.2
theorem zb_X12_first_14 : (decode cX12_first 14 = .ok (.istore 4, 2)) ∧ (decode cX12_first 16 = .ok (.iload 4, 2)) ∧ (decode cX12_first 29 = .ok (.iload 4, 2)) ∧ (decode cX12_first 115 = .ok (.iinc 4 1, 3)) ∧ (decode cX12_first 40 = .ok (.iload 4, 2)) ∧ (decode cX12_first 43 = .ok (.iload 4, 2)) ∧ (decode cX12_first 50 = .ok (.istore 5, 2)) ∧ (decode cX12_first 52 = .ok (.iload 5, 2)) := by decide +kernel
theorem dX12_first_14 : decode cX12_first 14 = .ok (.istore 4, 2) := zb_X12_first_14.1
theorem dX12_first_16 : decode cX12_first 16 = .ok (.iload 4, 2) := zb_X12_first_14.2.1
theorem dX12_first_29 : decode cX12_first 29 = .ok (.iload 4, 2) := zb_X12_first_14.2.2.1
theorem dX12_first_115 : decode cX12_first 115 = .ok (.iinc 4 1, 3) := zb_X12_first_14.2.2.2.1
theorem dX12_first_40 : decode cX12_first 40 = .ok (.iload 4, 2) := zb_X12_first_14.2.2.2.2.1
theorem dX12_first_43 : decode cX12_first 43 = .ok (.iload 4, 2) := zb_X12_first_14.2.2.2.2.2.1
theorem dX12_first_50 : decode cX12_first 50 = .ok (.istore 5, 2) := zb_X12_first_14.2.2.2.2.2.2.1
theorem dX12_first_52 : decode cX12_first 52 = .ok (.iload 5, 2) := zb_X12_first_14.2.2.2.2.2.2.2
theorem zb_X12_first_107 : (decode cX12_first 107 = .ok (.iload 5, 2)) ∧ (decode cX12_first 109 = .ok (.iload 4, 2)) ∧ (decode cX12_first 112 = .ok (.iinc 3 1, 3)) ∧ (decode cX12_first 65 = .ok (.iload 5, 2)) ∧ (decode cX12_first 75 = .ok (.iload 4, 2)) ∧ (decode cX12_first 85 = .ok (.iload 5, 2)) ∧ (decode cX12_first 91 = .ok (.iload 5, 2)) ∧ (decode cX12_first 97 = .ok (.iinc 5 (-1), 3)) := by decide +kernel
theorem dX12_first_107 : decode cX12_first 107 = .ok (.iload 5, 2) := zb_X12_first_107.1
theorem dX12_first_109 : decode cX12_first 109 = .ok (.iload 4, 2) := zb_X12_first_107.2.1
theorem dX12_first_112 : decode cX12_first 112 = .ok (.iinc 3 1, 3) := zb_X12_first_107.2.2.1
theorem dX12_first_65 : decode cX12_first 65 = .ok (.iload 5, 2) := zb_X12_first_107.2.2.2.1
theorem dX12_first_75 : decode cX12_first 75 = .ok (.iload 4, 2) := zb_X12_first_107.2.2.2.2.1
theorem dX12_first_85 : decode cX12_first 85 = .ok (.iload 5, 2) := zb_X12_first_107.2.2.2.2.2.1
theorem dX12_first_91 : decode cX12_first 91 = .ok (.iload 5, 2) := zb_X12_first_107.2.2.2.2.2.2.1
theorem dX12_first_97 : decode cX12_first 97 = .ok (.iinc 5 (-1), 3) := zb_X12_first_107.2.2.2.2.2.2.2
theorem ck_X12_goOf_0_29mt : ((cX12_goOf.data.toList).drop 0).take 16 = [42, 28, 42, 180, 0, 201, 42, 180, 0, 201, 182, 0, 238, 66, 16, 99] := by decide +kernel
theorem ck_X12_goOf_1_29mt : ((cX12_goOf.data.toList).drop 16).take 16 = [54, 5, 3, 54, 6, 21, 6, 16, 64, 162, 0, 49, 21, 6, 42, 180] := by decide +kernel
theorem ck_X12_goOf_2_29mt : ((cX12_goOf.data.toList).drop 32).take 16 = [0, 34, 27, 46, 184, 1, 2, 54, 7, 33, 21, 6, 125, 10, 127, 10] := by decide +kernel
theorem ck_X12_goOf_3_29mt : ((cX12_goOf.data.toList).drop 48).take 16 = [148, 154, 0, 15, 21, 7, 21, 5, 162, 0, 8, 21, 7, 167, 0, 5] := by decide +kernel
theorem ck_X12_goOf_4_29mt : ((cX12_goOf.data.toList).drop 64).take 16 = [21, 5, 54, 5, 132, 6, 1, 167, 255, 206, 42, 180, 0, 143, 3, 3] := by decide +kernel
theorem ck_X12_goOf_5_29mt : ((cX12_goOf.data.toList).drop 80).take 16 = [79, 42, 180, 0, 143, 4, 3, 79, 42, 180, 0, 143, 5, 3, 79, 42] := by decide +kernel
theorem ck_X12_goOf_6_29mt : ((cX12_goOf.data.toList).drop 96).take 16 = [180, 0, 143, 6, 42, 180, 0, 201, 79, 42, 180, 0, 143, 7, 42, 180] := by decide +kernel
theorem ck_X12_goOf_7_29mt : ((cX12_goOf.data.toList).drop 112).take 16 = [0, 43, 27, 46, 79, 42, 180, 0, 143, 8, 21, 5, 79, 42, 17, 0] := by decide +kernel
theorem ck_X12_goOf_8_29mt : ((cX12_goOf.data.toList).drop 128).take 16 = [160, 42, 180, 1, 175, 104, 42, 180, 0, 131, 42, 180, 1, 175, 46, 182] := by decide +kernel
theorem ck_X12_goOf_9_29mt : ((cX12_goOf.data.toList).drop 144).take 16 = [1, 172, 54, 6, 42, 180, 1, 169, 172] := by decide +kernel
theorem ck_X12_first_0_29mt : ((cX12_first.data.toList).drop 0).take 16 = [42, 27, 182, 0, 193, 154, 0, 6, 16, 254, 172, 3, 62, 3, 54, 4] := by decide +kernel
theorem ck_X12_first_1_29mt : ((cX12_first.data.toList).drop 16).take 16 = [21, 4, 42, 180, 1, 64, 162, 0, 99, 42, 180, 0, 101, 21, 4, 46] := by decide +kernel
theorem ck_X12_first_2_29mt : ((cX12_first.data.toList).drop 32).take 16 = [27, 160, 0, 82, 42, 180, 0, 146, 21, 4, 42, 21, 4, 182, 1, 178] := by decide +kernel
theorem ck_X12_first_3_29mt : ((cX12_first.data.toList).drop 48).take 16 = [79, 29, 54, 5, 21, 5, 158, 0, 49, 42, 180, 0, 146, 42, 180, 0] := by decide +kernel
theorem ck_X12_first_4_29mt : ((cX12_first.data.toList).drop 64).take 16 = [149, 21, 5, 4, 100, 46, 46, 42, 180, 0, 146, 21, 4, 46, 162, 0] := by decide +kernel
theorem ck_X12_first_5_29mt : ((cX12_first.data.toList).drop 80).take 16 = [25, 42, 180, 0, 149, 21, 5, 42, 180, 0, 149, 21, 5, 4, 100, 46] := by decide +kernel
theorem ck_X12_first_6_29mt : ((cX12_first.data.toList).drop 96).take 16 = [79, 132, 5, 255, 167, 255, 208, 42, 180, 0, 149, 21, 5, 21, 4, 79] := by decide +kernel
theorem ck_X12_first_7_29mt : ((cX12_first.data.toList).drop 112).take 16 = [132, 3, 1, 132, 4, 1, 167, 255, 154, 28, 155, 0, 17, 28, 29, 162] := by decide +kernel
theorem ck_X12_first_8_29mt : ((cX12_first.data.toList).drop 128).take 16 = [0, 12, 42, 180, 0, 149, 28, 46, 167, 0, 4, 2, 172] := by decide +kernel
theorem gX12_goThrough_X12_next : GoodIn wsX12_goThrough (wsV RX12 356 RX12 yX12_next wsX12_next) := ru_gG (ru_gV tw_7_71 tw_7_73 tw_0_44 tw_1_12 mT_X12_next)
theorem gX12_goThrough_X12_wrong : GoodIn wsX12_goThrough (wsV RX12 375 RX12 yX12_wrong wsX12_wrong) := ru_gG (ru_gV tw_7_113 tw_7_115 tw_0_54 tw_1_12 mT_X12_wrong)
theorem gX12_goThrough_X12_take : GoodIn wsX12_goThrough (wsV RX12 364 RX12 yX12_take wsX12_take) := ru_gG (ru_gV tw_7_88 tw_7_90 tw_0_48 tw_1_12 mT_X12_take)
theorem gX12_goThrough_X12_either : GoodIn wsX12_goThrough (wsV RX12 405 RX12 yX12_either wsX12_either) := ru_gG (ru_gV tw_7_96 tw_7_98 tw_0_50 tw_1_12 mT_X12_either)
theorem gX12_text_X12_goThrough : GoodIn wsX12_text (wsV RX12 428 RX12 yX12_goThrough wsX12_goThrough) := ru_gG (ru_gV tw_7_67 tw_7_69 tw_0_43 tw_1_12 mT_X12_goThrough)
theorem gX12_takeOf_X12_goThrough : GoodIn wsX12_takeOf (wsV RX12 428 RX12 yX12_goThrough wsX12_goThrough) := ru_gG (ru_gV tw_7_67 tw_7_69 tw_0_43 tw_1_12 mT_X12_goThrough)
theorem dX12_goOf_0 : decode cX12_goOf 0 = .ok (.aload_n 0, 1) := dk_0 (dk_k42 0) (dk_by (j := 0) rfl ck_X12_goOf_0_29mt rfl rfl rfl)
theorem dX12_goOf_1 : decode cX12_goOf 1 = .ok (.iload_n 2, 1) := dk_0 (dk_k28 1) (dk_by (j := 1) rfl ck_X12_goOf_0_29mt rfl rfl rfl)
theorem dX12_goOf_2 : decode cX12_goOf 2 = .ok (.aload_n 0, 1) := dk_0 (dk_k42 2) (dk_by (j := 2) rfl ck_X12_goOf_0_29mt rfl rfl rfl)
theorem dX12_goOf_3 : decode cX12_goOf 3 = .ok (.getfield 201, 3) := dk_2 (dk_k180 3) (dk_by (j := 3) rfl ck_X12_goOf_0_29mt rfl rfl rfl) (dk_by (j := 4) rfl ck_X12_goOf_0_29mt rfl rfl rfl) (dk_by (j := 5) rfl ck_X12_goOf_0_29mt rfl rfl rfl) (by decide)
theorem dX12_goOf_6 : decode cX12_goOf 6 = .ok (.aload_n 0, 1) := dk_0 (dk_k42 6) (dk_by (j := 6) rfl ck_X12_goOf_0_29mt rfl rfl rfl)
theorem dX12_goOf_7 : decode cX12_goOf 7 = .ok (.getfield 201, 3) := dk_2 (dk_k180 7) (dk_by (j := 7) rfl ck_X12_goOf_0_29mt rfl rfl rfl) (dk_by (j := 8) rfl ck_X12_goOf_0_29mt rfl rfl rfl) (dk_by (j := 9) rfl ck_X12_goOf_0_29mt rfl rfl rfl) (by decide)
theorem gX12_goOf_X12_patchOf : GoodIn wsX12_goOf (wsV RX12 238 RX12 yX12_patchOf wsX12_patchOf) := ru_gG (ru_gV tw_6_164 tw_6_166 tw_0_32 tw_1_12 mT_X12_patchOf)
theorem dX12_goOf_10 : decode cX12_goOf 10 = .ok (.invokevirtual 238, 3) := dk_2 (dk_k182 10) (dk_by (j := 10) rfl ck_X12_goOf_0_29mt rfl rfl rfl) (dk_by (j := 11) rfl ck_X12_goOf_0_29mt rfl rfl rfl) (dk_by (j := 12) rfl ck_X12_goOf_0_29mt rfl rfl rfl) (by decide)
theorem dX12_goOf_14 : decode cX12_goOf 14 = .ok (.bipush 99, 2) := dk_1 (dk_k16 14) (dk_by (j := 14) rfl ck_X12_goOf_0_29mt rfl rfl rfl) (dk_by (j := 15) rfl ck_X12_goOf_0_29mt rfl rfl rfl) (by decide)
theorem dX12_goOf_18 : decode cX12_goOf 18 = .ok (.iconst 0, 1) := dk_0 (dk_k3 18) (dk_by (j := 2) rfl ck_X12_goOf_1_29mt rfl rfl rfl)
theorem dX12_goOf_23 : decode cX12_goOf 23 = .ok (.bipush 64, 2) := dk_1 (dk_k16 23) (dk_by (j := 7) rfl ck_X12_goOf_1_29mt rfl rfl rfl) (dk_by (j := 8) rfl ck_X12_goOf_1_29mt rfl rfl rfl) (by decide)
theorem dX12_goOf_25 : decode cX12_goOf 25 = .ok (.if_icmp .ge 49, 3) := dk_s (dk_k162 25) (dk_by (j := 9) rfl ck_X12_goOf_1_29mt rfl rfl rfl) (dk_by (j := 10) rfl ck_X12_goOf_1_29mt rfl rfl rfl) (dk_by (j := 11) rfl ck_X12_goOf_1_29mt rfl rfl rfl) (by decide)
theorem dX12_goOf_74 : decode cX12_goOf 74 = .ok (.aload_n 0, 1) := dk_0 (dk_k42 74) (dk_by (j := 10) rfl ck_X12_goOf_4_29mt rfl rfl rfl)
theorem dX12_goOf_75 : decode cX12_goOf 75 = .ok (.getfield 143, 3) := dk_2 (dk_k180 75) (dk_by (j := 11) rfl ck_X12_goOf_4_29mt rfl rfl rfl) (dk_by (j := 12) rfl ck_X12_goOf_4_29mt rfl rfl rfl) (dk_by (j := 13) rfl ck_X12_goOf_4_29mt rfl rfl rfl) (by decide)
theorem dX12_goOf_78 : decode cX12_goOf 78 = .ok (.iconst 0, 1) := dk_0 (dk_k3 78) (dk_by (j := 14) rfl ck_X12_goOf_4_29mt rfl rfl rfl)
theorem dX12_goOf_79 : decode cX12_goOf 79 = .ok (.iconst 0, 1) := dk_0 (dk_k3 79) (dk_by (j := 15) rfl ck_X12_goOf_4_29mt rfl rfl rfl)
theorem dX12_goOf_80 : decode cX12_goOf 80 = .ok (.iastore, 1) := dk_0 (dk_k79 80) (dk_by (j := 0) rfl ck_X12_goOf_5_29mt rfl rfl rfl)
theorem dX12_goOf_81 : decode cX12_goOf 81 = .ok (.aload_n 0, 1) := dk_0 (dk_k42 81) (dk_by (j := 1) rfl ck_X12_goOf_5_29mt rfl rfl rfl)
theorem dX12_goOf_82 : decode cX12_goOf 82 = .ok (.getfield 143, 3) := dk_2 (dk_k180 82) (dk_by (j := 2) rfl ck_X12_goOf_5_29mt rfl rfl rfl) (dk_by (j := 3) rfl ck_X12_goOf_5_29mt rfl rfl rfl) (dk_by (j := 4) rfl ck_X12_goOf_5_29mt rfl rfl rfl) (by decide)
theorem dX12_goOf_85 : decode cX12_goOf 85 = .ok (.iconst 1, 1) := dk_0 (dk_k4 85) (dk_by (j := 5) rfl ck_X12_goOf_5_29mt rfl rfl rfl)
theorem dX12_goOf_86 : decode cX12_goOf 86 = .ok (.iconst 0, 1) := dk_0 (dk_k3 86) (dk_by (j := 6) rfl ck_X12_goOf_5_29mt rfl rfl rfl)
theorem dX12_goOf_87 : decode cX12_goOf 87 = .ok (.iastore, 1) := dk_0 (dk_k79 87) (dk_by (j := 7) rfl ck_X12_goOf_5_29mt rfl rfl rfl)
theorem dX12_goOf_88 : decode cX12_goOf 88 = .ok (.aload_n 0, 1) := dk_0 (dk_k42 88) (dk_by (j := 8) rfl ck_X12_goOf_5_29mt rfl rfl rfl)
theorem dX12_goOf_89 : decode cX12_goOf 89 = .ok (.getfield 143, 3) := dk_2 (dk_k180 89) (dk_by (j := 9) rfl ck_X12_goOf_5_29mt rfl rfl rfl) (dk_by (j := 10) rfl ck_X12_goOf_5_29mt rfl rfl rfl) (dk_by (j := 11) rfl ck_X12_goOf_5_29mt rfl rfl rfl) (by decide)
theorem dX12_goOf_92 : decode cX12_goOf 92 = .ok (.iconst 2, 1) := dk_0 (dk_k5 92) (dk_by (j := 12) rfl ck_X12_goOf_5_29mt rfl rfl rfl)
theorem dX12_goOf_93 : decode cX12_goOf 93 = .ok (.iconst 0, 1) := dk_0 (dk_k3 93) (dk_by (j := 13) rfl ck_X12_goOf_5_29mt rfl rfl rfl)
theorem dX12_goOf_94 : decode cX12_goOf 94 = .ok (.iastore, 1) := dk_0 (dk_k79 94) (dk_by (j := 14) rfl ck_X12_goOf_5_29mt rfl rfl rfl)
theorem dX12_goOf_95 : decode cX12_goOf 95 = .ok (.aload_n 0, 1) := dk_0 (dk_k42 95) (dk_by (j := 15) rfl ck_X12_goOf_5_29mt rfl rfl rfl)
theorem dX12_goOf_96 : decode cX12_goOf 96 = .ok (.getfield 143, 3) := dk_2 (dk_k180 96) (dk_by (j := 0) rfl ck_X12_goOf_6_29mt rfl rfl rfl) (dk_by (j := 1) rfl ck_X12_goOf_6_29mt rfl rfl rfl) (dk_by (j := 2) rfl ck_X12_goOf_6_29mt rfl rfl rfl) (by decide)
theorem dX12_goOf_99 : decode cX12_goOf 99 = .ok (.iconst 3, 1) := dk_0 (dk_k6 99) (dk_by (j := 3) rfl ck_X12_goOf_6_29mt rfl rfl rfl)
theorem dX12_goOf_100 : decode cX12_goOf 100 = .ok (.aload_n 0, 1) := dk_0 (dk_k42 100) (dk_by (j := 4) rfl ck_X12_goOf_6_29mt rfl rfl rfl)
theorem dX12_goOf_101 : decode cX12_goOf 101 = .ok (.getfield 201, 3) := dk_2 (dk_k180 101) (dk_by (j := 5) rfl ck_X12_goOf_6_29mt rfl rfl rfl) (dk_by (j := 6) rfl ck_X12_goOf_6_29mt rfl rfl rfl) (dk_by (j := 7) rfl ck_X12_goOf_6_29mt rfl rfl rfl) (by decide)
theorem dX12_goOf_104 : decode cX12_goOf 104 = .ok (.iastore, 1) := dk_0 (dk_k79 104) (dk_by (j := 8) rfl ck_X12_goOf_6_29mt rfl rfl rfl)
theorem dX12_goOf_105 : decode cX12_goOf 105 = .ok (.aload_n 0, 1) := dk_0 (dk_k42 105) (dk_by (j := 9) rfl ck_X12_goOf_6_29mt rfl rfl rfl)
theorem dX12_goOf_106 : decode cX12_goOf 106 = .ok (.getfield 143, 3) := dk_2 (dk_k180 106) (dk_by (j := 10) rfl ck_X12_goOf_6_29mt rfl rfl rfl) (dk_by (j := 11) rfl ck_X12_goOf_6_29mt rfl rfl rfl) (dk_by (j := 12) rfl ck_X12_goOf_6_29mt rfl rfl rfl) (by decide)
theorem dX12_goOf_109 : decode cX12_goOf 109 = .ok (.iconst 4, 1) := dk_0 (dk_k7 109) (dk_by (j := 13) rfl ck_X12_goOf_6_29mt rfl rfl rfl)
theorem dX12_goOf_110 : decode cX12_goOf 110 = .ok (.aload_n 0, 1) := dk_0 (dk_k42 110) (dk_by (j := 14) rfl ck_X12_goOf_6_29mt rfl rfl rfl)
theorem dX12_goOf_111 : decode cX12_goOf 111 = .ok (.getfield 43, 3) := dk_2 (dk_k180 111) (dk_by (j := 15) rfl ck_X12_goOf_6_29mt rfl rfl rfl) (dk_by (j := 0) rfl ck_X12_goOf_7_29mt rfl rfl rfl) (dk_by (j := 1) rfl ck_X12_goOf_7_29mt rfl rfl rfl) (by decide)
theorem dX12_goOf_114 : decode cX12_goOf 114 = .ok (.iload_n 1, 1) := dk_0 (dk_k27 114) (dk_by (j := 2) rfl ck_X12_goOf_7_29mt rfl rfl rfl)
theorem dX12_goOf_115 : decode cX12_goOf 115 = .ok (.iaload, 1) := dk_0 (dk_k46 115) (dk_by (j := 3) rfl ck_X12_goOf_7_29mt rfl rfl rfl)
theorem dX12_goOf_116 : decode cX12_goOf 116 = .ok (.iastore, 1) := dk_0 (dk_k79 116) (dk_by (j := 4) rfl ck_X12_goOf_7_29mt rfl rfl rfl)
theorem dX12_goOf_117 : decode cX12_goOf 117 = .ok (.aload_n 0, 1) := dk_0 (dk_k42 117) (dk_by (j := 5) rfl ck_X12_goOf_7_29mt rfl rfl rfl)
theorem dX12_goOf_118 : decode cX12_goOf 118 = .ok (.getfield 143, 3) := dk_2 (dk_k180 118) (dk_by (j := 6) rfl ck_X12_goOf_7_29mt rfl rfl rfl) (dk_by (j := 7) rfl ck_X12_goOf_7_29mt rfl rfl rfl) (dk_by (j := 8) rfl ck_X12_goOf_7_29mt rfl rfl rfl) (by decide)
theorem dX12_goOf_121 : decode cX12_goOf 121 = .ok (.iconst 5, 1) := dk_0 (dk_k8 121) (dk_by (j := 9) rfl ck_X12_goOf_7_29mt rfl rfl rfl)
theorem dX12_goOf_124 : decode cX12_goOf 124 = .ok (.iastore, 1) := dk_0 (dk_k79 124) (dk_by (j := 12) rfl ck_X12_goOf_7_29mt rfl rfl rfl)
theorem dX12_goOf_125 : decode cX12_goOf 125 = .ok (.aload_n 0, 1) := dk_0 (dk_k42 125) (dk_by (j := 13) rfl ck_X12_goOf_7_29mt rfl rfl rfl)
theorem dX12_goOf_126 : decode cX12_goOf 126 = .ok (.sipush 160, 3) := dk_s (dk_k17 126) (dk_by (j := 14) rfl ck_X12_goOf_7_29mt rfl rfl rfl) (dk_by (j := 15) rfl ck_X12_goOf_7_29mt rfl rfl rfl) (dk_by (j := 0) rfl ck_X12_goOf_8_29mt rfl rfl rfl) (by decide)
theorem dX12_goOf_129 : decode cX12_goOf 129 = .ok (.aload_n 0, 1) := dk_0 (dk_k42 129) (dk_by (j := 1) rfl ck_X12_goOf_8_29mt rfl rfl rfl)
theorem dX12_goOf_130 : decode cX12_goOf 130 = .ok (.getfield 431, 3) := dk_2 (dk_k180 130) (dk_by (j := 2) rfl ck_X12_goOf_8_29mt rfl rfl rfl) (dk_by (j := 3) rfl ck_X12_goOf_8_29mt rfl rfl rfl) (dk_by (j := 4) rfl ck_X12_goOf_8_29mt rfl rfl rfl) (by decide)
theorem dX12_goOf_134 : decode cX12_goOf 134 = .ok (.aload_n 0, 1) := dk_0 (dk_k42 134) (dk_by (j := 6) rfl ck_X12_goOf_8_29mt rfl rfl rfl)
theorem dX12_goOf_135 : decode cX12_goOf 135 = .ok (.getfield 131, 3) := dk_2 (dk_k180 135) (dk_by (j := 7) rfl ck_X12_goOf_8_29mt rfl rfl rfl) (dk_by (j := 8) rfl ck_X12_goOf_8_29mt rfl rfl rfl) (dk_by (j := 9) rfl ck_X12_goOf_8_29mt rfl rfl rfl) (by decide)
theorem dX12_goOf_138 : decode cX12_goOf 138 = .ok (.aload_n 0, 1) := dk_0 (dk_k42 138) (dk_by (j := 10) rfl ck_X12_goOf_8_29mt rfl rfl rfl)
theorem dX12_goOf_139 : decode cX12_goOf 139 = .ok (.getfield 431, 3) := dk_2 (dk_k180 139) (dk_by (j := 11) rfl ck_X12_goOf_8_29mt rfl rfl rfl) (dk_by (j := 12) rfl ck_X12_goOf_8_29mt rfl rfl rfl) (dk_by (j := 13) rfl ck_X12_goOf_8_29mt rfl rfl rfl) (by decide)
theorem dX12_goOf_142 : decode cX12_goOf 142 = .ok (.iaload, 1) := dk_0 (dk_k46 142) (dk_by (j := 14) rfl ck_X12_goOf_8_29mt rfl rfl rfl)
theorem gX12_goOf_X12_goThrough : GoodIn wsX12_goOf (wsV RX12 428 RX12 yX12_goThrough wsX12_goThrough) := ru_gG (ru_gV tw_7_67 tw_7_69 tw_0_43 tw_1_12 mT_X12_goThrough)
theorem dX12_goOf_143 : decode cX12_goOf 143 = .ok (.invokevirtual 428, 3) := dk_2 (dk_k182 143) (dk_by (j := 15) rfl ck_X12_goOf_8_29mt rfl rfl rfl) (dk_by (j := 0) rfl ck_X12_goOf_9_29mt rfl rfl rfl) (dk_by (j := 1) rfl ck_X12_goOf_9_29mt rfl rfl rfl) (by decide)
theorem dX12_goOf_148 : decode cX12_goOf 148 = .ok (.aload_n 0, 1) := dk_0 (dk_k42 148) (dk_by (j := 4) rfl ck_X12_goOf_9_29mt rfl rfl rfl)
theorem dX12_goOf_149 : decode cX12_goOf 149 = .ok (.getfield 425, 3) := dk_2 (dk_k180 149) (dk_by (j := 5) rfl ck_X12_goOf_9_29mt rfl rfl rfl) (dk_by (j := 6) rfl ck_X12_goOf_9_29mt rfl rfl rfl) (dk_by (j := 7) rfl ck_X12_goOf_9_29mt rfl rfl rfl) (by decide)
theorem dX12_goOf_152 : decode cX12_goOf 152 = .ok (.ireturn, 1) := dk_0 (dk_k172 152) (dk_by (j := 8) rfl ck_X12_goOf_9_29mt rfl rfl rfl)
theorem dX12_goOf_30 : decode cX12_goOf 30 = .ok (.aload_n 0, 1) := dk_0 (dk_k42 30) (dk_by (j := 14) rfl ck_X12_goOf_1_29mt rfl rfl rfl)
theorem dX12_goOf_31 : decode cX12_goOf 31 = .ok (.getfield 34, 3) := dk_2 (dk_k180 31) (dk_by (j := 15) rfl ck_X12_goOf_1_29mt rfl rfl rfl) (dk_by (j := 0) rfl ck_X12_goOf_2_29mt rfl rfl rfl) (dk_by (j := 1) rfl ck_X12_goOf_2_29mt rfl rfl rfl) (by decide)
theorem dX12_goOf_34 : decode cX12_goOf 34 = .ok (.iload_n 1, 1) := dk_0 (dk_k27 34) (dk_by (j := 2) rfl ck_X12_goOf_2_29mt rfl rfl rfl)
theorem dX12_goOf_35 : decode cX12_goOf 35 = .ok (.iaload, 1) := dk_0 (dk_k46 35) (dk_by (j := 3) rfl ck_X12_goOf_2_29mt rfl rfl rfl)
theorem gX12_goOf_X12_apart : GoodIn wsX12_goOf (va_wsS RX12 258 yX12_apart wsX12_apart) := ru_gG (ru_gS tw_6_208 tw_6_209 tw_1_12 mT_X12_apart)
theorem dX12_goOf_36 : decode cX12_goOf 36 = .ok (.invokestatic 258, 3) := dk_2 (dk_k184 36) (dk_by (j := 4) rfl ck_X12_goOf_2_29mt rfl rfl rfl) (dk_by (j := 5) rfl ck_X12_goOf_2_29mt rfl rfl rfl) (dk_by (j := 6) rfl ck_X12_goOf_2_29mt rfl rfl rfl) (by decide)
theorem dX12_goOf_45 : decode cX12_goOf 45 = .ok (.lconst 1, 1) := dk_0 (dk_k10 45) (dk_by (j := 13) rfl ck_X12_goOf_2_29mt rfl rfl rfl)
theorem dX12_goOf_46 : decode cX12_goOf 46 = .ok (.land, 1) := dk_0 (dk_k127 46) (dk_by (j := 14) rfl ck_X12_goOf_2_29mt rfl rfl rfl)
theorem dX12_goOf_47 : decode cX12_goOf 47 = .ok (.lconst 1, 1) := dk_0 (dk_k10 47) (dk_by (j := 15) rfl ck_X12_goOf_2_29mt rfl rfl rfl)
theorem dX12_goOf_48 : decode cX12_goOf 48 = .ok (.lcmp, 1) := dk_0 (dk_k148 48) (dk_by (j := 0) rfl ck_X12_goOf_3_29mt rfl rfl rfl)
theorem dX12_goOf_49 : decode cX12_goOf 49 = .ok (.ifCond .ne 15, 3) := dk_s (dk_k154 49) (dk_by (j := 1) rfl ck_X12_goOf_3_29mt rfl rfl rfl) (dk_by (j := 2) rfl ck_X12_goOf_3_29mt rfl rfl rfl) (dk_by (j := 3) rfl ck_X12_goOf_3_29mt rfl rfl rfl) (by decide)
theorem dX12_goOf_71 : decode cX12_goOf 71 = .ok (.goto (-50), 3) := dk_s (dk_k167 71) (dk_by (j := 7) rfl ck_X12_goOf_4_29mt rfl rfl rfl) (dk_by (j := 8) rfl ck_X12_goOf_4_29mt rfl rfl rfl) (dk_by (j := 9) rfl ck_X12_goOf_4_29mt rfl rfl rfl) (by decide)
theorem dX12_goOf_56 : decode cX12_goOf 56 = .ok (.if_icmp .ge 8, 3) := dk_s (dk_k162 56) (dk_by (j := 8) rfl ck_X12_goOf_3_29mt rfl rfl rfl) (dk_by (j := 9) rfl ck_X12_goOf_3_29mt rfl rfl rfl) (dk_by (j := 10) rfl ck_X12_goOf_3_29mt rfl rfl rfl) (by decide)
theorem dX12_goOf_61 : decode cX12_goOf 61 = .ok (.goto 5, 3) := dk_s (dk_k167 61) (dk_by (j := 13) rfl ck_X12_goOf_3_29mt rfl rfl rfl) (dk_by (j := 14) rfl ck_X12_goOf_3_29mt rfl rfl rfl) (dk_by (j := 15) rfl ck_X12_goOf_3_29mt rfl rfl rfl) (by decide)
theorem gX12_says_X12_isSeeker : GoodIn wsX12_says (wsV RX12 275 RX12 yX12_isSeeker wsX12_isSeeker) := ru_gG (ru_gV tw_6_239 tw_7_1 tw_0_37 tw_1_12 mT_X12_isSeeker)
theorem gX12_says_X12_isBody : GoodIn wsX12_says (wsV RX12 193 RX12 yX12_isBody wsX12_isBody) := ru_gG (ru_gV tw_6_151 tw_6_153 tw_0_30 tw_1_12 mT_X12_isBody)
theorem gX12_says_X12_goOf : GoodIn wsX12_says (wsV RX12 437 RX12 yX12_goOf wsX12_goOf) := ru_gG (ru_gV tw_7_158 tw_7_160 tw_0_59 tw_1_12 mT_X12_goOf)
theorem gX12_says_X12_takeOf : GoodIn wsX12_says (wsV RX12 434 RX12 yX12_takeOf wsX12_takeOf) := ru_gG (ru_gV tw_7_154 tw_7_156 tw_0_58 tw_1_12 mT_X12_takeOf)
theorem dX12_first_0 : decode cX12_first 0 = .ok (.aload_n 0, 1) := dk_0 (dk_k42 0) (dk_by (j := 0) rfl ck_X12_first_0_29mt rfl rfl rfl)
theorem dX12_first_1 : decode cX12_first 1 = .ok (.iload_n 1, 1) := dk_0 (dk_k27 1) (dk_by (j := 1) rfl ck_X12_first_0_29mt rfl rfl rfl)
theorem gX12_first_X12_isBody : GoodIn wsX12_first (wsV RX12 193 RX12 yX12_isBody wsX12_isBody) := ru_gG (ru_gV tw_6_151 tw_6_153 tw_0_30 tw_1_12 mT_X12_isBody)
theorem dX12_first_2 : decode cX12_first 2 = .ok (.invokevirtual 193, 3) := dk_2 (dk_k182 2) (dk_by (j := 2) rfl ck_X12_first_0_29mt rfl rfl rfl) (dk_by (j := 3) rfl ck_X12_first_0_29mt rfl rfl rfl) (dk_by (j := 4) rfl ck_X12_first_0_29mt rfl rfl rfl) (by decide)
theorem dX12_first_5 : decode cX12_first 5 = .ok (.ifCond .ne 6, 3) := dk_s (dk_k154 5) (dk_by (j := 5) rfl ck_X12_first_0_29mt rfl rfl rfl) (dk_by (j := 6) rfl ck_X12_first_0_29mt rfl rfl rfl) (dk_by (j := 7) rfl ck_X12_first_0_29mt rfl rfl rfl) (by decide)
theorem dX12_first_11 : decode cX12_first 11 = .ok (.iconst 0, 1) := dk_0 (dk_k3 11) (dk_by (j := 11) rfl ck_X12_first_0_29mt rfl rfl rfl)
theorem dX12_first_12 : decode cX12_first 12 = .ok (.istore_n 3, 1) := dk_0 (dk_k62 12) (dk_by (j := 12) rfl ck_X12_first_0_29mt rfl rfl rfl)
theorem dX12_first_13 : decode cX12_first 13 = .ok (.iconst 0, 1) := dk_0 (dk_k3 13) (dk_by (j := 13) rfl ck_X12_first_0_29mt rfl rfl rfl)
theorem dX12_first_18 : decode cX12_first 18 = .ok (.aload_n 0, 1) := dk_0 (dk_k42 18) (dk_by (j := 2) rfl ck_X12_first_1_29mt rfl rfl rfl)
theorem dX12_first_19 : decode cX12_first 19 = .ok (.getfield 320, 3) := dk_2 (dk_k180 19) (dk_by (j := 3) rfl ck_X12_first_1_29mt rfl rfl rfl) (dk_by (j := 4) rfl ck_X12_first_1_29mt rfl rfl rfl) (dk_by (j := 5) rfl ck_X12_first_1_29mt rfl rfl rfl) (by decide)
theorem dX12_first_22 : decode cX12_first 22 = .ok (.if_icmp .ge 99, 3) := dk_s (dk_k162 22) (dk_by (j := 6) rfl ck_X12_first_1_29mt rfl rfl rfl) (dk_by (j := 7) rfl ck_X12_first_1_29mt rfl rfl rfl) (dk_by (j := 8) rfl ck_X12_first_1_29mt rfl rfl rfl) (by decide)
theorem dX12_first_121 : decode cX12_first 121 = .ok (.iload_n 2, 1) := dk_0 (dk_k28 121) (dk_by (j := 9) rfl ck_X12_first_7_29mt rfl rfl rfl)
theorem dX12_first_122 : decode cX12_first 122 = .ok (.ifCond .lt 17, 3) := dk_s (dk_k155 122) (dk_by (j := 10) rfl ck_X12_first_7_29mt rfl rfl rfl) (dk_by (j := 11) rfl ck_X12_first_7_29mt rfl rfl rfl) (dk_by (j := 12) rfl ck_X12_first_7_29mt rfl rfl rfl) (by decide)
theorem dX12_first_139 : decode cX12_first 139 = .ok (.iconst (-1), 1) := dk_0 (dk_k2 139) (dk_by (j := 11) rfl ck_X12_first_8_29mt rfl rfl rfl)
theorem dX12_first_140 : decode cX12_first 140 = .ok (.ireturn, 1) := dk_0 (dk_k172 140) (dk_by (j := 12) rfl ck_X12_first_8_29mt rfl rfl rfl)
theorem dX12_first_125 : decode cX12_first 125 = .ok (.iload_n 2, 1) := dk_0 (dk_k28 125) (dk_by (j := 13) rfl ck_X12_first_7_29mt rfl rfl rfl)
theorem dX12_first_126 : decode cX12_first 126 = .ok (.iload_n 3, 1) := dk_0 (dk_k29 126) (dk_by (j := 14) rfl ck_X12_first_7_29mt rfl rfl rfl)
theorem dX12_first_127 : decode cX12_first 127 = .ok (.if_icmp .ge 12, 3) := dk_s (dk_k162 127) (dk_by (j := 15) rfl ck_X12_first_7_29mt rfl rfl rfl) (dk_by (j := 0) rfl ck_X12_first_8_29mt rfl rfl rfl) (dk_by (j := 1) rfl ck_X12_first_8_29mt rfl rfl rfl) (by decide)
theorem dX12_first_130 : decode cX12_first 130 = .ok (.aload_n 0, 1) := dk_0 (dk_k42 130) (dk_by (j := 2) rfl ck_X12_first_8_29mt rfl rfl rfl)
theorem dX12_first_131 : decode cX12_first 131 = .ok (.getfield 149, 3) := dk_2 (dk_k180 131) (dk_by (j := 3) rfl ck_X12_first_8_29mt rfl rfl rfl) (dk_by (j := 4) rfl ck_X12_first_8_29mt rfl rfl rfl) (dk_by (j := 5) rfl ck_X12_first_8_29mt rfl rfl rfl) (by decide)
theorem dX12_first_134 : decode cX12_first 134 = .ok (.iload_n 2, 1) := dk_0 (dk_k28 134) (dk_by (j := 6) rfl ck_X12_first_8_29mt rfl rfl rfl)
theorem dX12_first_135 : decode cX12_first 135 = .ok (.iaload, 1) := dk_0 (dk_k46 135) (dk_by (j := 7) rfl ck_X12_first_8_29mt rfl rfl rfl)
theorem dX12_first_136 : decode cX12_first 136 = .ok (.goto 4, 3) := dk_s (dk_k167 136) (dk_by (j := 8) rfl ck_X12_first_8_29mt rfl rfl rfl) (dk_by (j := 9) rfl ck_X12_first_8_29mt rfl rfl rfl) (dk_by (j := 10) rfl ck_X12_first_8_29mt rfl rfl rfl) (by decide)
theorem dX12_first_25 : decode cX12_first 25 = .ok (.aload_n 0, 1) := dk_0 (dk_k42 25) (dk_by (j := 9) rfl ck_X12_first_1_29mt rfl rfl rfl)
theorem dX12_first_26 : decode cX12_first 26 = .ok (.getfield 101, 3) := dk_2 (dk_k180 26) (dk_by (j := 10) rfl ck_X12_first_1_29mt rfl rfl rfl) (dk_by (j := 11) rfl ck_X12_first_1_29mt rfl rfl rfl) (dk_by (j := 12) rfl ck_X12_first_1_29mt rfl rfl rfl) (by decide)
theorem dX12_first_31 : decode cX12_first 31 = .ok (.iaload, 1) := dk_0 (dk_k46 31) (dk_by (j := 15) rfl ck_X12_first_1_29mt rfl rfl rfl)
theorem dX12_first_32 : decode cX12_first 32 = .ok (.iload_n 1, 1) := dk_0 (dk_k27 32) (dk_by (j := 0) rfl ck_X12_first_2_29mt rfl rfl rfl)
theorem dX12_first_33 : decode cX12_first 33 = .ok (.if_icmp .ne 82, 3) := dk_s (dk_k160 33) (dk_by (j := 1) rfl ck_X12_first_2_29mt rfl rfl rfl) (dk_by (j := 2) rfl ck_X12_first_2_29mt rfl rfl rfl) (dk_by (j := 3) rfl ck_X12_first_2_29mt rfl rfl rfl) (by decide)
theorem dX12_first_118 : decode cX12_first 118 = .ok (.goto (-102), 3) := dk_s (dk_k167 118) (dk_by (j := 6) rfl ck_X12_first_7_29mt rfl rfl rfl) (dk_by (j := 7) rfl ck_X12_first_7_29mt rfl rfl rfl) (dk_by (j := 8) rfl ck_X12_first_7_29mt rfl rfl rfl) (by decide)
theorem dX12_first_36 : decode cX12_first 36 = .ok (.aload_n 0, 1) := dk_0 (dk_k42 36) (dk_by (j := 4) rfl ck_X12_first_2_29mt rfl rfl rfl)
theorem dX12_first_37 : decode cX12_first 37 = .ok (.getfield 146, 3) := dk_2 (dk_k180 37) (dk_by (j := 5) rfl ck_X12_first_2_29mt rfl rfl rfl) (dk_by (j := 6) rfl ck_X12_first_2_29mt rfl rfl rfl) (dk_by (j := 7) rfl ck_X12_first_2_29mt rfl rfl rfl) (by decide)
theorem dX12_first_42 : decode cX12_first 42 = .ok (.aload_n 0, 1) := dk_0 (dk_k42 42) (dk_by (j := 10) rfl ck_X12_first_2_29mt rfl rfl rfl)
theorem gX12_first_X12_takeOf : GoodIn wsX12_first (wsV RX12 434 RX12 yX12_takeOf wsX12_takeOf) := ru_gG (ru_gV tw_7_154 tw_7_156 tw_0_58 tw_1_12 mT_X12_takeOf)
theorem dX12_first_45 : decode cX12_first 45 = .ok (.invokevirtual 434, 3) := dk_2 (dk_k182 45) (dk_by (j := 13) rfl ck_X12_first_2_29mt rfl rfl rfl) (dk_by (j := 14) rfl ck_X12_first_2_29mt rfl rfl rfl) (dk_by (j := 15) rfl ck_X12_first_2_29mt rfl rfl rfl) (by decide)
theorem dX12_first_48 : decode cX12_first 48 = .ok (.iastore, 1) := dk_0 (dk_k79 48) (dk_by (j := 0) rfl ck_X12_first_3_29mt rfl rfl rfl)
theorem dX12_first_49 : decode cX12_first 49 = .ok (.iload_n 3, 1) := dk_0 (dk_k29 49) (dk_by (j := 1) rfl ck_X12_first_3_29mt rfl rfl rfl)
theorem dX12_first_54 : decode cX12_first 54 = .ok (.ifCond .le 49, 3) := dk_s (dk_k158 54) (dk_by (j := 6) rfl ck_X12_first_3_29mt rfl rfl rfl) (dk_by (j := 7) rfl ck_X12_first_3_29mt rfl rfl rfl) (dk_by (j := 8) rfl ck_X12_first_3_29mt rfl rfl rfl) (by decide)
theorem dX12_first_103 : decode cX12_first 103 = .ok (.aload_n 0, 1) := dk_0 (dk_k42 103) (dk_by (j := 7) rfl ck_X12_first_6_29mt rfl rfl rfl)
theorem dX12_first_104 : decode cX12_first 104 = .ok (.getfield 149, 3) := dk_2 (dk_k180 104) (dk_by (j := 8) rfl ck_X12_first_6_29mt rfl rfl rfl) (dk_by (j := 9) rfl ck_X12_first_6_29mt rfl rfl rfl) (dk_by (j := 10) rfl ck_X12_first_6_29mt rfl rfl rfl) (by decide)
theorem dX12_first_111 : decode cX12_first 111 = .ok (.iastore, 1) := dk_0 (dk_k79 111) (dk_by (j := 15) rfl ck_X12_first_6_29mt rfl rfl rfl)
theorem dX12_first_57 : decode cX12_first 57 = .ok (.aload_n 0, 1) := dk_0 (dk_k42 57) (dk_by (j := 9) rfl ck_X12_first_3_29mt rfl rfl rfl)
theorem dX12_first_58 : decode cX12_first 58 = .ok (.getfield 146, 3) := dk_2 (dk_k180 58) (dk_by (j := 10) rfl ck_X12_first_3_29mt rfl rfl rfl) (dk_by (j := 11) rfl ck_X12_first_3_29mt rfl rfl rfl) (dk_by (j := 12) rfl ck_X12_first_3_29mt rfl rfl rfl) (by decide)
theorem dX12_first_61 : decode cX12_first 61 = .ok (.aload_n 0, 1) := dk_0 (dk_k42 61) (dk_by (j := 13) rfl ck_X12_first_3_29mt rfl rfl rfl)
theorem dX12_first_62 : decode cX12_first 62 = .ok (.getfield 149, 3) := dk_2 (dk_k180 62) (dk_by (j := 14) rfl ck_X12_first_3_29mt rfl rfl rfl) (dk_by (j := 15) rfl ck_X12_first_3_29mt rfl rfl rfl) (dk_by (j := 0) rfl ck_X12_first_4_29mt rfl rfl rfl) (by decide)
theorem dX12_first_67 : decode cX12_first 67 = .ok (.iconst 1, 1) := dk_0 (dk_k4 67) (dk_by (j := 3) rfl ck_X12_first_4_29mt rfl rfl rfl)
theorem dX12_first_68 : decode cX12_first 68 = .ok (.isub, 1) := dk_0 (dk_k100 68) (dk_by (j := 4) rfl ck_X12_first_4_29mt rfl rfl rfl)
theorem dX12_first_69 : decode cX12_first 69 = .ok (.iaload, 1) := dk_0 (dk_k46 69) (dk_by (j := 5) rfl ck_X12_first_4_29mt rfl rfl rfl)
theorem dX12_first_70 : decode cX12_first 70 = .ok (.iaload, 1) := dk_0 (dk_k46 70) (dk_by (j := 6) rfl ck_X12_first_4_29mt rfl rfl rfl)
theorem dX12_first_71 : decode cX12_first 71 = .ok (.aload_n 0, 1) := dk_0 (dk_k42 71) (dk_by (j := 7) rfl ck_X12_first_4_29mt rfl rfl rfl)
theorem dX12_first_72 : decode cX12_first 72 = .ok (.getfield 146, 3) := dk_2 (dk_k180 72) (dk_by (j := 8) rfl ck_X12_first_4_29mt rfl rfl rfl) (dk_by (j := 9) rfl ck_X12_first_4_29mt rfl rfl rfl) (dk_by (j := 10) rfl ck_X12_first_4_29mt rfl rfl rfl) (by decide)
theorem dX12_first_77 : decode cX12_first 77 = .ok (.iaload, 1) := dk_0 (dk_k46 77) (dk_by (j := 13) rfl ck_X12_first_4_29mt rfl rfl rfl)
theorem dX12_first_78 : decode cX12_first 78 = .ok (.if_icmp .ge 25, 3) := dk_s (dk_k162 78) (dk_by (j := 14) rfl ck_X12_first_4_29mt rfl rfl rfl) (dk_by (j := 15) rfl ck_X12_first_4_29mt rfl rfl rfl) (dk_by (j := 0) rfl ck_X12_first_5_29mt rfl rfl rfl) (by decide)
theorem dX12_first_81 : decode cX12_first 81 = .ok (.aload_n 0, 1) := dk_0 (dk_k42 81) (dk_by (j := 1) rfl ck_X12_first_5_29mt rfl rfl rfl)
theorem dX12_first_82 : decode cX12_first 82 = .ok (.getfield 149, 3) := dk_2 (dk_k180 82) (dk_by (j := 2) rfl ck_X12_first_5_29mt rfl rfl rfl) (dk_by (j := 3) rfl ck_X12_first_5_29mt rfl rfl rfl) (dk_by (j := 4) rfl ck_X12_first_5_29mt rfl rfl rfl) (by decide)
theorem dX12_first_87 : decode cX12_first 87 = .ok (.aload_n 0, 1) := dk_0 (dk_k42 87) (dk_by (j := 7) rfl ck_X12_first_5_29mt rfl rfl rfl)
theorem dX12_first_88 : decode cX12_first 88 = .ok (.getfield 149, 3) := dk_2 (dk_k180 88) (dk_by (j := 8) rfl ck_X12_first_5_29mt rfl rfl rfl) (dk_by (j := 9) rfl ck_X12_first_5_29mt rfl rfl rfl) (dk_by (j := 10) rfl ck_X12_first_5_29mt rfl rfl rfl) (by decide)
theorem dX12_first_93 : decode cX12_first 93 = .ok (.iconst 1, 1) := dk_0 (dk_k4 93) (dk_by (j := 13) rfl ck_X12_first_5_29mt rfl rfl rfl)
theorem dX12_first_94 : decode cX12_first 94 = .ok (.isub, 1) := dk_0 (dk_k100 94) (dk_by (j := 14) rfl ck_X12_first_5_29mt rfl rfl rfl)
theorem dX12_first_95 : decode cX12_first 95 = .ok (.iaload, 1) := dk_0 (dk_k46 95) (dk_by (j := 15) rfl ck_X12_first_5_29mt rfl rfl rfl)
theorem dX12_first_96 : decode cX12_first 96 = .ok (.iastore, 1) := dk_0 (dk_k79 96) (dk_by (j := 0) rfl ck_X12_first_6_29mt rfl rfl rfl)
theorem dX12_first_100 : decode cX12_first 100 = .ok (.goto (-48), 3) := dk_s (dk_k167 100) (dk_by (j := 4) rfl ck_X12_first_6_29mt rfl rfl rfl) (dk_by (j := 5) rfl ck_X12_first_6_29mt rfl rfl rfl) (dk_by (j := 6) rfl ck_X12_first_6_29mt rfl rfl rfl) (by decide)
theorem dX12_first_8 : decode cX12_first 8 = .ok (.bipush (-2), 2) := dk_1 (dk_k16 8) (dk_by (j := 8) rfl ck_X12_first_0_29mt rfl rfl rfl) (dk_by (j := 9) rfl ck_X12_first_0_29mt rfl rfl rfl) (by decide)
theorem dX12_first_10 : decode cX12_first 10 = .ok (.ireturn, 1) := dk_0 (dk_k172 10) (dk_by (j := 10) rfl ck_X12_first_0_29mt rfl rfl rfl)
set_option maxHeartbeats 400000 in
set_option maxRecDepth 20000 in
theorem fc_X12_goThrough (l : Launch) (D : va_G) (ad : Nat → Nat → Nat) (C : Nat → Nat → ClassId) (nb : Nat) (M : fm_M) (hI : fm_I nb ad M) (p0 p1 : Int32) (b_p0 : (-1) ≤ p0.toInt ∧ p0.toInt ≤ 800) (b_p1 : 0 ≤ p1.toInt ∧ p1.toInt ≤ 160) : Met l yX12_goThrough wsX12_goThrough ({ frames := 41, cells := 0, slots := 0, locals := 888 }) (va_Pc [.ref (ad 60 0), .int p0, .int p1] (fm_P D ad C nb M)) (va_Qi (fun (r : Int32) (u : fm_M) => fm_I nb ad u ∧ fm_same [60062, 60063, 60064, 60065, 60066, 60067, 60069, 60070] M u ∧ ((-1) ≤ r.toInt ∧ r.toInt ≤ 160)) (fun u t => fm_at D ad C nb u t.heap) (fm_A nb ad)) 0 0 (fm_A nb ad) := by
  refine Met.ofW (cc := cX12_goThrough) (maxL := 4) (ret := (some .int)) (by decide) rfl ?_
  intro p e s m args below meth c s₁ B hml hv
  obtain ⟨rfl, hw, hc⟩ := hv
  have hx := B.exec
  have hb := B.bytes
  have hr := B.returns
  have hts := atoms_spec (ws := wsX12_goThrough) B.pre
  have hown : s.vm.findClass RX12 = some m.cls := findClass_of_methodNamed B.named
  have hinX12 : ∀ w ∈ u_ws RX12 TX12 79, w ∈ wsX12_goThrough := fun w h => List.mem_cons_of_mem _ (iT_X12 w h)
  have hS : va_S (fm_A nb ad) s.heap s.heap [] := va_S.rf
  have hE : fm_same [60062, 60063, 60064, 60065, 60066, 60067, 60069, 60070] M M := fm_same.rf
  have hl := lv_entry ([.ref (ad 60 0), .int p0, .int p1]) (n := 4) (Nat.le_of_ble_eq_true rfl)
  rw [lg_entry_eq]
  generalize (lg_sl ([.ref (ad 60 0), .int p0, .int p1]) ++ List.replicate (4 - (lg_sl ([.ref (ad 60 0), .int p0, .int p1])).length) Slot.unset).toArray = ls at hl ⊢
  have hl : lv_has ls 4 [(0, .ref (ad 60 0)), (1, .int p0), (2, .int p1)] := hl
  refine lv_aload_n hx hb dX12_goThrough_0 rfl (lv_at hl 0 rfl) ?_
  refine lv_iload_n hx hb dX12_goThrough_1 rfl (lv_at hl 1 rfl) ?_
  refine fm_putI (a := 60) (j := 62) (T := TX12) (N := 79) hx hb hts hinX12 tyX12 tyX12_ok nmX12 hown hc hw hI hE hS kl_60 sh_60 od_60 rfl (by decide) rfl bd_60_62 (hts (.fieldLink RX12 331 "RedTentModel" "base" "I") (List.mem_cons_of_mem _ tw_5_182)) (fun _ h9 => h9) rfl (by decide +kernel) (by omega) (by decide) (by decide) dX12_goThrough_2 (fun M1 H locs eM1 hw hI hE hS => ?_)
  have mM1_60_63 : (M1.1 60 0 63).toInt = (M.1 60 0 63).toInt := by rw [eM1, fm_wI_nj (fun z => absurd z.2.2 (by decide))]
  have mM1_60_64 : (M1.1 60 0 64).toInt = (M.1 60 0 64).toInt := by rw [eM1, fm_wI_nj (fun z => absurd z.2.2 (by decide))]
  have mM1_60_65 : (M1.1 60 0 65).toInt = (M.1 60 0 65).toInt := by rw [eM1, fm_wI_nj (fun z => absurd z.2.2 (by decide))]
  have mM1_60_66 : (M1.1 60 0 66).toInt = (M.1 60 0 66).toInt := by rw [eM1, fm_wI_nj (fun z => absurd z.2.2 (by decide))]
  refine lv_aload_n hx hb dX12_goThrough_5 rfl (lv_at hl 0 rfl) ?_
  refine lv_iload_n hx hb dX12_goThrough_6 rfl (lv_at hl 2 rfl) ?_
  refine fm_putI (a := 60) (j := 63) (T := TX12) (N := 79) hx hb hts hinX12 tyX12 tyX12_ok nmX12 hown hc hw hI hE hS kl_60 sh_60 od_60 rfl (by decide) rfl bd_60_63 (hts (.fieldLink RX12 328 "RedTentModel" "ends" "I") (List.mem_cons_of_mem _ tw_5_183)) (fun _ h9 => h9) rfl (by decide +kernel) (by omega) (by decide) (by decide) dX12_goThrough_7 (fun M2 H locs eM2 hw hI hE hS => ?_)
  have mM2_60_63 : (M2.1 60 0 63).toInt = p1.toInt := by rw [eM2, fm_wI_at]
  have mM2_60_64 : (M2.1 60 0 64).toInt = (M1.1 60 0 64).toInt := by rw [eM2, fm_wI_nj (fun z => absurd z.2.2 (by decide))]
  have mM2_60_65 : (M2.1 60 0 65).toInt = (M1.1 60 0 65).toInt := by rw [eM2, fm_wI_nj (fun z => absurd z.2.2 (by decide))]
  have mM2_60_66 : (M2.1 60 0 66).toInt = (M1.1 60 0 66).toInt := by rw [eM2, fm_wI_nj (fun z => absurd z.2.2 (by decide))]
  refine lv_aload_n hx hb dX12_goThrough_10 rfl (lv_at hl 0 rfl) ?_
  refine lv_iconst (v := 0) hx hb dX12_goThrough_11 (by decide) ?_
  refine fm_putI (a := 60) (j := 65) (T := TX12) (N := 79) hx hb hts hinX12 tyX12 tyX12_ok nmX12 hown hc hw hI hE hS kl_60 sh_60 od_60 rfl (by decide) rfl bd_60_65 (hts (.fieldLink RX12 337 "RedTentModel" "to" "I") (List.mem_cons_of_mem _ tw_5_185)) (fun _ h9 => h9) rfl (by decide +kernel) (by decide) (by decide) (by decide) dX12_goThrough_12 (fun M3 H locs eM3 hw hI hE hS => ?_)
  have mM3_60_63 : (M3.1 60 0 63).toInt = (M2.1 60 0 63).toInt := by rw [eM3, fm_wI_nj (fun z => absurd z.2.2 (by decide))]
  have mM3_60_64 : (M3.1 60 0 64).toInt = (M2.1 60 0 64).toInt := by rw [eM3, fm_wI_nj (fun z => absurd z.2.2 (by decide))]
  have mM3_60_65 : (M3.1 60 0 65).toInt = 0 := by rw [eM3, fm_wI_at]; exact zk_0
  have mM3_60_66 : (M3.1 60 0 66).toInt = (M2.1 60 0 66).toInt := by rw [eM3, fm_wI_nj (fun z => absurd z.2.2 (by decide))]
  refine lv_aload_n hx hb dX12_goThrough_15 rfl (lv_at hl 0 rfl) ?_
  refine lv_iconst (v := 0) hx hb dX12_goThrough_16 (by decide) ?_
  refine fm_putI (a := 60) (j := 66) (T := TX12) (N := 79) hx hb hts hinX12 tyX12 tyX12_ok nmX12 hown hc hw hI hE hS kl_60 sh_60 od_60 rfl (by decide) rfl bd_60_66 (hts (.fieldLink RX12 372 "RedTentModel" "open" "I") (List.mem_cons_of_mem _ tw_5_186)) (fun _ h9 => h9) rfl (by decide +kernel) (by decide) (by decide) (by decide) dX12_goThrough_17 (fun M4 H locs eM4 hw hI hE hS => ?_)
  have mM4_60_63 : (M4.1 60 0 63).toInt = (M3.1 60 0 63).toInt := by rw [eM4, fm_wI_nj (fun z => absurd z.2.2 (by decide))]
  have mM4_60_64 : (M4.1 60 0 64).toInt = (M3.1 60 0 64).toInt := by rw [eM4, fm_wI_nj (fun z => absurd z.2.2 (by decide))]
  have mM4_60_65 : (M4.1 60 0 65).toInt = (M3.1 60 0 65).toInt := by rw [eM4, fm_wI_nj (fun z => absurd z.2.2 (by decide))]
  have mM4_60_66 : (M4.1 60 0 66).toInt = 0 := by rw [eM4, fm_wI_at]; exact zk_0
  refine lv_aload_n hx hb dX12_goThrough_20 rfl (lv_at hl 0 rfl) ?_
  refine lv_iconst (v := (-1)) hx hb dX12_goThrough_21 (by decide) ?_
  refine fm_putI (a := 60) (j := 67) (T := TX12) (N := 79) hx hb hts hinX12 tyX12 tyX12_ok nmX12 hown hc hw hI hE hS kl_60 sh_60 od_60 rfl (by decide) rfl bd_60_67 (hts (.fieldLink RX12 349 "RedTentModel" "fault" "I") (List.mem_cons_of_mem _ tw_5_187)) (fun _ h9 => h9) rfl (by decide +kernel) (by decide) (by decide) (by decide) dX12_goThrough_22 (fun M5 H locs eM5 hw hI hE hS => ?_)
  have mM5_60_63 : (M5.1 60 0 63).toInt = (M4.1 60 0 63).toInt := by rw [eM5, fm_wI_nj (fun z => absurd z.2.2 (by decide))]
  have mM5_60_64 : (M5.1 60 0 64).toInt = (M4.1 60 0 64).toInt := by rw [eM5, fm_wI_nj (fun z => absurd z.2.2 (by decide))]
  have mM5_60_65 : (M5.1 60 0 65).toInt = (M4.1 60 0 65).toInt := by rw [eM5, fm_wI_nj (fun z => absurd z.2.2 (by decide))]
  have mM5_60_66 : (M5.1 60 0 66).toInt = (M4.1 60 0 66).toInt := by rw [eM5, fm_wI_nj (fun z => absurd z.2.2 (by decide))]
  refine lv_aload_n hx hb dX12_goThrough_25 rfl (lv_at hl 0 rfl) ?_
  refine fm_cv (va_runV (As := []) (rest := []) ⟨hx, hb, hml, hown, hts⟩ (fc_X12_next l D ad C nb M5 hI) (cwV 0 hts gX12_goThrough_X12_next rfl rfl rfl (by decide +kernel) ⟨Nat.le_of_ble_eq_true rfl, Nat.le_of_ble_eq_true rfl⟩) (fm_preV hc hw hS kl_60 sh_60 rfl) rfl rfl hl.1 rfl (lv_room (Nat.le_of_ble_eq_true rfl)) dX12_goThrough_26 ⟨by decide +kernel, by decide +kernel⟩) hS hc (fun M7 H locs hr6 hw hS => ?_)
  obtain ⟨hI, hEM7, hr6⟩ := hr6
  have hE := hE.tr hEM7 (by decide)
  have mM7_60_63 : (M7.1 60 0 63).toInt = (M5.1 60 0 63).toInt := by rw [(hEM7 60 0 63 (by decide)).1]
  have mM7_60_66 : (M7.1 60 0 66).toInt = (M5.1 60 0 66).toInt := by rw [(hEM7 60 0 66 (by decide)).1]
  have j1 : ∀  (M_j1 : fm_M), ((M_j1.1 60 0 64).toInt ≤ (M_j1.1 60 0 65).toInt) → fm_I nb ad M_j1 → fm_same [60062, 60063, 60064, 60065, 60066, 60067, 60069, 60070] M M_j1 → ∀ (H : Heap) (locs : List Loc), fm_at D ad C nb M_j1 H → va_S (fm_A nb ad) s.heap H locs → ∀ (ls : Array Slot), lv_has ls 4 [(0, .ref (ad 60 0))] → W p l e (headSpec wsX12_goThrough ({ frames := 41, cells := 0, slots := 0, locals := 888 })).room s m ([.ref (ad 60 0), .int p0, .int p1] : List Value).toArray below meth c H locs 0 0 (MQ below (va_Qi (fun (r : Int32) (u : fm_M) => fm_I nb ad u ∧ fm_same [60062, 60063, 60064, 60065, 60066, 60067, 60069, 60070] M u ∧ ((-1) ≤ r.toInt ∧ r.toInt ≤ 160)) (fun u t => fm_at D ad C nb u t.heap) (fm_A nb ad)) ([.ref (ad 60 0), .int p0, .int p1] : List Value).toArray s 0 0 (fm_A nb ad)) (F0 m 54 ls []) := by
    intro  M_j1 hv_j1 hI hE H locs hw hS ls hl
    have j2 : ∀  (M_j2 : fm_M), ((M_j2.1 60 0 64).toInt ≤ (M_j2.1 60 0 65).toInt) → fm_I nb ad M_j2 → fm_same [60062, 60063, 60064, 60065, 60066, 60067, 60069, 60070] M M_j2 → ∀ (H : Heap) (locs : List Loc), fm_at D ad C nb M_j2 H → va_S (fm_A nb ad) s.heap H locs → ∀ (ls : Array Slot), lv_has ls 4 [(0, .ref (ad 60 0))] → W p l e (headSpec wsX12_goThrough ({ frames := 41, cells := 0, slots := 0, locals := 888 })).room s m ([.ref (ad 60 0), .int p0, .int p1] : List Value).toArray below meth c H locs 0 0 (MQ below (va_Qi (fun (r : Int32) (u : fm_M) => fm_I nb ad u ∧ fm_same [60062, 60063, 60064, 60065, 60066, 60067, 60069, 60070] M u ∧ ((-1) ≤ r.toInt ∧ r.toInt ≤ 160)) (fun u t => fm_at D ad C nb u t.heap) (fm_A nb ad)) ([.ref (ad 60 0), .int p0, .int p1] : List Value).toArray s 0 0 (fm_A nb ad)) (F0 m 69 ls []) := by
      intro  M_j2 hv_j2 hI hE H locs hw hS ls hl
      have j3 : ∀  (M_j3 : fm_M), ((M_j3.1 60 0 64).toInt ≤ (M_j3.1 60 0 65).toInt) → fm_I nb ad M_j3 → fm_same [60062, 60063, 60064, 60065, 60066, 60067, 60069, 60070] M M_j3 → ∀ (H : Heap) (locs : List Loc), fm_at D ad C nb M_j3 H → va_S (fm_A nb ad) s.heap H locs → ∀ (ls : Array Slot), lv_has ls 4 [(0, .ref (ad 60 0))] → W p l e (headSpec wsX12_goThrough ({ frames := 41, cells := 0, slots := 0, locals := 888 })).room s m ([.ref (ad 60 0), .int p0, .int p1] : List Value).toArray below meth c H locs 0 0 (MQ below (va_Qi (fun (r : Int32) (u : fm_M) => fm_I nb ad u ∧ fm_same [60062, 60063, 60064, 60065, 60066, 60067, 60069, 60070] M u ∧ ((-1) ≤ r.toInt ∧ r.toInt ≤ 160)) (fun u t => fm_at D ad C nb u t.heap) (fm_A nb ad)) ([.ref (ad 60 0), .int p0, .int p1] : List Value).toArray s 0 0 (fm_A nb ad)) (F0 m 94 ls []) := by
        intro  M_j3 hv_j3 hI hE H locs hw hS ls hl
        have j4 : ∀  (M_j4 : fm_M), ((M_j4.1 60 0 64).toInt ≤ (M_j4.1 60 0 65).toInt) → fm_I nb ad M_j4 → fm_same [60062, 60063, 60064, 60065, 60066, 60067, 60069, 60070] M M_j4 → ∀ (H : Heap) (locs : List Loc), fm_at D ad C nb M_j4 H → va_S (fm_A nb ad) s.heap H locs → ∀ (ls : Array Slot), lv_has ls 4 [(0, .ref (ad 60 0))] → W p l e (headSpec wsX12_goThrough ({ frames := 41, cells := 0, slots := 0, locals := 888 })).room s m ([.ref (ad 60 0), .int p0, .int p1] : List Value).toArray below meth c H locs 0 0 (MQ below (va_Qi (fun (r : Int32) (u : fm_M) => fm_I nb ad u ∧ fm_same [60062, 60063, 60064, 60065, 60066, 60067, 60069, 60070] M u ∧ ((-1) ≤ r.toInt ∧ r.toInt ≤ 160)) (fun u t => fm_at D ad C nb u t.heap) (fm_A nb ad)) ([.ref (ad 60 0), .int p0, .int p1] : List Value).toArray s 0 0 (fm_A nb ad)) (F0 m 109 ls []) := by
          intro  M_j4 hv_j4 hI hE H locs hw hS ls hl
          refine lv_aload_n hx hb dX12_goThrough_109 rfl (lv_at hl 0 rfl) ?_
          refine fm_getI (a := 60) (j := 64) (T := TX12) (N := 79) hx hb hts hinX12 hown hc hw hI kl_60 sh_60 rfl (by decide) rfl bd_60_64 (hts (.fieldLink RX12 340 "RedTentModel" "from" "I") (List.mem_cons_of_mem _ tw_5_184)) (fun _ h9 => h9) dX12_goThrough_110 (fun x8 ex8 bx8 => ?_)
          have wx8 : x8.toInt = (M_j4.1 60 0 64).toInt := by rw [ex8]
          refine lv_aload_n hx hb dX12_goThrough_113 rfl (lv_at hl 0 rfl) ?_
          refine fm_getI (a := 60) (j := 63) (T := TX12) (N := 79) hx hb hts hinX12 hown hc hw hI kl_60 sh_60 rfl (by decide) rfl bd_60_63 (hts (.fieldLink RX12 328 "RedTentModel" "ends" "I") (List.mem_cons_of_mem _ tw_5_183)) (fun _ h9 => h9) dX12_goThrough_114 (fun x9 ex9 bx9 => ?_)
          have wx9 : x9.toInt = (M_j4.1 60 0 63).toInt := by rw [ex9]
          refine fx_icmp_ge (tgt := 125) hx hb dX12_goThrough_117 (by decide) rfl rfl (fun c10 => ?_) (fun c10 => ?_)
          · refine lv_aload_n hx hb dX12_goThrough_125 rfl (lv_at hl 0 rfl) ?_
            refine fm_getI (a := 60) (j := 67) (T := TX12) (N := 79) hx hb hts hinX12 hown hc hw hI kl_60 sh_60 rfl (by decide) rfl bd_60_67 (hts (.fieldLink RX12 349 "RedTentModel" "fault" "I") (List.mem_cons_of_mem _ tw_5_187)) (fun _ h9 => h9) dX12_goThrough_126 (fun x11 ex11 bx11 => ?_)
            exact W.iret (v := x11) hx hb hr (fun t ht hW => ⟨⟨x11, M_j4, rfl, ⟨hI, hE, (by omega)⟩, by show fm_at D ad C nb _ t.heap; rw [ht]; exact hw⟩, hS.F ht⟩) hS.2.2 dX12_goThrough_129
          · refine lv_aload_n hx hb dX12_goThrough_120 rfl (lv_at hl 0 rfl) ?_
            refine fm_ci (va_runV (As := []) (rest := []) ⟨hx, hb, hml, hown, hts⟩ (fc_X12_wrong l D ad C nb M_j4 hI) (cwV 0 hts gX12_goThrough_X12_wrong rfl rfl rfl (by decide +kernel) ⟨Nat.le_of_ble_eq_true rfl, Nat.le_of_ble_eq_true rfl⟩) (fm_preV hc hw hS kl_60 sh_60 rfl) rfl rfl hl.1 rfl (lv_room (Nat.le_of_ble_eq_true rfl)) dX12_goThrough_121 ⟨by decide +kernel, by decide +kernel⟩) hS hc (fun r12 M13 H locs hr12 hw hS => ?_)
            obtain ⟨hI, hEM13, hr12⟩ := hr12
            have hE := hE.tr hEM13 (by decide)
            have mM13_60_63 : (M13.1 60 0 63).toInt = (M_j4.1 60 0 63).toInt := by rw [(hEM13 60 0 63 (by decide)).1]
            have mM13_60_64 : (M13.1 60 0 64).toInt = (M_j4.1 60 0 64).toInt := by rw [(hEM13 60 0 64 (by decide)).1]
            have mM13_60_65 : (M13.1 60 0 65).toInt = (M_j4.1 60 0 65).toInt := by rw [(hEM13 60 0 65 (by decide)).1]
            have mM13_60_66 : (M13.1 60 0 66).toInt = (M_j4.1 60 0 66).toInt := by rw [(hEM13 60 0 66 (by decide)).1]
            refine lv_istore_n (lv' := [(3, .int r12), (0, .ref (ad 60 0))]) hx hb dX12_goThrough_124 rfl hl (by decide) rfl (fun ls hl => ?_)
            refine lv_aload_n hx hb dX12_goThrough_125 rfl (lv_at hl 1 rfl) ?_
            refine fm_getI (a := 60) (j := 67) (T := TX12) (N := 79) hx hb hts hinX12 hown hc hw hI kl_60 sh_60 rfl (by decide) rfl bd_60_67 (hts (.fieldLink RX12 349 "RedTentModel" "fault" "I") (List.mem_cons_of_mem _ tw_5_187)) (fun _ h9 => h9) dX12_goThrough_126 (fun x14 ex14 bx14 => ?_)
            exact W.iret (v := x14) hx hb hr (fun t ht hW => ⟨⟨x14, M13, rfl, ⟨hI, hE, (by omega)⟩, by show fm_at D ad C nb _ t.heap; rw [ht]; exact hw⟩, hS.F ht⟩) hS.2.2 dX12_goThrough_129
        refine lv_aload_n hx hb dX12_goThrough_94 rfl (lv_at hl 0 rfl) ?_
        obtain ⟨q15, vq15, hQq15, hRq15⟩ := hc.2.2.2.2.1 (RX12, 421, ";", [59]) (by decide)
        refine va_ldcwS hx hb hown hRq15 dX12_goThrough_95 ?_
        refine fm_ci (va_runV (As := [.ref q15]) (rest := []) ⟨hx, hb, hml, hown, hts⟩ (fc_X12_take l D ad C nb M_j3 hI q15 vq15 1 (fun j => ([59] : List Int32).getD j 0) (by decide) (by omega)) (cwV 1 hts gX12_goThrough_X12_take rfl rfl rfl (by decide +kernel) ⟨Nat.le_of_ble_eq_true rfl, Nat.le_of_ble_eq_true rfl⟩) (fm_preVS hc hw hS hQq15 kl_60 sh_60 rfl) rfl rfl hl.1 rfl (lv_room (Nat.le_of_ble_eq_true rfl)) dX12_goThrough_98 ⟨by decide +kernel, by decide +kernel⟩) hS hc (fun r16 M17 H locs hr16 hw hS => ?_)
        obtain ⟨hI, hEM17, hr16⟩ := hr16
        have hE := hE.tr hEM17 (by decide)
        have mM17_60_63 : (M17.1 60 0 63).toInt = (M_j3.1 60 0 63).toInt := by rw [(hEM17 60 0 63 (by decide)).1]
        have mM17_60_66 : (M17.1 60 0 66).toInt = (M_j3.1 60 0 66).toInt := by rw [(hEM17 60 0 66 (by decide)).1]
        rcases hr16 with ⟨rfl, ahr16, bhr16⟩ | ⟨rfl, ahr16, bhr16⟩
        · refine fx_if_ne (tgt := 109) hx hb dX12_goThrough_101 (by decide) zk_1 (fun c18 => ?_) (fun c18 => by exfalso; omega)
          exact j4 M17 (by omega) hI hE _ _ hw hS ls (lv_sub hl [0] rfl)
        · refine fx_if_ne (tgt := 109) hx hb dX12_goThrough_101 (by decide) zk_0 (fun c19 => by exfalso; omega) (fun c19 => ?_)
          refine lv_aload_n hx hb dX12_goThrough_104 rfl (lv_at hl 0 rfl) ?_
          refine fm_ci (va_runV (As := []) (rest := []) ⟨hx, hb, hml, hown, hts⟩ (fc_X12_wrong l D ad C nb M17 hI) (cwV 0 hts gX12_goThrough_X12_wrong rfl rfl rfl (by decide +kernel) ⟨Nat.le_of_ble_eq_true rfl, Nat.le_of_ble_eq_true rfl⟩) (fm_preV hc hw hS kl_60 sh_60 rfl) rfl rfl hl.1 rfl (lv_room (Nat.le_of_ble_eq_true rfl)) dX12_goThrough_105 ⟨by decide +kernel, by decide +kernel⟩) hS hc (fun r20 M21 H locs hr20 hw hS => ?_)
          obtain ⟨hI, hEM21, hr20⟩ := hr20
          have hE := hE.tr hEM21 (by decide)
          have mM21_60_63 : (M21.1 60 0 63).toInt = (M17.1 60 0 63).toInt := by rw [(hEM21 60 0 63 (by decide)).1]
          have mM21_60_64 : (M21.1 60 0 64).toInt = (M17.1 60 0 64).toInt := by rw [(hEM21 60 0 64 (by decide)).1]
          have mM21_60_65 : (M21.1 60 0 65).toInt = (M17.1 60 0 65).toInt := by rw [(hEM21 60 0 65 (by decide)).1]
          have mM21_60_66 : (M21.1 60 0 66).toInt = (M17.1 60 0 66).toInt := by rw [(hEM21 60 0 66 (by decide)).1]
          refine lv_istore_n (lv' := [(3, .int r20), (0, .ref (ad 60 0))]) hx hb dX12_goThrough_108 rfl hl (by decide) rfl (fun ls hl => ?_)
          exact j4 M21 (by omega) hI hE _ _ hw hS ls (lv_sub hl [1] rfl)
      refine lv_aload_n hx hb dX12_goThrough_69 rfl (lv_at hl 0 rfl) ?_
      refine lv_aload_n hx hb dX12_goThrough_70 rfl (lv_at hl 0 rfl) ?_
      obtain ⟨q22, vq22, hQq22, hRq22⟩ := hc.2.2.2.2.1 (RX12, 423, "go", [103, 111]) (by decide)
      refine va_ldcwS hx hb hown hRq22 dX12_goThrough_71 ?_
      refine fm_ci (va_runV (As := [.ref q22]) (rest := [.ref (ad 60 0)]) ⟨hx, hb, hml, hown, hts⟩ (fc_X12_take l D ad C nb M_j2 hI q22 vq22 2 (fun j => ([103, 111] : List Int32).getD j 0) (by decide) (by omega)) (cwV 1 hts gX12_goThrough_X12_take rfl rfl rfl (by decide +kernel) ⟨Nat.le_of_ble_eq_true rfl, Nat.le_of_ble_eq_true rfl⟩) (fm_preVS hc hw hS hQq22 kl_60 sh_60 rfl) rfl rfl hl.1 rfl (lv_room (Nat.le_of_ble_eq_true rfl)) dX12_goThrough_74 ⟨by decide +kernel, by decide +kernel⟩) hS hc (fun r23 M24 H locs hr23 hw hS => ?_)
      obtain ⟨hI, hEM24, hr23⟩ := hr23
      have hE := hE.tr hEM24 (by decide)
      have mM24_60_63 : (M24.1 60 0 63).toInt = (M_j2.1 60 0 63).toInt := by rw [(hEM24 60 0 63 (by decide)).1]
      have mM24_60_66 : (M24.1 60 0 66).toInt = (M_j2.1 60 0 66).toInt := by rw [(hEM24 60 0 66 (by decide)).1]
      rcases hr23 with ⟨rfl, ahr23, bhr23⟩ | ⟨rfl, ahr23, bhr23⟩
      · refine fx_if_eq (tgt := 87) hx hb dX12_goThrough_77 (by decide) zk_1 (fun c25 => by exfalso; omega) (fun c25 => ?_)
        refine lv_aload_n hx hb dX12_goThrough_80 rfl (lv_at hl 0 rfl) ?_
        have ddd26_63 := hI.bd (k := 0) bd_60_63
        have ddd27_64 := hI.bd (k := 0) bd_60_64
        have ddd28_65 := hI.bd (k := 0) bd_60_65
        have ddd29_66 := hI.bd (k := 0) bd_60_66
        refine fm_ci (va_runV (As := []) (rest := [.ref (ad 60 0)]) ⟨hx, hb, hml, hown, hts⟩ (fc_X12_either_0 l D ad C nb M24 hI (by omega) (by omega)) (cwV 0 hts gX12_goThrough_X12_either rfl rfl rfl (by decide +kernel) ⟨Nat.le_of_ble_eq_true rfl, Nat.le_of_ble_eq_true rfl⟩) (fm_preV hc hw hS kl_60 sh_60 rfl) rfl rfl hl.1 rfl (lv_room (Nat.le_of_ble_eq_true rfl)) dX12_goThrough_81 ⟨by decide +kernel, by decide +kernel⟩) hS hc (fun r30 M31 H locs hr30 hw hS => ?_)
        obtain ⟨hI, hEM31, hr30⟩ := hr30
        have hE := hE.tr hEM31 (by decide)
        have mM31_60_63 : (M31.1 60 0 63).toInt = (M24.1 60 0 63).toInt := by rw [(hEM31 60 0 63 (by decide)).1]
        obtain ⟨ahr30, bhr30, dhr30⟩ := hr30
        refine lv_goto (tgt := 91) hx hb dX12_goThrough_84 (by decide) ?_
        refine fm_putI (a := 60) (j := 70) (T := TX12) (N := 79) hx hb hts hinX12 tyX12 tyX12_ok nmX12 hown hc hw hI hE hS kl_60 sh_60 od_60 rfl (by decide) rfl bd_60_70 (hts (.fieldLink RX12 425 "RedTentModel" "goes" "I") (List.mem_cons_of_mem _ tw_5_190)) (fun _ h9 => h9) rfl (by decide +kernel) (zi_lt _) (by decide) (by decide) dX12_goThrough_91 (fun M32 H locs eM32 hw hI hE hS => ?_)
        have mM32_60_63 : (M32.1 60 0 63).toInt = (M31.1 60 0 63).toInt := by rw [eM32, fm_wI_nj (fun z => absurd z.2.2 (by decide))]
        have mM32_60_64 : (M32.1 60 0 64).toInt = (M31.1 60 0 64).toInt := by rw [eM32, fm_wI_nj (fun z => absurd z.2.2 (by decide))]
        have mM32_60_65 : (M32.1 60 0 65).toInt = (M31.1 60 0 65).toInt := by rw [eM32, fm_wI_nj (fun z => absurd z.2.2 (by decide))]
        have mM32_60_66 : (M32.1 60 0 66).toInt = (M31.1 60 0 66).toInt := by rw [eM32, fm_wI_nj (fun z => absurd z.2.2 (by decide))]
        exact j3 M32 (by omega) hI hE _ _ hw hS ls (lv_sub hl [0] rfl)
      · refine fx_if_eq (tgt := 87) hx hb dX12_goThrough_77 (by decide) zk_0 (fun c33 => ?_) (fun c33 => by exfalso; omega)
        refine lv_aload_n hx hb dX12_goThrough_87 rfl (lv_at hl 0 rfl) ?_
        refine fm_ci (va_runV (As := []) (rest := [.ref (ad 60 0)]) ⟨hx, hb, hml, hown, hts⟩ (fc_X12_wrong l D ad C nb M24 hI) (cwV 0 hts gX12_goThrough_X12_wrong rfl rfl rfl (by decide +kernel) ⟨Nat.le_of_ble_eq_true rfl, Nat.le_of_ble_eq_true rfl⟩) (fm_preV hc hw hS kl_60 sh_60 rfl) rfl rfl hl.1 rfl (lv_room (Nat.le_of_ble_eq_true rfl)) dX12_goThrough_88 ⟨by decide +kernel, by decide +kernel⟩) hS hc (fun r34 M35 H locs hr34 hw hS => ?_)
        obtain ⟨hI, hEM35, hr34⟩ := hr34
        have hE := hE.tr hEM35 (by decide)
        have mM35_60_63 : (M35.1 60 0 63).toInt = (M24.1 60 0 63).toInt := by rw [(hEM35 60 0 63 (by decide)).1]
        have mM35_60_64 : (M35.1 60 0 64).toInt = (M24.1 60 0 64).toInt := by rw [(hEM35 60 0 64 (by decide)).1]
        have mM35_60_65 : (M35.1 60 0 65).toInt = (M24.1 60 0 65).toInt := by rw [(hEM35 60 0 65 (by decide)).1]
        have mM35_60_66 : (M35.1 60 0 66).toInt = (M24.1 60 0 66).toInt := by rw [(hEM35 60 0 66 (by decide)).1]
        refine fm_putI (a := 60) (j := 70) (T := TX12) (N := 79) hx hb hts hinX12 tyX12 tyX12_ok nmX12 hown hc hw hI hE hS kl_60 sh_60 od_60 rfl (by decide) rfl bd_60_70 (hts (.fieldLink RX12 425 "RedTentModel" "goes" "I") (List.mem_cons_of_mem _ tw_5_190)) (fun _ h9 => h9) rfl (by decide +kernel) (zi_lt _) (by decide) (by decide) dX12_goThrough_91 (fun M36 H locs eM36 hw hI hE hS => ?_)
        have mM36_60_63 : (M36.1 60 0 63).toInt = (M35.1 60 0 63).toInt := by rw [eM36, fm_wI_nj (fun z => absurd z.2.2 (by decide))]
        have mM36_60_64 : (M36.1 60 0 64).toInt = (M35.1 60 0 64).toInt := by rw [eM36, fm_wI_nj (fun z => absurd z.2.2 (by decide))]
        have mM36_60_65 : (M36.1 60 0 65).toInt = (M35.1 60 0 65).toInt := by rw [eM36, fm_wI_nj (fun z => absurd z.2.2 (by decide))]
        have mM36_60_66 : (M36.1 60 0 66).toInt = (M35.1 60 0 66).toInt := by rw [eM36, fm_wI_nj (fun z => absurd z.2.2 (by decide))]
        exact j3 M36 (by omega) hI hE _ _ hw hS ls (lv_sub hl [0] rfl)
    refine lv_aload_n hx hb dX12_goThrough_54 rfl (lv_at hl 0 rfl) ?_
    obtain ⟨q37, vq37, hQq37, hRq37⟩ := hc.2.2.2.2.1 (RX12, 421, ";", [59]) (by decide)
    refine va_ldcwS hx hb hown hRq37 dX12_goThrough_55 ?_
    refine fm_ci (va_runV (As := [.ref q37]) (rest := []) ⟨hx, hb, hml, hown, hts⟩ (fc_X12_take l D ad C nb M_j1 hI q37 vq37 1 (fun j => ([59] : List Int32).getD j 0) (by decide) (by omega)) (cwV 1 hts gX12_goThrough_X12_take rfl rfl rfl (by decide +kernel) ⟨Nat.le_of_ble_eq_true rfl, Nat.le_of_ble_eq_true rfl⟩) (fm_preVS hc hw hS hQq37 kl_60 sh_60 rfl) rfl rfl hl.1 rfl (lv_room (Nat.le_of_ble_eq_true rfl)) dX12_goThrough_58 ⟨by decide +kernel, by decide +kernel⟩) hS hc (fun r38 M39 H locs hr38 hw hS => ?_)
    obtain ⟨hI, hEM39, hr38⟩ := hr38
    have hE := hE.tr hEM39 (by decide)
    have mM39_60_63 : (M39.1 60 0 63).toInt = (M_j1.1 60 0 63).toInt := by rw [(hEM39 60 0 63 (by decide)).1]
    have mM39_60_66 : (M39.1 60 0 66).toInt = (M_j1.1 60 0 66).toInt := by rw [(hEM39 60 0 66 (by decide)).1]
    rcases hr38 with ⟨rfl, ahr38, bhr38⟩ | ⟨rfl, ahr38, bhr38⟩
    · refine fx_if_ne (tgt := 69) hx hb dX12_goThrough_61 (by decide) zk_1 (fun c40 => ?_) (fun c40 => by exfalso; omega)
      exact j2 M39 (by omega) hI hE _ _ hw hS ls (lv_sub hl [0] rfl)
    · refine fx_if_ne (tgt := 69) hx hb dX12_goThrough_61 (by decide) zk_0 (fun c41 => by exfalso; omega) (fun c41 => ?_)
      refine lv_aload_n hx hb dX12_goThrough_64 rfl (lv_at hl 0 rfl) ?_
      refine fm_ci (va_runV (As := []) (rest := []) ⟨hx, hb, hml, hown, hts⟩ (fc_X12_wrong l D ad C nb M39 hI) (cwV 0 hts gX12_goThrough_X12_wrong rfl rfl rfl (by decide +kernel) ⟨Nat.le_of_ble_eq_true rfl, Nat.le_of_ble_eq_true rfl⟩) (fm_preV hc hw hS kl_60 sh_60 rfl) rfl rfl hl.1 rfl (lv_room (Nat.le_of_ble_eq_true rfl)) dX12_goThrough_65 ⟨by decide +kernel, by decide +kernel⟩) hS hc (fun r42 M43 H locs hr42 hw hS => ?_)
      obtain ⟨hI, hEM43, hr42⟩ := hr42
      have hE := hE.tr hEM43 (by decide)
      have mM43_60_63 : (M43.1 60 0 63).toInt = (M39.1 60 0 63).toInt := by rw [(hEM43 60 0 63 (by decide)).1]
      have mM43_60_64 : (M43.1 60 0 64).toInt = (M39.1 60 0 64).toInt := by rw [(hEM43 60 0 64 (by decide)).1]
      have mM43_60_65 : (M43.1 60 0 65).toInt = (M39.1 60 0 65).toInt := by rw [(hEM43 60 0 65 (by decide)).1]
      have mM43_60_66 : (M43.1 60 0 66).toInt = (M39.1 60 0 66).toInt := by rw [(hEM43 60 0 66 (by decide)).1]
      refine lv_istore_n (lv' := [(3, .int r42), (0, .ref (ad 60 0))]) hx hb dX12_goThrough_68 rfl hl (by decide) rfl (fun ls hl => ?_)
      exact j2 M43 (by omega) hI hE _ _ hw hS ls (lv_sub hl [1] rfl)
  refine lv_aload_n hx hb dX12_goThrough_29 rfl (lv_at hl 0 rfl) ?_
  refine lv_aload_n hx hb dX12_goThrough_30 rfl (lv_at hl 0 rfl) ?_
  obtain ⟨q44, vq44, hQq44, hRq44⟩ := hc.2.2.2.2.1 (RX12, 417, "take", [116, 97, 107, 101]) (by decide)
  refine va_ldcwS hx hb hown hRq44 dX12_goThrough_31 ?_
  refine fm_ci (va_runV (As := [.ref q44]) (rest := [.ref (ad 60 0)]) ⟨hx, hb, hml, hown, hts⟩ (fc_X12_take l D ad C nb M7 hI q44 vq44 4 (fun j => ([116, 97, 107, 101] : List Int32).getD j 0) (by decide) (by omega)) (cwV 1 hts gX12_goThrough_X12_take rfl rfl rfl (by decide +kernel) ⟨Nat.le_of_ble_eq_true rfl, Nat.le_of_ble_eq_true rfl⟩) (fm_preVS hc hw hS hQq44 kl_60 sh_60 rfl) rfl rfl hl.1 rfl (lv_room (Nat.le_of_ble_eq_true rfl)) dX12_goThrough_34 ⟨by decide +kernel, by decide +kernel⟩) hS hc (fun r45 M46 H locs hr45 hw hS => ?_)
  obtain ⟨hI, hEM46, hr45⟩ := hr45
  have hE := hE.tr hEM46 (by decide)
  have mM46_60_63 : (M46.1 60 0 63).toInt = (M7.1 60 0 63).toInt := by rw [(hEM46 60 0 63 (by decide)).1]
  have mM46_60_66 : (M46.1 60 0 66).toInt = (M7.1 60 0 66).toInt := by rw [(hEM46 60 0 66 (by decide)).1]
  rcases hr45 with ⟨rfl, ahr45, bhr45⟩ | ⟨rfl, ahr45, bhr45⟩
  · refine fx_if_eq (tgt := 47) hx hb dX12_goThrough_37 (by decide) zk_1 (fun c47 => by exfalso; omega) (fun c47 => ?_)
    refine lv_aload_n hx hb dX12_goThrough_40 rfl (lv_at hl 0 rfl) ?_
    have ddd48_63 := hI.bd (k := 0) bd_60_63
    have ddd49_64 := hI.bd (k := 0) bd_60_64
    have ddd50_65 := hI.bd (k := 0) bd_60_65
    have ddd51_66 := hI.bd (k := 0) bd_60_66
    refine fm_ci (va_runV (As := []) (rest := [.ref (ad 60 0)]) ⟨hx, hb, hml, hown, hts⟩ (fc_X12_either_0 l D ad C nb M46 hI (by omega) (by omega)) (cwV 0 hts gX12_goThrough_X12_either rfl rfl rfl (by decide +kernel) ⟨Nat.le_of_ble_eq_true rfl, Nat.le_of_ble_eq_true rfl⟩) (fm_preV hc hw hS kl_60 sh_60 rfl) rfl rfl hl.1 rfl (lv_room (Nat.le_of_ble_eq_true rfl)) dX12_goThrough_41 ⟨by decide +kernel, by decide +kernel⟩) hS hc (fun r52 M53 H locs hr52 hw hS => ?_)
    obtain ⟨hI, hEM53, hr52⟩ := hr52
    have hE := hE.tr hEM53 (by decide)
    have mM53_60_63 : (M53.1 60 0 63).toInt = (M46.1 60 0 63).toInt := by rw [(hEM53 60 0 63 (by decide)).1]
    obtain ⟨ahr52, bhr52, dhr52⟩ := hr52
    refine lv_goto (tgt := 51) hx hb dX12_goThrough_44 (by decide) ?_
    refine fm_putI (a := 60) (j := 69) (T := TX12) (N := 79) hx hb hts hinX12 tyX12 tyX12_ok nmX12 hown hc hw hI hE hS kl_60 sh_60 od_60 rfl (by decide) rfl bd_60_69 (hts (.fieldLink RX12 418 "RedTentModel" "takes" "I") (List.mem_cons_of_mem _ tw_5_189)) (fun _ h9 => h9) rfl (by decide +kernel) (zi_lt _) (by decide) (by decide) dX12_goThrough_51 (fun M54 H locs eM54 hw hI hE hS => ?_)
    have mM54_60_63 : (M54.1 60 0 63).toInt = (M53.1 60 0 63).toInt := by rw [eM54, fm_wI_nj (fun z => absurd z.2.2 (by decide))]
    have mM54_60_64 : (M54.1 60 0 64).toInt = (M53.1 60 0 64).toInt := by rw [eM54, fm_wI_nj (fun z => absurd z.2.2 (by decide))]
    have mM54_60_65 : (M54.1 60 0 65).toInt = (M53.1 60 0 65).toInt := by rw [eM54, fm_wI_nj (fun z => absurd z.2.2 (by decide))]
    have mM54_60_66 : (M54.1 60 0 66).toInt = (M53.1 60 0 66).toInt := by rw [eM54, fm_wI_nj (fun z => absurd z.2.2 (by decide))]
    exact j1 M54 (by omega) hI hE _ _ hw hS ls (lv_sub hl [0] rfl)
  · refine fx_if_eq (tgt := 47) hx hb dX12_goThrough_37 (by decide) zk_0 (fun c55 => ?_) (fun c55 => by exfalso; omega)
    refine lv_aload_n hx hb dX12_goThrough_47 rfl (lv_at hl 0 rfl) ?_
    refine fm_ci (va_runV (As := []) (rest := [.ref (ad 60 0)]) ⟨hx, hb, hml, hown, hts⟩ (fc_X12_wrong l D ad C nb M46 hI) (cwV 0 hts gX12_goThrough_X12_wrong rfl rfl rfl (by decide +kernel) ⟨Nat.le_of_ble_eq_true rfl, Nat.le_of_ble_eq_true rfl⟩) (fm_preV hc hw hS kl_60 sh_60 rfl) rfl rfl hl.1 rfl (lv_room (Nat.le_of_ble_eq_true rfl)) dX12_goThrough_48 ⟨by decide +kernel, by decide +kernel⟩) hS hc (fun r56 M57 H locs hr56 hw hS => ?_)
    obtain ⟨hI, hEM57, hr56⟩ := hr56
    have hE := hE.tr hEM57 (by decide)
    have mM57_60_63 : (M57.1 60 0 63).toInt = (M46.1 60 0 63).toInt := by rw [(hEM57 60 0 63 (by decide)).1]
    have mM57_60_64 : (M57.1 60 0 64).toInt = (M46.1 60 0 64).toInt := by rw [(hEM57 60 0 64 (by decide)).1]
    have mM57_60_65 : (M57.1 60 0 65).toInt = (M46.1 60 0 65).toInt := by rw [(hEM57 60 0 65 (by decide)).1]
    have mM57_60_66 : (M57.1 60 0 66).toInt = (M46.1 60 0 66).toInt := by rw [(hEM57 60 0 66 (by decide)).1]
    refine fm_putI (a := 60) (j := 69) (T := TX12) (N := 79) hx hb hts hinX12 tyX12 tyX12_ok nmX12 hown hc hw hI hE hS kl_60 sh_60 od_60 rfl (by decide) rfl bd_60_69 (hts (.fieldLink RX12 418 "RedTentModel" "takes" "I") (List.mem_cons_of_mem _ tw_5_189)) (fun _ h9 => h9) rfl (by decide +kernel) (zi_lt _) (by decide) (by decide) dX12_goThrough_51 (fun M58 H locs eM58 hw hI hE hS => ?_)
    have mM58_60_63 : (M58.1 60 0 63).toInt = (M57.1 60 0 63).toInt := by rw [eM58, fm_wI_nj (fun z => absurd z.2.2 (by decide))]
    have mM58_60_64 : (M58.1 60 0 64).toInt = (M57.1 60 0 64).toInt := by rw [eM58, fm_wI_nj (fun z => absurd z.2.2 (by decide))]
    have mM58_60_65 : (M58.1 60 0 65).toInt = (M57.1 60 0 65).toInt := by rw [eM58, fm_wI_nj (fun z => absurd z.2.2 (by decide))]
    have mM58_60_66 : (M58.1 60 0 66).toInt = (M57.1 60 0 66).toInt := by rw [eM58, fm_wI_nj (fun z => absurd z.2.2 (by decide))]
    exact j1 M58 (by omega) hI hE _ _ hw hS ls (lv_sub hl [0] rfl)
set_option maxHeartbeats 400000 in
set_option maxRecDepth 20000 in
theorem fc_X12_text (l : Launch) (D : va_G) (ad : Nat → Nat → Nat) (C : Nat → Nat → ClassId) (nb : Nat) (M : fm_M) (hI : fm_I nb ad M) : Met l yX12_text wsX12_text ({ frames := 42, cells := 0, slots := 0, locals := 911 }) (va_Pc [.ref (ad 60 0)] (fm_P D ad C nb M)) (va_Qi (fun (r : Int32) (u : fm_M) => fm_I nb ad u ∧ fm_same [60052, 60055, 60062, 60063, 60064, 60065, 60066, 60067, 60069, 60070, 153000, 154000] M u ∧ True) (fun u t => fm_at D ad C nb u t.heap) (fm_A nb ad)) 0 0 (fm_A nb ad) := by
  refine Met.ofW (cc := cX12_text) (maxL := 4) (ret := (some .int)) (by decide) rfl ?_
  intro p e s m args below meth c s₁ B hml hv
  obtain ⟨rfl, hw, hc⟩ := hv
  have hx := B.exec
  have hb := B.bytes
  have hr := B.returns
  have hts := atoms_spec (ws := wsX12_text) B.pre
  have hown : s.vm.findClass RX12 = some m.cls := findClass_of_methodNamed B.named
  have hinX12 : ∀ w ∈ u_ws RX12 TX12 79, w ∈ wsX12_text := fun w h => List.mem_cons_of_mem _ (iT_X12 w h)
  have hS : va_S (fm_A nb ad) s.heap s.heap [] := va_S.rf
  have hE : fm_same [60052, 60055, 60062, 60063, 60064, 60065, 60066, 60067, 60069, 60070, 153000, 154000] M M := fm_same.rf
  have hl := lv_entry ([.ref (ad 60 0)]) (n := 4) (Nat.le_of_ble_eq_true rfl)
  rw [lg_entry_eq]
  generalize (lg_sl ([.ref (ad 60 0)]) ++ List.replicate (4 - (lg_sl ([.ref (ad 60 0)])).length) Slot.unset).toArray = ls at hl ⊢
  have hl : lv_has ls 4 [(0, .ref (ad 60 0))] := hl
  refine lv_aload_n hx hb dX12_text_0 rfl (lv_at hl 0 rfl) ?_
  refine fm_getI (a := 60) (j := 55) (T := TX12) (N := 79) hx hb hts hinX12 hown hc hw hI kl_60 sh_60 rfl (by decide) rfl bd_60_55 (hts (.fieldLink RX12 182 "RedTentModel" "texts" "I") (List.mem_cons_of_mem _ tw_5_175)) (fun _ h9 => h9) dX12_text_1 (fun x1 ex1 bx1 => ?_)
  refine lv_bipush (v := 6) hx hb dX12_text_4 (by decide) ?_
  refine fx_icmp_ne (tgt := 12) hx hb dX12_text_6 (by decide) rfl zk_6 (fun c2 => ?_) (fun c2 => ?_)
  · refine lv_aload_n hx hb dX12_text_12 rfl (lv_at hl 0 rfl) ?_
    refine lv_iconst (v := (-1)) hx hb dX12_text_13 (by decide) ?_
    refine lv_aload_n hx hb dX12_text_14 rfl (lv_at hl 0 rfl) ?_
    refine fm_getI (a := 60) (j := 52) (T := TX12) (N := 79) hx hb hts hinX12 hown hc hw hI kl_60 sh_60 rfl (by decide) rfl bd_60_52 (hts (.fieldLink RX12 323 "RedTentModel" "tapeMany" "I") (List.mem_cons_of_mem _ tw_5_172)) (fun _ h9 => h9) dX12_text_15 (fun x3 ex3 bx3 => ?_)
    refine fm_ci (va_runV (As := [.int (-1), .int x3]) (rest := []) ⟨hx, hb, hml, hown, hts⟩ (fc_X12_goThrough l D ad C nb M hI (-1) x3 (by decide) (by omega)) (cwV 2 hts gX12_text_X12_goThrough rfl rfl rfl (by decide +kernel) ⟨Nat.le_of_ble_eq_true rfl, Nat.le_of_ble_eq_true rfl⟩) (fm_preV hc hw hS kl_60 sh_60 rfl) rfl rfl hl.1 rfl (lv_room (Nat.le_of_ble_eq_true rfl)) dX12_text_18 ⟨by decide +kernel, by decide +kernel⟩) hS hc (fun r4 M5 H locs hr4 hw hS => ?_)
    obtain ⟨hI, hEM5, hr4⟩ := hr4
    have hE := hE.tr hEM5 (by decide)
    refine lv_istore_n (lv' := [(1, .int r4), (0, .ref (ad 60 0))]) hx hb dX12_text_21 rfl hl (by decide) rfl (fun ls hl => ?_)
    refine lv_aload_n hx hb dX12_text_22 rfl (lv_at hl 1 rfl) ?_
    refine fm_getI (a := 60) (j := 52) (T := TX12) (N := 79) hx hb hts hinX12 hown hc hw hI kl_60 sh_60 rfl (by decide) rfl bd_60_52 (hts (.fieldLink RX12 323 "RedTentModel" "tapeMany" "I") (List.mem_cons_of_mem _ tw_5_172)) (fun _ h9 => h9) dX12_text_23 (fun x6 ex6 bx6 => ?_)
    obtain rfl : x3 = x6 := by rw [ex6, (hEM5 60 0 52 (by decide)).1]; exact ex3
    refine lv_istore_n (lv' := [(2, .int x3), (1, .int r4), (0, .ref (ad 60 0))]) hx hb dX12_text_26 rfl hl (by decide) rfl (fun ls hl => ?_)
    refine lv_aload_n hx hb dX12_text_27 rfl (lv_at hl 2 rfl) ?_
    refine lv_iconst (v := 0) hx hb dX12_text_28 (by decide) ?_
    refine fm_putI (a := 60) (j := 52) (T := TX12) (N := 79) hx hb hts hinX12 tyX12 tyX12_ok nmX12 hown hc hw hI hE hS kl_60 sh_60 od_60 rfl (by decide) rfl bd_60_52 (hts (.fieldLink RX12 323 "RedTentModel" "tapeMany" "I") (List.mem_cons_of_mem _ tw_5_172)) (fun _ h9 => h9) rfl (by decide +kernel) (by decide) (by decide) (by decide) dX12_text_29 (fun M7 H locs eM7 hw hI hE hS => ?_)
    refine lv_iload_n hx hb dX12_text_32 rfl (lv_at hl 1 rfl) ?_
    refine fx_if_lt (tgt := 41) hx hb dX12_text_33 (by decide) rfl (fun c8 => ?_) (fun c8 => ?_)
    · refine lv_iconst (v := 0) hx hb dX12_text_41 (by decide) ?_
      refine lv_istore_n (lv' := [(3, .int 0), (2, .int x3), (1, .int r4), (0, .ref (ad 60 0))]) hx hb dX12_text_42 rfl hl (by decide) rfl (fun ls hl => ?_)
      have lp : ∀ (n_lp : Nat) (lp_3 : Int32) (M_lp : fm_M), (160 - lp_3.toInt).toNat < n_lp → (0 ≤ lp_3.toInt ∧ lp_3.toInt ≤ 160) → (0 ≤ (M_lp.1 60 0 55).toInt ∧ (M_lp.1 60 0 55).toInt ≤ 5) → fm_I nb ad M_lp → fm_same [60052, 60055, 60062, 60063, 60064, 60065, 60066, 60067, 60069, 60070, 153000, 154000] M M_lp → ∀ (H : Heap) (locs : List Loc), fm_at D ad C nb M_lp H → va_S (fm_A nb ad) s.heap H locs → ∀ (ls : Array Slot), lv_has ls 4 [(3, .int lp_3), (2, .int x3), (1, .int r4), (0, .ref (ad 60 0))] → W p l e (headSpec wsX12_text ({ frames := 42, cells := 0, slots := 0, locals := 911 })).room s m ([.ref (ad 60 0)] : List Value).toArray below meth c H locs 0 0 (MQ below (va_Qi (fun (r : Int32) (u : fm_M) => fm_I nb ad u ∧ fm_same [60052, 60055, 60062, 60063, 60064, 60065, 60066, 60067, 60069, 60070, 153000, 154000] M u ∧ True) (fun u t => fm_at D ad C nb u t.heap) (fm_A nb ad)) ([.ref (ad 60 0)] : List Value).toArray s 0 0 (fm_A nb ad)) (F0 m 43 ls []) := by
        intro n_lp
        induction n_lp with
        | zero => intro lp_3 M_lp hm_lp b_lp_3 hf hI hE H locs hw hS ls hl; exact absurd hm_lp (Nat.not_lt_zero _)
        | succ n_lp ih_lp =>
          intro lp_3 M_lp hm_lp b_lp_3 hf hI hE H locs hw hS ls hl
          refine lv_iload_n hx hb dX12_text_43 rfl (lv_at hl 0 rfl) ?_
          refine lv_iload_n hx hb dX12_text_44 rfl (lv_at hl 1 rfl) ?_
          refine fx_icmp_ge (tgt := 75) hx hb dX12_text_45 (by decide) rfl rfl (fun c9 => ?_) (fun c9 => ?_)
          · refine lv_aload_n hx hb dX12_text_75 rfl (lv_at hl 3 rfl) ?_
            refine fm_getG (a := 60) (j := 54) (T := TX12) (N := 79) hx hb hts hinX12 hown hc hw kl_60 sh_60 rfl (by decide) rfl (hI.to kl_60 tg_60_54) (hts (.fieldLink RX12 131 "RedTentModel" "textMany" "[I") (List.mem_cons_of_mem _ tw_5_174)) (fun _ h9 => h9) dX12_text_76 ?_
            refine lv_aload_n hx hb dX12_text_79 rfl (lv_at hl 3 rfl) ?_
            refine fm_getI (a := 60) (j := 55) (T := TX12) (N := 79) hx hb hts hinX12 hown hc hw hI kl_60 sh_60 rfl (by decide) rfl bd_60_55 (hts (.fieldLink RX12 182 "RedTentModel" "texts" "I") (List.mem_cons_of_mem _ tw_5_175)) (fun _ h9 => h9) dX12_text_80 (fun x10 ex10 bx10 => ?_)
            have fx10 : 0 ≤ x10.toInt ∧ x10.toInt ≤ 5 := by rw [ex10]; exact hf
            refine lv_iload_n hx hb dX12_text_83 rfl (lv_at hl 1 rfl) ?_
            refine fm_iast (a := 154) hx hb hc hw hI hE hS kl_154 sh_154 ty_154 bd_154 (by omega) (by omega) cd_154 (by decide) dX12_text_84 (fun M11 H locs eM11 hw hI hE hS => ?_)
            refine lv_aload_n hx hb dX12_text_85 rfl (lv_at hl 3 rfl) ?_
            refine lv_dup hx hb dX12_text_86 rfl ?_
            refine fm_getI (a := 60) (j := 55) (T := TX12) (N := 79) hx hb hts hinX12 hown hc hw hI kl_60 sh_60 rfl (by decide) rfl bd_60_55 (hts (.fieldLink RX12 182 "RedTentModel" "texts" "I") (List.mem_cons_of_mem _ tw_5_175)) (fun _ h9 => h9) dX12_text_87 (fun x12 ex12 bx12 => ?_)
            obtain rfl : x10 = x12 := by rw [ex12, eM11, fm_wI_nj (fun z => absurd z.1 (by decide))]; exact ex10
            refine lv_iconst (v := 1) hx hb dX12_text_90 (by decide) ?_
            refine fx_iadd hx hb dX12_text_91 rfl zk_1 (by omega) (fun y13 ey13 ty13 => ?_)
            refine fm_putI (a := 60) (j := 55) (T := TX12) (N := 79) hx hb hts hinX12 tyX12 tyX12_ok nmX12 hown hc hw hI hE hS kl_60 sh_60 od_60 rfl (by decide) rfl bd_60_55 (hts (.fieldLink RX12 182 "RedTentModel" "texts" "I") (List.mem_cons_of_mem _ tw_5_175)) (fun _ h9 => h9) rfl (by decide +kernel) (by omega) (by decide) (by decide) dX12_text_92 (fun M14 H locs eM14 hw hI hE hS => ?_)
            refine lv_aload_n hx hb dX12_text_95 rfl (lv_at hl 3 rfl) ?_
            refine fm_getI (a := 60) (j := 55) (T := TX12) (N := 79) hx hb hts hinX12 hown hc hw hI kl_60 sh_60 rfl (by decide) rfl bd_60_55 (hts (.fieldLink RX12 182 "RedTentModel" "texts" "I") (List.mem_cons_of_mem _ tw_5_175)) (fun _ h9 => h9) dX12_text_96 (fun x15 ex15 bx15 => ?_)
            obtain rfl : y13 = x15 := by rw [ex15, eM14, fm_wI_at]
            refine lv_iconst (v := 1) hx hb dX12_text_99 (by decide) ?_
            refine fx_isub hx hb dX12_text_100 rfl zk_1 (by omega) (fun y16 ey16 ty16 => ?_)
            exact W.iret (v := y16) hx hb hr (fun t ht hW => ⟨⟨y16, M14, rfl, ⟨hI, hE, trivial⟩, by show fm_at D ad C nb _ t.heap; rw [ht]; exact hw⟩, hS.F ht⟩) hS.2.2 dX12_text_101
          · refine lv_aload_n hx hb dX12_text_48 rfl (lv_at hl 3 rfl) ?_
            refine fm_getG (a := 60) (j := 53) (T := TX12) (N := 79) hx hb hts hinX12 hown hc hw kl_60 sh_60 rfl (by decide) rfl (hI.to kl_60 tg_60_53) (hts (.fieldLink RX12 128 "RedTentModel" "text" "[I") (List.mem_cons_of_mem _ tw_5_173)) (fun _ h9 => h9) dX12_text_49 ?_
            refine lv_sipush (v := 160) hx hb dX12_text_52 (by decide) ?_
            refine lv_aload_n hx hb dX12_text_55 rfl (lv_at hl 3 rfl) ?_
            refine fm_getI (a := 60) (j := 55) (T := TX12) (N := 79) hx hb hts hinX12 hown hc hw hI kl_60 sh_60 rfl (by decide) rfl bd_60_55 (hts (.fieldLink RX12 182 "RedTentModel" "texts" "I") (List.mem_cons_of_mem _ tw_5_175)) (fun _ h9 => h9) dX12_text_56 (fun x17 ex17 bx17 => ?_)
            have fx17 : 0 ≤ x17.toInt ∧ x17.toInt ≤ 5 := by rw [ex17]; exact hf
            refine fx_imul hx hb dX12_text_59 zk_160 rfl (by omega) (fun y18 ey18 ty18 => ?_)
            refine lv_iload_n hx hb dX12_text_60 rfl (lv_at hl 0 rfl) ?_
            refine fx_iadd hx hb dX12_text_61 rfl rfl (by omega) (fun y19 ey19 ty19 => ?_)
            refine lv_aload_n hx hb dX12_text_62 rfl (lv_at hl 3 rfl) ?_
            refine fm_getG (a := 60) (j := 51) (T := TX12) (N := 79) hx hb hts hinX12 hown hc hw kl_60 sh_60 rfl (by decide) rfl (hI.to kl_60 tg_60_51) (hts (.fieldLink RX12 125 "RedTentModel" "tape" "[I") (List.mem_cons_of_mem _ tw_5_171)) (fun _ h9 => h9) dX12_text_63 ?_
            refine lv_iload_n hx hb dX12_text_66 rfl (lv_at hl 0 rfl) ?_
            refine fm_iald (a := 151) hx hb hc hw hI kl_151 sh_151 ty_151 bd_151 (by omega) dX12_text_67 (fun x20 ex20 bx20 => ?_)
            refine fm_iast (a := 153) hx hb hc hw hI hE hS kl_153 sh_153 ty_153 bd_153 (by omega) (zi_lt _) cd_153 (by decide) dX12_text_68 (fun M21 H locs eM21 hw hI hE hS => ?_)
            obtain ⟨y22, ey22⟩ : ∃ y : Int32, y = lp_3 + 1 := ⟨_, rfl⟩
            have ty22 : y22.toInt = lp_3.toInt + 1 := by rw [ey22, zi_add _ _ (by rw [zk_1]; omega) (by rw [zk_1]; omega), zk_1]
            refine lv_iinc (v := y22) (lv' := [(3, .int y22), (2, .int x3), (1, .int r4), (0, .ref (ad 60 0))]) hx hb dX12_text_69 hl (k := 0) rfl (by rw [ey22]; rfl) (by decide) rfl (fun ls hl => ?_)
            refine lv_goto (tgt := 43) hx hb dX12_text_72 (by decide) ?_
            exact ih_lp y22 M21 (by omega) (by omega) (by rw [eM21, fm_wI_nj (fun z => absurd z.1 (by decide)), ← ex17]; omega) hI hE _ _ hw hS ls (lv_sub hl [0, 1, 2, 3] rfl)
      exact lp _ 0 M7 (Nat.lt_succ_self _) (by decide) (by rw [eM7, fm_wI_nj (fun z => absurd z.2.2 (by decide)), (hEM5 60 0 55 (by decide)).1, ← ex1]; omega) hI hE _ _ hw hS ls (lv_sub hl [0, 1, 2, 3] rfl)
    · refine lv_bipush (v := (-100)) hx hb dX12_text_36 (by decide) ?_
      refine lv_iload_n hx hb dX12_text_38 rfl (lv_at hl 1 rfl) ?_
      refine fx_isub hx hb dX12_text_39 (show ((-100) : Int32).toInt = (-100) from rfl) rfl (by omega) (fun y23 ey23 ty23 => ?_)
      exact W.iret (v := y23) hx hb hr (fun t ht hW => ⟨⟨y23, M7, rfl, ⟨hI, hE, trivial⟩, by show fm_at D ad C nb _ t.heap; rw [ht]; exact hw⟩, hS.F ht⟩) hS.2.2 dX12_text_40
  · refine lv_bipush (v := (-4)) hx hb dX12_text_9 (by decide) ?_
    exact W.iret (v := (-4)) hx hb hr (fun t ht hW => ⟨⟨(-4), M, rfl, ⟨hI, hE, trivial⟩, by show fm_at D ad C nb _ t.heap; rw [ht]; exact hw⟩, hS.F ht⟩) hS.2.2 dX12_text_11
set_option maxHeartbeats 400000 in
set_option maxRecDepth 20000 in
theorem fc_X12_takeOf (l : Launch) (D : va_G) (ad : Nat → Nat → Nat) (C : Nat → Nat → ClassId) (nb : Nat) (M : fm_M) (hI : fm_I nb ad M) (p0 : Int32) (b_p0 : 0 ≤ p0.toInt ∧ p0.toInt ≤ 15) : Met l yX12_takeOf wsX12_takeOf ({ frames := 42, cells := 0, slots := 0, locals := 911 }) (va_Pc [.ref (ad 60 0), .int p0] (fm_P D ad C nb M)) (va_Qi (fun (r : Int32) (u : fm_M) => fm_I nb ad u ∧ fm_same [60062, 60063, 60064, 60065, 60066, 60067, 60069, 60070, 168000] M u ∧ True) (fun u t => fm_at D ad C nb u t.heap) (fm_A nb ad)) 0 0 (fm_A nb ad) := by
  refine Met.ofW (cc := cX12_takeOf) (maxL := 3) (ret := (some .int)) (by decide) rfl ?_
  intro p e s m args below meth c s₁ B hml hv
  obtain ⟨rfl, hw, hc⟩ := hv
  have hx := B.exec
  have hb := B.bytes
  have hr := B.returns
  have hts := atoms_spec (ws := wsX12_takeOf) B.pre
  have hown : s.vm.findClass RX12 = some m.cls := findClass_of_methodNamed B.named
  have hinX12 : ∀ w ∈ u_ws RX12 TX12 79, w ∈ wsX12_takeOf := fun w h => List.mem_cons_of_mem _ (iT_X12 w h)
  have hS : va_S (fm_A nb ad) s.heap s.heap [] := va_S.rf
  have hE : fm_same [60062, 60063, 60064, 60065, 60066, 60067, 60069, 60070, 168000] M M := fm_same.rf
  have hl := lv_entry ([.ref (ad 60 0), .int p0]) (n := 3) (Nat.le_of_ble_eq_true rfl)
  rw [lg_entry_eq]
  generalize (lg_sl ([.ref (ad 60 0), .int p0]) ++ List.replicate (3 - (lg_sl ([.ref (ad 60 0), .int p0])).length) Slot.unset).toArray = ls at hl ⊢
  have hl : lv_has ls 3 [(0, .ref (ad 60 0)), (1, .int p0)] := hl
  refine lv_aload_n hx hb dX12_takeOf_0 rfl (lv_at hl 0 rfl) ?_
  refine fm_getG (a := 60) (j := 68) (T := TX12) (N := 79) hx hb hts hinX12 hown hc hw kl_60 sh_60 rfl (by decide) rfl (hI.to kl_60 tg_60_68) (hts (.fieldLink RX12 143 "RedTentModel" "names" "[I") (List.mem_cons_of_mem _ tw_5_188)) (fun _ h9 => h9) dX12_takeOf_1 ?_
  refine lv_iconst (v := 0) hx hb dX12_takeOf_4 (by decide) ?_
  refine lv_aload_n hx hb dX12_takeOf_5 rfl (lv_at hl 0 rfl) ?_
  refine fm_getG (a := 60) (j := 41) (T := TX12) (N := 79) hx hb hts hinX12 hown hc hw kl_60 sh_60 rfl (by decide) rfl (hI.to kl_60 tg_60_41) (hts (.fieldLink RX12 104 "RedTentModel" "strength" "[I") (List.mem_cons_of_mem _ tw_5_161)) (fun _ h9 => h9) dX12_takeOf_6 ?_
  refine lv_iload_n hx hb dX12_takeOf_9 rfl (lv_at hl 1 rfl) ?_
  refine fm_iald (a := 141) hx hb hc hw hI kl_141 sh_141 ty_141 bd_141 (by omega) dX12_takeOf_10 (fun x1 ex1 bx1 => ?_)
  refine fm_iast (a := 168) hx hb hc hw hI hE hS kl_168 sh_168 ty_168 bd_168 (by decide) (zi_lt _) cd_168 (by decide) dX12_takeOf_11 (fun M2 H locs eM2 hw hI hE hS => ?_)
  refine lv_aload_n hx hb dX12_takeOf_12 rfl (lv_at hl 0 rfl) ?_
  refine fm_getG (a := 60) (j := 68) (T := TX12) (N := 79) hx hb hts hinX12 hown hc hw kl_60 sh_60 rfl (by decide) rfl (hI.to kl_60 tg_60_68) (hts (.fieldLink RX12 143 "RedTentModel" "names" "[I") (List.mem_cons_of_mem _ tw_5_188)) (fun _ h9 => h9) dX12_takeOf_13 ?_
  refine lv_iconst (v := 1) hx hb dX12_takeOf_16 (by decide) ?_
  refine lv_aload_n hx hb dX12_takeOf_17 rfl (lv_at hl 0 rfl) ?_
  refine fm_getG (a := 60) (j := 42) (T := TX12) (N := 79) hx hb hts hinX12 hown hc hw kl_60 sh_60 rfl (by decide) rfl (hI.to kl_60 tg_60_42) (hts (.fieldLink RX12 107 "RedTentModel" "hurt" "[I") (List.mem_cons_of_mem _ tw_5_162)) (fun _ h9 => h9) dX12_takeOf_18 ?_
  refine lv_iload_n hx hb dX12_takeOf_21 rfl (lv_at hl 1 rfl) ?_
  refine fm_iald (a := 142) hx hb hc hw hI kl_142 sh_142 ty_142 bd_142 (by omega) dX12_takeOf_22 (fun x3 ex3 bx3 => ?_)
  refine fm_iast (a := 168) hx hb hc hw hI hE hS kl_168 sh_168 ty_168 bd_168 (by decide) (zi_lt _) cd_168 (by decide) dX12_takeOf_23 (fun M4 H locs eM4 hw hI hE hS => ?_)
  refine lv_aload_n hx hb dX12_takeOf_24 rfl (lv_at hl 0 rfl) ?_
  refine fm_getG (a := 60) (j := 68) (T := TX12) (N := 79) hx hb hts hinX12 hown hc hw kl_60 sh_60 rfl (by decide) rfl (hI.to kl_60 tg_60_68) (hts (.fieldLink RX12 143 "RedTentModel" "names" "[I") (List.mem_cons_of_mem _ tw_5_188)) (fun _ h9 => h9) dX12_takeOf_25 ?_
  refine lv_iconst (v := 2) hx hb dX12_takeOf_28 (by decide) ?_
  refine lv_aload_n hx hb dX12_takeOf_29 rfl (lv_at hl 0 rfl) ?_
  refine fm_getG (a := 60) (j := 43) (T := TX12) (N := 79) hx hb hts hinX12 hown hc hw kl_60 sh_60 rfl (by decide) rfl (hI.to kl_60 tg_60_43) (hts (.fieldLink RX12 110 "RedTentModel" "skill" "[I") (List.mem_cons_of_mem _ tw_5_163)) (fun _ h9 => h9) dX12_takeOf_30 ?_
  refine lv_iload_n hx hb dX12_takeOf_33 rfl (lv_at hl 1 rfl) ?_
  refine fm_iald (a := 143) hx hb hc hw hI kl_143 sh_143 ty_143 bd_143 (by omega) dX12_takeOf_34 (fun x5 ex5 bx5 => ?_)
  refine fm_iast (a := 168) hx hb hc hw hI hE hS kl_168 sh_168 ty_168 bd_168 (by decide) (zi_lt _) cd_168 (by decide) dX12_takeOf_35 (fun M6 H locs eM6 hw hI hE hS => ?_)
  refine lv_aload_n hx hb dX12_takeOf_36 rfl (lv_at hl 0 rfl) ?_
  refine fm_getG (a := 60) (j := 68) (T := TX12) (N := 79) hx hb hts hinX12 hown hc hw kl_60 sh_60 rfl (by decide) rfl (hI.to kl_60 tg_60_68) (hts (.fieldLink RX12 143 "RedTentModel" "names" "[I") (List.mem_cons_of_mem _ tw_5_188)) (fun _ h9 => h9) dX12_takeOf_37 ?_
  refine lv_iconst (v := 3) hx hb dX12_takeOf_40 (by decide) ?_
  refine lv_aload_n hx hb dX12_takeOf_41 rfl (lv_at hl 0 rfl) ?_
  refine fm_getI (a := 60) (j := 0) (T := TX12) (N := 79) hx hb hts hinX12 hown hc hw hI kl_60 sh_60 rfl (by decide) rfl bd_60_0 (hts (.fieldLink RX12 201 "RedTentModel" "hour" "I") (List.mem_cons_of_mem _ tw_5_120)) (fun _ h9 => h9) dX12_takeOf_42 (fun x7 ex7 bx7 => ?_)
  refine fm_iast (a := 168) hx hb hc hw hI hE hS kl_168 sh_168 ty_168 bd_168 (by decide) (zi_lt _) cd_168 (by decide) dX12_takeOf_45 (fun M8 H locs eM8 hw hI hE hS => ?_)
  refine lv_aload_n hx hb dX12_takeOf_46 rfl (lv_at hl 0 rfl) ?_
  refine fm_getG (a := 60) (j := 68) (T := TX12) (N := 79) hx hb hts hinX12 hown hc hw kl_60 sh_60 rfl (by decide) rfl (hI.to kl_60 tg_60_68) (hts (.fieldLink RX12 143 "RedTentModel" "names" "[I") (List.mem_cons_of_mem _ tw_5_188)) (fun _ h9 => h9) dX12_takeOf_47 ?_
  refine lv_iconst (v := 4) hx hb dX12_takeOf_50 (by decide) ?_
  refine lv_aload_n hx hb dX12_takeOf_51 rfl (lv_at hl 0 rfl) ?_
  refine fm_getG (a := 60) (j := 15) (T := TX12) (N := 79) hx hb hts hinX12 hown hc hw kl_60 sh_60 rfl (by decide) rfl (hI.to kl_60 tg_60_15) (hts (.fieldLink RX12 43 "RedTentModel" "fuel" "[I") (List.mem_cons_of_mem _ tw_5_135)) (fun _ h9 => h9) dX12_takeOf_52 ?_
  refine lv_aload_n hx hb dX12_takeOf_55 rfl (lv_at hl 0 rfl) ?_
  refine fm_getG (a := 60) (j := 40) (T := TX12) (N := 79) hx hb hts hinX12 hown hc hw kl_60 sh_60 rfl (by decide) rfl (hI.to kl_60 tg_60_40) (hts (.fieldLink RX12 101 "RedTentModel" "manBody" "[I") (List.mem_cons_of_mem _ tw_5_160)) (fun _ h9 => h9) dX12_takeOf_56 ?_
  refine lv_iload_n hx hb dX12_takeOf_59 rfl (lv_at hl 1 rfl) ?_
  refine fm_iald (a := 140) hx hb hc hw hI kl_140 sh_140 ty_140 bd_140 (by omega) dX12_takeOf_60 (fun x9 ex9 bx9 => ?_)
  refine fm_iald (a := 115) hx hb hc hw hI kl_115 sh_115 ty_115 bd_115 (by omega) dX12_takeOf_61 (fun x10 ex10 bx10 => ?_)
  refine fm_iast (a := 168) hx hb hc hw hI hE hS kl_168 sh_168 ty_168 bd_168 (by decide) (zi_lt _) cd_168 (by decide) dX12_takeOf_62 (fun M11 H locs eM11 hw hI hE hS => ?_)
  refine lv_aload_n hx hb dX12_takeOf_63 rfl (lv_at hl 0 rfl) ?_
  refine fm_getG (a := 60) (j := 68) (T := TX12) (N := 79) hx hb hts hinX12 hown hc hw kl_60 sh_60 rfl (by decide) rfl (hI.to kl_60 tg_60_68) (hts (.fieldLink RX12 143 "RedTentModel" "names" "[I") (List.mem_cons_of_mem _ tw_5_188)) (fun _ h9 => h9) dX12_takeOf_64 ?_
  refine lv_iconst (v := 5) hx hb dX12_takeOf_67 (by decide) ?_
  refine lv_iconst (v := 0) hx hb dX12_takeOf_68 (by decide) ?_
  refine fm_iast (a := 168) hx hb hc hw hI hE hS kl_168 sh_168 ty_168 bd_168 (by decide) (by decide) cd_168 (by decide) dX12_takeOf_69 (fun M12 H locs eM12 hw hI hE hS => ?_)
  refine lv_aload_n hx hb dX12_takeOf_70 rfl (lv_at hl 0 rfl) ?_
  refine lv_sipush (v := 160) hx hb dX12_takeOf_71 (by decide) ?_
  refine lv_aload_n hx hb dX12_takeOf_74 rfl (lv_at hl 0 rfl) ?_
  refine fm_getI (a := 60) (j := 56) (T := TX12) (N := 79) hx hb hts hinX12 hown hc hw hI kl_60 sh_60 rfl (by decide) rfl bd_60_56 (hts (.fieldLink RX12 431 "RedTentModel" "order" "I") (List.mem_cons_of_mem _ tw_5_176)) (fun _ h9 => h9) dX12_takeOf_75 (fun x13 ex13 bx13 => ?_)
  refine fx_imul hx hb dX12_takeOf_78 zk_160 rfl (by omega) (fun y14 ey14 ty14 => ?_)
  refine lv_aload_n hx hb dX12_takeOf_79 rfl (lv_at hl 0 rfl) ?_
  refine fm_getG (a := 60) (j := 54) (T := TX12) (N := 79) hx hb hts hinX12 hown hc hw kl_60 sh_60 rfl (by decide) rfl (hI.to kl_60 tg_60_54) (hts (.fieldLink RX12 131 "RedTentModel" "textMany" "[I") (List.mem_cons_of_mem _ tw_5_174)) (fun _ h9 => h9) dX12_takeOf_80 ?_
  refine lv_aload_n hx hb dX12_takeOf_83 rfl (lv_at hl 0 rfl) ?_
  refine fm_getI (a := 60) (j := 56) (T := TX12) (N := 79) hx hb hts hinX12 hown hc hw hI kl_60 sh_60 rfl (by decide) rfl bd_60_56 (hts (.fieldLink RX12 431 "RedTentModel" "order" "I") (List.mem_cons_of_mem _ tw_5_176)) (fun _ h9 => h9) dX12_takeOf_84 (fun x15 ex15 bx15 => ?_)
  obtain rfl : x13 = x15 := by rw [ex15]; exact ex13
  refine fm_iald (a := 154) hx hb hc hw hI kl_154 sh_154 ty_154 bd_154 (by omega) dX12_takeOf_87 (fun x16 ex16 bx16 => ?_)
  refine fm_ci (va_runV (As := [.int y14, .int x16]) (rest := []) ⟨hx, hb, hml, hown, hts⟩ (fc_X12_goThrough l D ad C nb M12 hI y14 x16 (by omega) (by omega)) (cwV 2 hts gX12_takeOf_X12_goThrough rfl rfl rfl (by decide +kernel) ⟨Nat.le_of_ble_eq_true rfl, Nat.le_of_ble_eq_true rfl⟩) (fm_preV hc hw hS kl_60 sh_60 rfl) rfl rfl hl.1 rfl (lv_room (Nat.le_of_ble_eq_true rfl)) dX12_takeOf_88 ⟨by decide +kernel, by decide +kernel⟩) hS hc (fun r17 M18 H locs hr17 hw hS => ?_)
  obtain ⟨hI, hEM18, hr17⟩ := hr17
  have hE := hE.tr hEM18 (by decide)
  refine lv_istore_n (lv' := [(2, .int r17), (0, .ref (ad 60 0)), (1, .int p0)]) hx hb dX12_takeOf_91 rfl hl (by decide) rfl (fun ls hl => ?_)
  refine lv_aload_n hx hb dX12_takeOf_92 rfl (lv_at hl 1 rfl) ?_
  refine fm_getI (a := 60) (j := 69) (T := TX12) (N := 79) hx hb hts hinX12 hown hc hw hI kl_60 sh_60 rfl (by decide) rfl bd_60_69 (hts (.fieldLink RX12 418 "RedTentModel" "takes" "I") (List.mem_cons_of_mem _ tw_5_189)) (fun _ h9 => h9) dX12_takeOf_93 (fun x19 ex19 bx19 => ?_)
  exact W.iret (v := x19) hx hb hr (fun t ht hW => ⟨⟨x19, M18, rfl, ⟨hI, hE, trivial⟩, by show fm_at D ad C nb _ t.heap; rw [ht]; exact hw⟩, hS.F ht⟩) hS.2.2 dX12_takeOf_96
set_option maxHeartbeats 400000 in
set_option maxRecDepth 20000 in
theorem fc_X12_goOf (l : Launch) (D : va_G) (ad : Nat → Nat → Nat) (C : Nat → Nat → ClassId) (nb : Nat) (M : fm_M) (hI : fm_I nb ad M) (p0 p1 : Int32) (b_p0 : 0 ≤ p0.toInt ∧ p0.toInt ≤ 11) (b_p1 : 0 ≤ p1.toInt ∧ p1.toInt ≤ 11) : Met l yX12_goOf wsX12_goOf ({ frames := 42, cells := 0, slots := 0, locals := 911 }) (va_Pc [.ref (ad 60 0), .int p0, .int p1] (fm_P D ad C nb M)) (va_Qi (fun (r : Int32) (u : fm_M) => fm_I nb ad u ∧ fm_same [60062, 60063, 60064, 60065, 60066, 60067, 60069, 60070, 168000] M u ∧ True) (fun u t => fm_at D ad C nb u t.heap) (fm_A nb ad)) 0 0 (fm_A nb ad) := by
  refine Met.ofW (cc := cX12_goOf) (maxL := 8) (ret := (some .int)) (by decide) rfl ?_
  intro p e s m args below meth c s₁ B hml hv
  obtain ⟨rfl, hw, hc⟩ := hv
  have hx := B.exec
  have hb := B.bytes
  have hr := B.returns
  have hts := atoms_spec (ws := wsX12_goOf) B.pre
  have hown : s.vm.findClass RX12 = some m.cls := findClass_of_methodNamed B.named
  have hinX12 : ∀ w ∈ u_ws RX12 TX12 79, w ∈ wsX12_goOf := fun w h => List.mem_cons_of_mem _ (iT_X12 w h)
  have hS : va_S (fm_A nb ad) s.heap s.heap [] := va_S.rf
  have hE : fm_same [60062, 60063, 60064, 60065, 60066, 60067, 60069, 60070, 168000] M M := fm_same.rf
  have hl := lv_entry ([.ref (ad 60 0), .int p0, .int p1]) (n := 8) (Nat.le_of_ble_eq_true rfl)
  rw [lg_entry_eq]
  generalize (lg_sl ([.ref (ad 60 0), .int p0, .int p1]) ++ List.replicate (8 - (lg_sl ([.ref (ad 60 0), .int p0, .int p1])).length) Slot.unset).toArray = ls at hl ⊢
  have hl : lv_has ls 8 [(0, .ref (ad 60 0)), (1, .int p0), (2, .int p1)] := hl
  refine lv_aload_n hx hb dX12_goOf_0 rfl (lv_at hl 0 rfl) ?_
  refine lv_iload_n hx hb dX12_goOf_1 rfl (lv_at hl 2 rfl) ?_
  refine lv_aload_n hx hb dX12_goOf_2 rfl (lv_at hl 0 rfl) ?_
  refine fm_getI (a := 60) (j := 0) (T := TX12) (N := 79) hx hb hts hinX12 hown hc hw hI kl_60 sh_60 rfl (by decide) rfl bd_60_0 (hts (.fieldLink RX12 201 "RedTentModel" "hour" "I") (List.mem_cons_of_mem _ tw_5_120)) (fun _ h9 => h9) dX12_goOf_3 (fun x1 ex1 bx1 => ?_)
  refine lv_aload_n hx hb dX12_goOf_6 rfl (lv_at hl 0 rfl) ?_
  refine fm_getI (a := 60) (j := 0) (T := TX12) (N := 79) hx hb hts hinX12 hown hc hw hI kl_60 sh_60 rfl (by decide) rfl bd_60_0 (hts (.fieldLink RX12 201 "RedTentModel" "hour" "I") (List.mem_cons_of_mem _ tw_5_120)) (fun _ h9 => h9) dX12_goOf_7 (fun x2 ex2 bx2 => ?_)
  obtain rfl : x1 = x2 := by rw [ex2]; exact ex1
  refine vp_callSl (va_Run.run (va_runV (As := [.int p1, .int x1, .int x1]) (rest := []) ⟨hx, hb, hml, hown, hts⟩ (fc_X12_patchOf l D ad C nb M hI p1 x1 x1 (by omega) (by omega)) (cwV 3 hts gX12_goOf_X12_patchOf rfl rfl rfl (by decide +kernel) ⟨Nat.le_of_ble_eq_true rfl, Nat.le_of_ble_eq_true rfl⟩) (fm_preV hc hw hS kl_60 sh_60 rfl) rfl rfl hl.1 rfl (lv_room (Nat.le_of_ble_eq_true rfl)) dX12_goOf_10 ⟨by decide +kernel, by decide +kernel⟩)) (fun r3 hr3 => ?_)
  refine lv_lstore_n (lv' := [(3, .long r3), (0, .ref (ad 60 0)), (1, .int p0), (2, .int p1)]) hx hb dX12_goOf_13 rfl hl (by decide) rfl (fun ls hl => ?_)
  refine lv_bipush (v := 99) hx hb dX12_goOf_14 (by decide) ?_
  refine lv_istore (lv' := [(5, .int 99), (3, .long r3), (0, .ref (ad 60 0)), (1, .int p0), (2, .int p1)]) hx hb dX12_goOf_16 hl (by decide) rfl (fun ls hl => ?_)
  refine lv_iconst (v := 0) hx hb dX12_goOf_18 (by decide) ?_
  refine lv_istore (lv' := [(6, .int 0), (5, .int 99), (3, .long r3), (0, .ref (ad 60 0)), (1, .int p0), (2, .int p1)]) hx hb dX12_goOf_19 hl (by decide) rfl (fun ls hl => ?_)
  have lp : ∀ (n_lp : Nat) (lp_6 : Int32) (lp_5 : Int32) (M_lp : fm_M), (64 - lp_6.toInt).toNat < n_lp → (0 ≤ lp_6.toInt ∧ lp_6.toInt ≤ 64) → (0 ≤ lp_5.toInt ∧ lp_5.toInt ≤ 99) → fm_I nb ad M_lp → fm_same [60062, 60063, 60064, 60065, 60066, 60067, 60069, 60070, 168000] M M_lp → ∀ (H : Heap) (locs : List Loc), fm_at D ad C nb M_lp H → va_S (fm_A nb ad) s.heap H locs → ∀ (ls : Array Slot), lv_has ls 8 [(6, .int lp_6), (5, .int lp_5), (3, .long r3), (0, .ref (ad 60 0)), (1, .int p0), (2, .int p1)] → W p l e (headSpec wsX12_goOf ({ frames := 42, cells := 0, slots := 0, locals := 911 })).room s m ([.ref (ad 60 0), .int p0, .int p1] : List Value).toArray below meth c H locs 0 0 (MQ below (va_Qi (fun (r : Int32) (u : fm_M) => fm_I nb ad u ∧ fm_same [60062, 60063, 60064, 60065, 60066, 60067, 60069, 60070, 168000] M u ∧ True) (fun u t => fm_at D ad C nb u t.heap) (fm_A nb ad)) ([.ref (ad 60 0), .int p0, .int p1] : List Value).toArray s 0 0 (fm_A nb ad)) (F0 m 21 ls []) := by
    intro n_lp
    induction n_lp with
    | zero => intro lp_6 lp_5 M_lp hm_lp b_lp_6 b_lp_5 hI hE H locs hw hS ls hl; exact absurd hm_lp (Nat.not_lt_zero _)
    | succ n_lp ih_lp =>
      intro lp_6 lp_5 M_lp hm_lp b_lp_6 b_lp_5 hI hE H locs hw hS ls hl
      refine lv_iload hx hb dX12_goOf_21 (lv_at hl 0 rfl) ?_
      refine lv_bipush (v := 64) hx hb dX12_goOf_23 (by decide) ?_
      refine fx_icmp_ge (tgt := 74) hx hb dX12_goOf_25 (by decide) rfl zk_64 (fun c4 => ?_) (fun c4 => ?_)
      · refine lv_aload_n hx hb dX12_goOf_74 rfl (lv_at hl 3 rfl) ?_
        refine fm_getG (a := 60) (j := 68) (T := TX12) (N := 79) hx hb hts hinX12 hown hc hw kl_60 sh_60 rfl (by decide) rfl (hI.to kl_60 tg_60_68) (hts (.fieldLink RX12 143 "RedTentModel" "names" "[I") (List.mem_cons_of_mem _ tw_5_188)) (fun _ h9 => h9) dX12_goOf_75 ?_
        refine lv_iconst (v := 0) hx hb dX12_goOf_78 (by decide) ?_
        refine lv_iconst (v := 0) hx hb dX12_goOf_79 (by decide) ?_
        refine fm_iast (a := 168) hx hb hc hw hI hE hS kl_168 sh_168 ty_168 bd_168 (by decide) (by decide) cd_168 (by decide) dX12_goOf_80 (fun M5 H locs eM5 hw hI hE hS => ?_)
        refine lv_aload_n hx hb dX12_goOf_81 rfl (lv_at hl 3 rfl) ?_
        refine fm_getG (a := 60) (j := 68) (T := TX12) (N := 79) hx hb hts hinX12 hown hc hw kl_60 sh_60 rfl (by decide) rfl (hI.to kl_60 tg_60_68) (hts (.fieldLink RX12 143 "RedTentModel" "names" "[I") (List.mem_cons_of_mem _ tw_5_188)) (fun _ h9 => h9) dX12_goOf_82 ?_
        refine lv_iconst (v := 1) hx hb dX12_goOf_85 (by decide) ?_
        refine lv_iconst (v := 0) hx hb dX12_goOf_86 (by decide) ?_
        refine fm_iast (a := 168) hx hb hc hw hI hE hS kl_168 sh_168 ty_168 bd_168 (by decide) (by decide) cd_168 (by decide) dX12_goOf_87 (fun M6 H locs eM6 hw hI hE hS => ?_)
        refine lv_aload_n hx hb dX12_goOf_88 rfl (lv_at hl 3 rfl) ?_
        refine fm_getG (a := 60) (j := 68) (T := TX12) (N := 79) hx hb hts hinX12 hown hc hw kl_60 sh_60 rfl (by decide) rfl (hI.to kl_60 tg_60_68) (hts (.fieldLink RX12 143 "RedTentModel" "names" "[I") (List.mem_cons_of_mem _ tw_5_188)) (fun _ h9 => h9) dX12_goOf_89 ?_
        refine lv_iconst (v := 2) hx hb dX12_goOf_92 (by decide) ?_
        refine lv_iconst (v := 0) hx hb dX12_goOf_93 (by decide) ?_
        refine fm_iast (a := 168) hx hb hc hw hI hE hS kl_168 sh_168 ty_168 bd_168 (by decide) (by decide) cd_168 (by decide) dX12_goOf_94 (fun M7 H locs eM7 hw hI hE hS => ?_)
        refine lv_aload_n hx hb dX12_goOf_95 rfl (lv_at hl 3 rfl) ?_
        refine fm_getG (a := 60) (j := 68) (T := TX12) (N := 79) hx hb hts hinX12 hown hc hw kl_60 sh_60 rfl (by decide) rfl (hI.to kl_60 tg_60_68) (hts (.fieldLink RX12 143 "RedTentModel" "names" "[I") (List.mem_cons_of_mem _ tw_5_188)) (fun _ h9 => h9) dX12_goOf_96 ?_
        refine lv_iconst (v := 3) hx hb dX12_goOf_99 (by decide) ?_
        refine lv_aload_n hx hb dX12_goOf_100 rfl (lv_at hl 3 rfl) ?_
        refine fm_getI (a := 60) (j := 0) (T := TX12) (N := 79) hx hb hts hinX12 hown hc hw hI kl_60 sh_60 rfl (by decide) rfl bd_60_0 (hts (.fieldLink RX12 201 "RedTentModel" "hour" "I") (List.mem_cons_of_mem _ tw_5_120)) (fun _ h9 => h9) dX12_goOf_101 (fun x8 ex8 bx8 => ?_)
        refine fm_iast (a := 168) hx hb hc hw hI hE hS kl_168 sh_168 ty_168 bd_168 (by decide) (zi_lt _) cd_168 (by decide) dX12_goOf_104 (fun M9 H locs eM9 hw hI hE hS => ?_)
        refine lv_aload_n hx hb dX12_goOf_105 rfl (lv_at hl 3 rfl) ?_
        refine fm_getG (a := 60) (j := 68) (T := TX12) (N := 79) hx hb hts hinX12 hown hc hw kl_60 sh_60 rfl (by decide) rfl (hI.to kl_60 tg_60_68) (hts (.fieldLink RX12 143 "RedTentModel" "names" "[I") (List.mem_cons_of_mem _ tw_5_188)) (fun _ h9 => h9) dX12_goOf_106 ?_
        refine lv_iconst (v := 4) hx hb dX12_goOf_109 (by decide) ?_
        refine lv_aload_n hx hb dX12_goOf_110 rfl (lv_at hl 3 rfl) ?_
        refine fm_getG (a := 60) (j := 15) (T := TX12) (N := 79) hx hb hts hinX12 hown hc hw kl_60 sh_60 rfl (by decide) rfl (hI.to kl_60 tg_60_15) (hts (.fieldLink RX12 43 "RedTentModel" "fuel" "[I") (List.mem_cons_of_mem _ tw_5_135)) (fun _ h9 => h9) dX12_goOf_111 ?_
        refine lv_iload_n hx hb dX12_goOf_114 rfl (lv_at hl 4 rfl) ?_
        refine fm_iald (a := 115) hx hb hc hw hI kl_115 sh_115 ty_115 bd_115 (by omega) dX12_goOf_115 (fun x10 ex10 bx10 => ?_)
        refine fm_iast (a := 168) hx hb hc hw hI hE hS kl_168 sh_168 ty_168 bd_168 (by decide) (zi_lt _) cd_168 (by decide) dX12_goOf_116 (fun M11 H locs eM11 hw hI hE hS => ?_)
        refine lv_aload_n hx hb dX12_goOf_117 rfl (lv_at hl 3 rfl) ?_
        refine fm_getG (a := 60) (j := 68) (T := TX12) (N := 79) hx hb hts hinX12 hown hc hw kl_60 sh_60 rfl (by decide) rfl (hI.to kl_60 tg_60_68) (hts (.fieldLink RX12 143 "RedTentModel" "names" "[I") (List.mem_cons_of_mem _ tw_5_188)) (fun _ h9 => h9) dX12_goOf_118 ?_
        refine lv_iconst (v := 5) hx hb dX12_goOf_121 (by decide) ?_
        refine lv_iload hx hb dX12_goOf_122 (lv_at hl 1 rfl) ?_
        refine fm_iast (a := 168) hx hb hc hw hI hE hS kl_168 sh_168 ty_168 bd_168 (by decide) (zi_lt _) cd_168 (by decide) dX12_goOf_124 (fun M12 H locs eM12 hw hI hE hS => ?_)
        refine lv_aload_n hx hb dX12_goOf_125 rfl (lv_at hl 3 rfl) ?_
        refine lv_sipush (v := 160) hx hb dX12_goOf_126 (by decide) ?_
        refine lv_aload_n hx hb dX12_goOf_129 rfl (lv_at hl 3 rfl) ?_
        refine fm_getI (a := 60) (j := 56) (T := TX12) (N := 79) hx hb hts hinX12 hown hc hw hI kl_60 sh_60 rfl (by decide) rfl bd_60_56 (hts (.fieldLink RX12 431 "RedTentModel" "order" "I") (List.mem_cons_of_mem _ tw_5_176)) (fun _ h9 => h9) dX12_goOf_130 (fun x13 ex13 bx13 => ?_)
        refine fx_imul hx hb dX12_goOf_133 zk_160 rfl (by omega) (fun y14 ey14 ty14 => ?_)
        refine lv_aload_n hx hb dX12_goOf_134 rfl (lv_at hl 3 rfl) ?_
        refine fm_getG (a := 60) (j := 54) (T := TX12) (N := 79) hx hb hts hinX12 hown hc hw kl_60 sh_60 rfl (by decide) rfl (hI.to kl_60 tg_60_54) (hts (.fieldLink RX12 131 "RedTentModel" "textMany" "[I") (List.mem_cons_of_mem _ tw_5_174)) (fun _ h9 => h9) dX12_goOf_135 ?_
        refine lv_aload_n hx hb dX12_goOf_138 rfl (lv_at hl 3 rfl) ?_
        refine fm_getI (a := 60) (j := 56) (T := TX12) (N := 79) hx hb hts hinX12 hown hc hw hI kl_60 sh_60 rfl (by decide) rfl bd_60_56 (hts (.fieldLink RX12 431 "RedTentModel" "order" "I") (List.mem_cons_of_mem _ tw_5_176)) (fun _ h9 => h9) dX12_goOf_139 (fun x15 ex15 bx15 => ?_)
        obtain rfl : x13 = x15 := by rw [ex15]; exact ex13
        refine fm_iald (a := 154) hx hb hc hw hI kl_154 sh_154 ty_154 bd_154 (by omega) dX12_goOf_142 (fun x16 ex16 bx16 => ?_)
        refine fm_ci (va_runV (As := [.int y14, .int x16]) (rest := []) ⟨hx, hb, hml, hown, hts⟩ (fc_X12_goThrough l D ad C nb M12 hI y14 x16 (by omega) (by omega)) (cwV 2 hts gX12_goOf_X12_goThrough rfl rfl rfl (by decide +kernel) ⟨Nat.le_of_ble_eq_true rfl, Nat.le_of_ble_eq_true rfl⟩) (fm_preV hc hw hS kl_60 sh_60 rfl) rfl rfl hl.1 rfl (lv_room (Nat.le_of_ble_eq_true rfl)) dX12_goOf_143 ⟨by decide +kernel, by decide +kernel⟩) hS hc (fun r17 M18 H locs hr17 hw hS => ?_)
        obtain ⟨hI, hEM18, hr17⟩ := hr17
        have hE := hE.tr hEM18 (by decide)
        refine lv_istore (lv' := [(6, .int r17), (5, .int lp_5), (3, .long r3), (0, .ref (ad 60 0)), (1, .int p0), (2, .int p1)]) hx hb dX12_goOf_146 hl (by decide) rfl (fun ls hl => ?_)
        refine lv_aload_n hx hb dX12_goOf_148 rfl (lv_at hl 3 rfl) ?_
        refine fm_getI (a := 60) (j := 70) (T := TX12) (N := 79) hx hb hts hinX12 hown hc hw hI kl_60 sh_60 rfl (by decide) rfl bd_60_70 (hts (.fieldLink RX12 425 "RedTentModel" "goes" "I") (List.mem_cons_of_mem _ tw_5_190)) (fun _ h9 => h9) dX12_goOf_149 (fun x19 ex19 bx19 => ?_)
        exact W.iret (v := x19) hx hb hr (fun t ht hW => ⟨⟨x19, M18, rfl, ⟨hI, hE, trivial⟩, by show fm_at D ad C nb _ t.heap; rw [ht]; exact hw⟩, hS.F ht⟩) hS.2.2 dX12_goOf_152
      · refine lv_iload hx hb dX12_goOf_28 (lv_at hl 0 rfl) ?_
        refine lv_aload_n hx hb dX12_goOf_30 rfl (lv_at hl 3 rfl) ?_
        refine fm_getG (a := 60) (j := 12) (T := TX12) (N := 79) hx hb hts hinX12 hown hc hw kl_60 sh_60 rfl (by decide) rfl (hI.to kl_60 tg_60_12) (hts (.fieldLink RX12 34 "RedTentModel" "cellOf" "[I") (List.mem_cons_of_mem _ tw_5_132)) (fun _ h9 => h9) dX12_goOf_31 ?_
        refine lv_iload_n hx hb dX12_goOf_34 rfl (lv_at hl 4 rfl) ?_
        refine fm_iald (a := 112) hx hb hc hw hI kl_112 sh_112 ty_112 bd_112 (by omega) dX12_goOf_35 (fun x20 ex20 bx20 => ?_)
        refine vp_callSi (va_Run.run (va_runS (As := [.int lp_6, .int x20]) (rest := []) ⟨hx, hb, hml, hown, hts⟩ (fc_X12_apart l lp_6 x20 (by omega) (by omega)) (va_cwS 2 hts gX12_goOf_X12_apart rfl rfl rfl (by decide +kernel) ⟨Nat.le_of_ble_eq_true rfl, Nat.le_of_ble_eq_true rfl⟩) ⟨fun a U g mk q => q, fun U hU hW => ⟨rfl, trivial⟩⟩ rfl rfl hl.1 rfl (lv_room (Nat.le_of_ble_eq_true rfl)) dX12_goOf_36 ⟨by decide +kernel, by decide +kernel⟩)) (fun r21 hr21 => ?_)
        refine lv_istore (lv' := [(7, .int r21), (6, .int lp_6), (5, .int lp_5), (3, .long r3), (0, .ref (ad 60 0)), (1, .int p0), (2, .int p1)]) hx hb dX12_goOf_39 hl (by decide) rfl (fun ls hl => ?_)
        refine lv_lload_n hx hb dX12_goOf_41 rfl (lv_at hl 3 rfl) ?_
        refine lv_iload hx hb dX12_goOf_42 (lv_at hl 1 rfl) ?_
        refine lv_lushr (v := (r3.toUInt64 >>> (lp_6.toInt64.toUInt64 &&& Int64.toUInt64 63)).toInt64) hx hb dX12_goOf_44 rfl ?_
        refine lv_topl (fun y22 ey22 => ?_)
        refine lv_lconst (v := 1) hx hb dX12_goOf_45 (by decide) ?_
        refine lv_land hx hb dX12_goOf_46 ?_
        refine lv_topl (fun y23 ey23 => ?_)
        refine lv_lconst (v := 1) hx hb dX12_goOf_47 (by decide) ?_
        refine W.lcmp hx hb dX12_goOf_48 ?_
        refine fx_lif_ne (tgt := 64) hx hb dX12_goOf_49 (by decide) (fun c24 => ?_) (fun c24 => ?_)
        · refine lv_iload hx hb dX12_goOf_64 (lv_at hl 2 rfl) ?_
          refine lv_istore (lv' := [(5, .int lp_5), (7, .int r21), (6, .int lp_6), (3, .long r3), (0, .ref (ad 60 0)), (1, .int p0), (2, .int p1)]) hx hb dX12_goOf_66 hl (by decide) rfl (fun ls hl => ?_)
          obtain ⟨y25, ey25⟩ : ∃ y : Int32, y = lp_6 + 1 := ⟨_, rfl⟩
          have ty25 : y25.toInt = lp_6.toInt + 1 := by rw [ey25, zi_add _ _ (by rw [zk_1]; omega) (by rw [zk_1]; omega), zk_1]
          refine lv_iinc (v := y25) (lv' := [(6, .int y25), (5, .int lp_5), (7, .int r21), (3, .long r3), (0, .ref (ad 60 0)), (1, .int p0), (2, .int p1)]) hx hb dX12_goOf_68 hl (k := 2) rfl (by rw [ey25]; rfl) (by decide) rfl (fun ls hl => ?_)
          refine lv_goto (tgt := 21) hx hb dX12_goOf_71 (by decide) ?_
          exact ih_lp y25 lp_5 M_lp (by omega) (by omega) (by omega) hI hE _ _ hw hS ls (lv_sub hl [0, 1, 3, 4, 5, 6] rfl)
        · refine lv_iload hx hb dX12_goOf_52 (lv_at hl 0 rfl) ?_
          refine lv_iload hx hb dX12_goOf_54 (lv_at hl 2 rfl) ?_
          refine fx_icmp_ge (tgt := 64) hx hb dX12_goOf_56 (by decide) rfl rfl (fun c26 => ?_) (fun c26 => ?_)
          · refine lv_iload hx hb dX12_goOf_64 (lv_at hl 2 rfl) ?_
            refine lv_istore (lv' := [(5, .int lp_5), (7, .int r21), (6, .int lp_6), (3, .long r3), (0, .ref (ad 60 0)), (1, .int p0), (2, .int p1)]) hx hb dX12_goOf_66 hl (by decide) rfl (fun ls hl => ?_)
            obtain ⟨y27, ey27⟩ : ∃ y : Int32, y = lp_6 + 1 := ⟨_, rfl⟩
            have ty27 : y27.toInt = lp_6.toInt + 1 := by rw [ey27, zi_add _ _ (by rw [zk_1]; omega) (by rw [zk_1]; omega), zk_1]
            refine lv_iinc (v := y27) (lv' := [(6, .int y27), (5, .int lp_5), (7, .int r21), (3, .long r3), (0, .ref (ad 60 0)), (1, .int p0), (2, .int p1)]) hx hb dX12_goOf_68 hl (k := 2) rfl (by rw [ey27]; rfl) (by decide) rfl (fun ls hl => ?_)
            refine lv_goto (tgt := 21) hx hb dX12_goOf_71 (by decide) ?_
            exact ih_lp y27 lp_5 M_lp (by omega) (by omega) (by omega) hI hE _ _ hw hS ls (lv_sub hl [0, 1, 3, 4, 5, 6] rfl)
          · refine lv_iload hx hb dX12_goOf_59 (lv_at hl 0 rfl) ?_
            refine lv_goto (tgt := 66) hx hb dX12_goOf_61 (by decide) ?_
            refine lv_istore (lv' := [(5, .int r21), (7, .int r21), (6, .int lp_6), (3, .long r3), (0, .ref (ad 60 0)), (1, .int p0), (2, .int p1)]) hx hb dX12_goOf_66 hl (by decide) rfl (fun ls hl => ?_)
            obtain ⟨y28, ey28⟩ : ∃ y : Int32, y = lp_6 + 1 := ⟨_, rfl⟩
            have ty28 : y28.toInt = lp_6.toInt + 1 := by rw [ey28, zi_add _ _ (by rw [zk_1]; omega) (by rw [zk_1]; omega), zk_1]
            refine lv_iinc (v := y28) (lv' := [(6, .int y28), (5, .int r21), (7, .int r21), (3, .long r3), (0, .ref (ad 60 0)), (1, .int p0), (2, .int p1)]) hx hb dX12_goOf_68 hl (k := 2) rfl (by rw [ey28]; rfl) (by decide) rfl (fun ls hl => ?_)
            refine lv_goto (tgt := 21) hx hb dX12_goOf_71 (by decide) ?_
            exact ih_lp y28 r21 M_lp (by omega) (by omega) (by omega) hI hE _ _ hw hS ls (lv_sub hl [0, 1, 3, 4, 5, 6] rfl)
  exact lp _ 0 99 M (Nat.lt_succ_self _) (by decide) (by decide) hI hE _ _ hw hS ls (lv_sub hl [0, 1, 2, 3, 4, 5] rfl)
set_option maxHeartbeats 400000 in
set_option maxRecDepth 20000 in
theorem fc_X12_says (l : Launch) (D : va_G) (ad : Nat → Nat → Nat) (C : Nat → Nat → ClassId) (nb : Nat) (M : fm_M) (hI : fm_I nb ad M) (p0 p1 p2 : Int32) : Met l yX12_says wsX12_says ({ frames := 43, cells := 0, slots := 0, locals := 938 }) (va_Pc [.ref (ad 60 0), .int p0, .int p1, .int p2] (fm_P D ad C nb M)) (va_Ql (fun (r : Int64) (u : fm_M) => fm_I nb ad u ∧ fm_same [60062, 60063, 60064, 60065, 60066, 60067, 60069, 60070, 168000] M u ∧ True) (fun u t => fm_at D ad C nb u t.heap) (fm_A nb ad)) 0 0 (fm_A nb ad) := by
  refine Met.ofW (cc := cX12_says) (maxL := 4) (ret := (some .long)) (by decide) rfl ?_
  intro p e s m args below meth c s₁ B hml hv
  obtain ⟨rfl, hw, hc⟩ := hv
  have hx := B.exec
  have hb := B.bytes
  have hr := B.returns
  have hts := atoms_spec (ws := wsX12_says) B.pre
  have hown : s.vm.findClass RX12 = some m.cls := findClass_of_methodNamed B.named
  have hinX12 : ∀ w ∈ u_ws RX12 TX12 79, w ∈ wsX12_says := fun w h => List.mem_cons_of_mem _ (iT_X12 w h)
  have hS : va_S (fm_A nb ad) s.heap s.heap [] := va_S.rf
  have hE : fm_same [60062, 60063, 60064, 60065, 60066, 60067, 60069, 60070, 168000] M M := fm_same.rf
  have hl := lv_entry ([.ref (ad 60 0), .int p0, .int p1, .int p2]) (n := 4) (Nat.le_of_ble_eq_true rfl)
  rw [lg_entry_eq]
  generalize (lg_sl ([.ref (ad 60 0), .int p0, .int p1, .int p2]) ++ List.replicate (4 - (lg_sl ([.ref (ad 60 0), .int p0, .int p1, .int p2])).length) Slot.unset).toArray = ls at hl ⊢
  have hl : lv_has ls 4 [(0, .ref (ad 60 0)), (1, .int p0), (2, .int p1), (3, .int p2)] := hl
  have jt : ∀  (M_jt : fm_M), fm_I nb ad M_jt → fm_same [60062, 60063, 60064, 60065, 60066, 60067, 60069, 60070, 168000] M M_jt → ∀ (H : Heap) (locs : List Loc), fm_at D ad C nb M_jt H → va_S (fm_A nb ad) s.heap H locs → ∀ (ls : Array Slot), lv_has ls 4 [(0, .ref (ad 60 0)), (1, .int p0), (2, .int p1), (3, .int p2)] → W p l e (headSpec wsX12_says ({ frames := 43, cells := 0, slots := 0, locals := 938 })).room s m ([.ref (ad 60 0), .int p0, .int p1, .int p2] : List Value).toArray below meth c H locs 0 0 (MQ below (va_Ql (fun (r : Int64) (u : fm_M) => fm_I nb ad u ∧ fm_same [60062, 60063, 60064, 60065, 60066, 60067, 60069, 60070, 168000] M u ∧ True) (fun u t => fm_at D ad C nb u t.heap) (fm_A nb ad)) ([.ref (ad 60 0), .int p0, .int p1, .int p2] : List Value).toArray s 0 0 (fm_A nb ad)) (F0 m 23 ls []) := by
    intro  M_jt hI hE H locs hw hS ls hl
    refine lv_iload_n hx hb dX12_says_23 rfl (lv_at hl 1 rfl) ?_
    refine lv_iconst (v := 1) hx hb dX12_says_24 (by decide) ?_
    refine fx_icmp_ne (tgt := 54) hx hb dX12_says_25 (by decide) rfl zk_1 (fun c1 => ?_) (fun c1 => ?_)
    · refine lv_ldc2 (v := (-4611686018427387904)) hx hb hown (hts (.constantLong RX12 236 (-4611686018427387904)) (List.mem_cons_of_mem _ tw_6_163)) dX12_says_54 ?_
      exact W.lret (v := (-4611686018427387904)) hx hb hr (fun t ht hW => ⟨⟨(-4611686018427387904), M_jt, rfl, ⟨hI, hE, trivial⟩, by show fm_at D ad C nb _ t.heap; rw [ht]; exact hw⟩, hS.F ht⟩) hS.2.2 dX12_says_57
    · refine lv_aload_n hx hb dX12_says_28 rfl (lv_at hl 0 rfl) ?_
      refine lv_iload_n hx hb dX12_says_29 rfl (lv_at hl 2 rfl) ?_
      refine vp_callSi (va_Run.run (va_runV (As := [.int p1]) (rest := []) ⟨hx, hb, hml, hown, hts⟩ (fc_X12_isSeeker l D ad C nb M_jt hI p1) (cwV 1 hts gX12_says_X12_isSeeker rfl rfl rfl (by decide +kernel) ⟨Nat.le_of_ble_eq_true rfl, Nat.le_of_ble_eq_true rfl⟩) (fm_preV hc hw hS kl_60 sh_60 rfl) rfl rfl hl.1 rfl (lv_room (Nat.le_of_ble_eq_true rfl)) dX12_says_30 ⟨by decide +kernel, by decide +kernel⟩)) (fun r2 hr2 => ?_)
      have bqq3 := hI.bd (k := 0) bd_60_16
      rcases hr2 with ⟨rfl, c4⟩ | ⟨rfl, c4⟩
      · refine fx_if_eq (tgt := 54) hx hb dX12_says_33 (by decide) zk_1 (fun c5 => by exfalso; omega) (fun c5 => ?_)
        refine lv_aload_n hx hb dX12_says_36 rfl (lv_at hl 0 rfl) ?_
        refine lv_iload_n hx hb dX12_says_37 rfl (lv_at hl 3 rfl) ?_
        refine vp_callSi (va_Run.run (va_runV (As := [.int p2]) (rest := []) ⟨hx, hb, hml, hown, hts⟩ (fc_X12_isBody l D ad C nb M_jt hI p2) (cwV 1 hts gX12_says_X12_isBody rfl rfl rfl (by decide +kernel) ⟨Nat.le_of_ble_eq_true rfl, Nat.le_of_ble_eq_true rfl⟩) (fm_preV hc hw hS kl_60 sh_60 rfl) rfl rfl hl.1 rfl (lv_room (Nat.le_of_ble_eq_true rfl)) dX12_says_38 ⟨by decide +kernel, by decide +kernel⟩)) (fun r6 hr6 => ?_)
        have bqq7 := hI.bd (k := 0) bd_60_16
        rcases hr6 with ⟨rfl, c8⟩ | ⟨rfl, c8⟩
        · refine fx_if_eq (tgt := 54) hx hb dX12_says_41 (by decide) zk_1 (fun c9 => by exfalso; omega) (fun c9 => ?_)
          refine lv_aload_n hx hb dX12_says_44 rfl (lv_at hl 0 rfl) ?_
          refine lv_iload_n hx hb dX12_says_45 rfl (lv_at hl 2 rfl) ?_
          refine lv_iload_n hx hb dX12_says_46 rfl (lv_at hl 3 rfl) ?_
          refine fm_ci (va_runV (As := [.int p1, .int p2]) (rest := []) ⟨hx, hb, hml, hown, hts⟩ (fc_X12_goOf l D ad C nb M_jt hI p1 p2 (by omega) (by omega)) (cwV 2 hts gX12_says_X12_goOf rfl rfl rfl (by decide +kernel) ⟨Nat.le_of_ble_eq_true rfl, Nat.le_of_ble_eq_true rfl⟩) (fm_preV hc hw hS kl_60 sh_60 rfl) rfl rfl hl.1 rfl (lv_room (Nat.le_of_ble_eq_true rfl)) dX12_says_47 ⟨by decide +kernel, by decide +kernel⟩) hS hc (fun r10 M11 H locs hr10 hw hS => ?_)
          obtain ⟨hI, hEM11, hr10⟩ := hr10
          have hE := hE.tr hEM11 (by decide)
          refine fx_i2l hx hb dX12_says_50 rfl (fun y12 ey12 ty12 => ?_)
          refine lv_goto (tgt := 57) hx hb dX12_says_51 (by decide) ?_
          exact W.lret (v := y12) hx hb hr (fun t ht hW => ⟨⟨y12, M11, rfl, ⟨hI, hE, trivial⟩, by show fm_at D ad C nb _ t.heap; rw [ht]; exact hw⟩, hS.F ht⟩) hS.2.2 dX12_says_57
        · refine fx_if_eq (tgt := 54) hx hb dX12_says_41 (by decide) zk_0 (fun c13 => ?_) (fun c13 => by exfalso; omega)
          refine lv_ldc2 (v := (-4611686018427387904)) hx hb hown (hts (.constantLong RX12 236 (-4611686018427387904)) (List.mem_cons_of_mem _ tw_6_163)) dX12_says_54 ?_
          exact W.lret (v := (-4611686018427387904)) hx hb hr (fun t ht hW => ⟨⟨(-4611686018427387904), M_jt, rfl, ⟨hI, hE, trivial⟩, by show fm_at D ad C nb _ t.heap; rw [ht]; exact hw⟩, hS.F ht⟩) hS.2.2 dX12_says_57
      · refine fx_if_eq (tgt := 54) hx hb dX12_says_33 (by decide) zk_0 (fun c14 => ?_) (fun c14 => by exfalso; omega)
        refine lv_ldc2 (v := (-4611686018427387904)) hx hb hown (hts (.constantLong RX12 236 (-4611686018427387904)) (List.mem_cons_of_mem _ tw_6_163)) dX12_says_54 ?_
        exact W.lret (v := (-4611686018427387904)) hx hb hr (fun t ht hW => ⟨⟨(-4611686018427387904), M_jt, rfl, ⟨hI, hE, trivial⟩, by show fm_at D ad C nb _ t.heap; rw [ht]; exact hw⟩, hS.F ht⟩) hS.2.2 dX12_says_57
  refine lv_iload_n hx hb dX12_says_0 rfl (lv_at hl 1 rfl) ?_
  refine fx_if_ne (tgt := 23) hx hb dX12_says_1 (by decide) rfl (fun c15 => ?_) (fun c15 => ?_)
  · exact jt M hI hE _ _ hw hS ls (lv_sub hl [0, 1, 2, 3] rfl)
  · refine lv_iload_n hx hb dX12_says_4 rfl (lv_at hl 2 rfl) ?_
    refine fx_if_lt (tgt := 23) hx hb dX12_says_5 (by decide) rfl (fun c16 => ?_) (fun c16 => ?_)
    · exact jt M hI hE _ _ hw hS ls (lv_sub hl [0, 1, 2, 3] rfl)
    · refine lv_iload_n hx hb dX12_says_8 rfl (lv_at hl 2 rfl) ?_
      refine lv_aload_n hx hb dX12_says_9 rfl (lv_at hl 0 rfl) ?_
      refine fm_getI (a := 60) (j := 44) (T := TX12) (N := 79) hx hb hts hinX12 hown hc hw hI kl_60 sh_60 rfl (by decide) rfl bd_60_44 (hts (.fieldLink RX12 320 "RedTentModel" "men" "I") (List.mem_cons_of_mem _ tw_5_164)) (fun _ h9 => h9) dX12_says_10 (fun x17 ex17 bx17 => ?_)
      refine fx_icmp_ge (tgt := 23) hx hb dX12_says_13 (by decide) rfl rfl (fun c18 => ?_) (fun c18 => ?_)
      · exact jt M hI hE _ _ hw hS ls (lv_sub hl [0, 1, 2, 3] rfl)
      · refine lv_aload_n hx hb dX12_says_16 rfl (lv_at hl 0 rfl) ?_
        refine lv_iload_n hx hb dX12_says_17 rfl (lv_at hl 2 rfl) ?_
        refine fm_ci (va_runV (As := [.int p1]) (rest := []) ⟨hx, hb, hml, hown, hts⟩ (fc_X12_takeOf l D ad C nb M hI p1 (by omega)) (cwV 1 hts gX12_says_X12_takeOf rfl rfl rfl (by decide +kernel) ⟨Nat.le_of_ble_eq_true rfl, Nat.le_of_ble_eq_true rfl⟩) (fm_preV hc hw hS kl_60 sh_60 rfl) rfl rfl hl.1 rfl (lv_room (Nat.le_of_ble_eq_true rfl)) dX12_says_18 ⟨by decide +kernel, by decide +kernel⟩) hS hc (fun r19 M20 H locs hr19 hw hS => ?_)
        obtain ⟨hI, hEM20, hr19⟩ := hr19
        have hE := hE.tr hEM20 (by decide)
        refine fx_i2l hx hb dX12_says_21 rfl (fun y21 ey21 ty21 => ?_)
        exact W.lret (v := y21) hx hb hr (fun t ht hW => ⟨⟨y21, M20, rfl, ⟨hI, hE, trivial⟩, by show fm_at D ad C nb _ t.heap; rw [ht]; exact hw⟩, hS.F ht⟩) hS.2.2 dX12_says_22
set_option maxHeartbeats 400000 in
set_option maxRecDepth 20000 in
theorem fc_X12_first (l : Launch) (D : va_G) (ad : Nat → Nat → Nat) (C : Nat → Nat → ClassId) (nb : Nat) (M : fm_M) (hI : fm_I nb ad M) (p0 p1 : Int32) : Met l yX12_first wsX12_first ({ frames := 43, cells := 0, slots := 0, locals := 933 }) (va_Pc [.ref (ad 60 0), .int p0, .int p1] (fm_P D ad C nb M)) (va_Qi (fun (r : Int32) (u : fm_M) => fm_I nb ad u ∧ fm_same [60062, 60063, 60064, 60065, 60066, 60067, 60069, 60070, 168000, 171000, 172000] M u ∧ True) (fun u t => fm_at D ad C nb u t.heap) (fm_A nb ad)) 0 0 (fm_A nb ad) := by
  refine Met.ofW (cc := cX12_first) (maxL := 6) (ret := (some .int)) (by decide) rfl ?_
  intro p e s m args below meth c s₁ B hml hv
  obtain ⟨rfl, hw, hc⟩ := hv
  have hx := B.exec
  have hb := B.bytes
  have hr := B.returns
  have hts := atoms_spec (ws := wsX12_first) B.pre
  have hown : s.vm.findClass RX12 = some m.cls := findClass_of_methodNamed B.named
  have hinX12 : ∀ w ∈ u_ws RX12 TX12 79, w ∈ wsX12_first := fun w h => List.mem_cons_of_mem _ (iT_X12 w h)
  have hS : va_S (fm_A nb ad) s.heap s.heap [] := va_S.rf
  have hE : fm_same [60062, 60063, 60064, 60065, 60066, 60067, 60069, 60070, 168000, 171000, 172000] M M := fm_same.rf
  have hl := lv_entry ([.ref (ad 60 0), .int p0, .int p1]) (n := 6) (Nat.le_of_ble_eq_true rfl)
  rw [lg_entry_eq]
  generalize (lg_sl ([.ref (ad 60 0), .int p0, .int p1]) ++ List.replicate (6 - (lg_sl ([.ref (ad 60 0), .int p0, .int p1])).length) Slot.unset).toArray = ls at hl ⊢
  have hl : lv_has ls 6 [(0, .ref (ad 60 0)), (1, .int p0), (2, .int p1)] := hl
  refine lv_aload_n hx hb dX12_first_0 rfl (lv_at hl 0 rfl) ?_
  refine lv_iload_n hx hb dX12_first_1 rfl (lv_at hl 1 rfl) ?_
  refine vp_callSi (va_Run.run (va_runV (As := [.int p0]) (rest := []) ⟨hx, hb, hml, hown, hts⟩ (fc_X12_isBody l D ad C nb M hI p0) (cwV 1 hts gX12_first_X12_isBody rfl rfl rfl (by decide +kernel) ⟨Nat.le_of_ble_eq_true rfl, Nat.le_of_ble_eq_true rfl⟩) (fm_preV hc hw hS kl_60 sh_60 rfl) rfl rfl hl.1 rfl (lv_room (Nat.le_of_ble_eq_true rfl)) dX12_first_2 ⟨by decide +kernel, by decide +kernel⟩)) (fun r1 hr1 => ?_)
  have bqq2 := hI.bd (k := 0) bd_60_16
  rcases hr1 with ⟨rfl, c3⟩ | ⟨rfl, c3⟩
  · refine fx_if_ne (tgt := 11) hx hb dX12_first_5 (by decide) zk_1 (fun c4 => ?_) (fun c4 => by exfalso; omega)
    refine lv_iconst (v := 0) hx hb dX12_first_11 (by decide) ?_
    refine lv_istore_n (lv' := [(3, .int 0), (0, .ref (ad 60 0)), (1, .int p0), (2, .int p1)]) hx hb dX12_first_12 rfl hl (by decide) rfl (fun ls hl => ?_)
    refine lv_iconst (v := 0) hx hb dX12_first_13 (by decide) ?_
    refine lv_istore (lv' := [(4, .int 0), (3, .int 0), (0, .ref (ad 60 0)), (1, .int p0), (2, .int p1)]) hx hb dX12_first_14 hl (by decide) rfl (fun ls hl => ?_)
    have lp : ∀ (n_lp : Nat) (lp_4 : Int32) (lp_3 : Int32) (M_lp : fm_M), (16 - lp_4.toInt).toNat < n_lp → (0 ≤ lp_4.toInt ∧ lp_4.toInt ≤ 16) → (0 ≤ lp_3.toInt ∧ lp_3.toInt ≤ 16) → (lp_3.toInt ≤ lp_4.toInt) → fm_I nb ad M_lp → fm_same [60062, 60063, 60064, 60065, 60066, 60067, 60069, 60070, 168000, 171000, 172000] M M_lp → ∀ (H : Heap) (locs : List Loc), fm_at D ad C nb M_lp H → va_S (fm_A nb ad) s.heap H locs → ∀ (ls : Array Slot), lv_has ls 6 [(4, .int lp_4), (3, .int lp_3), (0, .ref (ad 60 0)), (1, .int p0), (2, .int p1)] → W p l e (headSpec wsX12_first ({ frames := 43, cells := 0, slots := 0, locals := 933 })).room s m ([.ref (ad 60 0), .int p0, .int p1] : List Value).toArray below meth c H locs 0 0 (MQ below (va_Qi (fun (r : Int32) (u : fm_M) => fm_I nb ad u ∧ fm_same [60062, 60063, 60064, 60065, 60066, 60067, 60069, 60070, 168000, 171000, 172000] M u ∧ True) (fun u t => fm_at D ad C nb u t.heap) (fm_A nb ad)) ([.ref (ad 60 0), .int p0, .int p1] : List Value).toArray s 0 0 (fm_A nb ad)) (F0 m 16 ls []) := by
      intro n_lp
      induction n_lp with
      | zero => intro lp_4 lp_3 M_lp hm_lp b_lp_4 b_lp_3 h3 hI hE H locs hw hS ls hl; exact absurd hm_lp (Nat.not_lt_zero _)
      | succ n_lp ih_lp =>
        intro lp_4 lp_3 M_lp hm_lp b_lp_4 b_lp_3 h3 hI hE H locs hw hS ls hl
        refine lv_iload hx hb dX12_first_16 (lv_at hl 0 rfl) ?_
        refine lv_aload_n hx hb dX12_first_18 rfl (lv_at hl 2 rfl) ?_
        refine fm_getI (a := 60) (j := 44) (T := TX12) (N := 79) hx hb hts hinX12 hown hc hw hI kl_60 sh_60 rfl (by decide) rfl bd_60_44 (hts (.fieldLink RX12 320 "RedTentModel" "men" "I") (List.mem_cons_of_mem _ tw_5_164)) (fun _ h9 => h9) dX12_first_19 (fun x5 ex5 bx5 => ?_)
        refine fx_icmp_ge (tgt := 121) hx hb dX12_first_22 (by decide) rfl rfl (fun c6 => ?_) (fun c6 => ?_)
        · refine lv_iload_n hx hb dX12_first_121 rfl (lv_at hl 4 rfl) ?_
          refine fx_if_lt (tgt := 139) hx hb dX12_first_122 (by decide) rfl (fun c7 => ?_) (fun c7 => ?_)
          · refine lv_iconst (v := (-1)) hx hb dX12_first_139 (by decide) ?_
            exact W.iret (v := (-1)) hx hb hr (fun t ht hW => ⟨⟨(-1), M_lp, rfl, ⟨hI, hE, trivial⟩, by show fm_at D ad C nb _ t.heap; rw [ht]; exact hw⟩, hS.F ht⟩) hS.2.2 dX12_first_140
          · refine lv_iload_n hx hb dX12_first_125 rfl (lv_at hl 4 rfl) ?_
            refine lv_iload_n hx hb dX12_first_126 rfl (lv_at hl 1 rfl) ?_
            refine fx_icmp_ge (tgt := 139) hx hb dX12_first_127 (by decide) rfl rfl (fun c8 => ?_) (fun c8 => ?_)
            · refine lv_iconst (v := (-1)) hx hb dX12_first_139 (by decide) ?_
              exact W.iret (v := (-1)) hx hb hr (fun t ht hW => ⟨⟨(-1), M_lp, rfl, ⟨hI, hE, trivial⟩, by show fm_at D ad C nb _ t.heap; rw [ht]; exact hw⟩, hS.F ht⟩) hS.2.2 dX12_first_140
            · refine lv_aload_n hx hb dX12_first_130 rfl (lv_at hl 2 rfl) ?_
              refine fm_getG (a := 60) (j := 72) (T := TX12) (N := 79) hx hb hts hinX12 hown hc hw kl_60 sh_60 rfl (by decide) rfl (hI.to kl_60 tg_60_72) (hts (.fieldLink RX12 149 "RedTentModel" "sorted" "[I") (List.mem_cons_of_mem _ tw_5_192)) (fun _ h9 => h9) dX12_first_131 ?_
              refine lv_iload_n hx hb dX12_first_134 rfl (lv_at hl 4 rfl) ?_
              refine fm_iald (a := 172) hx hb hc hw hI kl_172 sh_172 ty_172 bd_172 (by omega) dX12_first_135 (fun x9 ex9 bx9 => ?_)
              refine lv_goto (tgt := 140) hx hb dX12_first_136 (by decide) ?_
              exact W.iret (v := x9) hx hb hr (fun t ht hW => ⟨⟨x9, M_lp, rfl, ⟨hI, hE, trivial⟩, by show fm_at D ad C nb _ t.heap; rw [ht]; exact hw⟩, hS.F ht⟩) hS.2.2 dX12_first_140
        · refine lv_aload_n hx hb dX12_first_25 rfl (lv_at hl 2 rfl) ?_
          refine fm_getG (a := 60) (j := 40) (T := TX12) (N := 79) hx hb hts hinX12 hown hc hw kl_60 sh_60 rfl (by decide) rfl (hI.to kl_60 tg_60_40) (hts (.fieldLink RX12 101 "RedTentModel" "manBody" "[I") (List.mem_cons_of_mem _ tw_5_160)) (fun _ h9 => h9) dX12_first_26 ?_
          refine lv_iload hx hb dX12_first_29 (lv_at hl 0 rfl) ?_
          refine fm_iald (a := 140) hx hb hc hw hI kl_140 sh_140 ty_140 bd_140 (by omega) dX12_first_31 (fun x10 ex10 bx10 => ?_)
          refine lv_iload_n hx hb dX12_first_32 rfl (lv_at hl 3 rfl) ?_
          refine fx_icmp_ne (tgt := 115) hx hb dX12_first_33 (by decide) rfl rfl (fun c11 => ?_) (fun c11 => ?_)
          · obtain ⟨y12, ey12⟩ : ∃ y : Int32, y = lp_4 + 1 := ⟨_, rfl⟩
            have ty12 : y12.toInt = lp_4.toInt + 1 := by rw [ey12, zi_add _ _ (by rw [zk_1]; omega) (by rw [zk_1]; omega), zk_1]
            refine lv_iinc (v := y12) (lv' := [(4, .int y12), (3, .int lp_3), (0, .ref (ad 60 0)), (1, .int p0), (2, .int p1)]) hx hb dX12_first_115 hl (k := 0) rfl (by rw [ey12]; rfl) (by decide) rfl (fun ls hl => ?_)
            refine lv_goto (tgt := 16) hx hb dX12_first_118 (by decide) ?_
            exact ih_lp y12 lp_3 M_lp (by omega) (by omega) (by omega) (by omega) hI hE _ _ hw hS ls (lv_sub hl [0, 1, 2, 3, 4] rfl)
          · refine lv_aload_n hx hb dX12_first_36 rfl (lv_at hl 2 rfl) ?_
            refine fm_getG (a := 60) (j := 71) (T := TX12) (N := 79) hx hb hts hinX12 hown hc hw kl_60 sh_60 rfl (by decide) rfl (hI.to kl_60 tg_60_71) (hts (.fieldLink RX12 146 "RedTentModel" "takeIs" "[I") (List.mem_cons_of_mem _ tw_5_191)) (fun _ h9 => h9) dX12_first_37 ?_
            refine lv_iload hx hb dX12_first_40 (lv_at hl 0 rfl) ?_
            refine lv_aload_n hx hb dX12_first_42 rfl (lv_at hl 2 rfl) ?_
            refine lv_iload hx hb dX12_first_43 (lv_at hl 0 rfl) ?_
            refine fm_ci (va_runV (As := [.int lp_4]) (rest := [.int lp_4, .ref (ad 171 0)]) ⟨hx, hb, hml, hown, hts⟩ (fc_X12_takeOf l D ad C nb M_lp hI lp_4 (by omega)) (cwV 1 hts gX12_first_X12_takeOf rfl rfl rfl (by decide +kernel) ⟨Nat.le_of_ble_eq_true rfl, Nat.le_of_ble_eq_true rfl⟩) (fm_preV hc hw hS kl_60 sh_60 rfl) rfl rfl hl.1 rfl (lv_room (Nat.le_of_ble_eq_true rfl)) dX12_first_45 ⟨by decide +kernel, by decide +kernel⟩) hS hc (fun r13 M14 H locs hr13 hw hS => ?_)
            obtain ⟨hI, hEM14, hr13⟩ := hr13
            have hE := hE.tr hEM14 (by decide)
            refine fm_iast (a := 171) hx hb hc hw hI hE hS kl_171 sh_171 ty_171 bd_171 (by omega) (zi_lt _) cd_171 (by decide) dX12_first_48 (fun M15 H locs eM15 hw hI hE hS => ?_)
            refine lv_iload_n hx hb dX12_first_49 rfl (lv_at hl 1 rfl) ?_
            refine lv_istore (lv' := [(5, .int lp_3), (4, .int lp_4), (3, .int lp_3), (0, .ref (ad 60 0)), (1, .int p0), (2, .int p1)]) hx hb dX12_first_50 hl (by decide) rfl (fun ls hl => ?_)
            have lq : ∀ (n_lq : Nat) (lq_5 : Int32) (M_lq : fm_M), lq_5.toInt.toNat < n_lq → (0 ≤ lq_5.toInt ∧ lq_5.toInt ≤ 15) → fm_I nb ad M_lq → fm_same [60062, 60063, 60064, 60065, 60066, 60067, 60069, 60070, 168000, 171000, 172000] M M_lq → ∀ (H : Heap) (locs : List Loc), fm_at D ad C nb M_lq H → va_S (fm_A nb ad) s.heap H locs → ∀ (ls : Array Slot), lv_has ls 6 [(5, .int lq_5), (4, .int lp_4), (3, .int lp_3), (0, .ref (ad 60 0)), (1, .int p0), (2, .int p1)] → W p l e (headSpec wsX12_first ({ frames := 43, cells := 0, slots := 0, locals := 933 })).room s m ([.ref (ad 60 0), .int p0, .int p1] : List Value).toArray below meth c H locs 0 0 (MQ below (va_Qi (fun (r : Int32) (u : fm_M) => fm_I nb ad u ∧ fm_same [60062, 60063, 60064, 60065, 60066, 60067, 60069, 60070, 168000, 171000, 172000] M u ∧ True) (fun u t => fm_at D ad C nb u t.heap) (fm_A nb ad)) ([.ref (ad 60 0), .int p0, .int p1] : List Value).toArray s 0 0 (fm_A nb ad)) (F0 m 52 ls []) := by
              intro n_lq
              induction n_lq with
              | zero => intro lq_5 M_lq hm_lq b_lq_5 hI hE H locs hw hS ls hl; exact absurd hm_lq (Nat.not_lt_zero _)
              | succ n_lq ih_lq =>
                intro lq_5 M_lq hm_lq b_lq_5 hI hE H locs hw hS ls hl
                refine lv_iload hx hb dX12_first_52 (lv_at hl 0 rfl) ?_
                refine fx_if_le (tgt := 103) hx hb dX12_first_54 (by decide) rfl (fun c16 => ?_) (fun c16 => ?_)
                · refine lv_aload_n hx hb dX12_first_103 rfl (lv_at hl 3 rfl) ?_
                  refine fm_getG (a := 60) (j := 72) (T := TX12) (N := 79) hx hb hts hinX12 hown hc hw kl_60 sh_60 rfl (by decide) rfl (hI.to kl_60 tg_60_72) (hts (.fieldLink RX12 149 "RedTentModel" "sorted" "[I") (List.mem_cons_of_mem _ tw_5_192)) (fun _ h9 => h9) dX12_first_104 ?_
                  refine lv_iload hx hb dX12_first_107 (lv_at hl 0 rfl) ?_
                  refine lv_iload hx hb dX12_first_109 (lv_at hl 1 rfl) ?_
                  refine fm_iast (a := 172) hx hb hc hw hI hE hS kl_172 sh_172 ty_172 bd_172 (by omega) (by omega) cd_172 (by decide) dX12_first_111 (fun M17 H locs eM17 hw hI hE hS => ?_)
                  obtain ⟨y18, ey18⟩ : ∃ y : Int32, y = lp_3 + 1 := ⟨_, rfl⟩
                  have ty18 : y18.toInt = lp_3.toInt + 1 := by rw [ey18, zi_add _ _ (by rw [zk_1]; omega) (by rw [zk_1]; omega), zk_1]
                  refine lv_iinc (v := y18) (lv' := [(3, .int y18), (5, .int lq_5), (4, .int lp_4), (0, .ref (ad 60 0)), (1, .int p0), (2, .int p1)]) hx hb dX12_first_112 hl (k := 2) rfl (by rw [ey18]; rfl) (by decide) rfl (fun ls hl => ?_)
                  obtain ⟨y19, ey19⟩ : ∃ y : Int32, y = lp_4 + 1 := ⟨_, rfl⟩
                  have ty19 : y19.toInt = lp_4.toInt + 1 := by rw [ey19, zi_add _ _ (by rw [zk_1]; omega) (by rw [zk_1]; omega), zk_1]
                  refine lv_iinc (v := y19) (lv' := [(4, .int y19), (3, .int y18), (5, .int lq_5), (0, .ref (ad 60 0)), (1, .int p0), (2, .int p1)]) hx hb dX12_first_115 hl (k := 2) rfl (by rw [ey19]; rfl) (by decide) rfl (fun ls hl => ?_)
                  refine lv_goto (tgt := 16) hx hb dX12_first_118 (by decide) ?_
                  exact ih_lp y19 y18 M17 (by omega) (by omega) (by omega) (by omega) hI hE _ _ hw hS ls (lv_sub hl [0, 1, 3, 4, 5] rfl)
                · refine lv_aload_n hx hb dX12_first_57 rfl (lv_at hl 3 rfl) ?_
                  refine fm_getG (a := 60) (j := 71) (T := TX12) (N := 79) hx hb hts hinX12 hown hc hw kl_60 sh_60 rfl (by decide) rfl (hI.to kl_60 tg_60_71) (hts (.fieldLink RX12 146 "RedTentModel" "takeIs" "[I") (List.mem_cons_of_mem _ tw_5_191)) (fun _ h9 => h9) dX12_first_58 ?_
                  refine lv_aload_n hx hb dX12_first_61 rfl (lv_at hl 3 rfl) ?_
                  refine fm_getG (a := 60) (j := 72) (T := TX12) (N := 79) hx hb hts hinX12 hown hc hw kl_60 sh_60 rfl (by decide) rfl (hI.to kl_60 tg_60_72) (hts (.fieldLink RX12 149 "RedTentModel" "sorted" "[I") (List.mem_cons_of_mem _ tw_5_192)) (fun _ h9 => h9) dX12_first_62 ?_
                  refine lv_iload hx hb dX12_first_65 (lv_at hl 0 rfl) ?_
                  refine lv_iconst (v := 1) hx hb dX12_first_67 (by decide) ?_
                  refine fx_isub hx hb dX12_first_68 rfl zk_1 (by omega) (fun y20 ey20 ty20 => ?_)
                  refine fm_iald (a := 172) hx hb hc hw hI kl_172 sh_172 ty_172 bd_172 (by omega) dX12_first_69 (fun x21 ex21 bx21 => ?_)
                  refine fm_iald (a := 171) hx hb hc hw hI kl_171 sh_171 ty_171 bd_171 (by omega) dX12_first_70 (fun x22 ex22 bx22 => ?_)
                  refine lv_aload_n hx hb dX12_first_71 rfl (lv_at hl 3 rfl) ?_
                  refine fm_getG (a := 60) (j := 71) (T := TX12) (N := 79) hx hb hts hinX12 hown hc hw kl_60 sh_60 rfl (by decide) rfl (hI.to kl_60 tg_60_71) (hts (.fieldLink RX12 146 "RedTentModel" "takeIs" "[I") (List.mem_cons_of_mem _ tw_5_191)) (fun _ h9 => h9) dX12_first_72 ?_
                  refine lv_iload hx hb dX12_first_75 (lv_at hl 1 rfl) ?_
                  refine fm_iald (a := 171) hx hb hc hw hI kl_171 sh_171 ty_171 bd_171 (by omega) dX12_first_77 (fun x23 ex23 bx23 => ?_)
                  refine fx_icmp_ge (tgt := 103) hx hb dX12_first_78 (by decide) rfl rfl (fun c24 => ?_) (fun c24 => ?_)
                  · refine lv_aload_n hx hb dX12_first_103 rfl (lv_at hl 3 rfl) ?_
                    refine fm_getG (a := 60) (j := 72) (T := TX12) (N := 79) hx hb hts hinX12 hown hc hw kl_60 sh_60 rfl (by decide) rfl (hI.to kl_60 tg_60_72) (hts (.fieldLink RX12 149 "RedTentModel" "sorted" "[I") (List.mem_cons_of_mem _ tw_5_192)) (fun _ h9 => h9) dX12_first_104 ?_
                    refine lv_iload hx hb dX12_first_107 (lv_at hl 0 rfl) ?_
                    refine lv_iload hx hb dX12_first_109 (lv_at hl 1 rfl) ?_
                    refine fm_iast (a := 172) hx hb hc hw hI hE hS kl_172 sh_172 ty_172 bd_172 (by omega) (by omega) cd_172 (by decide) dX12_first_111 (fun M25 H locs eM25 hw hI hE hS => ?_)
                    obtain ⟨y26, ey26⟩ : ∃ y : Int32, y = lp_3 + 1 := ⟨_, rfl⟩
                    have ty26 : y26.toInt = lp_3.toInt + 1 := by rw [ey26, zi_add _ _ (by rw [zk_1]; omega) (by rw [zk_1]; omega), zk_1]
                    refine lv_iinc (v := y26) (lv' := [(3, .int y26), (5, .int lq_5), (4, .int lp_4), (0, .ref (ad 60 0)), (1, .int p0), (2, .int p1)]) hx hb dX12_first_112 hl (k := 2) rfl (by rw [ey26]; rfl) (by decide) rfl (fun ls hl => ?_)
                    obtain ⟨y27, ey27⟩ : ∃ y : Int32, y = lp_4 + 1 := ⟨_, rfl⟩
                    have ty27 : y27.toInt = lp_4.toInt + 1 := by rw [ey27, zi_add _ _ (by rw [zk_1]; omega) (by rw [zk_1]; omega), zk_1]
                    refine lv_iinc (v := y27) (lv' := [(4, .int y27), (3, .int y26), (5, .int lq_5), (0, .ref (ad 60 0)), (1, .int p0), (2, .int p1)]) hx hb dX12_first_115 hl (k := 2) rfl (by rw [ey27]; rfl) (by decide) rfl (fun ls hl => ?_)
                    refine lv_goto (tgt := 16) hx hb dX12_first_118 (by decide) ?_
                    exact ih_lp y27 y26 M25 (by omega) (by omega) (by omega) (by omega) hI hE _ _ hw hS ls (lv_sub hl [0, 1, 3, 4, 5] rfl)
                  · refine lv_aload_n hx hb dX12_first_81 rfl (lv_at hl 3 rfl) ?_
                    refine fm_getG (a := 60) (j := 72) (T := TX12) (N := 79) hx hb hts hinX12 hown hc hw kl_60 sh_60 rfl (by decide) rfl (hI.to kl_60 tg_60_72) (hts (.fieldLink RX12 149 "RedTentModel" "sorted" "[I") (List.mem_cons_of_mem _ tw_5_192)) (fun _ h9 => h9) dX12_first_82 ?_
                    refine lv_iload hx hb dX12_first_85 (lv_at hl 0 rfl) ?_
                    refine lv_aload_n hx hb dX12_first_87 rfl (lv_at hl 3 rfl) ?_
                    refine fm_getG (a := 60) (j := 72) (T := TX12) (N := 79) hx hb hts hinX12 hown hc hw kl_60 sh_60 rfl (by decide) rfl (hI.to kl_60 tg_60_72) (hts (.fieldLink RX12 149 "RedTentModel" "sorted" "[I") (List.mem_cons_of_mem _ tw_5_192)) (fun _ h9 => h9) dX12_first_88 ?_
                    refine lv_iload hx hb dX12_first_91 (lv_at hl 0 rfl) ?_
                    refine lv_iconst (v := 1) hx hb dX12_first_93 (by decide) ?_
                    refine fx_isub hx hb dX12_first_94 rfl zk_1 (by omega) (fun y28 ey28 ty28 => ?_)
                    refine fm_iald (a := 172) hx hb hc hw hI kl_172 sh_172 ty_172 bd_172 (by omega) dX12_first_95 (fun x29 ex29 bx29 => ?_)
                    refine fm_iast (a := 172) hx hb hc hw hI hE hS kl_172 sh_172 ty_172 bd_172 (by omega) (by omega) cd_172 (by decide) dX12_first_96 (fun M30 H locs eM30 hw hI hE hS => ?_)
                    obtain ⟨y31, ey31⟩ : ∃ y : Int32, y = lq_5 + (-1) := ⟨_, rfl⟩
                    have ty31 : y31.toInt = lq_5.toInt + (-1) := by rw [ey31, zi_add _ _ (by rw [zk_m1]; omega) (by rw [zk_m1]; omega), zk_m1]
                    refine lv_iinc (v := y31) (lv' := [(5, .int y31), (4, .int lp_4), (3, .int lp_3), (0, .ref (ad 60 0)), (1, .int p0), (2, .int p1)]) hx hb dX12_first_97 hl (k := 0) rfl (by rw [ey31]; rfl) (by decide) rfl (fun ls hl => ?_)
                    refine lv_goto (tgt := 52) hx hb dX12_first_100 (by decide) ?_
                    exact ih_lq y31 M30 (by omega) (by omega) hI hE _ _ hw hS ls (lv_sub hl [0, 1, 2, 3, 4, 5] rfl)
            exact lq _ lp_3 M15 (Nat.lt_succ_self _) (by omega) hI hE _ _ hw hS ls (lv_sub hl [0, 1, 2, 3, 4, 5] rfl)
    exact lp _ 0 0 M (Nat.lt_succ_self _) (by decide) (by decide) (by have zlp_4 := zk_0; have zlp_3 := zk_0; omega) hI hE _ _ hw hS ls (lv_sub hl [0, 1, 2, 3, 4] rfl)
  · refine fx_if_ne (tgt := 11) hx hb dX12_first_5 (by decide) zk_0 (fun c32 => by exfalso; omega) (fun c32 => ?_)
    refine lv_bipush (v := (-2)) hx hb dX12_first_8 (by decide) ?_
    exact W.iret (v := (-2)) hx hb hr (fun t ht hW => ⟨⟨(-2), M, rfl, ⟨hI, hE, trivial⟩, by show fm_at D ad C nb _ t.heap; rw [ht]; exact hw⟩, hS.F ht⟩) hS.2.2 dX12_first_10

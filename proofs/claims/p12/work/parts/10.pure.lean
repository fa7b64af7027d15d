theorem zb_X11_isCell_0 : (decode cX11_isCell 0 = .ok (.iload_n 0, 1)) ∧ (decode cX11_isCell 1 = .ok (.ifCond .lt 13, 3)) ∧ (decode cX11_isCell 14 = .ok (.iconst 0, 1)) ∧ (decode cX11_isCell 15 = .ok (.ireturn, 1)) ∧ (decode cX11_isCell 4 = .ok (.iload_n 0, 1)) ∧ (decode cX11_isCell 5 = .ok (.bipush 64, 2)) ∧ (decode cX11_isCell 7 = .ok (.if_icmp .ge 7, 3)) ∧ (decode cX11_isCell 10 = .ok (.iconst 1, 1)) ∧ (decode cX11_isCell 11 = .ok (.goto 4, 3)) := by decide +kernel
theorem dX11_isCell_0 : decode cX11_isCell 0 = .ok (.iload_n 0, 1) := zb_X11_isCell_0.1
theorem dX11_isCell_1 : decode cX11_isCell 1 = .ok (.ifCond .lt 13, 3) := zb_X11_isCell_0.2.1
theorem dX11_isCell_14 : decode cX11_isCell 14 = .ok (.iconst 0, 1) := zb_X11_isCell_0.2.2.1
theorem dX11_isCell_15 : decode cX11_isCell 15 = .ok (.ireturn, 1) := zb_X11_isCell_0.2.2.2.1
theorem dX11_isCell_4 : decode cX11_isCell 4 = .ok (.iload_n 0, 1) := zb_X11_isCell_0.2.2.2.2.1
theorem dX11_isCell_5 : decode cX11_isCell 5 = .ok (.bipush 64, 2) := zb_X11_isCell_0.2.2.2.2.2.1
theorem dX11_isCell_7 : decode cX11_isCell 7 = .ok (.if_icmp .ge 7, 3) := zb_X11_isCell_0.2.2.2.2.2.2.1
theorem dX11_isCell_10 : decode cX11_isCell 10 = .ok (.iconst 1, 1) := zb_X11_isCell_0.2.2.2.2.2.2.2.1
theorem dX11_isCell_11 : decode cX11_isCell 11 = .ok (.goto 4, 3) := zb_X11_isCell_0.2.2.2.2.2.2.2.2
theorem zb_X11_isMark_0 : (decode cX11_isMark 0 = .ok (.iload_n 0, 1)) ∧ (decode cX11_isMark 1 = .ok (.ifCond .lt 13, 3)) ∧ (decode cX11_isMark 14 = .ok (.iconst 0, 1)) ∧ (decode cX11_isMark 15 = .ok (.ireturn, 1)) ∧ (decode cX11_isMark 4 = .ok (.iload_n 0, 1)) ∧ (decode cX11_isMark 5 = .ok (.bipush 99, 2)) ∧ (decode cX11_isMark 7 = .ok (.if_icmp .gt 7, 3)) ∧ (decode cX11_isMark 10 = .ok (.iconst 1, 1)) ∧ (decode cX11_isMark 11 = .ok (.goto 4, 3)) := by decide +kernel
theorem dX11_isMark_0 : decode cX11_isMark 0 = .ok (.iload_n 0, 1) := zb_X11_isMark_0.1
theorem dX11_isMark_1 : decode cX11_isMark 1 = .ok (.ifCond .lt 13, 3) := zb_X11_isMark_0.2.1
theorem dX11_isMark_14 : decode cX11_isMark 14 = .ok (.iconst 0, 1) := zb_X11_isMark_0.2.2.1
theorem dX11_isMark_15 : decode cX11_isMark 15 = .ok (.ireturn, 1) := zb_X11_isMark_0.2.2.2.1
theorem dX11_isMark_4 : decode cX11_isMark 4 = .ok (.iload_n 0, 1) := zb_X11_isMark_0.2.2.2.2.1
theorem dX11_isMark_5 : decode cX11_isMark 5 = .ok (.bipush 99, 2) := zb_X11_isMark_0.2.2.2.2.2.1
theorem dX11_isMark_7 : decode cX11_isMark 7 = .ok (.if_icmp .gt 7, 3) := zb_X11_isMark_0.2.2.2.2.2.2.1
theorem dX11_isMark_10 : decode cX11_isMark 10 = .ok (.iconst 1, 1) := zb_X11_isMark_0.2.2.2.2.2.2.2.1
theorem dX11_isMark_11 : decode cX11_isMark 11 = .ok (.goto 4, 3) := zb_X11_isMark_0.2.2.2.2.2.2.2.2
theorem zb_X11_isSpan_0 : (decode cX11_isSpan 0 = .ok (.iload_n 0, 1)) ∧ (decode cX11_isSpan 1 = .ok (.ifCond .lt 19, 3)) ∧ (decode cX11_isSpan 20 = .ok (.iconst 0, 1)) ∧ (decode cX11_isSpan 21 = .ok (.ireturn, 1)) ∧ (decode cX11_isSpan 4 = .ok (.iload_n 1, 1)) ∧ (decode cX11_isSpan 5 = .ok (.iload_n 0, 1)) ∧ (decode cX11_isSpan 6 = .ok (.if_icmp .le 14, 3)) ∧ (decode cX11_isSpan 9 = .ok (.iload_n 1, 1)) ∧ (decode cX11_isSpan 10 = .ok (.sipush 240, 3)) ∧ (decode cX11_isSpan 13 = .ok (.if_icmp .gt 7, 3)) ∧ (decode cX11_isSpan 16 = .ok (.iconst 1, 1)) ∧ (decode cX11_isSpan 17 = .ok (.goto 4, 3)) := by decide +kernel
theorem dX11_isSpan_0 : decode cX11_isSpan 0 = .ok (.iload_n 0, 1) := zb_X11_isSpan_0.1
theorem dX11_isSpan_1 : decode cX11_isSpan 1 = .ok (.ifCond .lt 19, 3) := zb_X11_isSpan_0.2.1
theorem dX11_isSpan_20 : decode cX11_isSpan 20 = .ok (.iconst 0, 1) := zb_X11_isSpan_0.2.2.1
theorem dX11_isSpan_21 : decode cX11_isSpan 21 = .ok (.ireturn, 1) := zb_X11_isSpan_0.2.2.2.1
theorem dX11_isSpan_4 : decode cX11_isSpan 4 = .ok (.iload_n 1, 1) := zb_X11_isSpan_0.2.2.2.2.1
theorem dX11_isSpan_5 : decode cX11_isSpan 5 = .ok (.iload_n 0, 1) := zb_X11_isSpan_0.2.2.2.2.2.1
theorem dX11_isSpan_6 : decode cX11_isSpan 6 = .ok (.if_icmp .le 14, 3) := zb_X11_isSpan_0.2.2.2.2.2.2.1
theorem dX11_isSpan_9 : decode cX11_isSpan 9 = .ok (.iload_n 1, 1) := zb_X11_isSpan_0.2.2.2.2.2.2.2.1
theorem dX11_isSpan_10 : decode cX11_isSpan 10 = .ok (.sipush 240, 3) := zb_X11_isSpan_0.2.2.2.2.2.2.2.2.1
theorem dX11_isSpan_13 : decode cX11_isSpan 13 = .ok (.if_icmp .gt 7, 3) := zb_X11_isSpan_0.2.2.2.2.2.2.2.2.2.1
theorem dX11_isSpan_16 : decode cX11_isSpan 16 = .ok (.iconst 1, 1) := zb_X11_isSpan_0.2.2.2.2.2.2.2.2.2.2.1
theorem dX11_isSpan_17 : decode cX11_isSpan 17 = .ok (.goto 4, 3) := zb_X11_isSpan_0.2.2.2.2.2.2.2.2.2.2.2
theorem zb_X11_isWind_0 : (decode cX11_isWind 0 = .ok (.iload_n 0, 1)) ∧ (decode cX11_isWind 1 = .ok (.ifCond .lt 10, 3)) ∧ (decode cX11_isWind 11 = .ok (.iconst 0, 1)) ∧ (decode cX11_isWind 12 = .ok (.ireturn, 1)) ∧ (decode cX11_isWind 4 = .ok (.iload_n 0, 1)) ∧ (decode cX11_isWind 5 = .ok (.sipush 4444, 3)) ∧ (decode cX11_isWind 8 = .ok (.if_icmp .le 5, 3)) ∧ (decode cX11_isWind 13 = .ok (.iload_n 0, 1)) ∧ (decode cX11_isWind 14 = .ok (.sipush 1000, 3)) ∧ (decode cX11_isWind 17 = .ok (.idiv, 1)) ∧ (decode cX11_isWind 18 = .ok (.istore_n 1, 1)) ∧ (decode cX11_isWind 19 = .ok (.iload_n 0, 1)) := by decide +kernel
theorem dX11_isWind_0 : decode cX11_isWind 0 = .ok (.iload_n 0, 1) := zb_X11_isWind_0.1
theorem dX11_isWind_1 : decode cX11_isWind 1 = .ok (.ifCond .lt 10, 3) := zb_X11_isWind_0.2.1
theorem dX11_isWind_11 : decode cX11_isWind 11 = .ok (.iconst 0, 1) := zb_X11_isWind_0.2.2.1
theorem dX11_isWind_12 : decode cX11_isWind 12 = .ok (.ireturn, 1) := zb_X11_isWind_0.2.2.2.1
theorem dX11_isWind_4 : decode cX11_isWind 4 = .ok (.iload_n 0, 1) := zb_X11_isWind_0.2.2.2.2.1
theorem dX11_isWind_5 : decode cX11_isWind 5 = .ok (.sipush 4444, 3) := zb_X11_isWind_0.2.2.2.2.2.1
theorem dX11_isWind_8 : decode cX11_isWind 8 = .ok (.if_icmp .le 5, 3) := zb_X11_isWind_0.2.2.2.2.2.2.1
theorem dX11_isWind_13 : decode cX11_isWind 13 = .ok (.iload_n 0, 1) := zb_X11_isWind_0.2.2.2.2.2.2.2.1
theorem dX11_isWind_14 : decode cX11_isWind 14 = .ok (.sipush 1000, 3) := zb_X11_isWind_0.2.2.2.2.2.2.2.2.1
theorem dX11_isWind_17 : decode cX11_isWind 17 = .ok (.idiv, 1) := zb_X11_isWind_0.2.2.2.2.2.2.2.2.2.1
theorem dX11_isWind_18 : decode cX11_isWind 18 = .ok (.istore_n 1, 1) := zb_X11_isWind_0.2.2.2.2.2.2.2.2.2.2.1
theorem dX11_isWind_19 : decode cX11_isWind 19 = .ok (.iload_n 0, 1) := zb_X11_isWind_0.2.2.2.2.2.2.2.2.2.2.2
theorem zb_X11_isWind_20 : (decode cX11_isWind 20 = .ok (.bipush 100, 2)) ∧ (decode cX11_isWind 22 = .ok (.idiv, 1)) ∧ (decode cX11_isWind 23 = .ok (.bipush 10, 2)) ∧ (decode cX11_isWind 25 = .ok (.irem, 1)) ∧ (decode cX11_isWind 26 = .ok (.istore_n 2, 1)) ∧ (decode cX11_isWind 27 = .ok (.iload_n 0, 1)) ∧ (decode cX11_isWind 28 = .ok (.bipush 10, 2)) ∧ (decode cX11_isWind 30 = .ok (.idiv, 1)) ∧ (decode cX11_isWind 31 = .ok (.bipush 10, 2)) ∧ (decode cX11_isWind 33 = .ok (.irem, 1)) ∧ (decode cX11_isWind 34 = .ok (.istore_n 3, 1)) ∧ (decode cX11_isWind 35 = .ok (.iload_n 0, 1)) := by decide +kernel
theorem dX11_isWind_20 : decode cX11_isWind 20 = .ok (.bipush 100, 2) := zb_X11_isWind_20.1
theorem dX11_isWind_22 : decode cX11_isWind 22 = .ok (.idiv, 1) := zb_X11_isWind_20.2.1
theorem dX11_isWind_23 : decode cX11_isWind 23 = .ok (.bipush 10, 2) := zb_X11_isWind_20.2.2.1
theorem dX11_isWind_25 : decode cX11_isWind 25 = .ok (.irem, 1) := zb_X11_isWind_20.2.2.2.1
theorem dX11_isWind_26 : decode cX11_isWind 26 = .ok (.istore_n 2, 1) := zb_X11_isWind_20.2.2.2.2.1
theorem dX11_isWind_27 : decode cX11_isWind 27 = .ok (.iload_n 0, 1) := zb_X11_isWind_20.2.2.2.2.2.1
theorem dX11_isWind_28 : decode cX11_isWind 28 = .ok (.bipush 10, 2) := zb_X11_isWind_20.2.2.2.2.2.2.1
theorem dX11_isWind_30 : decode cX11_isWind 30 = .ok (.idiv, 1) := zb_X11_isWind_20.2.2.2.2.2.2.2.1
theorem dX11_isWind_31 : decode cX11_isWind 31 = .ok (.bipush 10, 2) := zb_X11_isWind_20.2.2.2.2.2.2.2.2.1
theorem dX11_isWind_33 : decode cX11_isWind 33 = .ok (.irem, 1) := zb_X11_isWind_20.2.2.2.2.2.2.2.2.2.1
theorem dX11_isWind_34 : decode cX11_isWind 34 = .ok (.istore_n 3, 1) := zb_X11_isWind_20.2.2.2.2.2.2.2.2.2.2.1
theorem dX11_isWind_35 : decode cX11_isWind 35 = .ok (.iload_n 0, 1) := zb_X11_isWind_20.2.2.2.2.2.2.2.2.2.2.2
theorem zb_X11_isWind_36 : (decode cX11_isWind 36 = .ok (.bipush 10, 2)) ∧ (decode cX11_isWind 38 = .ok (.irem, 1)) ∧ (decode cX11_isWind 39 = .ok (.istore 4, 2)) ∧ (decode cX11_isWind 41 = .ok (.iload_n 2, 1)) ∧ (decode cX11_isWind 42 = .ok (.iconst 4, 1)) ∧ (decode cX11_isWind 43 = .ok (.if_icmp .gt 29, 3)) ∧ (decode cX11_isWind 72 = .ok (.iconst 0, 1)) ∧ (decode cX11_isWind 73 = .ok (.ireturn, 1)) ∧ (decode cX11_isWind 46 = .ok (.iload_n 3, 1)) ∧ (decode cX11_isWind 47 = .ok (.iconst 4, 1)) ∧ (decode cX11_isWind 48 = .ok (.if_icmp .gt 24, 3)) ∧ (decode cX11_isWind 51 = .ok (.iload 4, 2)) := by decide +kernel
theorem dX11_isWind_36 : decode cX11_isWind 36 = .ok (.bipush 10, 2) := zb_X11_isWind_36.1
theorem dX11_isWind_38 : decode cX11_isWind 38 = .ok (.irem, 1) := zb_X11_isWind_36.2.1
theorem dX11_isWind_39 : decode cX11_isWind 39 = .ok (.istore 4, 2) := zb_X11_isWind_36.2.2.1
theorem dX11_isWind_41 : decode cX11_isWind 41 = .ok (.iload_n 2, 1) := zb_X11_isWind_36.2.2.2.1
theorem dX11_isWind_42 : decode cX11_isWind 42 = .ok (.iconst 4, 1) := zb_X11_isWind_36.2.2.2.2.1
theorem dX11_isWind_43 : decode cX11_isWind 43 = .ok (.if_icmp .gt 29, 3) := zb_X11_isWind_36.2.2.2.2.2.1
theorem dX11_isWind_72 : decode cX11_isWind 72 = .ok (.iconst 0, 1) := zb_X11_isWind_36.2.2.2.2.2.2.1
theorem dX11_isWind_73 : decode cX11_isWind 73 = .ok (.ireturn, 1) := zb_X11_isWind_36.2.2.2.2.2.2.2.1
theorem dX11_isWind_46 : decode cX11_isWind 46 = .ok (.iload_n 3, 1) := zb_X11_isWind_36.2.2.2.2.2.2.2.2.1
theorem dX11_isWind_47 : decode cX11_isWind 47 = .ok (.iconst 4, 1) := zb_X11_isWind_36.2.2.2.2.2.2.2.2.2.1
theorem dX11_isWind_48 : decode cX11_isWind 48 = .ok (.if_icmp .gt 24, 3) := zb_X11_isWind_36.2.2.2.2.2.2.2.2.2.2.1
theorem dX11_isWind_51 : decode cX11_isWind 51 = .ok (.iload 4, 2) := zb_X11_isWind_36.2.2.2.2.2.2.2.2.2.2.2
theorem zb_X11_isWind_53 : (decode cX11_isWind 53 = .ok (.iconst 4, 1)) ∧ (decode cX11_isWind 54 = .ok (.if_icmp .gt 18, 3)) ∧ (decode cX11_isWind 57 = .ok (.iload_n 1, 1)) ∧ (decode cX11_isWind 58 = .ok (.iload_n 2, 1)) ∧ (decode cX11_isWind 59 = .ok (.if_icmp .gt 13, 3)) ∧ (decode cX11_isWind 62 = .ok (.iload_n 3, 1)) ∧ (decode cX11_isWind 63 = .ok (.iload 4, 2)) ∧ (decode cX11_isWind 65 = .ok (.if_icmp .gt 7, 3)) ∧ (decode cX11_isWind 68 = .ok (.iconst 1, 1)) ∧ (decode cX11_isWind 69 = .ok (.goto 4, 3)) := by decide +kernel
theorem dX11_isWind_53 : decode cX11_isWind 53 = .ok (.iconst 4, 1) := zb_X11_isWind_53.1
theorem dX11_isWind_54 : decode cX11_isWind 54 = .ok (.if_icmp .gt 18, 3) := zb_X11_isWind_53.2.1
theorem dX11_isWind_57 : decode cX11_isWind 57 = .ok (.iload_n 1, 1) := zb_X11_isWind_53.2.2.1
theorem dX11_isWind_58 : decode cX11_isWind 58 = .ok (.iload_n 2, 1) := zb_X11_isWind_53.2.2.2.1
theorem dX11_isWind_59 : decode cX11_isWind 59 = .ok (.if_icmp .gt 13, 3) := zb_X11_isWind_53.2.2.2.2.1
theorem dX11_isWind_62 : decode cX11_isWind 62 = .ok (.iload_n 3, 1) := zb_X11_isWind_53.2.2.2.2.2.1
theorem dX11_isWind_63 : decode cX11_isWind 63 = .ok (.iload 4, 2) := zb_X11_isWind_53.2.2.2.2.2.2.1
theorem dX11_isWind_65 : decode cX11_isWind 65 = .ok (.if_icmp .gt 7, 3) := zb_X11_isWind_53.2.2.2.2.2.2.2.1
theorem dX11_isWind_68 : decode cX11_isWind 68 = .ok (.iconst 1, 1) := zb_X11_isWind_53.2.2.2.2.2.2.2.2.1
theorem dX11_isWind_69 : decode cX11_isWind 69 = .ok (.goto 4, 3) := zb_X11_isWind_53.2.2.2.2.2.2.2.2.2
theorem zb_X11_has_0 : (decode cX11_has 0 = .ok (.lload_n 0, 1)) ∧ (decode cX11_has 1 = .ok (.iload_n 2, 1)) ∧ (decode cX11_has 2 = .ok (.lushr, 1)) ∧ (decode cX11_has 3 = .ok (.lconst 1, 1)) ∧ (decode cX11_has 4 = .ok (.land, 1)) ∧ (decode cX11_has 5 = .ok (.lconst 0, 1)) ∧ (decode cX11_has 6 = .ok (.lcmp, 1)) ∧ (decode cX11_has 7 = .ok (.ifCond .eq 7, 3)) ∧ (decode cX11_has 14 = .ok (.iconst 0, 1)) ∧ (decode cX11_has 15 = .ok (.ireturn, 1)) ∧ (decode cX11_has 10 = .ok (.iconst 1, 1)) ∧ (decode cX11_has 11 = .ok (.goto 4, 3)) := by decide +kernel
theorem dX11_has_0 : decode cX11_has 0 = .ok (.lload_n 0, 1) := zb_X11_has_0.1
theorem dX11_has_1 : decode cX11_has 1 = .ok (.iload_n 2, 1) := zb_X11_has_0.2.1
theorem dX11_has_2 : decode cX11_has 2 = .ok (.lushr, 1) := zb_X11_has_0.2.2.1
theorem dX11_has_3 : decode cX11_has 3 = .ok (.lconst 1, 1) := zb_X11_has_0.2.2.2.1
theorem dX11_has_4 : decode cX11_has 4 = .ok (.land, 1) := zb_X11_has_0.2.2.2.2.1
theorem dX11_has_5 : decode cX11_has 5 = .ok (.lconst 0, 1) := zb_X11_has_0.2.2.2.2.2.1
theorem dX11_has_6 : decode cX11_has 6 = .ok (.lcmp, 1) := zb_X11_has_0.2.2.2.2.2.2.1
theorem dX11_has_7 : decode cX11_has 7 = .ok (.ifCond .eq 7, 3) := zb_X11_has_0.2.2.2.2.2.2.2.1
theorem dX11_has_14 : decode cX11_has 14 = .ok (.iconst 0, 1) := zb_X11_has_0.2.2.2.2.2.2.2.2.1
theorem dX11_has_15 : decode cX11_has 15 = .ok (.ireturn, 1) := zb_X11_has_0.2.2.2.2.2.2.2.2.2.1
theorem dX11_has_10 : decode cX11_has 10 = .ok (.iconst 1, 1) := zb_X11_has_0.2.2.2.2.2.2.2.2.2.2.1
theorem dX11_has_11 : decode cX11_has 11 = .ok (.goto 4, 3) := zb_X11_has_0.2.2.2.2.2.2.2.2.2.2.2
theorem zb_X11_apart_0 : (decode cX11_apart 0 = .ok (.iload_n 0, 1)) ∧ (decode cX11_apart 1 = .ok (.bipush 8, 2)) ∧ (decode cX11_apart 3 = .ok (.irem, 1)) ∧ (decode cX11_apart 4 = .ok (.iload_n 1, 1)) ∧ (decode cX11_apart 5 = .ok (.bipush 8, 2)) ∧ (decode cX11_apart 7 = .ok (.irem, 1)) ∧ (decode cX11_apart 8 = .ok (.isub, 1)) ∧ (decode cX11_apart 9 = .ok (.invokestatic 395, 3)) ∧ (decode cX11_apart 12 = .ok (.istore_n 2, 1)) ∧ (decode cX11_apart 13 = .ok (.iload_n 0, 1)) ∧ (decode cX11_apart 14 = .ok (.bipush 8, 2)) := by decide +kernel
theorem dX11_apart_0 : decode cX11_apart 0 = .ok (.iload_n 0, 1) := zb_X11_apart_0.1
theorem dX11_apart_1 : decode cX11_apart 1 = .ok (.bipush 8, 2) := zb_X11_apart_0.2.1
theorem dX11_apart_3 : decode cX11_apart 3 = .ok (.irem, 1) := zb_X11_apart_0.2.2.1
theorem dX11_apart_4 : decode cX11_apart 4 = .ok (.iload_n 1, 1) := zb_X11_apart_0.2.2.2.1
theorem dX11_apart_5 : decode cX11_apart 5 = .ok (.bipush 8, 2) := zb_X11_apart_0.2.2.2.2.1
theorem dX11_apart_7 : decode cX11_apart 7 = .ok (.irem, 1) := zb_X11_apart_0.2.2.2.2.2.1
theorem dX11_apart_8 : decode cX11_apart 8 = .ok (.isub, 1) := zb_X11_apart_0.2.2.2.2.2.2.1
theorem dX11_apart_9 : decode cX11_apart 9 = .ok (.invokestatic 395, 3) := zb_X11_apart_0.2.2.2.2.2.2.2.1
theorem dX11_apart_12 : decode cX11_apart 12 = .ok (.istore_n 2, 1) := zb_X11_apart_0.2.2.2.2.2.2.2.2.1
theorem dX11_apart_13 : decode cX11_apart 13 = .ok (.iload_n 0, 1) := zb_X11_apart_0.2.2.2.2.2.2.2.2.2.1
theorem dX11_apart_14 : decode cX11_apart 14 = .ok (.bipush 8, 2) := zb_X11_apart_0.2.2.2.2.2.2.2.2.2.2
theorem zb_X11_apart_16 : (decode cX11_apart 16 = .ok (.idiv, 1)) ∧ (decode cX11_apart 17 = .ok (.iload_n 1, 1)) ∧ (decode cX11_apart 18 = .ok (.bipush 8, 2)) ∧ (decode cX11_apart 20 = .ok (.idiv, 1)) ∧ (decode cX11_apart 21 = .ok (.isub, 1)) ∧ (decode cX11_apart 22 = .ok (.invokestatic 395, 3)) ∧ (decode cX11_apart 25 = .ok (.istore_n 3, 1)) ∧ (decode cX11_apart 26 = .ok (.iload_n 2, 1)) ∧ (decode cX11_apart 27 = .ok (.iload_n 3, 1)) ∧ (decode cX11_apart 28 = .ok (.invokestatic 400, 3)) ∧ (decode cX11_apart 31 = .ok (.ireturn, 1)) := by decide +kernel
theorem dX11_apart_16 : decode cX11_apart 16 = .ok (.idiv, 1) := zb_X11_apart_16.1
theorem dX11_apart_17 : decode cX11_apart 17 = .ok (.iload_n 1, 1) := zb_X11_apart_16.2.1
theorem dX11_apart_18 : decode cX11_apart 18 = .ok (.bipush 8, 2) := zb_X11_apart_16.2.2.1
theorem dX11_apart_20 : decode cX11_apart 20 = .ok (.idiv, 1) := zb_X11_apart_16.2.2.2.1
theorem dX11_apart_21 : decode cX11_apart 21 = .ok (.isub, 1) := zb_X11_apart_16.2.2.2.2.1
theorem dX11_apart_22 : decode cX11_apart 22 = .ok (.invokestatic 395, 3) := zb_X11_apart_16.2.2.2.2.2.1
theorem dX11_apart_25 : decode cX11_apart 25 = .ok (.istore_n 3, 1) := zb_X11_apart_16.2.2.2.2.2.2.1
theorem dX11_apart_26 : decode cX11_apart 26 = .ok (.iload_n 2, 1) := zb_X11_apart_16.2.2.2.2.2.2.2.1
theorem dX11_apart_27 : decode cX11_apart 27 = .ok (.iload_n 3, 1) := zb_X11_apart_16.2.2.2.2.2.2.2.2.1
theorem dX11_apart_28 : decode cX11_apart 28 = .ok (.invokestatic 400, 3) := zb_X11_apart_16.2.2.2.2.2.2.2.2.2.1
theorem dX11_apart_31 : decode cX11_apart 31 = .ok (.ireturn, 1) := zb_X11_apart_16.2.2.2.2.2.2.2.2.2.2
theorem zb_X11_byColumns_0 : (decode cX11_byColumns 0 = .ok (.ldc2_w 406, 3)) ∧ (decode cX11_byColumns 3 = .ok (.lstore_n 3, 1)) ∧ (decode cX11_byColumns 4 = .ok (.iload_n 2, 1)) ∧ (decode cX11_byColumns 5 = .ok (.ifCond .lt 16, 3)) ∧ (decode cX11_byColumns 21 = .ok (.lload_n 0, 1)) ∧ (decode cX11_byColumns 22 = .ok (.lload_n 3, 1)) ∧ (decode cX11_byColumns 23 = .ok (.sipush 255, 3)) ∧ (decode cX11_byColumns 26 = .ok (.iload_n 2, 1)) ∧ (decode cX11_byColumns 27 = .ok (.ineg, 1)) ∧ (decode cX11_byColumns 28 = .ok (.ishl, 1)) := by decide +kernel
theorem dX11_byColumns_0 : decode cX11_byColumns 0 = .ok (.ldc2_w 406, 3) := zb_X11_byColumns_0.1
theorem dX11_byColumns_3 : decode cX11_byColumns 3 = .ok (.lstore_n 3, 1) := zb_X11_byColumns_0.2.1
theorem dX11_byColumns_4 : decode cX11_byColumns 4 = .ok (.iload_n 2, 1) := zb_X11_byColumns_0.2.2.1
theorem dX11_byColumns_5 : decode cX11_byColumns 5 = .ok (.ifCond .lt 16, 3) := zb_X11_byColumns_0.2.2.2.1
theorem dX11_byColumns_21 : decode cX11_byColumns 21 = .ok (.lload_n 0, 1) := zb_X11_byColumns_0.2.2.2.2.1
theorem dX11_byColumns_22 : decode cX11_byColumns 22 = .ok (.lload_n 3, 1) := zb_X11_byColumns_0.2.2.2.2.2.1
theorem dX11_byColumns_23 : decode cX11_byColumns 23 = .ok (.sipush 255, 3) := zb_X11_byColumns_0.2.2.2.2.2.2.1
theorem dX11_byColumns_26 : decode cX11_byColumns 26 = .ok (.iload_n 2, 1) := zb_X11_byColumns_0.2.2.2.2.2.2.2.1
theorem dX11_byColumns_27 : decode cX11_byColumns 27 = .ok (.ineg, 1) := zb_X11_byColumns_0.2.2.2.2.2.2.2.2.1
theorem dX11_byColumns_28 : decode cX11_byColumns 28 = .ok (.ishl, 1) := zb_X11_byColumns_0.2.2.2.2.2.2.2.2.2
theorem zb_X11_byColumns_29 : (decode cX11_byColumns 29 = .ok (.sipush 255, 3)) ∧ (decode cX11_byColumns 32 = .ok (.iand, 1)) ∧ (decode cX11_byColumns 33 = .ok (.i2l, 1)) ∧ (decode cX11_byColumns 34 = .ok (.lmul, 1)) ∧ (decode cX11_byColumns 35 = .ok (.land, 1)) ∧ (decode cX11_byColumns 36 = .ok (.iload_n 2, 1)) ∧ (decode cX11_byColumns 37 = .ok (.ineg, 1)) ∧ (decode cX11_byColumns 38 = .ok (.lushr, 1)) ∧ (decode cX11_byColumns 39 = .ok (.lreturn, 1)) ∧ (decode cX11_byColumns 8 = .ok (.lload_n 0, 1)) := by decide +kernel
theorem dX11_byColumns_29 : decode cX11_byColumns 29 = .ok (.sipush 255, 3) := zb_X11_byColumns_29.1
theorem dX11_byColumns_32 : decode cX11_byColumns 32 = .ok (.iand, 1) := zb_X11_byColumns_29.2.1
theorem dX11_byColumns_33 : decode cX11_byColumns 33 = .ok (.i2l, 1) := zb_X11_byColumns_29.2.2.1
theorem dX11_byColumns_34 : decode cX11_byColumns 34 = .ok (.lmul, 1) := zb_X11_byColumns_29.2.2.2.1
theorem dX11_byColumns_35 : decode cX11_byColumns 35 = .ok (.land, 1) := zb_X11_byColumns_29.2.2.2.2.1
theorem dX11_byColumns_36 : decode cX11_byColumns 36 = .ok (.iload_n 2, 1) := zb_X11_byColumns_29.2.2.2.2.2.1
theorem dX11_byColumns_37 : decode cX11_byColumns 37 = .ok (.ineg, 1) := zb_X11_byColumns_29.2.2.2.2.2.2.1
theorem dX11_byColumns_38 : decode cX11_byColumns 38 = .ok (.lushr, 1) := zb_X11_byColumns_29.2.2.2.2.2.2.2.1
theorem dX11_byColumns_39 : decode cX11_byColumns 39 = .ok (.lreturn, 1) := zb_X11_byColumns_29.2.2.2.2.2.2.2.2.1
theorem dX11_byColumns_8 : decode cX11_byColumns 8 = .ok (.lload_n 0, 1) := zb_X11_byColumns_29.2.2.2.2.2.2.2.2.2
theorem zb_X11_byColumns_9 : (decode cX11_byColumns 9 = .ok (.lload_n 3, 1)) ∧ (decode cX11_byColumns 10 = .ok (.sipush 255, 3)) ∧ (decode cX11_byColumns 13 = .ok (.iload_n 2, 1)) ∧ (decode cX11_byColumns 14 = .ok (.ishr, 1)) ∧ (decode cX11_byColumns 15 = .ok (.i2l, 1)) ∧ (decode cX11_byColumns 16 = .ok (.lmul, 1)) ∧ (decode cX11_byColumns 17 = .ok (.land, 1)) ∧ (decode cX11_byColumns 18 = .ok (.iload_n 2, 1)) ∧ (decode cX11_byColumns 19 = .ok (.lshl, 1)) ∧ (decode cX11_byColumns 20 = .ok (.lreturn, 1)) := by decide +kernel
theorem dX11_byColumns_9 : decode cX11_byColumns 9 = .ok (.lload_n 3, 1) := zb_X11_byColumns_9.1
theorem dX11_byColumns_10 : decode cX11_byColumns 10 = .ok (.sipush 255, 3) := zb_X11_byColumns_9.2.1
theorem dX11_byColumns_13 : decode cX11_byColumns 13 = .ok (.iload_n 2, 1) := zb_X11_byColumns_9.2.2.1
theorem dX11_byColumns_14 : decode cX11_byColumns 14 = .ok (.ishr, 1) := zb_X11_byColumns_9.2.2.2.1
theorem dX11_byColumns_15 : decode cX11_byColumns 15 = .ok (.i2l, 1) := zb_X11_byColumns_9.2.2.2.2.1
theorem dX11_byColumns_16 : decode cX11_byColumns 16 = .ok (.lmul, 1) := zb_X11_byColumns_9.2.2.2.2.2.1
theorem dX11_byColumns_17 : decode cX11_byColumns 17 = .ok (.land, 1) := zb_X11_byColumns_9.2.2.2.2.2.2.1
theorem dX11_byColumns_18 : decode cX11_byColumns 18 = .ok (.iload_n 2, 1) := zb_X11_byColumns_9.2.2.2.2.2.2.2.1
theorem dX11_byColumns_19 : decode cX11_byColumns 19 = .ok (.lshl, 1) := zb_X11_byColumns_9.2.2.2.2.2.2.2.2.1
theorem dX11_byColumns_20 : decode cX11_byColumns 20 = .ok (.lreturn, 1) := zb_X11_byColumns_9.2.2.2.2.2.2.2.2.2
theorem zb_X11_byRows_0 : (decode cX11_byRows 0 = .ok (.iload_n 2, 1)) ∧ (decode cX11_byRows 1 = .ok (.ifCond .lt 12, 3)) ∧ (decode cX11_byRows 13 = .ok (.lload_n 0, 1)) ∧ (decode cX11_byRows 14 = .ok (.bipush 8, 2)) ∧ (decode cX11_byRows 16 = .ok (.iload_n 2, 1)) ∧ (decode cX11_byRows 17 = .ok (.ineg, 1)) ∧ (decode cX11_byRows 18 = .ok (.imul, 1)) ∧ (decode cX11_byRows 19 = .ok (.lushr, 1)) := by decide +kernel
theorem dX11_byRows_0 : decode cX11_byRows 0 = .ok (.iload_n 2, 1) := zb_X11_byRows_0.1
theorem dX11_byRows_1 : decode cX11_byRows 1 = .ok (.ifCond .lt 12, 3) := zb_X11_byRows_0.2.1
theorem dX11_byRows_13 : decode cX11_byRows 13 = .ok (.lload_n 0, 1) := zb_X11_byRows_0.2.2.1
theorem dX11_byRows_14 : decode cX11_byRows 14 = .ok (.bipush 8, 2) := zb_X11_byRows_0.2.2.2.1
theorem dX11_byRows_16 : decode cX11_byRows 16 = .ok (.iload_n 2, 1) := zb_X11_byRows_0.2.2.2.2.1
theorem dX11_byRows_17 : decode cX11_byRows 17 = .ok (.ineg, 1) := zb_X11_byRows_0.2.2.2.2.2.1
theorem dX11_byRows_18 : decode cX11_byRows 18 = .ok (.imul, 1) := zb_X11_byRows_0.2.2.2.2.2.2.1
theorem dX11_byRows_19 : decode cX11_byRows 19 = .ok (.lushr, 1) := zb_X11_byRows_0.2.2.2.2.2.2.2
theorem zb_X11_byRows_20 : (decode cX11_byRows 20 = .ok (.lreturn, 1)) ∧ (decode cX11_byRows 4 = .ok (.lload_n 0, 1)) ∧ (decode cX11_byRows 5 = .ok (.bipush 8, 2)) ∧ (decode cX11_byRows 7 = .ok (.iload_n 2, 1)) ∧ (decode cX11_byRows 8 = .ok (.imul, 1)) ∧ (decode cX11_byRows 9 = .ok (.lshl, 1)) ∧ (decode cX11_byRows 10 = .ok (.goto 10, 3)) := by decide +kernel
theorem dX11_byRows_20 : decode cX11_byRows 20 = .ok (.lreturn, 1) := zb_X11_byRows_20.1
theorem dX11_byRows_4 : decode cX11_byRows 4 = .ok (.lload_n 0, 1) := zb_X11_byRows_20.2.1
theorem dX11_byRows_5 : decode cX11_byRows 5 = .ok (.bipush 8, 2) := zb_X11_byRows_20.2.2.1
theorem dX11_byRows_7 : decode cX11_byRows 7 = .ok (.iload_n 2, 1) := zb_X11_byRows_20.2.2.2.1
theorem dX11_byRows_8 : decode cX11_byRows 8 = .ok (.imul, 1) := zb_X11_byRows_20.2.2.2.2.1
theorem dX11_byRows_9 : decode cX11_byRows 9 = .ok (.lshl, 1) := zb_X11_byRows_20.2.2.2.2.2.1
theorem dX11_byRows_10 : decode cX11_byRows 10 = .ok (.goto 10, 3) := zb_X11_byRows_20.2.2.2.2.2.2
theorem zb_X11_nearest_0 : (decode cX11_nearest 0 = .ok (.bipush 99, 2)) ∧ (decode cX11_nearest 2 = .ok (.istore_n 3, 1)) ∧ (decode cX11_nearest 3 = .ok (.iconst 0, 1)) ∧ (decode cX11_nearest 4 = .ok (.istore 4, 2)) ∧ (decode cX11_nearest 6 = .ok (.iload 4, 2)) ∧ (decode cX11_nearest 8 = .ok (.bipush 64, 2)) ∧ (decode cX11_nearest 10 = .ok (.if_icmp .ge 29, 3)) ∧ (decode cX11_nearest 39 = .ok (.iload_n 3, 1)) ∧ (decode cX11_nearest 40 = .ok (.ireturn, 1)) ∧ (decode cX11_nearest 13 = .ok (.lload_n 1, 1)) ∧ (decode cX11_nearest 14 = .ok (.iload 4, 2)) := by decide +kernel
theorem dX11_nearest_0 : decode cX11_nearest 0 = .ok (.bipush 99, 2) := zb_X11_nearest_0.1
theorem dX11_nearest_2 : decode cX11_nearest 2 = .ok (.istore_n 3, 1) := zb_X11_nearest_0.2.1
theorem dX11_nearest_3 : decode cX11_nearest 3 = .ok (.iconst 0, 1) := zb_X11_nearest_0.2.2.1
theorem dX11_nearest_4 : decode cX11_nearest 4 = .ok (.istore 4, 2) := zb_X11_nearest_0.2.2.2.1
theorem dX11_nearest_6 : decode cX11_nearest 6 = .ok (.iload 4, 2) := zb_X11_nearest_0.2.2.2.2.1
theorem dX11_nearest_8 : decode cX11_nearest 8 = .ok (.bipush 64, 2) := zb_X11_nearest_0.2.2.2.2.2.1
theorem dX11_nearest_10 : decode cX11_nearest 10 = .ok (.if_icmp .ge 29, 3) := zb_X11_nearest_0.2.2.2.2.2.2.1
theorem dX11_nearest_39 : decode cX11_nearest 39 = .ok (.iload_n 3, 1) := zb_X11_nearest_0.2.2.2.2.2.2.2.1
theorem dX11_nearest_40 : decode cX11_nearest 40 = .ok (.ireturn, 1) := zb_X11_nearest_0.2.2.2.2.2.2.2.2.1
theorem dX11_nearest_13 : decode cX11_nearest 13 = .ok (.lload_n 1, 1) := zb_X11_nearest_0.2.2.2.2.2.2.2.2.2.1
theorem dX11_nearest_14 : decode cX11_nearest 14 = .ok (.iload 4, 2) := zb_X11_nearest_0.2.2.2.2.2.2.2.2.2.2
theorem zb_X11_nearest_16 : (decode cX11_nearest 16 = .ok (.invokestatic 317, 3)) ∧ (decode cX11_nearest 19 = .ok (.ifCond .eq 14, 3)) ∧ (decode cX11_nearest 22 = .ok (.iload_n 3, 1)) ∧ (decode cX11_nearest 23 = .ok (.iload_n 0, 1)) ∧ (decode cX11_nearest 24 = .ok (.iload 4, 2)) ∧ (decode cX11_nearest 26 = .ok (.invokestatic 256, 3)) ∧ (decode cX11_nearest 29 = .ok (.invokestatic 403, 3)) ∧ (decode cX11_nearest 32 = .ok (.istore_n 3, 1)) ∧ (decode cX11_nearest 33 = .ok (.iinc 4 1, 3)) ∧ (decode cX11_nearest 36 = .ok (.goto (-30), 3)) := by decide +kernel
theorem dX11_nearest_16 : decode cX11_nearest 16 = .ok (.invokestatic 317, 3) := zb_X11_nearest_16.1
theorem dX11_nearest_19 : decode cX11_nearest 19 = .ok (.ifCond .eq 14, 3) := zb_X11_nearest_16.2.1
theorem dX11_nearest_22 : decode cX11_nearest 22 = .ok (.iload_n 3, 1) := zb_X11_nearest_16.2.2.1
theorem dX11_nearest_23 : decode cX11_nearest 23 = .ok (.iload_n 0, 1) := zb_X11_nearest_16.2.2.2.1
theorem dX11_nearest_24 : decode cX11_nearest 24 = .ok (.iload 4, 2) := zb_X11_nearest_16.2.2.2.2.1
theorem dX11_nearest_26 : decode cX11_nearest 26 = .ok (.invokestatic 256, 3) := zb_X11_nearest_16.2.2.2.2.2.1
theorem dX11_nearest_29 : decode cX11_nearest 29 = .ok (.invokestatic 403, 3) := zb_X11_nearest_16.2.2.2.2.2.2.1
theorem dX11_nearest_32 : decode cX11_nearest 32 = .ok (.istore_n 3, 1) := zb_X11_nearest_16.2.2.2.2.2.2.2.1
theorem dX11_nearest_33 : decode cX11_nearest 33 = .ok (.iinc 4 1, 3) := zb_X11_nearest_16.2.2.2.2.2.2.2.2.1
theorem dX11_nearest_36 : decode cX11_nearest 36 = .ok (.goto (-30), 3) := zb_X11_nearest_16.2.2.2.2.2.2.2.2.2
theorem zb_X4_digit_0 : (decode cX4_digit 0 = .ok (.lload_n 0, 1)) ∧ (decode cX4_digit 1 = .ok (.iconst 4, 1)) ∧ (decode cX4_digit 2 = .ok (.iload_n 2, 1)) ∧ (decode cX4_digit 3 = .ok (.imul, 1)) ∧ (decode cX4_digit 4 = .ok (.lushr, 1)) ∧ (decode cX4_digit 5 = .ok (.ldc2_w 69, 3)) ∧ (decode cX4_digit 8 = .ok (.land, 1)) ∧ (decode cX4_digit 9 = .ok (.l2i, 1)) ∧ (decode cX4_digit 10 = .ok (.ireturn, 1)) := by decide +kernel
theorem dX4_digit_0 : decode cX4_digit 0 = .ok (.lload_n 0, 1) := zb_X4_digit_0.1
theorem dX4_digit_1 : decode cX4_digit 1 = .ok (.iconst 4, 1) := zb_X4_digit_0.2.1
theorem dX4_digit_2 : decode cX4_digit 2 = .ok (.iload_n 2, 1) := zb_X4_digit_0.2.2.1
theorem dX4_digit_3 : decode cX4_digit 3 = .ok (.imul, 1) := zb_X4_digit_0.2.2.2.1
theorem dX4_digit_4 : decode cX4_digit 4 = .ok (.lushr, 1) := zb_X4_digit_0.2.2.2.2.1
theorem dX4_digit_5 : decode cX4_digit 5 = .ok (.ldc2_w 69, 3) := zb_X4_digit_0.2.2.2.2.2.1
theorem dX4_digit_8 : decode cX4_digit 8 = .ok (.land, 1) := zb_X4_digit_0.2.2.2.2.2.2.1
theorem dX4_digit_9 : decode cX4_digit 9 = .ok (.l2i, 1) := zb_X4_digit_0.2.2.2.2.2.2.2.1
theorem dX4_digit_10 : decode cX4_digit 10 = .ok (.ireturn, 1) := zb_X4_digit_0.2.2.2.2.2.2.2.2
theorem zb_X9_truth_0 : (decode cX9_truth 0 = .ok (.iload_n 0, 1)) ∧ (decode cX9_truth 1 = .ok (.ifCond .eq 7, 3)) ∧ (decode cX9_truth 8 = .ok (.iconst 0, 1)) ∧ (decode cX9_truth 9 = .ok (.ireturn, 1)) ∧ (decode cX9_truth 4 = .ok (.iconst 1, 1)) ∧ (decode cX9_truth 5 = .ok (.goto 4, 3)) := by decide +kernel
theorem dX9_truth_0 : decode cX9_truth 0 = .ok (.iload_n 0, 1) := zb_X9_truth_0.1
theorem dX9_truth_1 : decode cX9_truth 1 = .ok (.ifCond .eq 7, 3) := zb_X9_truth_0.2.1
theorem dX9_truth_8 : decode cX9_truth 8 = .ok (.iconst 0, 1) := zb_X9_truth_0.2.2.1
theorem dX9_truth_9 : decode cX9_truth 9 = .ok (.ireturn, 1) := zb_X9_truth_0.2.2.2.1
theorem dX9_truth_4 : decode cX9_truth 4 = .ok (.iconst 1, 1) := zb_X9_truth_0.2.2.2.2.1
theorem dX9_truth_5 : decode cX9_truth 5 = .ok (.goto 4, 3) := zb_X9_truth_0.2.2.2.2.2
theorem zb_X9_joined_0 : (decode cX9_joined 0 = .ok (.iload_n 0, 1)) ∧ (decode cX9_joined 1 = .ok (.tableswitch 113 (-17) (-11) #[109, 105, 91, 77, 113, 60, 43], 43)) ∧ (decode cX9_joined 114 = .ok (.iload_n 1, 1)) ∧ (decode cX9_joined 115 = .ok (.iload_n 2, 1)) ∧ (decode cX9_joined 116 = .ok (.imul, 1)) ∧ (decode cX9_joined 117 = .ok (.ireturn, 1)) ∧ (decode cX9_joined 110 = .ok (.iload_n 1, 1)) ∧ (decode cX9_joined 111 = .ok (.iload_n 2, 1)) ∧ (decode cX9_joined 112 = .ok (.isub, 1)) ∧ (decode cX9_joined 113 = .ok (.ireturn, 1)) ∧ (decode cX9_joined 106 = .ok (.iload_n 1, 1)) ∧ (decode cX9_joined 107 = .ok (.iload_n 2, 1)) := by decide +kernel
theorem dX9_joined_0 : decode cX9_joined 0 = .ok (.iload_n 0, 1) := zb_X9_joined_0.1
theorem dX9_joined_1 : decode cX9_joined 1 = .ok (.tableswitch 113 (-17) (-11) #[109, 105, 91, 77, 113, 60, 43], 43) := zb_X9_joined_0.2.1
theorem dX9_joined_114 : decode cX9_joined 114 = .ok (.iload_n 1, 1) := zb_X9_joined_0.2.2.1
theorem dX9_joined_115 : decode cX9_joined 115 = .ok (.iload_n 2, 1) := zb_X9_joined_0.2.2.2.1
theorem dX9_joined_116 : decode cX9_joined 116 = .ok (.imul, 1) := zb_X9_joined_0.2.2.2.2.1
theorem dX9_joined_117 : decode cX9_joined 117 = .ok (.ireturn, 1) := zb_X9_joined_0.2.2.2.2.2.1
theorem dX9_joined_110 : decode cX9_joined 110 = .ok (.iload_n 1, 1) := zb_X9_joined_0.2.2.2.2.2.2.1
theorem dX9_joined_111 : decode cX9_joined 111 = .ok (.iload_n 2, 1) := zb_X9_joined_0.2.2.2.2.2.2.2.1
theorem dX9_joined_112 : decode cX9_joined 112 = .ok (.isub, 1) := zb_X9_joined_0.2.2.2.2.2.2.2.2.1
theorem dX9_joined_113 : decode cX9_joined 113 = .ok (.ireturn, 1) := zb_X9_joined_0.2.2.2.2.2.2.2.2.2.1
theorem dX9_joined_106 : decode cX9_joined 106 = .ok (.iload_n 1, 1) := zb_X9_joined_0.2.2.2.2.2.2.2.2.2.2.1
theorem dX9_joined_107 : decode cX9_joined 107 = .ok (.iload_n 2, 1) := zb_X9_joined_0.2.2.2.2.2.2.2.2.2.2.2
theorem zb_X9_joined_108 : (decode cX9_joined 108 = .ok (.iadd, 1)) ∧ (decode cX9_joined 109 = .ok (.ireturn, 1)) ∧ (decode cX9_joined 92 = .ok (.iload_n 1, 1)) ∧ (decode cX9_joined 93 = .ok (.iload_n 2, 1)) ∧ (decode cX9_joined 94 = .ok (.if_icmp .ne 7, 3)) ∧ (decode cX9_joined 101 = .ok (.iconst 0, 1)) ∧ (decode cX9_joined 102 = .ok (.invokestatic 49, 3)) ∧ (decode cX9_joined 105 = .ok (.ireturn, 1)) ∧ (decode cX9_joined 97 = .ok (.iconst 1, 1)) ∧ (decode cX9_joined 98 = .ok (.goto 4, 3)) ∧ (decode cX9_joined 78 = .ok (.iload_n 1, 1)) ∧ (decode cX9_joined 79 = .ok (.iload_n 2, 1)) := by decide +kernel
theorem dX9_joined_108 : decode cX9_joined 108 = .ok (.iadd, 1) := zb_X9_joined_108.1
theorem dX9_joined_109 : decode cX9_joined 109 = .ok (.ireturn, 1) := zb_X9_joined_108.2.1
theorem dX9_joined_92 : decode cX9_joined 92 = .ok (.iload_n 1, 1) := zb_X9_joined_108.2.2.1
theorem dX9_joined_93 : decode cX9_joined 93 = .ok (.iload_n 2, 1) := zb_X9_joined_108.2.2.2.1
theorem dX9_joined_94 : decode cX9_joined 94 = .ok (.if_icmp .ne 7, 3) := zb_X9_joined_108.2.2.2.2.1
theorem dX9_joined_101 : decode cX9_joined 101 = .ok (.iconst 0, 1) := zb_X9_joined_108.2.2.2.2.2.1
theorem dX9_joined_102 : decode cX9_joined 102 = .ok (.invokestatic 49, 3) := zb_X9_joined_108.2.2.2.2.2.2.1
theorem dX9_joined_105 : decode cX9_joined 105 = .ok (.ireturn, 1) := zb_X9_joined_108.2.2.2.2.2.2.2.1
theorem dX9_joined_97 : decode cX9_joined 97 = .ok (.iconst 1, 1) := zb_X9_joined_108.2.2.2.2.2.2.2.2.1
theorem dX9_joined_98 : decode cX9_joined 98 = .ok (.goto 4, 3) := zb_X9_joined_108.2.2.2.2.2.2.2.2.2.1
theorem dX9_joined_78 : decode cX9_joined 78 = .ok (.iload_n 1, 1) := zb_X9_joined_108.2.2.2.2.2.2.2.2.2.2.1
theorem dX9_joined_79 : decode cX9_joined 79 = .ok (.iload_n 2, 1) := zb_X9_joined_108.2.2.2.2.2.2.2.2.2.2.2
theorem zb_X9_joined_80 : (decode cX9_joined 80 = .ok (.if_icmp .ge 7, 3)) ∧ (decode cX9_joined 87 = .ok (.iconst 0, 1)) ∧ (decode cX9_joined 88 = .ok (.invokestatic 49, 3)) ∧ (decode cX9_joined 91 = .ok (.ireturn, 1)) ∧ (decode cX9_joined 83 = .ok (.iconst 1, 1)) ∧ (decode cX9_joined 84 = .ok (.goto 4, 3)) ∧ (decode cX9_joined 61 = .ok (.iload_n 1, 1)) ∧ (decode cX9_joined 62 = .ok (.ifCond .eq 11, 3)) ∧ (decode cX9_joined 73 = .ok (.iconst 0, 1)) ∧ (decode cX9_joined 74 = .ok (.invokestatic 49, 3)) ∧ (decode cX9_joined 77 = .ok (.ireturn, 1)) ∧ (decode cX9_joined 65 = .ok (.iload_n 2, 1)) := by decide +kernel
theorem dX9_joined_80 : decode cX9_joined 80 = .ok (.if_icmp .ge 7, 3) := zb_X9_joined_80.1
theorem dX9_joined_87 : decode cX9_joined 87 = .ok (.iconst 0, 1) := zb_X9_joined_80.2.1
theorem dX9_joined_88 : decode cX9_joined 88 = .ok (.invokestatic 49, 3) := zb_X9_joined_80.2.2.1
theorem dX9_joined_91 : decode cX9_joined 91 = .ok (.ireturn, 1) := zb_X9_joined_80.2.2.2.1
theorem dX9_joined_83 : decode cX9_joined 83 = .ok (.iconst 1, 1) := zb_X9_joined_80.2.2.2.2.1
theorem dX9_joined_84 : decode cX9_joined 84 = .ok (.goto 4, 3) := zb_X9_joined_80.2.2.2.2.2.1
theorem dX9_joined_61 : decode cX9_joined 61 = .ok (.iload_n 1, 1) := zb_X9_joined_80.2.2.2.2.2.2.1
theorem dX9_joined_62 : decode cX9_joined 62 = .ok (.ifCond .eq 11, 3) := zb_X9_joined_80.2.2.2.2.2.2.2.1
theorem dX9_joined_73 : decode cX9_joined 73 = .ok (.iconst 0, 1) := zb_X9_joined_80.2.2.2.2.2.2.2.2.1
theorem dX9_joined_74 : decode cX9_joined 74 = .ok (.invokestatic 49, 3) := zb_X9_joined_80.2.2.2.2.2.2.2.2.2.1
theorem dX9_joined_77 : decode cX9_joined 77 = .ok (.ireturn, 1) := zb_X9_joined_80.2.2.2.2.2.2.2.2.2.2.1
theorem dX9_joined_65 : decode cX9_joined 65 = .ok (.iload_n 2, 1) := zb_X9_joined_80.2.2.2.2.2.2.2.2.2.2.2
theorem zb_X9_joined_66 : (decode cX9_joined 66 = .ok (.ifCond .eq 7, 3)) ∧ (decode cX9_joined 69 = .ok (.iconst 1, 1)) ∧ (decode cX9_joined 70 = .ok (.goto 4, 3)) ∧ (decode cX9_joined 44 = .ok (.iload_n 1, 1)) ∧ (decode cX9_joined 45 = .ok (.ifCond .ne 7, 3)) ∧ (decode cX9_joined 52 = .ok (.iconst 1, 1)) ∧ (decode cX9_joined 53 = .ok (.goto 4, 3)) ∧ (decode cX9_joined 57 = .ok (.invokestatic 49, 3)) ∧ (decode cX9_joined 60 = .ok (.ireturn, 1)) ∧ (decode cX9_joined 48 = .ok (.iload_n 2, 1)) ∧ (decode cX9_joined 49 = .ok (.ifCond .eq 7, 3)) ∧ (decode cX9_joined 56 = .ok (.iconst 0, 1)) := by decide +kernel
theorem dX9_joined_66 : decode cX9_joined 66 = .ok (.ifCond .eq 7, 3) := zb_X9_joined_66.1
theorem dX9_joined_69 : decode cX9_joined 69 = .ok (.iconst 1, 1) := zb_X9_joined_66.2.1
theorem dX9_joined_70 : decode cX9_joined 70 = .ok (.goto 4, 3) := zb_X9_joined_66.2.2.1
theorem dX9_joined_44 : decode cX9_joined 44 = .ok (.iload_n 1, 1) := zb_X9_joined_66.2.2.2.1
theorem dX9_joined_45 : decode cX9_joined 45 = .ok (.ifCond .ne 7, 3) := zb_X9_joined_66.2.2.2.2.1
theorem dX9_joined_52 : decode cX9_joined 52 = .ok (.iconst 1, 1) := zb_X9_joined_66.2.2.2.2.2.1
theorem dX9_joined_53 : decode cX9_joined 53 = .ok (.goto 4, 3) := zb_X9_joined_66.2.2.2.2.2.2.1
theorem dX9_joined_57 : decode cX9_joined 57 = .ok (.invokestatic 49, 3) := zb_X9_joined_66.2.2.2.2.2.2.2.1
theorem dX9_joined_60 : decode cX9_joined 60 = .ok (.ireturn, 1) := zb_X9_joined_66.2.2.2.2.2.2.2.2.1
theorem dX9_joined_48 : decode cX9_joined 48 = .ok (.iload_n 2, 1) := zb_X9_joined_66.2.2.2.2.2.2.2.2.2.1
theorem dX9_joined_49 : decode cX9_joined 49 = .ok (.ifCond .eq 7, 3) := zb_X9_joined_66.2.2.2.2.2.2.2.2.2.2.1
theorem dX9_joined_56 : decode cX9_joined 56 = .ok (.iconst 0, 1) := zb_X9_joined_66.2.2.2.2.2.2.2.2.2.2.2
theorem zb_X5_isBlank_0 : (decode cX5_isBlank 0 = .ok (.iload_n 0, 1)) ∧ (decode cX5_isBlank 1 = .ok (.bipush 32, 2)) ∧ (decode cX5_isBlank 3 = .ok (.if_icmp .eq 9, 3)) ∧ (decode cX5_isBlank 12 = .ok (.iconst 1, 1)) ∧ (decode cX5_isBlank 13 = .ok (.goto 4, 3)) ∧ (decode cX5_isBlank 17 = .ok (.ireturn, 1)) ∧ (decode cX5_isBlank 6 = .ok (.iload_n 0, 1)) ∧ (decode cX5_isBlank 7 = .ok (.bipush 10, 2)) ∧ (decode cX5_isBlank 9 = .ok (.if_icmp .ne 7, 3)) ∧ (decode cX5_isBlank 16 = .ok (.iconst 0, 1)) := by decide +kernel
theorem dX5_isBlank_0 : decode cX5_isBlank 0 = .ok (.iload_n 0, 1) := zb_X5_isBlank_0.1
theorem dX5_isBlank_1 : decode cX5_isBlank 1 = .ok (.bipush 32, 2) := zb_X5_isBlank_0.2.1
theorem dX5_isBlank_3 : decode cX5_isBlank 3 = .ok (.if_icmp .eq 9, 3) := zb_X5_isBlank_0.2.2.1
theorem dX5_isBlank_12 : decode cX5_isBlank 12 = .ok (.iconst 1, 1) := zb_X5_isBlank_0.2.2.2.1
theorem dX5_isBlank_13 : decode cX5_isBlank 13 = .ok (.goto 4, 3) := zb_X5_isBlank_0.2.2.2.2.1
theorem dX5_isBlank_17 : decode cX5_isBlank 17 = .ok (.ireturn, 1) := zb_X5_isBlank_0.2.2.2.2.2.1
theorem dX5_isBlank_6 : decode cX5_isBlank 6 = .ok (.iload_n 0, 1) := zb_X5_isBlank_0.2.2.2.2.2.2.1
theorem dX5_isBlank_7 : decode cX5_isBlank 7 = .ok (.bipush 10, 2) := zb_X5_isBlank_0.2.2.2.2.2.2.2.1
theorem dX5_isBlank_9 : decode cX5_isBlank 9 = .ok (.if_icmp .ne 7, 3) := zb_X5_isBlank_0.2.2.2.2.2.2.2.2.1
theorem dX5_isBlank_16 : decode cX5_isBlank 16 = .ok (.iconst 0, 1) := zb_X5_isBlank_0.2.2.2.2.2.2.2.2.2
theorem zb_X5_isLetter_0 : (decode cX5_isLetter 0 = .ok (.iload_n 0, 1)) ∧ (decode cX5_isLetter 1 = .ok (.bipush 97, 2)) ∧ (decode cX5_isLetter 3 = .ok (.if_icmp .lt 13, 3)) ∧ (decode cX5_isLetter 16 = .ok (.iconst 0, 1)) ∧ (decode cX5_isLetter 17 = .ok (.ireturn, 1)) ∧ (decode cX5_isLetter 6 = .ok (.iload_n 0, 1)) ∧ (decode cX5_isLetter 7 = .ok (.bipush 122, 2)) ∧ (decode cX5_isLetter 9 = .ok (.if_icmp .gt 7, 3)) ∧ (decode cX5_isLetter 12 = .ok (.iconst 1, 1)) ∧ (decode cX5_isLetter 13 = .ok (.goto 4, 3)) := by decide +kernel
theorem dX5_isLetter_0 : decode cX5_isLetter 0 = .ok (.iload_n 0, 1) := zb_X5_isLetter_0.1
theorem dX5_isLetter_1 : decode cX5_isLetter 1 = .ok (.bipush 97, 2) := zb_X5_isLetter_0.2.1
theorem dX5_isLetter_3 : decode cX5_isLetter 3 = .ok (.if_icmp .lt 13, 3) := zb_X5_isLetter_0.2.2.1
theorem dX5_isLetter_16 : decode cX5_isLetter 16 = .ok (.iconst 0, 1) := zb_X5_isLetter_0.2.2.2.1
theorem dX5_isLetter_17 : decode cX5_isLetter 17 = .ok (.ireturn, 1) := zb_X5_isLetter_0.2.2.2.2.1
theorem dX5_isLetter_6 : decode cX5_isLetter 6 = .ok (.iload_n 0, 1) := zb_X5_isLetter_0.2.2.2.2.2.1
theorem dX5_isLetter_7 : decode cX5_isLetter 7 = .ok (.bipush 122, 2) := zb_X5_isLetter_0.2.2.2.2.2.2.1
theorem dX5_isLetter_9 : decode cX5_isLetter 9 = .ok (.if_icmp .gt 7, 3) := zb_X5_isLetter_0.2.2.2.2.2.2.2.1
theorem dX5_isLetter_12 : decode cX5_isLetter 12 = .ok (.iconst 1, 1) := zb_X5_isLetter_0.2.2.2.2.2.2.2.2.1
theorem dX5_isLetter_13 : decode cX5_isLetter 13 = .ok (.goto 4, 3) := zb_X5_isLetter_0.2.2.2.2.2.2.2.2.2
theorem zb_X5_isDigit_0 : (decode cX5_isDigit 0 = .ok (.iload_n 0, 1)) ∧ (decode cX5_isDigit 1 = .ok (.bipush 48, 2)) ∧ (decode cX5_isDigit 3 = .ok (.if_icmp .lt 13, 3)) ∧ (decode cX5_isDigit 16 = .ok (.iconst 0, 1)) ∧ (decode cX5_isDigit 17 = .ok (.ireturn, 1)) ∧ (decode cX5_isDigit 6 = .ok (.iload_n 0, 1)) ∧ (decode cX5_isDigit 7 = .ok (.bipush 57, 2)) ∧ (decode cX5_isDigit 9 = .ok (.if_icmp .gt 7, 3)) ∧ (decode cX5_isDigit 12 = .ok (.iconst 1, 1)) ∧ (decode cX5_isDigit 13 = .ok (.goto 4, 3)) := by decide +kernel
theorem dX5_isDigit_0 : decode cX5_isDigit 0 = .ok (.iload_n 0, 1) := zb_X5_isDigit_0.1
theorem dX5_isDigit_1 : decode cX5_isDigit 1 = .ok (.bipush 48, 2) := zb_X5_isDigit_0.2.1
theorem dX5_isDigit_3 : decode cX5_isDigit 3 = .ok (.if_icmp .lt 13, 3) := zb_X5_isDigit_0.2.2.1
theorem dX5_isDigit_16 : decode cX5_isDigit 16 = .ok (.iconst 0, 1) := zb_X5_isDigit_0.2.2.2.1
theorem dX5_isDigit_17 : decode cX5_isDigit 17 = .ok (.ireturn, 1) := zb_X5_isDigit_0.2.2.2.2.1
theorem dX5_isDigit_6 : decode cX5_isDigit 6 = .ok (.iload_n 0, 1) := zb_X5_isDigit_0.2.2.2.2.2.1
theorem dX5_isDigit_7 : decode cX5_isDigit 7 = .ok (.bipush 57, 2) := zb_X5_isDigit_0.2.2.2.2.2.2.1
theorem dX5_isDigit_9 : decode cX5_isDigit 9 = .ok (.if_icmp .gt 7, 3) := zb_X5_isDigit_0.2.2.2.2.2.2.2.1
theorem dX5_isDigit_12 : decode cX5_isDigit 12 = .ok (.iconst 1, 1) := zb_X5_isDigit_0.2.2.2.2.2.2.2.2.1
theorem dX5_isDigit_13 : decode cX5_isDigit 13 = .ok (.goto 4, 3) := zb_X5_isDigit_0.2.2.2.2.2.2.2.2.2
theorem zb_X5_isSign_0 : (decode cX5_isSign 0 = .ok (.iload_n 0, 1)) ∧ (decode cX5_isSign 1 = .ok (.bipush 40, 2)) ∧ (decode cX5_isSign 3 = .ok (.if_icmp .lt 9, 3)) ∧ (decode cX5_isSign 12 = .ok (.iload_n 0, 1)) ∧ (decode cX5_isSign 13 = .ok (.bipush 45, 2)) ∧ (decode cX5_isSign 15 = .ok (.if_icmp .eq 15, 3)) ∧ (decode cX5_isSign 18 = .ok (.iload_n 0, 1)) ∧ (decode cX5_isSign 19 = .ok (.bipush 59, 2)) ∧ (decode cX5_isSign 21 = .ok (.if_icmp .lt 13, 3)) ∧ (decode cX5_isSign 34 = .ok (.iconst 0, 1)) := by decide +kernel
theorem dX5_isSign_0 : decode cX5_isSign 0 = .ok (.iload_n 0, 1) := zb_X5_isSign_0.1
theorem dX5_isSign_1 : decode cX5_isSign 1 = .ok (.bipush 40, 2) := zb_X5_isSign_0.2.1
theorem dX5_isSign_3 : decode cX5_isSign 3 = .ok (.if_icmp .lt 9, 3) := zb_X5_isSign_0.2.2.1
theorem dX5_isSign_12 : decode cX5_isSign 12 = .ok (.iload_n 0, 1) := zb_X5_isSign_0.2.2.2.1
theorem dX5_isSign_13 : decode cX5_isSign 13 = .ok (.bipush 45, 2) := zb_X5_isSign_0.2.2.2.2.1
theorem dX5_isSign_15 : decode cX5_isSign 15 = .ok (.if_icmp .eq 15, 3) := zb_X5_isSign_0.2.2.2.2.2.1
theorem dX5_isSign_18 : decode cX5_isSign 18 = .ok (.iload_n 0, 1) := zb_X5_isSign_0.2.2.2.2.2.2.1
theorem dX5_isSign_19 : decode cX5_isSign 19 = .ok (.bipush 59, 2) := zb_X5_isSign_0.2.2.2.2.2.2.2.1
theorem dX5_isSign_21 : decode cX5_isSign 21 = .ok (.if_icmp .lt 13, 3) := zb_X5_isSign_0.2.2.2.2.2.2.2.2.1
theorem dX5_isSign_34 : decode cX5_isSign 34 = .ok (.iconst 0, 1) := zb_X5_isSign_0.2.2.2.2.2.2.2.2.2
theorem zb_X5_isSign_35 : (decode cX5_isSign 35 = .ok (.ireturn, 1)) ∧ (decode cX5_isSign 6 = .ok (.iload_n 0, 1)) ∧ (decode cX5_isSign 7 = .ok (.bipush 43, 2)) ∧ (decode cX5_isSign 9 = .ok (.if_icmp .le 21, 3)) ∧ (decode cX5_isSign 30 = .ok (.iconst 1, 1)) ∧ (decode cX5_isSign 31 = .ok (.goto 4, 3)) ∧ (decode cX5_isSign 24 = .ok (.iload_n 0, 1)) ∧ (decode cX5_isSign 25 = .ok (.bipush 61, 2)) ∧ (decode cX5_isSign 27 = .ok (.if_icmp .gt 7, 3)) := by decide +kernel
theorem dX5_isSign_35 : decode cX5_isSign 35 = .ok (.ireturn, 1) := zb_X5_isSign_35.1
theorem dX5_isSign_6 : decode cX5_isSign 6 = .ok (.iload_n 0, 1) := zb_X5_isSign_35.2.1
theorem dX5_isSign_7 : decode cX5_isSign 7 = .ok (.bipush 43, 2) := zb_X5_isSign_35.2.2.1
theorem dX5_isSign_9 : decode cX5_isSign 9 = .ok (.if_icmp .le 21, 3) := zb_X5_isSign_35.2.2.2.1
theorem dX5_isSign_30 : decode cX5_isSign 30 = .ok (.iconst 1, 1) := zb_X5_isSign_35.2.2.2.2.1
theorem dX5_isSign_31 : decode cX5_isSign 31 = .ok (.goto 4, 3) := zb_X5_isSign_35.2.2.2.2.2.1
theorem dX5_isSign_24 : decode cX5_isSign 24 = .ok (.iload_n 0, 1) := zb_X5_isSign_35.2.2.2.2.2.2.1
theorem dX5_isSign_25 : decode cX5_isSign 25 = .ok (.bipush 61, 2) := zb_X5_isSign_35.2.2.2.2.2.2.2.1
theorem dX5_isSign_27 : decode cX5_isSign 27 = .ok (.if_icmp .gt 7, 3) := zb_X5_isSign_35.2.2.2.2.2.2.2.2
theorem zb_X6_commonDivisor_0 : (decode cX6_commonDivisor 0 = .ok (.lload_n 0, 1)) ∧ (decode cX6_commonDivisor 1 = .ok (.lstore 4, 2)) ∧ (decode cX6_commonDivisor 3 = .ok (.lload_n 2, 1)) ∧ (decode cX6_commonDivisor 4 = .ok (.lstore 6, 2)) ∧ (decode cX6_commonDivisor 6 = .ok (.iconst 0, 1)) ∧ (decode cX6_commonDivisor 7 = .ok (.istore 8, 2)) ∧ (decode cX6_commonDivisor 9 = .ok (.iload 8, 2)) ∧ (decode cX6_commonDivisor 11 = .ok (.sipush 200, 3)) ∧ (decode cX6_commonDivisor 14 = .ok (.if_icmp .ge 31, 3)) ∧ (decode cX6_commonDivisor 45 = .ok (.lload 4, 2)) ∧ (decode cX6_commonDivisor 47 = .ok (.lconst 0, 1)) := by decide +kernel
theorem dX6_commonDivisor_0 : decode cX6_commonDivisor 0 = .ok (.lload_n 0, 1) := zb_X6_commonDivisor_0.1
theorem dX6_commonDivisor_1 : decode cX6_commonDivisor 1 = .ok (.lstore 4, 2) := zb_X6_commonDivisor_0.2.1
theorem dX6_commonDivisor_3 : decode cX6_commonDivisor 3 = .ok (.lload_n 2, 1) := zb_X6_commonDivisor_0.2.2.1
theorem dX6_commonDivisor_4 : decode cX6_commonDivisor 4 = .ok (.lstore 6, 2) := zb_X6_commonDivisor_0.2.2.2.1
theorem dX6_commonDivisor_6 : decode cX6_commonDivisor 6 = .ok (.iconst 0, 1) := zb_X6_commonDivisor_0.2.2.2.2.1
theorem dX6_commonDivisor_7 : decode cX6_commonDivisor 7 = .ok (.istore 8, 2) := zb_X6_commonDivisor_0.2.2.2.2.2.1
theorem dX6_commonDivisor_9 : decode cX6_commonDivisor 9 = .ok (.iload 8, 2) := zb_X6_commonDivisor_0.2.2.2.2.2.2.1
theorem dX6_commonDivisor_11 : decode cX6_commonDivisor 11 = .ok (.sipush 200, 3) := zb_X6_commonDivisor_0.2.2.2.2.2.2.2.1
theorem dX6_commonDivisor_14 : decode cX6_commonDivisor 14 = .ok (.if_icmp .ge 31, 3) := zb_X6_commonDivisor_0.2.2.2.2.2.2.2.2.1
theorem dX6_commonDivisor_45 : decode cX6_commonDivisor 45 = .ok (.lload 4, 2) := zb_X6_commonDivisor_0.2.2.2.2.2.2.2.2.2.1
theorem dX6_commonDivisor_47 : decode cX6_commonDivisor 47 = .ok (.lconst 0, 1) := zb_X6_commonDivisor_0.2.2.2.2.2.2.2.2.2.2
theorem zb_X6_commonDivisor_48 : (decode cX6_commonDivisor 48 = .ok (.lcmp, 1)) ∧ (decode cX6_commonDivisor 49 = .ok (.ifCond .ne 7, 3)) ∧ (decode cX6_commonDivisor 56 = .ok (.lload 4, 2)) ∧ (decode cX6_commonDivisor 58 = .ok (.lreturn, 1)) ∧ (decode cX6_commonDivisor 52 = .ok (.lconst 1, 1)) ∧ (decode cX6_commonDivisor 53 = .ok (.goto 5, 3)) ∧ (decode cX6_commonDivisor 17 = .ok (.lload 6, 2)) ∧ (decode cX6_commonDivisor 19 = .ok (.lconst 0, 1)) ∧ (decode cX6_commonDivisor 20 = .ok (.lcmp, 1)) ∧ (decode cX6_commonDivisor 21 = .ok (.ifCond .eq 24, 3)) ∧ (decode cX6_commonDivisor 24 = .ok (.lload 4, 2)) := by decide +kernel
theorem dX6_commonDivisor_48 : decode cX6_commonDivisor 48 = .ok (.lcmp, 1) := zb_X6_commonDivisor_48.1
theorem dX6_commonDivisor_49 : decode cX6_commonDivisor 49 = .ok (.ifCond .ne 7, 3) := zb_X6_commonDivisor_48.2.1
theorem dX6_commonDivisor_56 : decode cX6_commonDivisor 56 = .ok (.lload 4, 2) := zb_X6_commonDivisor_48.2.2.1
theorem dX6_commonDivisor_58 : decode cX6_commonDivisor 58 = .ok (.lreturn, 1) := zb_X6_commonDivisor_48.2.2.2.1
theorem dX6_commonDivisor_52 : decode cX6_commonDivisor 52 = .ok (.lconst 1, 1) := zb_X6_commonDivisor_48.2.2.2.2.1
theorem dX6_commonDivisor_53 : decode cX6_commonDivisor 53 = .ok (.goto 5, 3) := zb_X6_commonDivisor_48.2.2.2.2.2.1
theorem dX6_commonDivisor_17 : decode cX6_commonDivisor 17 = .ok (.lload 6, 2) := zb_X6_commonDivisor_48.2.2.2.2.2.2.1
theorem dX6_commonDivisor_19 : decode cX6_commonDivisor 19 = .ok (.lconst 0, 1) := zb_X6_commonDivisor_48.2.2.2.2.2.2.2.1
theorem dX6_commonDivisor_20 : decode cX6_commonDivisor 20 = .ok (.lcmp, 1) := zb_X6_commonDivisor_48.2.2.2.2.2.2.2.2.1
theorem dX6_commonDivisor_21 : decode cX6_commonDivisor 21 = .ok (.ifCond .eq 24, 3) := zb_X6_commonDivisor_48.2.2.2.2.2.2.2.2.2.1
theorem dX6_commonDivisor_24 : decode cX6_commonDivisor 24 = .ok (.lload 4, 2) := zb_X6_commonDivisor_48.2.2.2.2.2.2.2.2.2.2
theorem zb_X6_commonDivisor_26 : (decode cX6_commonDivisor 26 = .ok (.lload 6, 2)) ∧ (decode cX6_commonDivisor 28 = .ok (.lrem, 1)) ∧ (decode cX6_commonDivisor 29 = .ok (.lstore 9, 2)) ∧ (decode cX6_commonDivisor 31 = .ok (.lload 6, 2)) ∧ (decode cX6_commonDivisor 33 = .ok (.lstore 4, 2)) ∧ (decode cX6_commonDivisor 35 = .ok (.lload 9, 2)) ∧ (decode cX6_commonDivisor 37 = .ok (.lstore 6, 2)) ∧ (decode cX6_commonDivisor 39 = .ok (.iinc 8 1, 3)) ∧ (decode cX6_commonDivisor 42 = .ok (.goto (-33), 3)) := by decide +kernel
theorem dX6_commonDivisor_26 : decode cX6_commonDivisor 26 = .ok (.lload 6, 2) := zb_X6_commonDivisor_26.1
theorem dX6_commonDivisor_28 : decode cX6_commonDivisor 28 = .ok (.lrem, 1) := zb_X6_commonDivisor_26.2.1
theorem dX6_commonDivisor_29 : decode cX6_commonDivisor 29 = .ok (.lstore 9, 2) := zb_X6_commonDivisor_26.2.2.1
theorem dX6_commonDivisor_31 : decode cX6_commonDivisor 31 = .ok (.lload 6, 2) := zb_X6_commonDivisor_26.2.2.2.1
theorem dX6_commonDivisor_33 : decode cX6_commonDivisor 33 = .ok (.lstore 4, 2) := zb_X6_commonDivisor_26.2.2.2.2.1
theorem dX6_commonDivisor_35 : decode cX6_commonDivisor 35 = .ok (.lload 9, 2) := zb_X6_commonDivisor_26.2.2.2.2.2.1
theorem dX6_commonDivisor_37 : decode cX6_commonDivisor 37 = .ok (.lstore 6, 2) := zb_X6_commonDivisor_26.2.2.2.2.2.2.1
theorem dX6_commonDivisor_39 : decode cX6_commonDivisor 39 = .ok (.iinc 8 1, 3) := zb_X6_commonDivisor_26.2.2.2.2.2.2.2.1
theorem dX6_commonDivisor_42 : decode cX6_commonDivisor 42 = .ok (.goto (-33), 3) := zb_X6_commonDivisor_26.2.2.2.2.2.2.2.2
theorem gX11_nearest_X11_has : GoodIn wsX11_nearest (va_wsS RX11 317 yX11_has wsX11_has) := ru_gG (ru_gS tw_4_236 tw_3_126 tw_1_1 mT_X11_has)
theorem gX11_nearest_X11_apart : GoodIn wsX11_nearest (va_wsS RX11 256 yX11_apart wsX11_apart) := ru_gG (ru_gS tw_4_12 tw_3_119 tw_1_1 mT_X11_apart)
theorem gX9_joined_X9_truth : GoodIn wsX9_joined (va_wsS RX9 49 yX9_truth wsX9_truth) := ru_gG (ru_gS tw_4_227 tw_4_228 tw_1_8 mT_X9_truth)
/-- whether a set of cells has one -/
def rt_has (q : Int64) (k : Int32) : Prop := ¬ (q.toUInt64 >>> (k.toInt64.toUInt64 &&& Int64.toUInt64 63)).toInt64 &&& 1 = 0
def rt_dg (q : Int64) (k : Int32) : Int32 := ((q.toUInt64 >>> ((4 * k).toInt64.toUInt64 &&& Int64.toUInt64 63)).toInt64 &&& 15).toInt32
theorem fm_cq {p : Program} {l : Launch} {e : Env} {R : Room} {s : State} {m : MethodId} {args : Array Value} {below : List Frame} {meth : Method} {c : Code} {H : Heap} {locs : List Loc} {cells slots : Nat} {Q : State → Prop} {pc : Nat} {ls : Array Slot} {rest st0 : List Value} {D : va_G} {ad : Nat → Nat → Nat} {C : Nat → Nat → ClassId} {nb : Nat} {A : Nat → Prop} {H0 : Heap} {a : Array Value} {post : Option Nat → fm_M → Prop} (hr : va_Run p l e R s m args below meth c H locs cells slots 0 0 (F0 m pc ls st0) rest (va_Qq post (fun u t => fm_at D ad C nb u t.heap) (fm_A nb ad) a) (fm_A nb ad)) (hS : va_S A H0 H locs) (hc : fm_Cx D ad C nb A s)
    (kk : ∀ (r : Option Nat) (M1 : fm_M) (H1 : Heap) (locs1 : List Loc), post r M1 → fm_at D ad C nb M1 H1 → va_S A H0 H1 locs1 → W p l e R s m args below meth c H1 locs1 cells slots Q (F0 m (pc + 3) ls (va_rf r :: rest))) : W p l e R s m args below meth c H locs cells slots Q (F0 m pc ls st0) :=
  va_callq hr hS (fun q _ h => hc.2.2.2.2.2 q h) (fun q h => hc.2.2.2.2.2 q h) (fun r u t H1 locs1 ht _ hp hB _ _ hS1 => kk r u H1 locs1 hp (by rw [← ht]; exact hB) hS1)
theorem fm_wI_ar {M : fm_M} {q k i j : Nat} {x : Int32} : (fm_wI M q k i x).1 q k j = if j = i then x else M.1 q k j := by
  by_cases h : j = i
  · subst h
    rw [fm_wI_at, if_pos rfl]
  · rw [fm_wI_nj (fun z => h z.2.2), if_neg h]
theorem fm_wI_ob {M : fm_M} {q k f j : Nat} {x : Int32} : (fm_wI M q k f x).1 q j f = if j = k then x else M.1 q j f := by
  by_cases h : j = k
  · subst h
    rw [fm_wI_at, if_pos rfl]
  · rw [fm_wI_nj (fun z => h z.2.1), if_neg h]
theorem rt_under {i : Int32} (h : 0 ≤ i.toInt ∧ i.toInt < 6) : (i.toInt = 0 ∧ (([-1, 0, 0, 1, 1, 2] : List Int32).getD i.toNatClampNeg 0).toInt = -1) ∨ (i.toInt = 1 ∧ (([-1, 0, 0, 1, 1, 2] : List Int32).getD i.toNatClampNeg 0).toInt = 0) ∨ (i.toInt = 2 ∧ (([-1, 0, 0, 1, 1, 2] : List Int32).getD i.toNatClampNeg 0).toInt = 0) ∨ (i.toInt = 3 ∧ (([-1, 0, 0, 1, 1, 2] : List Int32).getD i.toNatClampNeg 0).toInt = 1) ∨ (i.toInt = 4 ∧ (([-1, 0, 0, 1, 1, 2] : List Int32).getD i.toNatClampNeg 0).toInt = 1) ∨ (i.toInt = 5 ∧ (([-1, 0, 0, 1, 1, 2] : List Int32).getD i.toNatClampNeg 0).toInt = 2) := by
  rcases (show i = 0 ∨ i = 1 ∨ i = 2 ∨ i = 3 ∨ i = 4 ∨ i = 5 by simp only [fa_eq, Int32.reduceToInt]; omega) with rfl | rfl | rfl | rfl | rfl | rfl <;> decide
theorem rt_und {i : Int32} {w : Int} (h : 0 < i.toInt ∧ i.toInt < 6) (hn : ¬ i.toInt = w) : (w = 0 ∨ (([-1, 0, 0, 1, 1, 2] : List Int32).getD i.toNatClampNeg 0).toInt = w ∨ ((([-1, 0, 0, 1, 1, 2] : List Int32).getD i.toNatClampNeg 0).toInt = 5 ∧ w = 2) ∨ (((([-1, 0, 0, 1, 1, 2] : List Int32).getD i.toNatClampNeg 0).toInt = 3 ∨ (([-1, 0, 0, 1, 1, 2] : List Int32).getD i.toNatClampNeg 0).toInt = 4) ∧ w = 1)) ↔ (w = 0 ∨ i.toInt = w ∨ (i.toInt = 5 ∧ w = 2) ∨ ((i.toInt = 3 ∨ i.toInt = 4) ∧ w = 1)) := by
  rcases rt_under (i := i) (by omega) with ⟨h1, h2⟩ | ⟨h1, h2⟩ | ⟨h1, h2⟩ | ⟨h1, h2⟩ | ⟨h1, h2⟩ | ⟨h1, h2⟩ <;> rw [h1, h2] <;> rw [h1] at hn <;> omega
theorem fm_I.bd {nb : Nat} {ad : Nat → Nat → Nat} {M : fm_M} (hI : fm_I nb ad M) {a k j : Nat} {lo up : Int} (h : fm_b a j = (lo, up)) : lo ≤ (M.1 a k j).toInt ∧ (M.1 a k j).toInt ≤ up := by
  have h2 := hI.1 a k j
  rw [h] at h2
  exact h2
theorem rt_ifx {c d : Prop} [Decidable c] [Decidable d] {x y : Int32} (h : c ↔ d) : (if c then x else y) = if d then x else y := by
  by_cases z : c
  · rw [if_pos z, if_pos (h.mp z)]
  · rw [if_neg z, if_neg (fun w => z (h.mpr w))]
theorem fm_wL_ar {M : fm_M} {q k i j : Nat} {x : Int64} : (fm_wL M q k i x).2.1 q k j = if j = i then x else M.2.1 q k j := by
  by_cases h : j = i
  · subst h
    rw [fm_wL_at, if_pos rfl]
  · rw [fm_wL_nj (fun z => h z.2.2), if_neg h]
theorem zi_tn {a b : Int32} (h : a.toInt = b.toInt) : a.toNatClampNeg = b.toNatClampNeg := by rw [Int32.toNatClampNeg, Int32.toNatClampNeg, h]
theorem zi_tns {k k1 : Int32} (h1 : k1.toInt = k.toInt + 1) (h0 : 0 ≤ k.toInt) : k1.toNatClampNeg = k.toNatClampNeg + 1 := by rw [Int32.toNatClampNeg, Int32.toNatClampNeg]; omega
theorem zi_ofn {k : Int32} (h0 : 0 ≤ k.toInt) : Int32.ofNat k.toNatClampNeg = k := by
  rw [fa_eq, Int32.toInt_ofNat_of_lt]
  · rw [Int32.toNatClampNeg]; omega
  · have := Int32.toInt_lt k; rw [Int32.toNatClampNeg]; omega
theorem rt_hst {f g : Nat → Int32} {p0 p2 k k1 : Int32} (h : ∀ j : Nat, f j = if p0.toInt ≤ j ∧ (j : Int) < k.toInt then p2 else g j) (h0 : p0.toInt ≤ k.toInt ∧ 0 ≤ k.toInt) (h1 : k1.toInt = k.toInt + 1) {j : Nat} : (if j = k.toNatClampNeg then p2 else f j) = if p0.toInt ≤ j ∧ (j : Int) < k1.toInt then p2 else g j := by
  have e : (k.toNatClampNeg : Int) = k.toInt := by rw [Int32.toNatClampNeg]; omega
  by_cases hj : j = k.toNatClampNeg
  · rw [if_pos hj, if_pos (by omega)]
  · rw [if_neg hj, h j]
    by_cases h2 : p0.toInt ≤ j ∧ (j : Int) < k.toInt
    · rw [if_pos h2, if_pos (by omega)]
    · rw [if_neg h2, if_neg (by omega)]
def rt_ab (x : Int) : Int := if x < 0 then -x else x
def rt_ap (a b : Int) : Int := if rt_ab (a % 8 - b % 8) ≤ rt_ab (a / 8 - b / 8) then rt_ab (a / 8 - b / 8) else rt_ab (a % 8 - b % 8)
def rt_fgc (f : Nat → Int32) (x : Int) : Int := if 0 ≤ x ∧ x < 240 then (f x.toNat).toInt else 0
def rt_fgm (a b c : Nat → Int32) (x : Int) (n : Nat) : Int := match n with
  | 0 => 0
  | k + 1 => if (a k).toInt ≤ x ∧ x < (b k).toInt then (c k).toInt else rt_fgm a b c x k
theorem rt_fgm_c {a b c a1 b1 c1 : Nat → Int32} {x : Int} {n : Nat} (h : ∀ j, j < n → a1 j = a j ∧ b1 j = b j ∧ c1 j = c j) : rt_fgm a1 b1 c1 x n = rt_fgm a b c x n := by
  induction n with
  | zero => rfl
  | succ n ih =>
    obtain ⟨h1, h2, h3⟩ := h n (Nat.lt_succ_self n)
    show (if (a1 n).toInt ≤ x ∧ x < (b1 n).toInt then (c1 n).toInt else rt_fgm a1 b1 c1 x n) = (if (a n).toInt ≤ x ∧ x < (b n).toInt then (c n).toInt else rt_fgm a b c x n)
    rw [h1, h2, h3, ih (fun j hj => h j (Nat.lt_succ_of_lt hj))]
theorem rt_fg_new {f f1 a b c a1 b1 c1 : Nat → Int32} {p0 p1 p2 n n1 : Int32} (hG : ∀ x : Int, rt_fgc f x = rt_fgm a b c x n.toNatClampNeg) (hf : ∀ j : Nat, f1 j = if p0.toInt ≤ j ∧ (j : Int) < p1.toInt then p2 else f j) (ha : ∀ j : Nat, a1 j = if j = n.toNatClampNeg then p0 else a j) (hb : ∀ j : Nat, b1 j = if j = n.toNatClampNeg then p1 else b j) (hc : ∀ j : Nat, c1 j = if j = n.toNatClampNeg then p2 else c j) (h0 : 0 ≤ p0.toInt) (h1 : p1.toInt ≤ 240) (hn : 0 ≤ n.toInt) (hn1 : n1.toInt = n.toInt + 1) : ∀ x : Int, rt_fgc f1 x = rt_fgm a1 b1 c1 x n1.toNatClampNeg := by
  intro x
  have e : n1.toNatClampNeg = n.toNatClampNeg + 1 := by rw [Int32.toNatClampNeg, Int32.toNatClampNeg]; omega
  rw [e]
  show _ = (if (a1 n.toNatClampNeg).toInt ≤ x ∧ x < (b1 n.toNatClampNeg).toInt then (c1 n.toNatClampNeg).toInt else rt_fgm a1 b1 c1 x n.toNatClampNeg)
  rw [ha n.toNatClampNeg, hb n.toNatClampNeg, hc n.toNatClampNeg, if_pos rfl, if_pos rfl, if_pos rfl, rt_fgm_c (a := a) (b := b) (c := c) (fun j hj => ⟨by rw [ha j, if_neg (by omega)], by rw [hb j, if_neg (by omega)], by rw [hc j, if_neg (by omega)]⟩), ← hG x]
  unfold rt_fgc
  by_cases hx : 0 ≤ x ∧ x < 240
  · rw [if_pos hx, if_pos hx, hf]
    have e2 : ((x.toNat : Nat) : Int) = x := Int.toNat_of_nonneg hx.1
    rw [e2]
    by_cases hy : p0.toInt ≤ x ∧ x < p1.toInt
    · rw [if_pos hy, if_pos hy]
    · rw [if_neg hy, if_neg hy]
  · rw [if_neg hx, if_neg hx, if_neg (by omega)]
def rt_fgM (M : fm_M) (x : Int) : Int := rt_fgm (M.1 106 0) (M.1 107 0) (M.1 108 0) x (M.1 60 0 9).toNatClampNeg
theorem rt_fg0 {M : fm_M} (h : ∀ j : Nat, M.1 3 0 j = 0) (h9 : M.1 60 0 9 = 0) (x : Int) : rt_fgc (M.1 3 0) x = rt_fgM M x := by
  unfold rt_fgc rt_fgM
  rw [h9, h]
  show _ = (0 : Int)
  split <;> rfl
theorem rt_fgm_y {a b c : Nat → Int32} {x : Int} {k k1 u v w : Int32} (h1 : k1.toInt = k.toInt + 1) (h0 : 0 ≤ k.toInt) (ea : u = a k.toNatClampNeg) (eb : v = b k.toNatClampNeg) (ec : w = c k.toNatClampNeg) (h : u.toInt ≤ x ∧ x < v.toInt) : w.toInt = rt_fgm a b c x k1.toNatClampNeg := by
  rw [zi_tns h1 h0]
  show _ = (if (a k.toNatClampNeg).toInt ≤ x ∧ x < (b k.toNatClampNeg).toInt then (c k.toNatClampNeg).toInt else rt_fgm a b c x k.toNatClampNeg)
  rw [← ea, ← eb, ← ec, if_pos h]
theorem rt_fgm_1 {a b c : Nat → Int32} {x z : Int} {k k1 u : Int32} (h1 : k1.toInt = k.toInt + 1) (h0 : 0 ≤ k.toInt) (hq : z = rt_fgm a b c x k.toNatClampNeg) (ea : u = a k.toNatClampNeg) (h : ¬ u.toInt ≤ x) : z = rt_fgm a b c x k1.toNatClampNeg := by
  rw [zi_tns h1 h0]
  show _ = (if (a k.toNatClampNeg).toInt ≤ x ∧ x < (b k.toNatClampNeg).toInt then (c k.toNatClampNeg).toInt else rt_fgm a b c x k.toNatClampNeg)
  rw [← ea, if_neg (fun g => h g.1), hq]
theorem rt_fgm_2 {a b c : Nat → Int32} {x z : Int} {k k1 u : Int32} (h1 : k1.toInt = k.toInt + 1) (h0 : 0 ≤ k.toInt) (hq : z = rt_fgm a b c x k.toNatClampNeg) (eb : u = b k.toNatClampNeg) (h : ¬ x < u.toInt) : z = rt_fgm a b c x k1.toNatClampNeg := by
  rw [zi_tns h1 h0]
  show _ = (if (a k.toNatClampNeg).toInt ≤ x ∧ x < (b k.toNatClampNeg).toInt then (c k.toNatClampNeg).toInt else rt_fgm a b c x k.toNatClampNeg)
  rw [← eb, if_neg (fun g => h g.2), hq]
def rt_clr (G : Int → Int) (a n : Int) : Prop := ∀ x : Int, a ≤ x → x < a + n → G x ≤ 8
def rt_bk (G : Int → Int) (ok : Prop) (st n h r : Int) : Prop := (∃ k : Int, 0 ≤ k ∧ k ≤ st ∧ ok ∧ rt_clr G h n ∧ rt_clr G (h + n + k) n ∧ (∀ q : Int, 0 ≤ q → q < k → ¬ rt_clr G (h + n + q) n) ∧ h + 2 * n + k ≤ 239 ∧ r = h + 2 * n + k) ∨ ((∀ k : Int, 0 ≤ k → k ≤ st → ok → rt_clr G h n → rt_clr G (h + n + k) n → (∀ q : Int, 0 ≤ q → q < k → ¬ rt_clr G (h + n + q) n) → ¬ h + 2 * n + k ≤ 239) ∧ r = -1)
theorem rt_bk_u {G : Int → Int} {ok : Prop} {st n h r s : Int} (a : rt_bk G ok st n h r) (b : rt_bk G ok st n h s) : r = s := by
  rcases a with ⟨k, k1, k2, k3, k4, k5, k6, k7, k8⟩ | ⟨a1, a2⟩ <;> rcases b with ⟨j, j1, j2, j3, j4, j5, j6, j7, j8⟩ | ⟨b1, b2⟩
  · rcases Int.lt_trichotomy k j with g | g | g
    · exact absurd k5 (j6 k k1 g)
    · rw [k8, j8, g]
    · exact absurd j5 (k6 j j1 g)
  · exact absurd k7 (b1 k k1 k2 k3 k4 k5 k6)
  · exact absurd j7 (a1 j j1 j2 j3 j4 j5 j6)
  · rw [a2, b2]
theorem rt_bk_no {G : Int → Int} {ok : Prop} {st n h : Int} (a : ¬ ok ∨ ¬ rt_clr G h n) : rt_bk G ok st n h (-1 : Int32).toInt := Or.inr ⟨fun k _ _ h3 h4 _ _ _ => a.elim (fun z => z h3) (fun z => z h4), rfl⟩
theorem rt_bk_none {G : Int → Int} {ok : Prop} {st n h : Int} (a : ∀ q : Int, 0 ≤ q → q ≤ st → ¬ rt_clr G (h + n + q) n) : rt_bk G ok st n h (-1 : Int32).toInt := Or.inr ⟨fun k h1 h2 _ _ h5 _ _ => a k h1 h2 h5, rfl⟩
theorem rt_bk_out {G : Int → Int} {ok : Prop} {st n h k : Int} (h0 : 0 ≤ k) (hc : rt_clr G (h + n + k) n) (hf : ∀ q : Int, 0 ≤ q → q < k → ¬ rt_clr G (h + n + q) n) (hl : 240 ≤ h + 2 * n + k) : rt_bk G ok st n h (-1 : Int32).toInt := by
  refine Or.inr ⟨fun j h1 h2 _ _ h5 h6 h7 => ?_, rfl⟩
  rcases Int.lt_trichotomy j k with g | g | g
  · exact hf j h1 g h5
  · omega
  · exact h6 k h0 g hc
theorem rt_bk_hit {G : Int → Int} {ok : Prop} {st n h k r : Int} (h0 : 0 ≤ k) (h1 : k ≤ st) (ho : ok) (hh : rt_clr G h n) (hc : rt_clr G (h + n + k) n) (hf : ∀ q : Int, 0 ≤ q → q < k → ¬ rt_clr G (h + n + q) n) (hl : h + 2 * n + k ≤ 239) (hr : r = h + 2 * n + k) : rt_bk G ok st n h r := Or.inl ⟨k, h0, h1, ho, hh, hc, hf, hl, hr⟩
theorem rt_bk_m0 {G : Int → Int} {ok : Prop} {st n h : Int} (hn : 0 ≤ n) (a : ¬ (h + n ≤ 239 ∧ rt_clr G h n)) : rt_bk G ok st n h (-1 : Int32).toInt := Or.inr ⟨fun k h1 _ _ h4 _ _ h7 => a ⟨by omega, h4⟩, rfl⟩
theorem rt_bk_m1 {G : Int → Int} {ok : Prop} {st n h : Int} (a : ∀ q : Int, 0 ≤ q → q ≤ st → ¬ (h + n + q + n ≤ 239 ∧ rt_clr G (h + n + q) n)) : rt_bk G ok st n h (-1 : Int32).toInt := Or.inr ⟨fun k h1 h2 _ _ h5 _ h7 => a k h1 h2 ⟨by omega, h5⟩, rfl⟩
def rt_ls (B : Int → Int → Prop) (r : Int) : Prop := (0 ≤ r ∧ r ≤ 239 ∧ (∃ v : Int, B r v ∧ ¬ v = -1) ∧ ∀ q : Int, r < q → q ≤ 239 → B q (-1)) ∨ (r = -1 ∧ ∀ q : Int, 0 ≤ q → q ≤ 239 → B q (-1))
theorem rt_ls_hit {B : Int → Int → Prop} {r v : Int} (h0 : 0 ≤ r) (h1 : r ≤ 239) (hv : B r v) (hn : ¬ v = -1) (hq : ∀ q : Int, r < q → q ≤ 239 → B q (-1)) : rt_ls B r := Or.inl ⟨h0, h1, ⟨v, hv, hn⟩, hq⟩
theorem rt_ls_no {B : Int → Int → Prop} {r : Int} (hr : r = -1) (hq : ∀ q : Int, 0 ≤ q → q ≤ 239 → B q (-1)) : rt_ls B r := Or.inr ⟨hr, hq⟩
theorem rt_ls_u {B : Int → Int → Prop} (hB : ∀ q v w : Int, B q v → B q w → v = w) {r s : Int} (a : rt_ls B r) (b : rt_ls B s) : r = s := by
  rcases a with ⟨a0, a1, ⟨v, a2, a3⟩, a4⟩ | ⟨a0, a1⟩ <;> rcases b with ⟨b0, b1, ⟨w, b2, b3⟩, b4⟩ | ⟨b0, b1⟩
  · rcases Int.lt_trichotomy r s with g | g | g
    · exact absurd (hB _ _ _ b2 (a4 s g b1)) b3
    · exact g
    · exact absurd (hB _ _ _ a2 (b4 r g a1)) a3
  · exact absurd (hB _ _ _ a2 (b1 r a0 a1)) a3
  · exact absurd (hB _ _ _ b2 (a1 s b0 b1)) b3
  · rw [a0, b0]
theorem fm_wI_2 {M : fm_M} {q k i j n : Nat} {x : Int32} : (fm_wI M q k i x).1 q j n = if j = k ∧ n = i then x else M.1 q j n := by
  by_cases h : j = k ∧ n = i
  · rw [if_pos h, h.1, h.2, fm_wI_at]
  · rw [if_neg h, fm_wI_nj (fun z => h ⟨z.2.1, z.2.2⟩)]
theorem fm_wA_2 {M : fm_M} {q k j n : Nat} {f : Nat → Int32} : (fm_wA M q k f).1 q j n = if j = k then f n else M.1 q j n := by
  by_cases h : j = k
  · rw [if_pos h, h, fm_wA_at]
  · rw [if_neg h, fm_wA_ne (fun z => h z.2)]
def rt_ct (s v : Int32) : Int32 := if s.toInt = 0 then v.toInt8.toInt32 else if s.toInt = 1 then v.toInt16.toInt32 else v
theorem rt_z2 {f g : Nat → Nat → Int32} {ks : Nat} {k k1 : Int32} (h : ∀ j n : Nat, f j n = if j = ks ∧ (n : Int) < k.toInt then 0 else g j n) (h0 : 0 ≤ k.toInt) (h1 : k1.toInt = k.toInt + 1) {j n : Nat} : (if j = ks ∧ n = k.toNatClampNeg then 0 else f j n) = if j = ks ∧ (n : Int) < k1.toInt then 0 else g j n := by
  have e : (k.toNatClampNeg : Int) = k.toInt := by rw [Int32.toNatClampNeg]; omega
  by_cases hj : j = ks ∧ n = k.toNatClampNeg
  · rw [if_pos hj, if_pos (by omega)]
  · rw [if_neg hj, h j n]
    by_cases h2 : j = ks ∧ (n : Int) < k.toInt
    · rw [if_pos h2, if_pos (by omega)]
    · rw [if_neg h2, if_neg (by omega)]
theorem rt_z1 {f g : Nat → Int32} {lo : Int} {k k1 : Int32} (h : ∀ n : Nat, f n = if lo ≤ n ∧ (n : Int) < k.toInt then 0 else g n) (h0 : 0 ≤ k.toInt ∧ lo ≤ k.toInt) (h1 : k1.toInt = k.toInt + 1) {n : Nat} : (if n = k.toNatClampNeg then 0 else f n) = if lo ≤ n ∧ (n : Int) < k1.toInt then 0 else g n := by
  have e : (k.toNatClampNeg : Int) = k.toInt := by rw [Int32.toNatClampNeg]; omega
  by_cases hj : n = k.toNatClampNeg
  · rw [if_pos hj, if_pos (by omega)]
  · rw [if_neg hj, h n]
    by_cases h2 : lo ≤ n ∧ (n : Int) < k.toInt
    · rw [if_pos h2, if_pos (by omega)]
    · rw [if_neg h2, if_neg (by omega)]
theorem rt_cp1 {f g : Nat → Int32} {D k k1 : Int} {S y : Nat} {x : Int32} (h : ∀ n : Nat, f n = if D ≤ n ∧ (n : Int) < D + k then g (S + (n - D.toNat)) else g n) (hx : x = g (S + k.toNat)) (hy : (y : Int) = D + k) (hk : 0 ≤ k ∧ 0 ≤ D) (h1 : k1 = k + 1) {n : Nat} : (if n = y then x else f n) = if D ≤ n ∧ (n : Int) < D + k1 then g (S + (n - D.toNat)) else g n := by
  by_cases hj : n = y
  · rw [if_pos hj, if_pos (by omega), hx, show n - D.toNat = k.toNat by omega]
  · rw [if_neg hj, h n]
    by_cases h2 : D ≤ n ∧ (n : Int) < D + k
    · rw [if_pos h2, if_pos (by omega)]
    · rw [if_neg h2, if_neg (by omega)]
theorem zl_2k {b : Int64} (h : 0 ≤ b.toInt ∧ b.toInt ≤ 20) : (2 * b).toInt = 2 * b.toInt := by
  have e : (2 : Int64).toInt = 2 := rfl
  rw [zl_mul (by rw [e]; omega), e]
def rt_itc (M : fm_M) (s : Nat) (x : Int) : Int := if 0 ≤ x ∧ x < 40 then (M.1 47 s x.toNat).toInt else 0
def rt_itm (M : fm_M) (s : Nat) (x : Int) : Int := if 0 ≤ x ∧ x < 40 then (M.1 177 0 (40 * s + x.toNat)).toInt else 0
def rt_fx (it : Int → Int) (b h f c : Int) (n : Nat) : Int × Int := match n with
  | 0 => (c, 0)
  | k + 1 => if (b ≤ it (f + 2 * k) ∧ it (f + 2 * k) ≤ h ∧ 0 ≤ it (f + 2 * k + 1) ∧ it (f + 2 * k + 1) ≤ 63) ∧ (rt_fx it b h f c k).1 < 40 then ((rt_fx it b h f c k).1 + 1, (rt_fx it b h f c k).2 + 1) else rt_fx it b h f c k
abbrev rt_fxs (it : Int → Int) (T b h f c n r u : Int) : Prop := ∃ k : Nat, (k : Int) ≤ n ∧ (∀ q : Nat, q < k → 0 ≤ f + 2 * q ∧ f + 2 * q + 2 ≤ T) ∧ u = (rt_fx it b h f c k).1 ∧ (((k : Int) = n ∧ r = (rt_fx it b h f c k).2) ∨ ((k : Int) < n ∧ ¬ (0 ≤ f + 2 * k ∧ f + 2 * k + 2 ≤ T) ∧ r = -12))
theorem rt_fxs_u {it : Int → Int} {T b h f c n r u r1 u1 : Int} (x : rt_fxs it T b h f c n r u) (y : rt_fxs it T b h f c n r1 u1) : r = r1 ∧ u = u1 := by
  obtain ⟨k, k1, k2, k3, k4⟩ := x
  obtain ⟨j, j1, j2, j3, j4⟩ := y
  have e : k = j := by
    rcases Nat.lt_trichotomy k j with g | g | g
    · have g1 := j2 k g
      omega
    · exact g
    · have g1 := k2 j g
      omega
  subst e
  refine ⟨?_, by rw [k3, j3]⟩
  rcases k4 with ⟨a1, a2⟩ | ⟨a1, a2, a3⟩ <;> rcases j4 with ⟨b1, b2⟩ | ⟨b1, b2, b3⟩
  · rw [a2, b2]
  · omega
  · omega
  · rw [a3, b3]
theorem rt_fx_y {it : Int → Int} {b h f c u w a e : Int} {k k1 : Int32} (h1 : k1.toInt = k.toInt + 1) (h0 : 0 ≤ k.toInt) (hu : u = (rt_fx it b h f c k.toNatClampNeg).1) (hw : w = (rt_fx it b h f c k.toNatClampNeg).2) (ea : a = it (f + 2 * k.toInt)) (ee : e = it (f + 2 * k.toInt + 1)) (hc : (b ≤ a ∧ a ≤ h ∧ 0 ≤ e ∧ e ≤ 63) ∧ u < 40) : u + 1 = (rt_fx it b h f c k1.toNatClampNeg).1 ∧ w + 1 = (rt_fx it b h f c k1.toNatClampNeg).2 := by
  have z : (k.toNatClampNeg : Int) = k.toInt := by rw [Int32.toNatClampNeg]; omega
  rw [zi_tns h1 h0, rt_fx, z, ← ea, ← ee, ← hu, ← hw, if_pos hc]
  exact ⟨rfl, rfl⟩
theorem rt_fx_n {it : Int → Int} {b h f c u w a e : Int} {k k1 : Int32} (h1 : k1.toInt = k.toInt + 1) (h0 : 0 ≤ k.toInt) (hu : u = (rt_fx it b h f c k.toNatClampNeg).1) (hw : w = (rt_fx it b h f c k.toNatClampNeg).2) (ea : a = it (f + 2 * k.toInt)) (ee : e = it (f + 2 * k.toInt + 1)) (hc : ¬ ((b ≤ a ∧ a ≤ h ∧ 0 ≤ e ∧ e ≤ 63) ∧ u < 40)) : u = (rt_fx it b h f c k1.toNatClampNeg).1 ∧ w = (rt_fx it b h f c k1.toNatClampNeg).2 := by
  have z : (k.toNatClampNeg : Int) = k.toInt := by rw [Int32.toNatClampNeg]; omega
  rw [zi_tns h1 h0, rt_fx, z, ← ea, ← ee, ← hu, if_neg hc]
  exact ⟨hu, hw⟩
theorem rt_itc_at {M : fm_M} {s : Nat} {x : Int} {v : Int32} {i : Nat} (h : 0 ≤ x ∧ x < 40) (hi : i = x.toNat) (hv : v = M.1 47 s i) : v.toInt = rt_itc M s x := by
  unfold rt_itc
  rw [if_pos h, hv, hi]
theorem rt_itm_at {M : fm_M} {s : Nat} {x : Int} {v : Int32} {i : Nat} (h : 0 ≤ x ∧ x < 40) (hi : i = 40 * s + x.toNat) (hv : v = M.1 177 0 i) : v.toInt = rt_itm M s x := by
  unfold rt_itm
  rw [if_pos h, hv, hi]
def rt_g (q : Int64) (c : Nat) : Bool := q.toBitVec.getLsbD c
theorem rt_g_ext {p q : Int64} (h : ∀ c : Nat, c < 64 → rt_g p c = rt_g q c) : p = q := by
  apply Int64.toBitVec_inj.mp
  apply BitVec.eq_of_getLsbD_eq
  intro i hi
  exact h i hi
theorem rt_g_or {p q : Int64} {c : Nat} : rt_g (p ||| q) c = (rt_g p c || rt_g q c) := by
  show (p.toBitVec ||| q.toBitVec).getLsbD c = _
  rw [BitVec.getLsbD_or]
  rfl
theorem rt_g_and {p q : Int64} {c : Nat} : rt_g (p &&& q) c = (rt_g p c && rt_g q c) := by
  show (p.toBitVec &&& q.toBitVec).getLsbD c = _
  rw [BitVec.getLsbD_and]
  rfl
theorem rt_g_0 {c : Nat} : rt_g 0 c = false := by
  show (0#64).getLsbD c = false
  simp
theorem rt_g_shl {p s : Int64} {n c : Nat} (hs : (s.toBitVec.smod 64#64).toNat = n) (hc : c < 64) : rt_g (p <<< s) c = (decide (n ≤ c) && rt_g p (c - n)) := by
  show (p.toBitVec <<< (s.toBitVec.smod 64#64)).getLsbD c = _
  rw [BitVec.shiftLeft_eq', hs, BitVec.getLsbD_shiftLeft]
  by_cases h : n ≤ c
  · have h2 : ¬ c < n := by omega
    simp [h, h2, hc, rt_g]
  · have h2 : c < n := by omega
    simp [h, h2]
theorem rt_g_shr {p : Int64} {t : UInt64} {n c : Nat} (hs : (t % 64).toBitVec.toNat = n) : rt_g (p.toUInt64 >>> t).toInt64 c = rt_g p (n + c) := by
  show (p.toBitVec >>> (t % 64).toBitVec).getLsbD c = _
  rw [BitVec.ushiftRight_eq', hs, BitVec.getLsbD_ushiftRight]
  rfl
def rt_byC (p : Int64) (k : Int32) : Int64 := if k.toInt < 0 then ((p &&& 72340172838076673 * (((255 : Int32) <<< (-k &&& 31)) &&& 255).toInt64).toUInt64 >>> ((-k).toInt64.toUInt64 &&& Int64.toUInt64 63)).toInt64 else (p &&& 72340172838076673 * ((255 : Int32) >>> (k &&& 31)).toInt64) <<< (k.toInt64 &&& 63)
def rt_byR (p : Int64) (k : Int32) : Int64 := if k.toInt < 0 then (p.toUInt64 >>> ((8 * -k).toInt64.toUInt64 &&& Int64.toUInt64 63)).toInt64 else p <<< ((8 * k).toInt64 &&& 63)
theorem rt_byC_p {p : Int64} {k : Int32} {m : Int64} {n : Nat} (h0 : ¬ k.toInt < 0) (hm : 72340172838076673 * ((255 : Int32) >>> (k &&& 31)).toInt64 = m) (hn : ((k.toInt64 &&& 63).toBitVec.smod 64#64).toNat = n) (hb : ∀ c : Fin 64, (decide (n ≤ c.1) && rt_g m (c.1 - n)) = decide (n ≤ c.1 % 8)) {c : Nat} (hc : c < 64) : rt_g (rt_byC p k) c = (decide (n ≤ c % 8) && rt_g p (c - n)) := by
  unfold rt_byC
  rw [if_neg h0, hm, rt_g_shl hn hc, rt_g_and, ← hb ⟨c, hc⟩]
  cases decide (n ≤ c) <;> cases rt_g p (c - n) <;> cases rt_g m (c - n) <;> rfl
theorem rt_byC_n {p : Int64} {k : Int32} {m : Int64} {n : Nat} (h0 : k.toInt < 0) (hm : 72340172838076673 * (((255 : Int32) <<< (-k &&& 31)) &&& 255).toInt64 = m) (hn : (((-k).toInt64.toUInt64 &&& Int64.toUInt64 63) % 64).toBitVec.toNat = n) (hb : ∀ c : Fin 64, rt_g m (n + c.1) = decide (n + c.1 % 8 ≤ 7)) {c : Nat} (hc : c < 64) : rt_g (rt_byC p k) c = (decide (n + c % 8 ≤ 7) && rt_g p (n + c)) := by
  unfold rt_byC
  rw [if_pos h0, hm, rt_g_shr hn, rt_g_and, ← hb ⟨c, hc⟩]
  cases rt_g p (n + c) <;> cases rt_g m (n + c) <;> rfl
theorem rt_byC_b {p : Int64} {k : Int32} (hk : -3 ≤ k.toInt ∧ k.toInt ≤ 3) {c : Nat} (hc : c < 64) : rt_g (rt_byC p k) c = (decide (0 ≤ ((c % 8 : Nat) : Int) - k.toInt ∧ ((c % 8 : Nat) : Int) - k.toInt ≤ 7) && rt_g p ((c : Int) - k.toInt).toNat) := by
  rcases (show k = -3 ∨ k = -2 ∨ k = -1 ∨ k = 0 ∨ k = 1 ∨ k = 2 ∨ k = 3 by simp only [fa_eq, Int32.reduceToInt]; omega) with rfl | rfl | rfl | rfl | rfl | rfl | rfl
  · rw [rt_byC_n (n := 3) (by decide) rfl (by decide) (by decide +kernel) hc]
    have e : (-3 : Int32).toInt = -3 := rfl
    rw [e, show ((c : Int) - -3).toNat = 3 + c by omega, decide_eq_decide.mpr (show 3 + c % 8 ≤ 7 ↔ (0 ≤ ((c % 8 : Nat) : Int) - -3 ∧ ((c % 8 : Nat) : Int) - -3 ≤ 7) by omega)]
  · rw [rt_byC_n (n := 2) (by decide) rfl (by decide) (by decide +kernel) hc]
    have e : (-2 : Int32).toInt = -2 := rfl
    rw [e, show ((c : Int) - -2).toNat = 2 + c by omega, decide_eq_decide.mpr (show 2 + c % 8 ≤ 7 ↔ (0 ≤ ((c % 8 : Nat) : Int) - -2 ∧ ((c % 8 : Nat) : Int) - -2 ≤ 7) by omega)]
  · rw [rt_byC_n (n := 1) (by decide) rfl (by decide) (by decide +kernel) hc]
    have e : (-1 : Int32).toInt = -1 := rfl
    rw [e, show ((c : Int) - -1).toNat = 1 + c by omega, decide_eq_decide.mpr (show 1 + c % 8 ≤ 7 ↔ (0 ≤ ((c % 8 : Nat) : Int) - -1 ∧ ((c % 8 : Nat) : Int) - -1 ≤ 7) by omega)]
  · rw [rt_byC_p (n := 0) (by decide) rfl (by decide) (by decide +kernel) hc]
    have e : (0 : Int32).toInt = 0 := rfl
    rw [e, show ((c : Int) - 0).toNat = c - 0 by omega, decide_eq_decide.mpr (show 0 ≤ c % 8 ↔ (0 ≤ ((c % 8 : Nat) : Int) - 0 ∧ ((c % 8 : Nat) : Int) - 0 ≤ 7) by omega)]
  · rw [rt_byC_p (n := 1) (by decide) rfl (by decide) (by decide +kernel) hc]
    have e : (1 : Int32).toInt = 1 := rfl
    rw [e, show ((c : Int) - 1).toNat = c - 1 by omega, decide_eq_decide.mpr (show 1 ≤ c % 8 ↔ (0 ≤ ((c % 8 : Nat) : Int) - 1 ∧ ((c % 8 : Nat) : Int) - 1 ≤ 7) by omega)]
  · rw [rt_byC_p (n := 2) (by decide) rfl (by decide) (by decide +kernel) hc]
    have e : (2 : Int32).toInt = 2 := rfl
    rw [e, show ((c : Int) - 2).toNat = c - 2 by omega, decide_eq_decide.mpr (show 2 ≤ c % 8 ↔ (0 ≤ ((c % 8 : Nat) : Int) - 2 ∧ ((c % 8 : Nat) : Int) - 2 ≤ 7) by omega)]
  · rw [rt_byC_p (n := 3) (by decide) rfl (by decide) (by decide +kernel) hc]
    have e : (3 : Int32).toInt = 3 := rfl
    rw [e, show ((c : Int) - 3).toNat = c - 3 by omega, decide_eq_decide.mpr (show 3 ≤ c % 8 ↔ (0 ≤ ((c % 8 : Nat) : Int) - 3 ∧ ((c % 8 : Nat) : Int) - 3 ≤ 7) by omega)]
theorem rt_g_hi {p : Int64} {c : Nat} (h : 64 ≤ c) : rt_g p c = false := BitVec.getLsbD_of_ge _ _ h
theorem rt_byR_b {p : Int64} {k : Int32} (hk : -3 ≤ k.toInt ∧ k.toInt ≤ 3) {c : Nat} (hc : c < 64) : rt_g (rt_byR p k) c = (decide (0 ≤ (c : Int) - 8 * k.toInt ∧ (c : Int) - 8 * k.toInt < 64) && rt_g p ((c : Int) - 8 * k.toInt).toNat) := by
  have hi : ∀ n : Nat, rt_g p (n + c) = (decide (n + c < 64) && rt_g p (n + c)) := by
    intro n
    by_cases h : n + c < 64
    · simp [h]
    · rw [rt_g_hi (by omega)]
      simp
  rcases (show k = -3 ∨ k = -2 ∨ k = -1 ∨ k = 0 ∨ k = 1 ∨ k = 2 ∨ k = 3 by simp only [fa_eq, Int32.reduceToInt]; omega) with rfl | rfl | rfl | rfl | rfl | rfl | rfl <;> unfold rt_byR
  · have e : (-3 : Int32).toInt = -3 := rfl
    rw [if_pos (by decide), rt_g_shr (n := 24) (by decide), hi, e, show ((c : Int) - 8 * -3).toNat = 24 + c by omega, decide_eq_decide.mpr (show 24 + c < 64 ↔ (0 ≤ (c : Int) - 8 * -3 ∧ (c : Int) - 8 * -3 < 64) by omega)]
  · have e : (-2 : Int32).toInt = -2 := rfl
    rw [if_pos (by decide), rt_g_shr (n := 16) (by decide), hi, e, show ((c : Int) - 8 * -2).toNat = 16 + c by omega, decide_eq_decide.mpr (show 16 + c < 64 ↔ (0 ≤ (c : Int) - 8 * -2 ∧ (c : Int) - 8 * -2 < 64) by omega)]
  · have e : (-1 : Int32).toInt = -1 := rfl
    rw [if_pos (by decide), rt_g_shr (n := 8) (by decide), hi, e, show ((c : Int) - 8 * -1).toNat = 8 + c by omega, decide_eq_decide.mpr (show 8 + c < 64 ↔ (0 ≤ (c : Int) - 8 * -1 ∧ (c : Int) - 8 * -1 < 64) by omega)]
  · have e : (0 : Int32).toInt = 0 := rfl
    rw [if_neg (by decide), rt_g_shl (n := 0) (by decide) hc, e, show ((c : Int) - 8 * 0).toNat = c - 0 by omega, decide_eq_decide.mpr (show 0 ≤ c ↔ (0 ≤ (c : Int) - 8 * 0 ∧ (c : Int) - 8 * 0 < 64) by omega)]
  · have e : (1 : Int32).toInt = 1 := rfl
    rw [if_neg (by decide), rt_g_shl (n := 8) (by decide) hc, e, show ((c : Int) - 8 * 1).toNat = c - 8 by omega, decide_eq_decide.mpr (show 8 ≤ c ↔ (0 ≤ (c : Int) - 8 * 1 ∧ (c : Int) - 8 * 1 < 64) by omega)]
  · have e : (2 : Int32).toInt = 2 := rfl
    rw [if_neg (by decide), rt_g_shl (n := 16) (by decide) hc, e, show ((c : Int) - 8 * 2).toNat = c - 16 by omega, decide_eq_decide.mpr (show 16 ≤ c ↔ (0 ≤ (c : Int) - 8 * 2 ∧ (c : Int) - 8 * 2 < 64) by omega)]
  · have e : (3 : Int32).toInt = 3 := rfl
    rw [if_neg (by decide), rt_g_shl (n := 24) (by decide) hc, e, show ((c : Int) - 8 * 3).toNat = c - 24 by omega, decide_eq_decide.mpr (show 24 ≤ c ↔ (0 ≤ (c : Int) - 8 * 3 ∧ (c : Int) - 8 * 3 < 64) by omega)]
theorem fm_wL_2 {M : fm_M} {q k i j n : Nat} {x : Int64} : (fm_wL M q k i x).2.1 q j n = if j = k ∧ n = i then x else M.2.1 q j n := by
  by_cases h : j = k ∧ n = i
  · rw [if_pos h, h.1, h.2, fm_wL_at]
  · rw [if_neg h, fm_wL_nj (fun z => h ⟨z.2.1, z.2.2⟩)]
theorem zi_ofI {i : Int} (h : -1000 ≤ i ∧ i ≤ 1000) : (Int32.ofInt i).toInt = i := by
  have e : ((Int32.size : Nat) : Int) = 4294967296 := rfl
  rw [Int32.toInt_ofInt]
  exact Int.bmod_eq_of_le (by omega) (by omega)
def rt_orC (p : Int64) (lo : Int) (n : Nat) : Int64 := match n with
  | 0 => 0
  | k + 1 => rt_orC p lo k ||| rt_byC p (Int32.ofInt (lo + k))
def rt_orR (p : Int64) (lo : Int) (n : Nat) : Int64 := match n with
  | 0 => 0
  | k + 1 => rt_orR p lo k ||| rt_byR p (Int32.ofInt (lo + k))
theorem rt_orC_b {p : Int64} {lo : Int} {n : Nat} (h : -3 ≤ lo ∧ lo + n ≤ 4) {c : Nat} (hc : c < 64) : rt_g (rt_orC p lo n) c = true ↔ ∃ d : Int, lo ≤ d ∧ d < lo + n ∧ 0 ≤ ((c % 8 : Nat) : Int) - d ∧ ((c % 8 : Nat) : Int) - d ≤ 7 ∧ rt_g p ((c : Int) - d).toNat = true := by
  induction n with
  | zero =>
    show rt_g 0 c = true ↔ _
    rw [rt_g_0]
    constructor
    · intro z
      exact absurd z (by decide)
    · rintro ⟨d, h1, h2, _⟩
      exfalso
      omega
  | succ n ih =>
    have e : (Int32.ofInt (lo + n)).toInt = lo + n := zi_ofI (by omega)
    show rt_g (rt_orC p lo n ||| rt_byC p (Int32.ofInt (lo + n))) c = true ↔ _
    rw [rt_g_or, Bool.or_eq_true, ih (by omega), rt_byC_b (by rw [e]; omega) hc, e, Bool.and_eq_true, decide_eq_true_iff]
    constructor
    · rintro (⟨d, h1, h2, h3, h4, h5⟩ | ⟨⟨h3, h4⟩, h5⟩)
      · exact ⟨d, h1, by omega, h3, h4, h5⟩
      · exact ⟨lo + n, by omega, by omega, h3, h4, h5⟩
    · rintro ⟨d, h1, h2, h3, h4, h5⟩
      by_cases hd : d = lo + n
      · subst hd
        exact Or.inr ⟨⟨h3, h4⟩, h5⟩
      · exact Or.inl ⟨d, h1, by omega, h3, h4, h5⟩
theorem rt_orR_b {p : Int64} {lo : Int} {n : Nat} (h : -3 ≤ lo ∧ lo + n ≤ 4) {c : Nat} (hc : c < 64) : rt_g (rt_orR p lo n) c = true ↔ ∃ d : Int, lo ≤ d ∧ d < lo + n ∧ 0 ≤ (c : Int) - 8 * d ∧ (c : Int) - 8 * d < 64 ∧ rt_g p ((c : Int) - 8 * d).toNat = true := by
  induction n with
  | zero =>
    show rt_g 0 c = true ↔ _
    rw [rt_g_0]
    constructor
    · intro z
      exact absurd z (by decide)
    · rintro ⟨d, h1, h2, _⟩
      exfalso
      omega
  | succ n ih =>
    have e : (Int32.ofInt (lo + n)).toInt = lo + n := zi_ofI (by omega)
    show rt_g (rt_orR p lo n ||| rt_byR p (Int32.ofInt (lo + n))) c = true ↔ _
    rw [rt_g_or, Bool.or_eq_true, ih (by omega), rt_byR_b (by rw [e]; omega) hc, e, Bool.and_eq_true, decide_eq_true_iff]
    constructor
    · rintro (⟨d, h1, h2, h3, h4, h5⟩ | ⟨⟨h3, h4⟩, h5⟩)
      · exact ⟨d, h1, by omega, h3, h4, h5⟩
      · exact ⟨lo + n, by omega, by omega, h3, h4, h5⟩
    · rintro ⟨d, h1, h2, h3, h4, h5⟩
      by_cases hd : d = lo + n
      · subst hd
        exact Or.inr ⟨⟨h3, h4⟩, h5⟩
      · exact Or.inl ⟨d, h1, by omega, h3, h4, h5⟩
theorem rt_blow_b {p : Int64} {lx ly : Int} {n m : Nat} (h : -3 ≤ lx ∧ lx + n ≤ 4) (g : -3 ≤ ly ∧ ly + m ≤ 4) {c : Nat} (hc : c < 64) : rt_g (rt_orR (rt_orC p lx n) ly m) c = true ↔ ∃ k : Nat, k < 64 ∧ rt_g p k = true ∧ lx ≤ ((c % 8 : Nat) : Int) - ((k % 8 : Nat) : Int) ∧ ((c % 8 : Nat) : Int) - ((k % 8 : Nat) : Int) < lx + n ∧ ly ≤ ((c / 8 : Nat) : Int) - ((k / 8 : Nat) : Int) ∧ ((c / 8 : Nat) : Int) - ((k / 8 : Nat) : Int) < ly + m := by
  rw [rt_orR_b g hc]
  constructor
  · rintro ⟨d, h1, h2, h3, h4, h5⟩
    rw [rt_orC_b h (by omega)] at h5
    obtain ⟨b, b1, b2, b3, b4, b5⟩ := h5
    exact ⟨(((((c : Int) - 8 * d).toNat : Nat) : Int) - b).toNat, by omega, b5, by omega, by omega, by omega, by omega⟩
  · rintro ⟨k, k1, k2, k3, k4, k5, k6⟩
    refine ⟨((c / 8 : Nat) : Int) - ((k / 8 : Nat) : Int), by omega, by omega, by omega, by omega, ?_⟩
    rw [rt_orC_b h (by omega)]
    refine ⟨((c % 8 : Nat) : Int) - ((k % 8 : Nat) : Int), by omega, by omega, by omega, by omega, ?_⟩
    rw [show ((((c : Int) - 8 * (((c / 8 : Nat) : Int) - ((k / 8 : Nat) : Int))).toNat : Nat) : Int) - (((c % 8 : Nat) : Int) - ((k % 8 : Nat) : Int)) = (k : Int) by omega]
    exact k2
theorem rt_one_k : ∀ s : Fin 64, ∀ c : Fin 64, rt_g ((1 : Int64) <<< ((Int32.ofNat s.1).toInt64 &&& 63)) c.1 = decide (c.1 = s.1) := by decide +kernel
theorem rt_one_b {s : Int32} (h : 0 ≤ s.toInt ∧ s.toInt ≤ 63) {c : Nat} (hc : c < 64) : rt_g ((1 : Int64) <<< (s.toInt64 &&& 63)) c = decide ((c : Int) = s.toInt) := by
  have e : Int32.ofNat s.toNatClampNeg = s := zi_ofn h.1
  have e2 : (s.toNatClampNeg : Int) = s.toInt := by rw [Int32.toNatClampNeg]; omega
  have k := rt_one_k ⟨s.toNatClampNeg, by omega⟩ ⟨c, hc⟩
  rw [e] at k
  rw [k]
  exact decide_eq_decide.mpr (show c = s.toNatClampNeg ↔ (c : Int) = s.toInt by omega)
def rt_bit (x y : Int) : Int64 := if 0 ≤ x ∧ x ≤ 7 ∧ 0 ≤ y ∧ y ≤ 7 then (1 : Int64) <<< ((8 * Int32.ofInt y + Int32.ofInt x).toInt64 &&& 63) else 0
theorem rt_bit_b {x y : Int} {c : Nat} (hc : c < 64) : rt_g (rt_bit x y) c = true ↔ 0 ≤ x ∧ x ≤ 7 ∧ 0 ≤ y ∧ y ≤ 7 ∧ (c : Int) = 8 * y + x := by
  unfold rt_bit
  by_cases h : 0 ≤ x ∧ x ≤ 7 ∧ 0 ≤ y ∧ y ≤ 7
  · have e1 : (Int32.ofInt x).toInt = x := zi_ofI (by omega)
    have e2 : (Int32.ofInt y).toInt = y := zi_ofI (by omega)
    have e3 : (8 * Int32.ofInt y).toInt = 8 * y := by
      rw [Int32.toInt_mul, e2, show (8 : Int32).toInt = 8 from rfl]
      exact Int.bmod_eq_of_le (by omega) (by omega)
    have e : (8 * Int32.ofInt y + Int32.ofInt x).toInt = 8 * y + x := by
      rw [Int32.toInt_add, e3, e1]
      exact Int.bmod_eq_of_le (by omega) (by omega)
    rw [if_pos h, rt_one_b (by rw [e]; omega) hc, e, decide_eq_true_iff]
    omega
  · rw [if_neg h, rt_g_0]
    constructor
    · intro z
      exact absurd z (by decide)
    · intro z
      exact absurd ⟨z.1, z.2.1, z.2.2.1, z.2.2.2.1⟩ h
def rt_d3 (t : Int64) (x lo : Int) (n : Nat) : Int64 := match n with
  | 0 => t
  | k + 1 => rt_d3 t x lo k ||| rt_bit x (lo + k)
theorem rt_d3_b {t : Int64} {x lo : Int} {n c : Nat} (hc : c < 64) : rt_g (rt_d3 t x lo n) c = true ↔ rt_g t c = true ∨ ∃ y : Int, lo ≤ y ∧ y < lo + n ∧ 0 ≤ x ∧ x ≤ 7 ∧ 0 ≤ y ∧ y ≤ 7 ∧ (c : Int) = 8 * y + x := by
  induction n with
  | zero =>
    show rt_g t c = true ↔ _
    constructor
    · exact fun z => Or.inl z
    · rintro (z | ⟨y, h1, h2, _⟩)
      · exact z
      · exfalso
        omega
  | succ n ih =>
    show rt_g (rt_d3 t x lo n ||| rt_bit x (lo + n)) c = true ↔ _
    rw [rt_g_or, Bool.or_eq_true, ih, rt_bit_b hc]
    constructor
    · rintro ((z | ⟨y, h1, h2, h3⟩) | z)
      · exact Or.inl z
      · exact Or.inr ⟨y, h1, by omega, h3⟩
      · exact Or.inr ⟨lo + n, by omega, by omega, z⟩
    · rintro (z | ⟨y, h1, h2, h3⟩)
      · exact Or.inl (Or.inl z)
      · by_cases hy : y = lo + n
        · subst hy
          exact Or.inr h3
        · exact Or.inl (Or.inr ⟨y, h1, by omega, h3⟩)
def rt_d2 (t : Int64) (lx ly : Int) (m n : Nat) : Int64 := match n with
  | 0 => t
  | k + 1 => rt_d3 (rt_d2 t lx ly m k) (lx + k) ly m
theorem rt_d2_b {t : Int64} {lx ly : Int} {m n c : Nat} (hc : c < 64) : rt_g (rt_d2 t lx ly m n) c = true ↔ rt_g t c = true ∨ ∃ x y : Int, lx ≤ x ∧ x < lx + n ∧ ly ≤ y ∧ y < ly + m ∧ 0 ≤ x ∧ x ≤ 7 ∧ 0 ≤ y ∧ y ≤ 7 ∧ (c : Int) = 8 * y + x := by
  induction n with
  | zero =>
    show rt_g t c = true ↔ _
    constructor
    · exact fun z => Or.inl z
    · rintro (z | ⟨x, y, h1, h2, _⟩)
      · exact z
      · exfalso
        omega
  | succ n ih =>
    show rt_g (rt_d3 (rt_d2 t lx ly m n) (lx + n) ly m) c = true ↔ _
    rw [rt_d3_b hc, ih]
    constructor
    · rintro ((z | ⟨x, y, h1, h2, h3⟩) | ⟨y, h1, h2, h3⟩)
      · exact Or.inl z
      · exact Or.inr ⟨x, y, h1, by omega, h3⟩
      · exact Or.inr ⟨lx + n, y, by omega, by omega, h1, h2, h3⟩
    · rintro (z | ⟨x, y, h1, h2, h3, h4, h5⟩)
      · exact Or.inl (Or.inl z)
      · by_cases hx : x = lx + n
        · subst hx
          exact Or.inr ⟨y, h3, h4, h5⟩
        · exact Or.inl (Or.inr ⟨x, y, h1, by omega, h3, h4, h5⟩)
def rt_d1 (p : Int64) (a c : Int) (n m : Nat) (k : Nat) : Int64 := match k with
  | 0 => 0
  | k + 1 => if rt_g p k = true then rt_d2 (rt_d1 p a c n m k) (((k % 8 : Nat) : Int) + a) (((k / 8 : Nat) : Int) + c) m n else rt_d1 p a c n m k
theorem rt_d1_b {p : Int64} {a b : Int} {n m K c : Nat} (hc : c < 64) : rt_g (rt_d1 p a b n m K) c = true ↔ ∃ k : Nat, k < K ∧ rt_g p k = true ∧ a ≤ ((c % 8 : Nat) : Int) - ((k % 8 : Nat) : Int) ∧ ((c % 8 : Nat) : Int) - ((k % 8 : Nat) : Int) < a + n ∧ b ≤ ((c / 8 : Nat) : Int) - ((k / 8 : Nat) : Int) ∧ ((c / 8 : Nat) : Int) - ((k / 8 : Nat) : Int) < b + m := by
  induction K with
  | zero =>
    show rt_g 0 c = true ↔ _
    rw [rt_g_0]
    constructor
    · intro z
      exact absurd z (by decide)
    · rintro ⟨k, h1, _⟩
      exact absurd h1 (Nat.not_lt_zero k)
  | succ K ih =>
    show rt_g (if rt_g p K = true then rt_d2 (rt_d1 p a b n m K) (((K % 8 : Nat) : Int) + a) (((K / 8 : Nat) : Int) + b) m n else rt_d1 p a b n m K) c = true ↔ _
    by_cases h : rt_g p K = true
    · rw [if_pos h, rt_d2_b hc, ih]
      constructor
      · rintro (⟨k, h1, h2⟩ | ⟨x, y, h1, h2, h3, h4, h5, h6, h7, h8, h9⟩)
        · exact ⟨k, by omega, h2⟩
        · exact ⟨K, by omega, h, by omega, by omega, by omega, by omega⟩
      · rintro ⟨k, h1, h2, h3, h4, h5, h6⟩
        by_cases hk : k = K
        · subst hk
          exact Or.inr ⟨((c % 8 : Nat) : Int), ((c / 8 : Nat) : Int), by omega, by omega, by omega, by omega, by omega, by omega, by omega, by omega, by omega⟩
        · exact Or.inl ⟨k, by omega, h2, h3, h4, h5, h6⟩
    · rw [if_neg h, ih]
      constructor
      · rintro ⟨k, h1, h2⟩
        exact ⟨k, by omega, h2⟩
      · rintro ⟨k, h1, h2, h3⟩
        by_cases hk : k = K
        · subst hk
          exact absurd h2 h
        · exact ⟨k, by omega, h2, h3⟩
/-- the class's blowing and the reference's drifting are one -/
theorem rt_drift {p : Int64} {lx ly : Int} {n m : Nat} (h : -3 ≤ lx ∧ lx + n ≤ 4) (g : -3 ≤ ly ∧ ly + m ≤ 4) : rt_orR (rt_orC p lx n) ly m = rt_d1 p lx ly n m 64 := by
  refine rt_g_ext fun c hc => ?_
  have h1 := rt_blow_b (p := p) h g hc
  have h2 := rt_d1_b (p := p) (a := lx) (b := ly) (n := n) (m := m) (K := 64) hc
  exact Bool.eq_iff_iff.mpr (h1.trans h2.symm)
theorem rt_d1_id {p : Int64} : rt_d1 p 0 0 1 1 64 = p := by
  refine rt_g_ext fun c hc => ?_
  have h2 := rt_d1_b (p := p) (a := 0) (b := 0) (n := 1) (m := 1) (K := 64) hc
  refine Bool.eq_iff_iff.mpr (h2.trans ⟨?_, fun z => ⟨c, hc, z, by omega, by omega, by omega, by omega⟩⟩)
  rintro ⟨k, k1, k2, k3, k4, k5, k6⟩
  rw [show c = k by omega]
  exact k2
def rt_na (fh : Nat → Int32) (fc : Nat → Int64) (h : Int) (p : Int64) (n : Nat) : Int64 := match n with
  | 0 => p
  | k + 1 => if (fh k).toInt = h then rt_na fh fc h p k &&& fc k else rt_na fh fc h p k
def rt_nk (fh ft : Nat → Int32) (fc : Nat → Int64) (h kn : Int) (p : Int64) (n : Nat) : Int64 := match n with
  | 0 => p
  | k + 1 => if (fh k).toInt = h ∧ (ft k).toInt ≤ kn then rt_nk fh ft fc h kn p k &&& fc k else rt_nk fh ft fc h kn p k
def rt_nm (fb fh ft : Nat → Int32) (fc : Nat → Int64) (b h kn : Int) (p : Int64) (n : Nat) : Int64 := match n with
  | 0 => p
  | k + 1 => if (fb k).toInt = b ∧ (fh k).toInt = h ∧ (ft k).toInt ≤ kn then rt_nm fb fh ft fc b h kn p k &&& fc k else rt_nm fb fh ft fc b h kn p k
theorem rt_nk_all {fh ft : Nat → Int32} {fc : Nat → Int64} {h kn : Int} {p : Int64} {n : Nat} (a : ∀ i : Nat, i < n → (ft i).toInt ≤ kn) : rt_nk fh ft fc h kn p n = rt_na fh fc h p n := by
  induction n with
  | zero => rfl
  | succ n ih =>
    show (if (fh n).toInt = h ∧ (ft n).toInt ≤ kn then rt_nk fh ft fc h kn p n &&& fc n else rt_nk fh ft fc h kn p n) = (if (fh n).toInt = h then rt_na fh fc h p n &&& fc n else rt_na fh fc h p n)
    rw [ih (fun i hi => a i (by omega))]
    by_cases z : (fh n).toInt = h
    · rw [if_pos z, if_pos ⟨z, a n (by omega)⟩]
    · rw [if_neg z, if_neg (fun q => z q.1)]
theorem rt_nk_cut {fh ft : Nat → Int32} {fc : Nat → Int64} {h kn : Int} {p : Int64} {m : Nat} (n : Nat) (a : ∀ i : Nat, m ≤ i → i < m + n → kn < (ft i).toInt) : rt_nk fh ft fc h kn p (m + n) = rt_nk fh ft fc h kn p m := by
  induction n with
  | zero => rfl
  | succ n ih =>
    show (if (fh (m + n)).toInt = h ∧ (ft (m + n)).toInt ≤ kn then rt_nk fh ft fc h kn p (m + n) &&& fc (m + n) else rt_nk fh ft fc h kn p (m + n)) = _
    have z := a (m + n) (by omega) (by omega)
    rw [if_neg (by omega), ih (fun i h1 h2 => a i h1 (by omega))]
def rt_blow (y w : Int) (p : Int64) : Int64 := if y = 2222 ∧ w = 0 then p else rt_orR (rt_orC p (y / 1000 - 2 - w) (y / 100 % 10 - 2 + w - (y / 1000 - 2 - w) + 1).toNat) (y / 10 % 10 - 2 - w) (y % 10 - 2 + w - (y / 10 % 10 - 2 - w) + 1).toNat
def rt_dr (y kd h : Int) (p : Int64) : Int64 := if kd = 2 then p else rt_blow y (if kd = 3 ∨ (kd = 4 ∧ h % 4 = 0) then 1 else 0) p
def rt_drm (y kd h : Int) (p : Int64) : Int64 := if kd = 2 then rt_d1 p 0 0 1 1 64 else rt_d1 p (y / 1000 - 2 - (if kd = 3 ∨ (kd = 4 ∧ h % 4 = 0) then 1 else 0)) (y / 10 % 10 - 2 - (if kd = 3 ∨ (kd = 4 ∧ h % 4 = 0) then 1 else 0)) (y / 100 % 10 - 2 + (if kd = 3 ∨ (kd = 4 ∧ h % 4 = 0) then 1 else 0) - (y / 1000 - 2 - (if kd = 3 ∨ (kd = 4 ∧ h % 4 = 0) then 1 else 0)) + 1).toNat (y % 10 - 2 + (if kd = 3 ∨ (kd = 4 ∧ h % 4 = 0) then 1 else 0) - (y / 10 % 10 - 2 - (if kd = 3 ∨ (kd = 4 ∧ h % 4 = 0) then 1 else 0)) + 1).toNat 64
def rt_vw (y : Int) : Prop := 0 ≤ y ∧ y ≤ 4444 ∧ y / 100 % 10 ≤ 4 ∧ y / 10 % 10 ≤ 4 ∧ y % 10 ≤ 4 ∧ y / 1000 ≤ y / 100 % 10 ∧ y / 10 % 10 ≤ y % 10
theorem rt_dr_eq {y kd h : Int} {p : Int64} (v : rt_vw y) : rt_dr y kd h p = rt_drm y kd h p := by
  unfold rt_dr rt_drm
  by_cases k2 : kd = 2
  · rw [if_pos k2, if_pos k2, rt_d1_id]
  · rw [if_neg k2, if_neg k2]
    unfold rt_vw at v
    unfold rt_blow
    have hw : (if kd = 3 ∨ (kd = 4 ∧ h % 4 = 0) then (1 : Int) else 0) = 0 ∨ (if kd = 3 ∨ (kd = 4 ∧ h % 4 = 0) then (1 : Int) else 0) = 1 := by
      split
      · exact Or.inr rfl
      · exact Or.inl rfl
    generalize (if kd = 3 ∨ (kd = 4 ∧ h % 4 = 0) then (1 : Int) else 0) = w at hw
    by_cases hc : y = 2222 ∧ w = 0
    · obtain ⟨rfl, rfl⟩ := hc
      rw [if_pos ⟨rfl, rfl⟩]
      exact rt_d1_id.symm
    · rw [if_neg hc]
      exact rt_drift (by omega) (by omega)
def rt_wdm (a b c : Nat → Int32) (x : Int) (n : Nat) : Int := match n with
  | 0 => 2222
  | k + 1 => if (a k).toInt ≤ x ∧ x < (b k).toInt then (c k).toInt else rt_wdm a b c x k
def rt_wdc (f : Nat → Int32) (x : Int) : Int := if 0 ≤ x ∧ x < 240 then (f x.toNat).toInt else 2222
def rt_pt (dr nr : Int → Int64 → Int64) (b : Int) (p : Int64) (n : Nat) : Int64 := match n with
  | 0 => nr b p
  | k + 1 => nr (b + k + 1) (dr (b + k) (rt_pt dr nr b p k))
theorem rt_pt_c {dr nr ds ns : Int → Int64 → Int64} {b : Int} {p : Int64} {n : Nat} (h1 : ∀ x q, b ≤ x → x < b + n → dr x q = ds x q) (h2 : ∀ x q, b ≤ x → x ≤ b + n → nr x q = ns x q) : rt_pt dr nr b p n = rt_pt ds ns b p n := by
  induction n with
  | zero => exact h2 b p (by omega) (by omega)
  | succ n ih =>
    show nr (b + n + 1) (dr (b + n) (rt_pt dr nr b p n)) = ns (b + n + 1) (ds (b + n) (rt_pt ds ns b p n))
    rw [ih (fun x q a c => h1 x q a (by omega)) (fun x q a c => h2 x q a (by omega)), h1 _ _ (by omega) (by omega), h2 _ _ (by omega) (by omega)]
theorem rt_orC_s {p a : Int64} {lo : Int} {k k1 : Int32} (hq : a = rt_orC p lo (k.toInt - lo).toNat) (h0 : lo ≤ k.toInt) (h1 : k1.toInt = k.toInt + 1) : a ||| rt_byC p k = rt_orC p lo (k1.toInt - lo).toNat := by
  rw [show (k1.toInt - lo).toNat = (k.toInt - lo).toNat + 1 by omega]
  show _ = rt_orC p lo (k.toInt - lo).toNat ||| rt_byC p (Int32.ofInt (lo + ((k.toInt - lo).toNat : Nat)))
  rw [← hq, show lo + (((k.toInt - lo).toNat : Nat) : Int) = k.toInt by omega, Int32.ofInt_toInt]
theorem rt_orR_s {p a : Int64} {lo : Int} {k k1 : Int32} (hq : a = rt_orR p lo (k.toInt - lo).toNat) (h0 : lo ≤ k.toInt) (h1 : k1.toInt = k.toInt + 1) : a ||| rt_byR p k = rt_orR p lo (k1.toInt - lo).toNat := by
  rw [show (k1.toInt - lo).toNat = (k.toInt - lo).toNat + 1 by omega]
  show _ = rt_orR p lo (k.toInt - lo).toNat ||| rt_byR p (Int32.ofInt (lo + ((k.toInt - lo).toNat : Nat)))
  rw [← hq, show lo + (((k.toInt - lo).toNat : Nat) : Int) = k.toInt by omega, Int32.ofInt_toInt]
theorem rt_na_y {fh : Nat → Int32} {fc : Nat → Int64} {h : Int} {p a x : Int64} {k k1 u : Int32} (h1 : k1.toInt = k.toInt + 1) (h0 : 0 ≤ k.toInt) (hq : a = rt_na fh fc h p k.toNatClampNeg) (eu : u = fh k.toNatClampNeg) (ex : x = fc k.toNatClampNeg) (hu : u.toInt = h) : a &&& x = rt_na fh fc h p k1.toNatClampNeg := by
  rw [zi_tns h1 h0]
  show _ = (if (fh k.toNatClampNeg).toInt = h then rt_na fh fc h p k.toNatClampNeg &&& fc k.toNatClampNeg else rt_na fh fc h p k.toNatClampNeg)
  rw [← eu, ← ex, ← hq, if_pos hu]
theorem rt_na_n {fh : Nat → Int32} {fc : Nat → Int64} {h : Int} {p a : Int64} {k k1 u : Int32} (h1 : k1.toInt = k.toInt + 1) (h0 : 0 ≤ k.toInt) (hq : a = rt_na fh fc h p k.toNatClampNeg) (eu : u = fh k.toNatClampNeg) (hu : ¬ u.toInt = h) : a = rt_na fh fc h p k1.toNatClampNeg := by
  rw [zi_tns h1 h0]
  show _ = (if (fh k.toNatClampNeg).toInt = h then rt_na fh fc h p k.toNatClampNeg &&& fc k.toNatClampNeg else rt_na fh fc h p k.toNatClampNeg)
  rw [← eu, ← hq, if_neg hu]
/-- the places of a body at an hour, by all its fixes, as the class's own rows tell them -/
def rt_pcl (M : fm_M) (j : Nat) (h : Int) : Int64 := rt_pt (fun x p => rt_dr (rt_wdc (M.1 2 0) x) (M.1 50 j 0).toInt x p) (fun x p => rt_na (M.1 51 j) (M.2.1 53 j) x p (M.1 50 j 9).toNatClampNeg) (M.1 50 j 2).toInt ((1 : Int64) <<< ((M.1 50 j 1).toInt64 &&& 63)) (h - (M.1 50 j 2).toInt).toNat
/-- what the class keeps of places is right -/
def rt_CI (nb : Nat) (M : fm_M) : Prop := ∀ j : Nat, j < nb → ∀ h : Int, (M.1 50 j 2).toInt ≤ h → h ≤ (M.1 50 j 14).toInt → M.2.1 56 j h.toNat = rt_pcl M j h
theorem rt_pcl_s {M : fm_M} {j : Nat} {h : Int} (hb : (M.1 50 j 2).toInt ≤ h) : rt_pcl M j (h + 1) = rt_na (M.1 51 j) (M.2.1 53 j) (h + 1) (rt_dr (rt_wdc (M.1 2 0) h) (M.1 50 j 0).toInt h (rt_pcl M j h)) (M.1 50 j 9).toNatClampNeg := by
  unfold rt_pcl
  rw [show (h + 1 - (M.1 50 j 2).toInt).toNat = (h - (M.1 50 j 2).toInt).toNat + 1 by omega]
  show (fun x p => rt_na (M.1 51 j) (M.2.1 53 j) x p (M.1 50 j 9).toNatClampNeg) ((M.1 50 j 2).toInt + ((h - (M.1 50 j 2).toInt).toNat : Nat) + 1) ((fun x p => rt_dr (rt_wdc (M.1 2 0) x) (M.1 50 j 0).toInt x p) ((M.1 50 j 2).toInt + ((h - (M.1 50 j 2).toInt).toNat : Nat)) _) = _
  rw [show (M.1 50 j 2).toInt + (((h - (M.1 50 j 2).toInt).toNat : Nat) : Int) = h by omega]
theorem rt_pcl_0 {M : fm_M} {j : Nat} : rt_pcl M j (M.1 50 j 2).toInt = rt_na (M.1 51 j) (M.2.1 53 j) (M.1 50 j 2).toInt ((1 : Int64) <<< ((M.1 50 j 1).toInt64 &&& 63)) (M.1 50 j 9).toNatClampNeg := by
  unfold rt_pcl
  rw [show ((M.1 50 j 2).toInt - (M.1 50 j 2).toInt).toNat = 0 by omega]
  rfl
theorem rt_pcl_f {M u : fm_M} {j : Nat} {h : Int} (e2 : u.1 2 0 = M.1 2 0) (k0 : u.1 50 j 0 = M.1 50 j 0) (k1 : u.1 50 j 1 = M.1 50 j 1) (k2 : u.1 50 j 2 = M.1 50 j 2) (k9 : u.1 50 j 9 = M.1 50 j 9) (e5 : u.1 51 j = M.1 51 j) (e3 : u.2.1 53 j = M.2.1 53 j) : rt_pcl u j h = rt_pcl M j h := by
  unfold rt_pcl
  rw [e2, k0, k1, k2, k9, e5, e3]
theorem rt_pcl_same {es : List Nat} {M u : fm_M} (s : fm_same es M u) (h2 : ∀ i : Nat, fm_cd 2 i ∉ es) (h0 : fm_cd 50 0 ∉ es) (h1 : fm_cd 50 1 ∉ es) (hb : fm_cd 50 2 ∉ es) (h9 : fm_cd 50 9 ∉ es) (h5 : ∀ i : Nat, fm_cd 51 i ∉ es) (h3 : ∀ i : Nat, fm_cd 53 i ∉ es) {j : Nat} {h : Int} : rt_pcl u j h = rt_pcl M j h :=
  rt_pcl_f (funext fun i => (s 2 0 i (h2 i)).1) (s 50 j 0 h0).1 (s 50 j 1 h1).1 (s 50 j 2 hb).1 (s 50 j 9 h9).1 (funext fun i => (s 51 j i (h5 i)).1) (funext fun i => (s 53 j i (h3 i)).2.1)
/-- one hour more of a body's places -/
theorem rt_pcl_st {M L : fm_M} {j : Nat} {k y : Int32} {q r : Int64} (e2 : L.1 2 0 = M.1 2 0) (k0 : L.1 50 j 0 = M.1 50 j 0) (k9 : L.1 50 j 9 = M.1 50 j 9) (e5 : L.1 51 j = M.1 51 j) (e3 : L.2.1 53 j = M.2.1 53 j) (hk : (M.1 50 j 2).toInt < k.toInt) (hy : y.toInt = k.toInt - 1) (hq : q = rt_pcl M j y.toInt) {f : Int32} (hf : f = L.1 50 j 9) (hr : r = rt_na (L.1 51 j) (L.2.1 53 j) k.toInt (rt_dr (rt_wdc (L.1 2 0) y.toInt) (L.1 50 j 0).toInt y.toInt q) f.toNatClampNeg) : r = rt_pcl M j k.toInt := by
  rw [hr, hf, e2, k0, k9, e5, e3, hq, show k.toInt = y.toInt + 1 by omega, rt_pcl_s (by omega)]
theorem rt_pcl_st0 {M L : fm_M} {j : Nat} {k : Int32} {q r : Int64} (k9 : L.1 50 j 9 = M.1 50 j 9) (e5 : L.1 51 j = M.1 51 j) (e3 : L.2.1 53 j = M.2.1 53 j) (hk : (M.1 50 j 2).toInt = k.toInt) (hq : q = (1 : Int64) <<< ((M.1 50 j 1).toInt64 &&& 63)) {f : Int32} (hf : f = L.1 50 j 9) (hr : r = rt_na (L.1 51 j) (L.2.1 53 j) k.toInt q f.toNatClampNeg) : r = rt_pcl M j k.toInt := by
  rw [hr, hf, k9, e5, e3, hq, ← hk, rt_pcl_0]
theorem rt_CI_up {nb kb : Nat} {M L u : fm_M} {y k : Int32} (hs : fm_same [50014, 56000] M u) (hC : rt_CI nb M) (eu : u = fm_wI L 50 kb 14 y) (ho : ∀ j n : Nat, ¬ j = kb → L.2.1 56 j n = M.2.1 56 j n) (hq : ∀ x : Int, (M.1 50 kb 2).toInt ≤ x → x < k.toInt → L.2.1 56 kb x.toNat = rt_pcl M kb x) (hL : ∀ j : Nat, ¬ j = kb → L.1 50 j 14 = M.1 50 j 14) (hy : y.toInt < k.toInt) : rt_CI nb u := by
  intro j hj x h1 h2
  have e2 : u.1 50 j 2 = M.1 50 j 2 := (hs 50 j 2 (by decide)).1
  rw [rt_pcl_same hs (fun i => by rw [cd_2]; decide) (by decide) (by decide) (by decide) (by decide) (fun i => by rw [cd_51]; decide) (fun i => by rw [cd_53]; decide)]
  rw [e2] at h1
  rw [eu, fm_wI_21]
  by_cases hk : j = kb
  · subst hk
    rw [eu, fm_wI_at] at h2
    exact hq x h1 (by omega)
  · rw [eu, fm_wI_nj (fun z => hk z.2.1), hL j hk] at h2
    rw [ho j x.toNat hk]
    exact hC j hj x h1 h2
theorem rt_CI_same {nb : Nat} {es : List Nat} {M u : fm_M} (s : fm_same es M u) (h2 : ∀ i : Nat, fm_cd 2 i ∉ es) (h0 : fm_cd 50 0 ∉ es) (h1 : fm_cd 50 1 ∉ es) (hb : fm_cd 50 2 ∉ es) (h9 : fm_cd 50 9 ∉ es) (h5 : ∀ i : Nat, fm_cd 51 i ∉ es) (h3 : ∀ i : Nat, fm_cd 53 i ∉ es) (h14 : fm_cd 50 14 ∉ es) (h56 : ∀ i : Nat, fm_cd 56 i ∉ es) (hC : rt_CI nb M) : rt_CI nb u := by
  intro j hj h g1 g2
  rw [(s 50 j 2 hb).1] at g1
  rw [(s 50 j 14 h14).1] at g2
  rw [(s 56 j h.toNat (h56 _)).2.1, rt_pcl_same s h2 h0 h1 hb h9 h5 h3]
  exact hC j hj h g1 g2
theorem rt_nk_pre {fh ft : Nat → Int32} {fc : Nat → Int64} {h kn : Int} {p : Int64} {m n : Nat} (hm : m ≤ n) (a : ∀ i : Nat, i < m → (ft i).toInt ≤ kn) (b : ∀ i : Nat, m ≤ i → i < n → kn < (ft i).toInt) : rt_nk fh ft fc h kn p n = rt_na fh fc h p m := by
  have e : n = m + (n - m) := by omega
  rw [e, rt_nk_cut (n - m) (fun i h1 h2 => b i h1 (by omega)), rt_nk_all a]
/-- the fixes of a body are told in the order of time, and none after now -/
def rt_TI (nb : Nat) (M : fm_M) : Prop := ∀ j : Nat, j < nb → ∀ b : Nat, (b : Int) < (M.1 50 j 9).toInt → (M.1 52 j b).toInt ≤ (M.1 0 0 9).toInt ∧ ∀ a : Nat, a ≤ b → (M.1 52 j a).toInt ≤ (M.1 52 j b).toInt
/-- the places of a body at an hour, by the fixes known at a time -/
def rt_pk (M : fm_M) (j : Nat) (h kn : Int) : Int64 := rt_pt (fun x p => rt_dr (rt_wdc (M.1 2 0) x) (M.1 50 j 0).toInt x p) (fun x p => rt_nk (M.1 51 j) (M.1 52 j) (M.2.1 53 j) x kn p (M.1 50 j 9).toNatClampNeg) (M.1 50 j 2).toInt ((1 : Int64) <<< ((M.1 50 j 1).toInt64 &&& 63)) (h - (M.1 50 j 2).toInt).toNat
theorem rt_pk_all {M : fm_M} {j : Nat} {h kn : Int} (a : ∀ i : Nat, i < (M.1 50 j 9).toNatClampNeg → (M.1 52 j i).toInt ≤ kn) : rt_pk M j h kn = rt_pcl M j h := by
  unfold rt_pk rt_pcl
  exact rt_pt_c (fun _ _ _ _ => rfl) (fun _ _ _ _ => rt_nk_all a)
theorem rt_pk_s {M : fm_M} {j : Nat} {h kn : Int} (hb : (M.1 50 j 2).toInt ≤ h) : rt_pk M j (h + 1) kn = rt_nk (M.1 51 j) (M.1 52 j) (M.2.1 53 j) (h + 1) kn (rt_dr (rt_wdc (M.1 2 0) h) (M.1 50 j 0).toInt h (rt_pk M j h kn)) (M.1 50 j 9).toNatClampNeg := by
  unfold rt_pk
  rw [show (h + 1 - (M.1 50 j 2).toInt).toNat = (h - (M.1 50 j 2).toInt).toNat + 1 by omega]
  show (fun x p => rt_nk (M.1 51 j) (M.1 52 j) (M.2.1 53 j) x kn p (M.1 50 j 9).toNatClampNeg) ((M.1 50 j 2).toInt + ((h - (M.1 50 j 2).toInt).toNat : Nat) + 1) ((fun x p => rt_dr (rt_wdc (M.1 2 0) x) (M.1 50 j 0).toInt x p) ((M.1 50 j 2).toInt + ((h - (M.1 50 j 2).toInt).toNat : Nat)) _) = _
  rw [show (M.1 50 j 2).toInt + (((h - (M.1 50 j 2).toInt).toNat : Nat) : Int) = h by omega]
theorem rt_pk_0 {M : fm_M} {j : Nat} {kn : Int} : rt_pk M j (M.1 50 j 2).toInt kn = rt_nk (M.1 51 j) (M.1 52 j) (M.2.1 53 j) (M.1 50 j 2).toInt kn ((1 : Int64) <<< ((M.1 50 j 1).toInt64 &&& 63)) (M.1 50 j 9).toNatClampNeg := by
  unfold rt_pk
  rw [show ((M.1 50 j 2).toInt - (M.1 50 j 2).toInt).toNat = 0 by omega]
  rfl
def rt_fb (b s p : Int) : Int := if (if p < s then p else s) < b - 1 then b - 1 else (if p < s then p else s)
def rt_wdM (M : fm_M) (x : Int) : Int := rt_wdm (M.1 102 0) (M.1 103 0) (M.1 104 0) x (M.1 60 0 5).toNatClampNeg
theorem rt_wdm_y {a b c : Nat → Int32} {x : Int} {k k1 u v w : Int32} (h1 : k1.toInt = k.toInt + 1) (h0 : 0 ≤ k.toInt) (ea : u = a k.toNatClampNeg) (eb : v = b k.toNatClampNeg) (ec : w = c k.toNatClampNeg) (h : u.toInt ≤ x ∧ x < v.toInt) : w.toInt = rt_wdm a b c x k1.toNatClampNeg := by
  rw [zi_tns h1 h0]
  show _ = (if (a k.toNatClampNeg).toInt ≤ x ∧ x < (b k.toNatClampNeg).toInt then (c k.toNatClampNeg).toInt else rt_wdm a b c x k.toNatClampNeg)
  rw [← ea, ← eb, ← ec, if_pos h]
theorem rt_wdm_1 {a b c : Nat → Int32} {x z : Int} {k k1 u : Int32} (h1 : k1.toInt = k.toInt + 1) (h0 : 0 ≤ k.toInt) (hq : z = rt_wdm a b c x k.toNatClampNeg) (ea : u = a k.toNatClampNeg) (h : ¬ u.toInt ≤ x) : z = rt_wdm a b c x k1.toNatClampNeg := by
  rw [zi_tns h1 h0]
  show _ = (if (a k.toNatClampNeg).toInt ≤ x ∧ x < (b k.toNatClampNeg).toInt then (c k.toNatClampNeg).toInt else rt_wdm a b c x k.toNatClampNeg)
  rw [← ea, if_neg (fun g => h g.1), hq]
theorem rt_wdm_2 {a b c : Nat → Int32} {x z : Int} {k k1 u : Int32} (h1 : k1.toInt = k.toInt + 1) (h0 : 0 ≤ k.toInt) (hq : z = rt_wdm a b c x k.toNatClampNeg) (eb : u = b k.toNatClampNeg) (h : ¬ x < u.toInt) : z = rt_wdm a b c x k1.toNatClampNeg := by
  rw [zi_tns h1 h0]
  show _ = (if (a k.toNatClampNeg).toInt ≤ x ∧ x < (b k.toNatClampNeg).toInt then (c k.toNatClampNeg).toInt else rt_wdm a b c x k.toNatClampNeg)
  rw [← eb, if_neg (fun g => h g.2), hq]
theorem rt_g_1k : ∀ c : Fin 64, rt_g 1 c.1 = decide (c.1 = 0) := by decide +kernel
theorem rt_g_sk : ∀ s : Fin 64, (((Int32.ofNat s.1).toInt64.toUInt64 &&& Int64.toUInt64 63) % 64).toBitVec.toNat = s.1 := by decide +kernel
theorem rt_g_and1 {z : Int64} : z &&& 1 = 1 ↔ rt_g z 0 = true := by
  constructor
  · intro h
    have e := congrArg (fun q => rt_g q 0) h
    have e1 : rt_g 1 0 = true := rt_g_1k ⟨0, by decide⟩
    rw [rt_g_and, e1, Bool.and_true] at e
    exact e
  · intro h
    refine rt_g_ext fun c hc => ?_
    rw [rt_g_and, rt_g_1k ⟨c, hc⟩]
    by_cases c0 : c = 0
    · subst c0
      rw [h]
      rfl
    · simp [c0]
theorem rt_g_t {p : Int64} {k : Int32} (h : 0 ≤ k.toInt ∧ k.toInt ≤ 63) : (p.toUInt64 >>> (k.toInt64.toUInt64 &&& Int64.toUInt64 63)).toInt64 &&& 1 = 1 ↔ rt_g p k.toNatClampNeg = true := by
  have e : Int32.ofNat k.toNatClampNeg = k := zi_ofn h.1
  have s := rt_g_sk ⟨k.toNatClampNeg, by rw [Int32.toNatClampNeg]; omega⟩
  rw [e] at s
  rw [rt_g_and1, rt_g_shr s, Nat.add_zero]
theorem rt_bit_1 {x y s : Int32} (h : 0 ≤ x.toInt ∧ x.toInt ≤ 7 ∧ 0 ≤ y.toInt ∧ y.toInt ≤ 7) (hs : s = 8 * y + x) : (1 : Int64) <<< (s.toInt64 &&& 63) = rt_bit x.toInt y.toInt := by
  unfold rt_bit
  rw [if_pos h, Int32.ofInt_toInt, Int32.ofInt_toInt, hs]
theorem rt_bit_0 {x y : Int32} (h : ¬ (0 ≤ x.toInt ∧ x.toInt ≤ 7 ∧ 0 ≤ y.toInt ∧ y.toInt ≤ 7)) : 0 = rt_bit x.toInt y.toInt := by
  unfold rt_bit
  rw [if_neg h]
theorem rt_d3_s {t a b : Int64} {x lo : Int} {k k1 : Int32} (hq : a = rt_d3 t x lo (k.toInt - lo).toNat) (h0 : lo ≤ k.toInt) (h1 : k1.toInt = k.toInt + 1) (hb : b = rt_bit x k.toInt) : a ||| b = rt_d3 t x lo (k1.toInt - lo).toNat := by
  rw [show (k1.toInt - lo).toNat = (k.toInt - lo).toNat + 1 by omega]
  show _ = rt_d3 t x lo (k.toInt - lo).toNat ||| rt_bit x (lo + ((k.toInt - lo).toNat : Nat))
  rw [← hq, hb, show lo + (((k.toInt - lo).toNat : Nat) : Int) = k.toInt by omega]
theorem rt_d2_s {t a b : Int64} {lx ly : Int} {m : Nat} {k k1 : Int32} (hq : b = rt_d2 t lx ly m (k.toInt - lx).toNat) (h0 : lx ≤ k.toInt) (h1 : k1.toInt = k.toInt + 1) (ha : a = rt_d3 b k.toInt ly m) : a = rt_d2 t lx ly m (k1.toInt - lx).toNat := by
  rw [show (k1.toInt - lx).toNat = (k.toInt - lx).toNat + 1 by omega]
  show _ = rt_d3 (rt_d2 t lx ly m (k.toInt - lx).toNat) (lx + ((k.toInt - lx).toNat : Nat)) ly m
  rw [← hq, ha, show lx + (((k.toInt - lx).toNat : Nat) : Int) = k.toInt by omega]
theorem rt_d1_y {p t x : Int64} {a c : Int} {n m : Nat} {k k1 : Int32} (hq : t = rt_d1 p a c n m k.toNatClampNeg) (h0 : 0 ≤ k.toInt) (h1 : k1.toInt = k.toInt + 1) (hb : rt_g p k.toNatClampNeg = true) (hx : x = rt_d2 t (k.toInt % 8 + a) (k.toInt / 8 + c) m n) : x = rt_d1 p a c n m k1.toNatClampNeg := by
  have e : (k.toNatClampNeg : Int) = k.toInt := by rw [Int32.toNatClampNeg]; omega
  rw [zi_tns h1 h0]
  show _ = (if rt_g p k.toNatClampNeg = true then rt_d2 (rt_d1 p a c n m k.toNatClampNeg) (((k.toNatClampNeg % 8 : Nat) : Int) + a) (((k.toNatClampNeg / 8 : Nat) : Int) + c) m n else rt_d1 p a c n m k.toNatClampNeg)
  rw [if_pos hb, ← hq, hx, show ((k.toNatClampNeg % 8 : Nat) : Int) = k.toInt % 8 by omega, show ((k.toNatClampNeg / 8 : Nat) : Int) = k.toInt / 8 by omega]
theorem rt_d1_n {p t : Int64} {a c : Int} {n m : Nat} {k k1 : Int32} (hq : t = rt_d1 p a c n m k.toNatClampNeg) (h0 : 0 ≤ k.toInt) (h1 : k1.toInt = k.toInt + 1) (hb : ¬ rt_g p k.toNatClampNeg = true) : t = rt_d1 p a c n m k1.toNatClampNeg := by
  rw [zi_tns h1 h0]
  show _ = (if rt_g p k.toNatClampNeg = true then rt_d2 (rt_d1 p a c n m k.toNatClampNeg) (((k.toNatClampNeg % 8 : Nat) : Int) + a) (((k.toNatClampNeg / 8 : Nat) : Int) + c) m n else rt_d1 p a c n m k.toNatClampNeg)
  rw [if_neg hb, hq]
theorem rt_g_m1 : ∀ c : Fin 64, rt_g (-1) c.1 = true := by decide +kernel
theorem rt_and_m1 {z : Int64} : z &&& -1 = z := by
  refine rt_g_ext fun c hc => ?_
  rw [rt_g_and, rt_g_m1 ⟨c, hc⟩, Bool.and_true]
theorem rt_nm_y {fb fh ft : Nat → Int32} {fc : Nat → Int64} {b h kn : Int} {p a x : Int64} {k k1 u v w : Int32} (h1 : k1.toInt = k.toInt + 1) (h0 : 0 ≤ k.toInt) (hq : a = rt_nm fb fh ft fc b h kn p k.toNatClampNeg) (eu : u = fb k.toNatClampNeg) (ev : v = fh k.toNatClampNeg) (ew : w = ft k.toNatClampNeg) (ex : x = fc k.toNatClampNeg) (hu : u.toInt = b ∧ v.toInt = h ∧ w.toInt ≤ kn) : a &&& x = rt_nm fb fh ft fc b h kn p k1.toNatClampNeg := by
  rw [zi_tns h1 h0]
  show _ = (if (fb k.toNatClampNeg).toInt = b ∧ (fh k.toNatClampNeg).toInt = h ∧ (ft k.toNatClampNeg).toInt ≤ kn then rt_nm fb fh ft fc b h kn p k.toNatClampNeg &&& fc k.toNatClampNeg else rt_nm fb fh ft fc b h kn p k.toNatClampNeg)
  rw [← eu, ← ev, ← ew, ← ex, ← hq, if_pos hu]
theorem rt_nm_n {fb fh ft : Nat → Int32} {fc : Nat → Int64} {b h kn : Int} {p a : Int64} {k k1 : Int32} (h1 : k1.toInt = k.toInt + 1) (h0 : 0 ≤ k.toInt) (hq : a = rt_nm fb fh ft fc b h kn p k.toNatClampNeg) (hu : ¬ ((fb k.toNatClampNeg).toInt = b ∧ (fh k.toNatClampNeg).toInt = h ∧ (ft k.toNatClampNeg).toInt ≤ kn)) : a &&& -1 = rt_nm fb fh ft fc b h kn p k1.toNatClampNeg := by
  rw [zi_tns h1 h0, rt_and_m1]
  show _ = (if (fb k.toNatClampNeg).toInt = b ∧ (fh k.toNatClampNeg).toInt = h ∧ (ft k.toNatClampNeg).toInt ≤ kn then rt_nm fb fh ft fc b h kn p k.toNatClampNeg &&& fc k.toNatClampNeg else rt_nm fb fh ft fc b h kn p k.toNatClampNeg)
  rw [← hq, if_neg hu]
/-- the reference's places of a body at an hour, by the fixes known at a time -/
def rt_pm (M : fm_M) (b : Int32) (h kn : Int) : Int64 := rt_pt (fun x p => rt_drm (rt_wdM M x) (M.1 110 0 b.toNatClampNeg).toInt x p) (fun x p => rt_nm (M.1 117 0) (M.1 118 0) (M.1 120 0) (M.2.1 119 0) b.toInt x kn p (M.1 60 0 21).toNatClampNeg) (M.1 111 0 b.toNatClampNeg).toInt ((1 : Int64) <<< ((M.1 112 0 b.toNatClampNeg).toInt64 &&& 63)) (h - (M.1 111 0 b.toNatClampNeg).toInt).toNat
theorem rt_pm_s {M : fm_M} {b : Int32} {h kn : Int} (hb : (M.1 111 0 b.toNatClampNeg).toInt ≤ h) : rt_pm M b (h + 1) kn = rt_nm (M.1 117 0) (M.1 118 0) (M.1 120 0) (M.2.1 119 0) b.toInt (h + 1) kn (rt_drm (rt_wdM M h) (M.1 110 0 b.toNatClampNeg).toInt h (rt_pm M b h kn)) (M.1 60 0 21).toNatClampNeg := by
  unfold rt_pm
  rw [show (h + 1 - (M.1 111 0 b.toNatClampNeg).toInt).toNat = (h - (M.1 111 0 b.toNatClampNeg).toInt).toNat + 1 by omega]
  show (fun x p => rt_nm (M.1 117 0) (M.1 118 0) (M.1 120 0) (M.2.1 119 0) b.toInt x kn p (M.1 60 0 21).toNatClampNeg) ((M.1 111 0 b.toNatClampNeg).toInt + ((h - (M.1 111 0 b.toNatClampNeg).toInt).toNat : Nat) + 1) ((fun x p => rt_drm (rt_wdM M x) (M.1 110 0 b.toNatClampNeg).toInt x p) ((M.1 111 0 b.toNatClampNeg).toInt + ((h - (M.1 111 0 b.toNatClampNeg).toInt).toNat : Nat)) _) = _
  rw [show (M.1 111 0 b.toNatClampNeg).toInt + (((h - (M.1 111 0 b.toNatClampNeg).toInt).toNat : Nat) : Int) = h by omega]
theorem rt_pm_0 {M : fm_M} {b : Int32} {kn : Int} : rt_pm M b (M.1 111 0 b.toNatClampNeg).toInt kn = rt_nm (M.1 117 0) (M.1 118 0) (M.1 120 0) (M.2.1 119 0) b.toInt (M.1 111 0 b.toNatClampNeg).toInt kn ((1 : Int64) <<< ((M.1 112 0 b.toNatClampNeg).toInt64 &&& 63)) (M.1 60 0 21).toNatClampNeg := by
  unfold rt_pm
  rw [show ((M.1 111 0 b.toNatClampNeg).toInt - (M.1 111 0 b.toNatClampNeg).toInt).toNat = 0 by omega]
  rfl
theorem rt_pm_t {M : fm_M} {b : Int32} {h g kn : Int} (e : (h - (M.1 111 0 b.toNatClampNeg).toInt).toNat = (g - (M.1 111 0 b.toNatClampNeg).toInt).toNat) : rt_pm M b h kn = rt_pm M b g kn := by
  unfold rt_pm
  rw [e]
theorem rt_wdc_lt {f g : Nat → Int32} {p0 p1 p2 : Int32} (h : ∀ n : Nat, g n = if p0.toInt ≤ n ∧ (n : Int) < p1.toInt then p2 else f n) {x : Int} (hx : x < p0.toInt) : rt_wdc g x = rt_wdc f x := by
  unfold rt_wdc
  by_cases hz : 0 ≤ x ∧ x < 240
  · rw [if_pos hz, if_pos hz, h, if_neg (by omega)]
  · rw [if_neg hz, if_neg hz]
theorem rt_fb_le {b s p h : Int} (h1 : b ≤ h) (h2 : h ≤ rt_fb b s p) : h ≤ s ∧ h ≤ p := by
  unfold rt_fb at h2
  omega
/-- a wind told from an hour on: what is kept of places stays right -/
theorem rt_CI_wind {nb : Nat} {M u : fm_M} {p0 p1 p2 : Int32} (hC : rt_CI nb M) (hs : fm_same [1002, 2000, 50014] M u) (hw : ∀ n : Nat, u.1 2 0 n = if p0.toInt ≤ n ∧ (n : Int) < p1.toInt then p2 else M.1 2 0 n) (hf : ∀ j : Nat, j < nb → (u.1 50 j 14).toInt = rt_fb (M.1 50 j 2).toInt (M.1 50 j 14).toInt p0.toInt) : rt_CI nb u := by
  intro j hj h h1 h2
  have e2 : u.1 50 j 2 = M.1 50 j 2 := (hs 50 j 2 (by decide)).1
  rw [e2] at h1
  rw [hf j hj] at h2
  obtain ⟨h3, h4⟩ := rt_fb_le h1 h2
  rw [(hs 56 j h.toNat (by rw [cd_56]; decide)).2.1, hC j hj h h1 h3]
  unfold rt_pcl
  rw [e2, (hs 50 j 0 (by decide)).1, (hs 50 j 1 (by decide)).1, (hs 50 j 9 (by decide)).1, show u.1 51 j = M.1 51 j from funext fun i => (hs 51 j i (by rw [cd_51]; decide)).1, show u.2.1 53 j = M.2.1 53 j from funext fun i => (hs 53 j i (by rw [cd_53]; decide)).2.1]
  refine rt_pt_c (fun x q a b => ?_) (fun _ _ _ _ => rfl)
  rw [rt_wdc_lt hw (by omega)]
theorem rt_na_st {fh gh : Nat → Int32} {fc gc : Nat → Int64} {h : Int} {p : Int64} {n : Nat} (e1 : ∀ i : Nat, i < n → gh i = fh i) (e2 : ∀ i : Nat, i < n → gc i = fc i) : rt_na gh gc h p n = rt_na fh fc h p n := by
  induction n with
  | zero => rfl
  | succ n ih =>
    show (if (gh n).toInt = h then rt_na gh gc h p n &&& gc n else rt_na gh gc h p n) = (if (fh n).toInt = h then rt_na fh fc h p n &&& fc n else rt_na fh fc h p n)
    rw [e1 n (by omega), e2 n (by omega), ih (fun i hi => e1 i (by omega)) (fun i hi => e2 i (by omega))]
def rt_FC (nb : Nat) (M : fm_M) : Prop := ∀ j : Nat, j < nb → (M.1 50 j 9).toInt ≤ (M.1 0 0 11).toInt
/-- what a fix puts down for a body -/
abbrev rt_FX (kb : Nat) (p0 p1 : Int32) (p2 : Int64) (M u : fm_M) : Prop := (∀ j n : Nat, u.1 51 j n = if j = kb ∧ n = (M.1 50 kb 9).toNatClampNeg then p0 else M.1 51 j n) ∧ (∀ j n : Nat, u.1 52 j n = if j = kb ∧ n = (M.1 50 kb 9).toNatClampNeg then p1 else M.1 52 j n) ∧ (∀ j n : Nat, u.2.1 53 j n = if j = kb ∧ n = (M.1 50 kb 9).toNatClampNeg then p2 else M.2.1 53 j n) ∧ (u.1 50 kb 9).toInt = (M.1 50 kb 9).toInt + 1 ∧ (∀ j : Nat, ¬ j = kb → u.1 50 j 9 = M.1 50 j 9) ∧ (u.1 50 kb 14).toInt = rt_fb (M.1 50 kb 2).toInt (M.1 50 kb 14).toInt (p0.toInt - 1) ∧ (∀ j : Nat, ¬ j = kb → u.1 50 j 14 = M.1 50 j 14)
theorem rt_CI_fix {nb kb : Nat} {es : List Nat} {M u : fm_M} {p0 p1 : Int32} {p2 : Int64} (hC : rt_CI nb M) (hs : fm_same es M u) (h56 : ∀ i : Nat, fm_cd 56 i ∉ es) (h2 : ∀ i : Nat, fm_cd 2 i ∉ es) (h50 : fm_cd 50 0 ∉ es) (h51 : fm_cd 50 1 ∉ es) (h52 : fm_cd 50 2 ∉ es) (hX : rt_FX kb p0 p1 p2 M u) (hn : 0 ≤ (M.1 50 kb 9).toInt) : rt_CI nb u := by
  obtain ⟨x1, x2, x3, x4, x5, x6, x7⟩ := hX
  intro j hj h h1 h3
  have e2 : u.1 50 j 2 = M.1 50 j 2 := (hs 50 j 2 h52).1
  rw [e2] at h1
  rw [(hs 56 j h.toNat (h56 _)).2.1]
  by_cases hk : j = kb
  · subst hk
    rw [x6] at h3
    obtain ⟨h4, h5⟩ := rt_fb_le h1 h3
    rw [hC j hj h h1 h4]
    unfold rt_pcl
    rw [e2, (hs 50 j 0 h50).1, (hs 50 j 1 h51).1, show u.1 2 0 = M.1 2 0 from funext fun i => (hs 2 0 i (h2 i)).1]
    refine rt_pt_c (fun _ _ _ _ => rfl) (fun x q a b => ?_)
    have e : (u.1 50 j 9).toNatClampNeg = (M.1 50 j 9).toNatClampNeg + 1 := by rw [Int32.toNatClampNeg, Int32.toNatClampNeg]; omega
    rw [e]
    show _ = (if (u.1 51 j (M.1 50 j 9).toNatClampNeg).toInt = x then rt_na (u.1 51 j) (u.2.1 53 j) x q (M.1 50 j 9).toNatClampNeg &&& u.2.1 53 j (M.1 50 j 9).toNatClampNeg else rt_na (u.1 51 j) (u.2.1 53 j) x q (M.1 50 j 9).toNatClampNeg)
    have e1 : u.1 51 j (M.1 50 j 9).toNatClampNeg = p0 := by rw [x1, if_pos ⟨rfl, rfl⟩]
    rw [e1, if_neg (by omega)]
    exact (rt_na_st (fun i hi => by rw [x1 j i, if_neg (fun z => by omega)]) (fun i hi => by rw [x3 j i, if_neg (fun z => by omega)])).symm
  · rw [x7 j hk] at h3
    rw [hC j hj h h1 h3]
    exact (rt_pcl_f (funext fun i => (hs 2 0 i (h2 i)).1) (hs 50 j 0 h50).1 (hs 50 j 1 h51).1 e2 (x5 j hk) (funext fun i => by rw [x1 j i, if_neg (fun z => hk z.1)]) (funext fun i => by rw [x3 j i, if_neg (fun z => hk z.1)])).symm
theorem rt_TI_fix {nb kb : Nat} {M u : fm_M} {p0 p1 : Int32} {p2 : Int64} (hT : rt_TI nb M) (hX : rt_FX kb p0 p1 p2 M u) (hp : p1 = M.1 0 0 9) (hu : u.1 0 0 9 = M.1 0 0 9) (hn : 0 ≤ (M.1 50 kb 9).toInt) : rt_TI nb u := by
  obtain ⟨x1, x2, x3, x4, x5, x6, x7⟩ := hX
  intro j hj b hb
  have e : ((M.1 50 kb 9).toNatClampNeg : Int) = (M.1 50 kb 9).toInt := by rw [Int32.toNatClampNeg]; omega
  by_cases hk : j = kb
  · subst hk
    rw [x4] at hb
    rw [hu]
    by_cases hbn : b = (M.1 50 j 9).toNatClampNeg
    · rw [x2 j b, if_pos ⟨rfl, hbn⟩, hp]
      refine ⟨Int.le_refl _, fun a ha => ?_⟩
      by_cases han : a = (M.1 50 j 9).toNatClampNeg
      · rw [x2 j a, if_pos ⟨rfl, han⟩, hp]
        exact Int.le_refl _
      · rw [x2 j a, if_neg (fun z => han z.2)]
        exact (hT j hj a (by omega)).1
    · rw [x2 j b, if_neg (fun z => hbn z.2)]
      obtain ⟨t1, t2⟩ := hT j hj b (by omega)
      refine ⟨t1, fun a ha => ?_⟩
      rw [x2 j a, if_neg (fun z => by omega)]
      exact t2 a ha
  · rw [x5 j hk] at hb
    rw [hu, x2 j b, if_neg (fun z => hk z.1)]
    obtain ⟨t1, t2⟩ := hT j hj b hb
    refine ⟨t1, fun a ha => ?_⟩
    rw [x2 j a, if_neg (fun z => hk z.1)]
    exact t2 a ha
def rt_nkM (M : fm_M) (j : Nat) (x kn : Int) (q : Int64) : Int64 := rt_nk (M.1 51 j) (M.1 52 j) (M.2.1 53 j) x kn q (M.1 50 j 9).toNatClampNeg
def rt_nmM (M : fm_M) (j : Nat) (x kn : Int) (q : Int64) : Int64 := rt_nm (M.1 117 0) (M.1 118 0) (M.1 120 0) (M.2.1 119 0) j x kn q (M.1 60 0 21).toNatClampNeg
/-- one fix more -/
def rt_AK (kb : Nat) (h t : Int) (c : Int64) (K L : Nat → Int → Int → Int64 → Int64) : Prop := ∀ (j : Nat) (x kn : Int) (q : Int64), L j x kn q = if j = kb ∧ h = x ∧ t ≤ kn then K j x kn q &&& c else K j x kn q
theorem rt_nk_st {fh gh ft gt : Nat → Int32} {fc gc : Nat → Int64} {h kn : Int} {p : Int64} {n : Nat} (e1 : ∀ i : Nat, i < n → gh i = fh i) (e2 : ∀ i : Nat, i < n → gt i = ft i) (e3 : ∀ i : Nat, i < n → gc i = fc i) : rt_nk gh gt gc h kn p n = rt_nk fh ft fc h kn p n := by
  induction n with
  | zero => rfl
  | succ n ih =>
    show (if (gh n).toInt = h ∧ (gt n).toInt ≤ kn then rt_nk gh gt gc h kn p n &&& gc n else rt_nk gh gt gc h kn p n) = (if (fh n).toInt = h ∧ (ft n).toInt ≤ kn then rt_nk fh ft fc h kn p n &&& fc n else rt_nk fh ft fc h kn p n)
    rw [e1 n (by omega), e2 n (by omega), e3 n (by omega), ih (fun i hi => e1 i (by omega)) (fun i hi => e2 i (by omega)) (fun i hi => e3 i (by omega))]
theorem rt_nm_st {fb gb fh gh ft gt : Nat → Int32} {fc gc : Nat → Int64} {b h kn : Int} {p : Int64} {n : Nat} (e0 : ∀ i : Nat, i < n → gb i = fb i) (e1 : ∀ i : Nat, i < n → gh i = fh i) (e2 : ∀ i : Nat, i < n → gt i = ft i) (e3 : ∀ i : Nat, i < n → gc i = fc i) : rt_nm gb gh gt gc b h kn p n = rt_nm fb fh ft fc b h kn p n := by
  induction n with
  | zero => rfl
  | succ n ih =>
    show (if (gb n).toInt = b ∧ (gh n).toInt = h ∧ (gt n).toInt ≤ kn then rt_nm gb gh gt gc b h kn p n &&& gc n else rt_nm gb gh gt gc b h kn p n) = (if (fb n).toInt = b ∧ (fh n).toInt = h ∧ (ft n).toInt ≤ kn then rt_nm fb fh ft fc b h kn p n &&& fc n else rt_nm fb fh ft fc b h kn p n)
    rw [e0 n (by omega), e1 n (by omega), e2 n (by omega), e3 n (by omega), ih (fun i hi => e0 i (by omega)) (fun i hi => e1 i (by omega)) (fun i hi => e2 i (by omega)) (fun i hi => e3 i (by omega))]
theorem rt_nm_no {fb fh ft : Nat → Int32} {fc : Nat → Int64} {b h kn : Int} {p : Int64} {n : Nat} (e0 : ∀ i : Nat, i < n → ¬ (fb i).toInt = b) : rt_nm fb fh ft fc b h kn p n = p := by
  induction n with
  | zero => rfl
  | succ n ih =>
    show (if (fb n).toInt = b ∧ (fh n).toInt = h ∧ (ft n).toInt ≤ kn then rt_nm fb fh ft fc b h kn p n &&& fc n else rt_nm fb fh ft fc b h kn p n) = p
    rw [if_neg (fun z => e0 n (by omega) z.1), ih (fun i hi => e0 i (by omega))]
theorem rt_FX_w {kb : Nat} {M L : fm_M} {p0 p1 y : Int32} {p2 : Int64} (h : rt_FX kb p0 p1 p2 M L) : rt_FX kb p0 p1 p2 M (fm_wI L 0 0 11 y) := by
  obtain ⟨x1, x2, x3, x4, x5, x6, x7⟩ := h
  exact ⟨fun j n => by rw [fm_wI_nj (fun z => absurd z.1 (by decide))]; exact x1 j n, fun j n => by rw [fm_wI_nj (fun z => absurd z.1 (by decide))]; exact x2 j n, fun j n => by rw [fm_wI_21]; exact x3 j n, by rw [fm_wI_nj (fun z => absurd z.1 (by decide))]; exact x4, fun j g => by rw [fm_wI_nj (fun z => absurd z.1 (by decide))]; exact x5 j g, by rw [fm_wI_nj (fun z => absurd z.1 (by decide))]; exact x6, fun j g => by rw [fm_wI_nj (fun z => absurd z.1 (by decide))]; exact x7 j g⟩
theorem rt_AK_fx {kb : Nat} {M u : fm_M} {p0 p1 : Int32} {p2 : Int64} (hX : rt_FX kb p0 p1 p2 M u) (hn : 0 ≤ (M.1 50 kb 9).toInt) : rt_AK kb p0.toInt p1.toInt p2 (rt_nkM M) (rt_nkM u) := by
  obtain ⟨x1, x2, x3, x4, x5, x6, x7⟩ := hX
  intro j x kn q
  unfold rt_nkM
  by_cases hk : j = kb
  · subst hk
    have e : (u.1 50 j 9).toNatClampNeg = (M.1 50 j 9).toNatClampNeg + 1 := by rw [Int32.toNatClampNeg, Int32.toNatClampNeg]; omega
    have e1 : u.1 51 j (M.1 50 j 9).toNatClampNeg = p0 := by rw [x1, if_pos ⟨rfl, rfl⟩]
    have e2 : u.1 52 j (M.1 50 j 9).toNatClampNeg = p1 := by rw [x2, if_pos ⟨rfl, rfl⟩]
    have e3 : u.2.1 53 j (M.1 50 j 9).toNatClampNeg = p2 := by rw [x3, if_pos ⟨rfl, rfl⟩]
    rw [e]
    show (if (u.1 51 j (M.1 50 j 9).toNatClampNeg).toInt = x ∧ (u.1 52 j (M.1 50 j 9).toNatClampNeg).toInt ≤ kn then rt_nk (u.1 51 j) (u.1 52 j) (u.2.1 53 j) x kn q (M.1 50 j 9).toNatClampNeg &&& u.2.1 53 j (M.1 50 j 9).toNatClampNeg else rt_nk (u.1 51 j) (u.1 52 j) (u.2.1 53 j) x kn q (M.1 50 j 9).toNatClampNeg) = _
    rw [e1, e2, e3, rt_nk_st (fh := M.1 51 j) (ft := M.1 52 j) (fc := M.2.1 53 j) (fun i hi => by rw [x1 j i, if_neg (fun z => by omega)]) (fun i hi => by rw [x2 j i, if_neg (fun z => by omega)]) (fun i hi => by rw [x3 j i, if_neg (fun z => by omega)])]
    by_cases g : p0.toInt = x ∧ p1.toInt ≤ kn
    · rw [if_pos g, if_pos ⟨rfl, g⟩]
    · rw [if_neg g, if_neg (fun z => g z.2)]
  · rw [if_neg (fun z => hk z.1), x5 j hk, show u.1 51 j = M.1 51 j from funext fun i => by rw [x1 j i, if_neg (fun z => hk z.1)], show u.1 52 j = M.1 52 j from funext fun i => by rw [x2 j i, if_neg (fun z => hk z.1)], show u.2.1 53 j = M.2.1 53 j from funext fun i => by rw [x3 j i, if_neg (fun z => hk z.1)]]
theorem rt_AK_m {M u : fm_M} {p0 p1 t : Int32} {p2 : Int64} (y1 : ∀ j : Nat, u.1 117 0 j = if j = (M.1 60 0 21).toNatClampNeg then p0 else M.1 117 0 j) (y2 : ∀ j : Nat, u.1 118 0 j = if j = (M.1 60 0 21).toNatClampNeg then p1 else M.1 118 0 j) (y3 : ∀ j : Nat, u.2.1 119 0 j = if j = (M.1 60 0 21).toNatClampNeg then p2 else M.2.1 119 0 j) (y4 : ∀ j : Nat, u.1 120 0 j = if j = (M.1 60 0 21).toNatClampNeg then t else M.1 120 0 j) (yn : (u.1 60 0 21).toInt = (M.1 60 0 21).toInt + 1) (hn : 0 ≤ (M.1 60 0 21).toInt) (hp : 0 ≤ p0.toInt) : rt_AK p0.toNatClampNeg p1.toInt t.toInt p2 (rt_nmM M) (rt_nmM u) := by
  intro j x kn q
  unfold rt_nmM
  have e : (u.1 60 0 21).toNatClampNeg = (M.1 60 0 21).toNatClampNeg + 1 := by rw [Int32.toNatClampNeg, Int32.toNatClampNeg]; omega
  have e1 : u.1 117 0 (M.1 60 0 21).toNatClampNeg = p0 := by rw [y1, if_pos rfl]
  have e2 : u.1 118 0 (M.1 60 0 21).toNatClampNeg = p1 := by rw [y2, if_pos rfl]
  have e3 : u.2.1 119 0 (M.1 60 0 21).toNatClampNeg = p2 := by rw [y3, if_pos rfl]
  have e4 : u.1 120 0 (M.1 60 0 21).toNatClampNeg = t := by rw [y4, if_pos rfl]
  have ep : (p0.toNatClampNeg : Int) = p0.toInt := by rw [Int32.toNatClampNeg]; omega
  rw [e]
  show (if (u.1 117 0 (M.1 60 0 21).toNatClampNeg).toInt = (j : Int) ∧ (u.1 118 0 (M.1 60 0 21).toNatClampNeg).toInt = x ∧ (u.1 120 0 (M.1 60 0 21).toNatClampNeg).toInt ≤ kn then rt_nm (u.1 117 0) (u.1 118 0) (u.1 120 0) (u.2.1 119 0) j x kn q (M.1 60 0 21).toNatClampNeg &&& u.2.1 119 0 (M.1 60 0 21).toNatClampNeg else rt_nm (u.1 117 0) (u.1 118 0) (u.1 120 0) (u.2.1 119 0) j x kn q (M.1 60 0 21).toNatClampNeg) = _
  rw [e1, e2, e3, e4, rt_nm_st (fb := M.1 117 0) (fh := M.1 118 0) (ft := M.1 120 0) (fc := M.2.1 119 0) (fun i hi => by rw [y1 i, if_neg (fun z => by omega)]) (fun i hi => by rw [y2 i, if_neg (fun z => by omega)]) (fun i hi => by rw [y4 i, if_neg (fun z => by omega)]) (fun i hi => by rw [y3 i, if_neg (fun z => by omega)])]
  by_cases g : p0.toInt = (j : Int) ∧ p1.toInt = x ∧ t.toInt ≤ kn
  · rw [if_pos g, if_pos ⟨by omega, g.2⟩]
  · rw [if_neg g, if_neg (fun z => g ⟨by omega, z.2⟩)]
/-- a fix of the reference is of a body that there is -/
def rt_FB (M : fm_M) : Prop := ∀ i : Nat, (i : Int) < (M.1 60 0 21).toInt → (M.1 117 0 i).toInt < (M.1 60 0 16).toInt
theorem rt_FB_add {M u : fm_M} {p0 : Int32} (y1 : ∀ j : Nat, u.1 117 0 j = if j = (M.1 60 0 21).toNatClampNeg then p0 else M.1 117 0 j) (yn : (u.1 60 0 21).toInt = (M.1 60 0 21).toInt + 1) (e16 : u.1 60 0 16 = M.1 60 0 16) (h : rt_FB M) (hp : p0.toInt < (M.1 60 0 16).toInt) : rt_FB u := by
  intro i hi
  rw [e16, y1 i]
  by_cases g : i = (M.1 60 0 21).toNatClampNeg
  · rw [if_pos g]; exact hp
  · rw [if_neg g]
    exact h i (by rw [Int32.toNatClampNeg] at g; omega)
theorem rt_FB_same {es : List Nat} {M u : fm_M} (s : fm_same es M u) (h : ∀ c ∈ ([60016, 60021, 117000] : List Nat), c ∉ es) (hF : rt_FB M) : rt_FB u := by
  intro i hi
  rw [(s 60 0 21 (h _ (by decide))).1] at hi
  rw [(s 60 0 16 (h _ (by decide))).1, (s 117 0 i (by rw [cd_117]; exact h _ (by decide))).1]
  exact hF i hi
/-- what the class keeps of fixes and places is right -/
def rt_PC (nb : Nat) (M : fm_M) : Prop := rt_CI nb M ∧ rt_TI nb M ∧ rt_FC nb M
theorem rt_TI_same {nb : Nat} {es : List Nat} {M u : fm_M} (s : fm_same es M u) (h : ∀ c ∈ ([50009, 52000] : List Nat), c ∉ es) (hn : (M.1 0 0 9).toInt ≤ (u.1 0 0 9).toInt) (hT : rt_TI nb M) : rt_TI nb u := by
  intro j hj b hb
  have e5 : ∀ i : Nat, u.1 52 j i = M.1 52 j i := fun i => (s 52 j i (by rw [cd_52]; exact h _ (by decide))).1
  rw [(s 50 j 9 (h _ (by decide))).1] at hb
  obtain ⟨t1, t2⟩ := hT j hj b hb
  refine ⟨by rw [e5 b]; omega, fun a ha => ?_⟩
  rw [e5 a, e5 b]
  exact t2 a ha
theorem rt_FC_same {nb : Nat} {es : List Nat} {M u : fm_M} (s : fm_same es M u) (h : ∀ c ∈ ([11, 50009] : List Nat), c ∉ es) (hF : rt_FC nb M) : rt_FC nb u := by
  intro j hj
  rw [(s 50 j 9 (h _ (by decide))).1, (s 0 0 11 (h _ (by decide))).1]
  exact hF j hj
theorem rt_PC_same {nb : Nat} {es : List Nat} {M u : fm_M} (s : fm_same es M u) (h : ∀ c ∈ ([9, 11, 2000, 50000, 50001, 50002, 50009, 50014, 51000, 52000, 53000, 56000] : List Nat), c ∉ es) (hP : rt_PC nb M) : rt_PC nb u :=
  ⟨rt_CI_same s (fun i => by rw [cd_2]; exact h _ (by decide)) (h _ (by decide)) (h _ (by decide)) (h _ (by decide)) (h _ (by decide)) (fun i => by rw [cd_51]; exact h _ (by decide)) (fun i => by rw [cd_53]; exact h _ (by decide)) (h _ (by decide)) (fun i => by rw [cd_56]; exact h _ (by decide)) hP.1, rt_TI_same s (fun c hc => h c (by simp at hc ⊢; omega)) (Int.le_of_eq (by rw [(s 0 0 9 (h _ (by decide))).1])) hP.2.1, rt_FC_same s (fun c hc => h c (by simp at hc ⊢; omega)) hP.2.2⟩
theorem rt_PC_ci {nb : Nat} {es : List Nat} {M u : fm_M} (s : fm_same es M u) (h : ∀ c ∈ ([9, 11, 50009, 52000] : List Nat), c ∉ es) (hC : rt_CI nb u) (hP : rt_PC nb M) : rt_PC nb u :=
  ⟨hC, rt_TI_same s (fun c hc => h c (by simp at hc ⊢; omega)) (Int.le_of_eq (by rw [(s 0 0 9 (h _ (by decide))).1])) hP.2.1, rt_FC_same s (fun c hc => h c (by simp at hc ⊢; omega)) hP.2.2⟩
theorem rt_PC_now {nb : Nat} {es : List Nat} {M u : fm_M} (s : fm_same es M u) (h : ∀ c ∈ ([11, 2000, 50000, 50001, 50002, 50009, 50014, 51000, 52000, 53000, 56000] : List Nat), c ∉ es) (hn : (M.1 0 0 9).toInt ≤ (u.1 0 0 9).toInt) (hP : rt_PC nb M) : rt_PC nb u :=
  ⟨rt_CI_same s (fun i => by rw [cd_2]; exact h _ (by decide)) (h _ (by decide)) (h _ (by decide)) (h _ (by decide)) (h _ (by decide)) (fun i => by rw [cd_51]; exact h _ (by decide)) (fun i => by rw [cd_53]; exact h _ (by decide)) (h _ (by decide)) (fun i => by rw [cd_56]; exact h _ (by decide)) hP.1, rt_TI_same s (fun c hc => h c (by simp at hc ⊢; omega)) hn hP.2.1, rt_FC_same s (fun c hc => h c (by simp at hc ⊢; omega)) hP.2.2⟩
theorem rt_PC_wind {nb : Nat} {M u : fm_M} {p0 p1 p2 : Int32} (hP : rt_PC nb M) (hs : fm_same [1002, 2000, 50014] M u) (hw : ∀ n : Nat, u.1 2 0 n = if p0.toInt ≤ n ∧ (n : Int) < p1.toInt then p2 else M.1 2 0 n) (hf : ∀ j : Nat, j < nb → (u.1 50 j 14).toInt = rt_fb (M.1 50 j 2).toInt (M.1 50 j 14).toInt p0.toInt) : rt_PC nb u :=
  rt_PC_ci hs (by decide) (rt_CI_wind hP.1 hs hw hf) hP
theorem rt_PC_fix {nb kb : Nat} {es : List Nat} {M u : fm_M} {p0 p1 : Int32} {p2 : Int64} (hP : rt_PC nb M) (hX : rt_FX kb p0 p1 p2 M u) (hs : fm_same es M u) (h : ∀ c ∈ ([9, 2000, 50000, 50001, 50002, 56000] : List Nat), c ∉ es) (hp : p1 = M.1 0 0 9) (h11 : (u.1 0 0 11).toInt = (M.1 0 0 11).toInt + 1) (hn : 0 ≤ (M.1 50 kb 9).toInt) : rt_PC nb u := by
  refine ⟨rt_CI_fix hP.1 hs (fun i => by rw [cd_56]; exact h _ (by decide)) (fun i => by rw [cd_2]; exact h _ (by decide)) (h _ (by decide)) (h _ (by decide)) (h _ (by decide)) hX hn, rt_TI_fix hP.2.1 hX hp (hs 0 0 9 (h _ (by decide))).1 hn, fun j hj => ?_⟩
  have h9 := hP.2.2 j hj
  obtain ⟨x1, x2, x3, x4, x5, x6, x7⟩ := hX
  by_cases g : j = kb
  · subst g
    omega
  · rw [x5 j g]
    omega
theorem rt_nkM_same {es : List Nat} {M u : fm_M} (s : fm_same es M u) (h : ∀ c ∈ ([50009, 51000, 52000, 53000] : List Nat), c ∉ es) : rt_nkM u = rt_nkM M := by
  funext j x kn q
  unfold rt_nkM
  rw [(s 50 j 9 (h _ (by decide))).1, show u.1 51 j = M.1 51 j from funext fun i => (s 51 j i (by rw [cd_51]; exact h _ (by decide))).1, show u.1 52 j = M.1 52 j from funext fun i => (s 52 j i (by rw [cd_52]; exact h _ (by decide))).1, show u.2.1 53 j = M.2.1 53 j from funext fun i => (s 53 j i (by rw [cd_53]; exact h _ (by decide))).2.1]
theorem rt_nmM_same {es : List Nat} {M u : fm_M} (s : fm_same es M u) (h : ∀ c ∈ ([60021, 117000, 118000, 119000, 120000] : List Nat), c ∉ es) : rt_nmM u = rt_nmM M := by
  funext j x kn q
  unfold rt_nmM
  rw [(s 60 0 21 (h _ (by decide))).1, show u.1 117 0 = M.1 117 0 from funext fun i => (s 117 0 i (by rw [cd_117]; exact h _ (by decide))).1, show u.1 118 0 = M.1 118 0 from funext fun i => (s 118 0 i (by rw [cd_118]; exact h _ (by decide))).1, show u.1 120 0 = M.1 120 0 from funext fun i => (s 120 0 i (by rw [cd_120]; exact h _ (by decide))).1, show u.2.1 119 0 = M.2.1 119 0 from funext fun i => (s 119 0 i (by rw [cd_119]; exact h _ (by decide))).2.1]
/-- the two sides' winds are alike, and such as can be told -/
def rt_WN (M : fm_M) : Prop := ∀ x : Int, rt_wdc (M.1 2 0) x = rt_wdM M x ∧ rt_vw (rt_wdM M x)
theorem rt_WN_same {es : List Nat} {M u : fm_M} (s : fm_same es M u) (h : ∀ c ∈ ([2000, 60005, 102000, 103000, 104000] : List Nat), c ∉ es) (hW : rt_WN M) : rt_WN u := by
  intro x
  unfold rt_wdM
  rw [(s 60 0 5 (h _ (by decide))).1, show u.1 2 0 = M.1 2 0 from funext fun i => (s 2 0 i (by rw [cd_2]; exact h _ (by decide))).1, show u.1 102 0 = M.1 102 0 from funext fun i => (s 102 0 i (by rw [cd_102]; exact h _ (by decide))).1, show u.1 103 0 = M.1 103 0 from funext fun i => (s 103 0 i (by rw [cd_103]; exact h _ (by decide))).1, show u.1 104 0 = M.1 104 0 from funext fun i => (s 104 0 i (by rw [cd_104]; exact h _ (by decide))).1]
  exact hW x
theorem rt_wdm_c {a b c a1 b1 c1 : Nat → Int32} {x : Int} {n : Nat} (h : ∀ j, j < n → a1 j = a j ∧ b1 j = b j ∧ c1 j = c j) : rt_wdm a1 b1 c1 x n = rt_wdm a b c x n := by
  induction n with
  | zero => rfl
  | succ n ih =>
    obtain ⟨h1, h2, h3⟩ := h n (Nat.lt_succ_self n)
    show (if (a1 n).toInt ≤ x ∧ x < (b1 n).toInt then (c1 n).toInt else rt_wdm a1 b1 c1 x n) = (if (a n).toInt ≤ x ∧ x < (b n).toInt then (c n).toInt else rt_wdm a b c x n)
    rw [h1, h2, h3, ih (fun j hj => h j (Nat.lt_succ_of_lt hj))]
theorem rt_WN_new {M u : fm_M} {p0 p1 p2 : Int32} (hW : rt_WN M) (hf : ∀ j : Nat, u.1 2 0 j = if p0.toInt ≤ j ∧ (j : Int) < p1.toInt then p2 else M.1 2 0 j) (ha : ∀ j : Nat, u.1 102 0 j = if j = (M.1 60 0 5).toNatClampNeg then p0 else M.1 102 0 j) (hb : ∀ j : Nat, u.1 103 0 j = if j = (M.1 60 0 5).toNatClampNeg then p1 else M.1 103 0 j) (hc : ∀ j : Nat, u.1 104 0 j = if j = (M.1 60 0 5).toNatClampNeg then p2 else M.1 104 0 j) (h0 : 0 ≤ p0.toInt) (h1 : p1.toInt ≤ 240) (hn : 0 ≤ (M.1 60 0 5).toInt) (hn1 : (u.1 60 0 5).toInt = (M.1 60 0 5).toInt + 1) (hv : rt_vw p2.toInt) : rt_WN u := by
  intro x
  obtain ⟨w1, w2⟩ := hW x
  have e : (u.1 60 0 5).toNatClampNeg = (M.1 60 0 5).toNatClampNeg + 1 := by rw [Int32.toNatClampNeg, Int32.toNatClampNeg]; omega
  have k : rt_wdM u x = if p0.toInt ≤ x ∧ x < p1.toInt then p2.toInt else rt_wdM M x := by
    unfold rt_wdM
    rw [e]
    show (if (u.1 102 0 (M.1 60 0 5).toNatClampNeg).toInt ≤ x ∧ x < (u.1 103 0 (M.1 60 0 5).toNatClampNeg).toInt then (u.1 104 0 (M.1 60 0 5).toNatClampNeg).toInt else rt_wdm (u.1 102 0) (u.1 103 0) (u.1 104 0) x (M.1 60 0 5).toNatClampNeg) = _
    rw [show u.1 102 0 (M.1 60 0 5).toNatClampNeg = p0 by rw [ha, if_pos rfl], show u.1 103 0 (M.1 60 0 5).toNatClampNeg = p1 by rw [hb, if_pos rfl], show u.1 104 0 (M.1 60 0 5).toNatClampNeg = p2 by rw [hc, if_pos rfl], rt_wdm_c (a := M.1 102 0) (b := M.1 103 0) (c := M.1 104 0) (fun j hj => ⟨by rw [ha j, if_neg (by omega)], by rw [hb j, if_neg (by omega)], by rw [hc j, if_neg (by omega)]⟩)]
  by_cases hy : p0.toInt ≤ x ∧ x < p1.toInt
  · rw [k, if_pos hy]
    refine ⟨?_, hv⟩
    unfold rt_wdc
    rw [if_pos (by omega), hf, if_pos (by omega)]
  · rw [k, if_neg hy]
    refine ⟨?_, w2⟩
    rw [← w1]
    unfold rt_wdc
    by_cases hx : 0 ≤ x ∧ x < 240
    · rw [if_pos hx, if_pos hx, hf, if_neg (by omega)]
    · rw [if_neg hx, if_neg hx]
theorem rt_pm_same {es : List Nat} {M u : fm_M} (s : fm_same es M u) (h : ∀ c ∈ ([60005, 60021, 102000, 103000, 104000, 110000, 111000, 112000, 117000, 118000, 119000, 120000] : List Nat), c ∉ es) {b : Int32} {x kn : Int} : rt_pm u b x kn = rt_pm M b x kn := by
  unfold rt_pm rt_wdM
  rw [(s 60 0 5 (h _ (by decide))).1, (s 60 0 21 (h _ (by decide))).1, show u.1 102 0 = M.1 102 0 from funext fun i => (s 102 0 i (by rw [cd_102]; exact h _ (by decide))).1, show u.1 103 0 = M.1 103 0 from funext fun i => (s 103 0 i (by rw [cd_103]; exact h _ (by decide))).1, show u.1 104 0 = M.1 104 0 from funext fun i => (s 104 0 i (by rw [cd_104]; exact h _ (by decide))).1, show u.1 110 0 = M.1 110 0 from funext fun i => (s 110 0 i (by rw [cd_110]; exact h _ (by decide))).1, show u.1 111 0 = M.1 111 0 from funext fun i => (s 111 0 i (by rw [cd_111]; exact h _ (by decide))).1, show u.1 112 0 = M.1 112 0 from funext fun i => (s 112 0 i (by rw [cd_112]; exact h _ (by decide))).1, show u.1 117 0 = M.1 117 0 from funext fun i => (s 117 0 i (by rw [cd_117]; exact h _ (by decide))).1, show u.1 118 0 = M.1 118 0 from funext fun i => (s 118 0 i (by rw [cd_118]; exact h _ (by decide))).1, show u.1 120 0 = M.1 120 0 from funext fun i => (s 120 0 i (by rw [cd_120]; exact h _ (by decide))).1, show u.2.1 119 0 = M.2.1 119 0 from funext fun i => (s 119 0 i (by rw [cd_119]; exact h _ (by decide))).2.1]
/-- the two sides' places of a body are one -/
theorem rt_pk_pm {M : fm_M} {b : Int32} {h kn : Int} (hW : rt_WN M) (hK : rt_nkM M b.toNatClampNeg = rt_nmM M b.toNatClampNeg) (ek : M.1 50 b.toNatClampNeg 0 = M.1 110 0 b.toNatClampNeg) (e1 : M.1 50 b.toNatClampNeg 1 = M.1 112 0 b.toNatClampNeg) (e2 : M.1 50 b.toNatClampNeg 2 = M.1 111 0 b.toNatClampNeg) (hb : 0 ≤ b.toInt) : rt_pk M b.toNatClampNeg h kn = rt_pm M b h kn := by
  have eb : (b.toNatClampNeg : Int) = b.toInt := by rw [Int32.toNatClampNeg]; omega
  unfold rt_pk rt_pm
  rw [ek, e1, e2]
  refine rt_pt_c (fun x q _ _ => ?_) (fun x q _ _ => ?_)
  · show rt_dr (rt_wdc (M.1 2 0) x) (M.1 110 0 b.toNatClampNeg).toInt x q = rt_drm (rt_wdM M x) (M.1 110 0 b.toNatClampNeg).toInt x q
    rw [(hW x).1]
    exact rt_dr_eq (hW x).2
  · have z := congrFun (congrFun (congrFun hK x) kn) q
    unfold rt_nkM rt_nmM at z
    rw [eb] at z
    exact z
/-- fixes by a sheet: what they leave of a set of places -/
def rt_fn (it : Int → Int) (b h f c x kn : Int) (q : Int64) (n : Nat) : Int64 := match n with
  | 0 => q
  | k + 1 => if ((b ≤ it (f + 2 * k) ∧ it (f + 2 * k) ≤ h ∧ 0 ≤ it (f + 2 * k + 1) ∧ it (f + 2 * k + 1) ≤ 63) ∧ (rt_fx it b h f c k).1 < 40) ∧ it (f + 2 * k) = x ∧ h ≤ kn then rt_fn it b h f c x kn q k &&& ((1 : Int64) <<< ((Int32.ofInt (it (f + 2 * k + 1))).toInt64 &&& 63)) else rt_fn it b h f c x kn q k
def rt_AF (kb : Nat) (F : Int → Int → Int64 → Int64) (K L : Nat → Int → Int → Int64 → Int64) : Prop := ∀ (j : Nat) (x kn : Int) (q : Int64), L j x kn q = if j = kb then F x kn (K j x kn q) else K j x kn q
theorem rt_AF_n {it : Int → Int} {b h f c u w a e : Int} {k k1 : Int32} {kb : Nat} {K L : Nat → Int → Int → Int64 → Int64} (h1 : k1.toInt = k.toInt + 1) (h0 : 0 ≤ k.toInt) (hu : u = (rt_fx it b h f c k.toNatClampNeg).1) (hw : w = (rt_fx it b h f c k.toNatClampNeg).2) (ea : a = it (f + 2 * k.toInt)) (ee : e = it (f + 2 * k.toInt + 1)) (hc : ¬ ((b ≤ a ∧ a ≤ h ∧ 0 ≤ e ∧ e ≤ 63) ∧ u < 40)) (hF : rt_AF kb (fun x kn q => rt_fn it b h f c x kn q k.toNatClampNeg) K L) : rt_AF kb (fun x kn q => rt_fn it b h f c x kn q k1.toNatClampNeg) K L := by
  have z : (k.toNatClampNeg : Int) = k.toInt := by rw [Int32.toNatClampNeg]; omega
  intro j x kn q
  rw [hF j x kn q]
  by_cases g : j = kb
  · rw [if_pos g, if_pos g]
    show rt_fn it b h f c x kn (K j x kn q) k.toNatClampNeg = rt_fn it b h f c x kn (K j x kn q) k1.toNatClampNeg
    rw [zi_tns h1 h0]
    show _ = (if ((b ≤ it (f + 2 * (k.toNatClampNeg : Nat)) ∧ it (f + 2 * (k.toNatClampNeg : Nat)) ≤ h ∧ 0 ≤ it (f + 2 * (k.toNatClampNeg : Nat) + 1) ∧ it (f + 2 * (k.toNatClampNeg : Nat) + 1) ≤ 63) ∧ (rt_fx it b h f c k.toNatClampNeg).1 < 40) ∧ it (f + 2 * (k.toNatClampNeg : Nat)) = x ∧ h ≤ kn then _ else _)
    rw [if_neg]
    rw [z, ← ea, ← ee, ← hu]
    exact fun y => hc y.1
  · rw [if_neg g, if_neg g]
theorem rt_AF_y {it : Int → Int} {b h f c u w a e : Int} {k k1 : Int32} {kb : Nat} {K L N : Nat → Int → Int → Int64 → Int64} {cc : Int64} (h1 : k1.toInt = k.toInt + 1) (h0 : 0 ≤ k.toInt) (hu : u = (rt_fx it b h f c k.toNatClampNeg).1) (hw : w = (rt_fx it b h f c k.toNatClampNeg).2) (ea : a = it (f + 2 * k.toInt)) (ee : e = it (f + 2 * k.toInt + 1)) (hc : (b ≤ a ∧ a ≤ h ∧ 0 ≤ e ∧ e ≤ 63) ∧ u < 40) (hF : rt_AF kb (fun x kn q => rt_fn it b h f c x kn q k.toNatClampNeg) K L) (hA : rt_AK kb a h cc L N) (hcc : cc = (1 : Int64) <<< ((Int32.ofInt e).toInt64 &&& 63)) : rt_AF kb (fun x kn q => rt_fn it b h f c x kn q k1.toNatClampNeg) K N := by
  have z : (k.toNatClampNeg : Int) = k.toInt := by rw [Int32.toNatClampNeg]; omega
  intro j x kn q
  rw [hA j x kn q, hF j x kn q]
  by_cases g : j = kb
  · rw [if_pos g, if_pos g]
    show _ = rt_fn it b h f c x kn (K j x kn q) k1.toNatClampNeg
    rw [zi_tns h1 h0]
    show _ = (if ((b ≤ it (f + 2 * (k.toNatClampNeg : Nat)) ∧ it (f + 2 * (k.toNatClampNeg : Nat)) ≤ h ∧ 0 ≤ it (f + 2 * (k.toNatClampNeg : Nat) + 1) ∧ it (f + 2 * (k.toNatClampNeg : Nat) + 1) ≤ 63) ∧ (rt_fx it b h f c k.toNatClampNeg).1 < 40) ∧ it (f + 2 * (k.toNatClampNeg : Nat)) = x ∧ h ≤ kn then rt_fn it b h f c x kn (K j x kn q) k.toNatClampNeg &&& ((1 : Int64) <<< ((Int32.ofInt (it (f + 2 * (k.toNatClampNeg : Nat) + 1))).toInt64 &&& 63)) else rt_fn it b h f c x kn (K j x kn q) k.toNatClampNeg)
    rw [z, ← ea, ← ee, ← hu, ← hcc]
    by_cases g2 : a = x ∧ h ≤ kn
    · rw [if_pos ⟨g, g2⟩, if_pos ⟨hc, g2⟩]
    · rw [if_neg (fun y => g2 y.2), if_neg (fun y => g2 y.2)]
  · rw [if_neg (fun y => g y.1), if_neg g, if_neg g]
abbrev rt_fxN (it : Int → Int) (T b h f c n r u : Int) (N : Nat → Prop) : Prop := ∃ k : Nat, ((k : Int) ≤ n ∧ (∀ q : Nat, q < k → 0 ≤ f + 2 * q ∧ f + 2 * q + 2 ≤ T) ∧ u = (rt_fx it b h f c k).1 ∧ (((k : Int) = n ∧ r = (rt_fx it b h f c k).2) ∨ ((k : Int) < n ∧ ¬ (0 ≤ f + 2 * k ∧ f + 2 * k + 2 ≤ T) ∧ r = -12))) ∧ N k
theorem rt_fxN_u {it : Int → Int} {T b h f c n r u r1 u1 : Int} {N N1 : Nat → Prop} (x : rt_fxN it T b h f c n r u N) (y : rt_fxN it T b h f c n r1 u1 N1) : r = r1 ∧ u = u1 ∧ ∃ k : Nat, N k ∧ N1 k := by
  obtain ⟨k, ⟨k1, k2, k3, k4⟩, kN⟩ := x
  obtain ⟨j, ⟨j1, j2, j3, j4⟩, jN⟩ := y
  have e : k = j := by
    rcases Nat.lt_trichotomy k j with g | g | g
    · have g1 := j2 k g
      omega
    · exact g
    · have g1 := k2 j g
      omega
  subst e
  refine ⟨?_, by rw [k3, j3], k, kN, jN⟩
  rcases k4 with ⟨a1, a2⟩ | ⟨a1, a2, a3⟩ <;> rcases j4 with ⟨b1, b2⟩ | ⟨b1, b2, b3⟩
  · rw [a2, b2]
  · omega
  · omega
  · rw [a3, b3]
/-- a new body: nothing is known of it yet -/
theorem rt_PC_body {nb : Nat} {M u : fm_M} (hP : rt_PC nb M) (hsm : ∀ a k j : Nat, ¬ (k = nb ∧ 50 ≤ a ∧ a ≤ 56) → fm_cd a j ∉ ([10, 4000] : List Nat) → u.1 a k j = M.1 a k j ∧ u.2.1 a k j = M.2.1 a k j ∧ u.2.2 a k j = M.2.2 a k j) (h9 : u.1 50 nb 9 = 0) (h2 : u.1 50 nb 2 = M.1 0 0 9) (h14 : (u.1 50 nb 14).toInt = (M.1 0 0 9).toInt - 1) (hf : 0 ≤ (M.1 0 0 11).toInt) : rt_PC (nb + 1) u := by
  have z0 : (0 : Int32).toInt = 0 := rfl
  have e0 : u.1 0 0 9 = M.1 0 0 9 := (hsm 0 0 9 (by omega) (by decide)).1
  have e1 : u.1 0 0 11 = M.1 0 0 11 := (hsm 0 0 11 (by omega) (by decide)).1
  refine ⟨fun j hj h g1 g2 => ?_, fun j hj b hb => ?_, fun j hj => ?_⟩
  · by_cases g : j = nb
    · subst g
      rw [h2] at g1
      omega
    · rw [(hsm 50 j 2 (by omega) (by decide)).1] at g1
      rw [(hsm 50 j 14 (by omega) (by decide)).1] at g2
      rw [(hsm 56 j h.toNat (by omega) (by rw [cd_56]; decide)).2.1, hP.1 j (by omega) h g1 g2]
      exact (rt_pcl_f (funext fun i => (hsm 2 0 i (by omega) (by rw [cd_2]; decide)).1) (hsm 50 j 0 (by omega) (by decide)).1 (hsm 50 j 1 (by omega) (by decide)).1 (hsm 50 j 2 (by omega) (by decide)).1 (hsm 50 j 9 (by omega) (by decide)).1 (funext fun i => (hsm 51 j i (by omega) (by rw [cd_51]; decide)).1) (funext fun i => (hsm 53 j i (by omega) (by rw [cd_53]; decide)).2.1)).symm
  · by_cases g : j = nb
    · subst g
      rw [h9] at hb
      omega
    · rw [(hsm 50 j 9 (by omega) (by decide)).1] at hb
      obtain ⟨t1, t2⟩ := hP.2.1 j (by omega) b hb
      have e5 : ∀ i : Nat, u.1 52 j i = M.1 52 j i := fun i => (hsm 52 j i (by omega) (by rw [cd_52]; decide)).1
      refine ⟨by rw [e5 b, e0]; exact t1, fun a ha => ?_⟩
      rw [e5 a, e5 b]
      exact t2 a ha
  · by_cases g : j = nb
    · subst g
      rw [h9, e1]
      omega
    · rw [(hsm 50 j 9 (by omega) (by decide)).1, e1]
      exact hP.2.2 j (by omega)
/-- the fixes of both sides, behind a new body -/
theorem rt_NK_body {nb : Nat} {M u v : fm_M} (hN : ∀ j : Nat, j < nb → rt_nkM M j = rt_nmM M j) (hB : rt_FB M) (hn : (M.1 60 0 16).toInt = nb) (hsm : ∀ a k j : Nat, ¬ (k = nb ∧ 50 ≤ a ∧ a ≤ 56) → fm_cd a j ∉ ([10, 4000] : List Nat) → u.1 a k j = M.1 a k j ∧ u.2.1 a k j = M.2.1 a k j ∧ u.2.2 a k j = M.2.2 a k j) (h9 : u.1 50 nb 9 = 0) {es : List Nat} (s : fm_same es u v) (h : ∀ c ∈ ([50009, 51000, 52000, 53000, 60021, 117000, 118000, 119000, 120000] : List Nat), c ∉ es) : ∀ j : Nat, j < nb + 1 → rt_nkM v j = rt_nmM v j := by
  intro j hj
  rw [rt_nkM_same s (fun c hc => h c (by simp at hc ⊢; omega)), rt_nmM_same s (fun c hc => h c (by simp at hc ⊢; omega))]
  funext x kn q
  have em : rt_nmM u j x kn q = rt_nmM M j x kn q := by
    unfold rt_nmM
    rw [(hsm 60 0 21 (by omega) (by decide)).1, show u.1 117 0 = M.1 117 0 from funext fun i => (hsm 117 0 i (by omega) (by rw [cd_117]; decide)).1, show u.1 118 0 = M.1 118 0 from funext fun i => (hsm 118 0 i (by omega) (by rw [cd_118]; decide)).1, show u.1 120 0 = M.1 120 0 from funext fun i => (hsm 120 0 i (by omega) (by rw [cd_120]; decide)).1, show u.2.1 119 0 = M.2.1 119 0 from funext fun i => (hsm 119 0 i (by omega) (by rw [cd_119]; decide)).2.1]
  rw [em]
  by_cases g : j = nb
  · subst g
    have e9 : rt_nkM u j x kn q = q := by
      unfold rt_nkM
      rw [h9]
      rfl
    rw [e9]
    unfold rt_nmM
    exact (rt_nm_no (fun i hi z => by
      have h8 := hB i (by rw [Int32.toNatClampNeg] at hi; omega)
      omega)).symm
  · rw [← hN j (by omega)]
    unfold rt_nkM
    rw [(hsm 50 j 9 (by omega) (by decide)).1, show u.1 51 j = M.1 51 j from funext fun i => (hsm 51 j i (by omega) (by rw [cd_51]; decide)).1, show u.1 52 j = M.1 52 j from funext fun i => (hsm 52 j i (by omega) (by rw [cd_52]; decide)).1, show u.2.1 53 j = M.2.1 53 j from funext fun i => (hsm 53 j i (by omega) (by rw [cd_53]; decide)).2.1]
theorem rt_FB_up {es : List Nat} {M u : fm_M} (s : fm_same es M u) (h : ∀ c ∈ ([60021, 117000] : List Nat), c ∉ es) (hl : (M.1 60 0 16).toInt ≤ (u.1 60 0 16).toInt) (hF : rt_FB M) : rt_FB u := by
  intro i hi
  rw [(s 60 0 21 (h _ (by decide))).1] at hi
  rw [(s 117 0 i (by rw [cd_117]; exact h _ (by decide))).1]
  have h9 := hF i hi
  omega
theorem rt_NK_add {nb kb : Nat} {h t t1 : Int} {c : Int64} {K K1 L L1 : Nat → Int → Int → Int64 → Int64} (hA : rt_AK kb h t c K L) (hB : rt_AK kb h t1 c K1 L1) (ht : t = t1) (hK : ∀ j : Nat, j < nb → K j = K1 j) : ∀ j : Nat, j < nb → L j = L1 j := by
  subst ht
  intro j hj
  funext x kn q
  rw [hA j x kn q, hB j x kn q, hK j hj]
theorem rt_NK_all {nb kb : Nat} {F : Int → Int → Int64 → Int64} {K K1 L L1 : Nat → Int → Int → Int64 → Int64} (hA : rt_AF kb F K L) (hB : rt_AF kb F K1 L1) (hK : ∀ j : Nat, j < nb → K j = K1 j) : ∀ j : Nat, j < nb → L j = L1 j := by
  intro j hj
  funext x kn q
  rw [hA j x kn q, hB j x kn q, hK j hj]
theorem rt_WN0 {M : fm_M} (h : ∀ j : Nat, j < 240 → M.1 2 0 j = 2222) (h5 : M.1 60 0 5 = 0) : rt_WN M := by
  intro x
  have e : rt_wdM M x = 2222 := by
    unfold rt_wdM
    rw [h5]
    rfl
  have z : (2222 : Int32).toInt = 2222 := rfl
  rw [e]
  refine ⟨?_, by unfold rt_vw; omega⟩
  unfold rt_wdc
  by_cases hx : 0 ≤ x ∧ x < 240
  · rw [if_pos hx, h _ (by omega), z]
  · rw [if_neg hx]
theorem rt_g_and0 {z : Int64} : z &&& 1 = 0 ↔ rt_g z 0 = false := by
  have e1 : rt_g 1 0 = true := rt_g_1k ⟨0, by decide⟩
  constructor
  · intro h
    have e : rt_g (z &&& 1) 0 = rt_g 0 0 := by rw [h]
    rw [rt_g_and, e1, Bool.and_true, rt_g_0] at e
    exact e
  · intro h
    refine rt_g_ext fun c hc => ?_
    rw [rt_g_and, rt_g_1k ⟨c, hc⟩, rt_g_0]
    by_cases c0 : c = 0
    · subst c0
      rw [h]
      rfl
    · simp [c0]
theorem rt_has_g {p : Int64} {k : Int32} (h : 0 ≤ k.toInt ∧ k.toInt ≤ 63) : rt_has p k ↔ rt_g p k.toNatClampNeg = true := by
  have e : Int32.ofNat k.toNatClampNeg = k := zi_ofn h.1
  have s := rt_g_sk ⟨k.toNatClampNeg, by rw [Int32.toNatClampNeg]; omega⟩
  rw [e] at s
  unfold rt_has
  rw [rt_g_and0, rt_g_shr s, Nat.add_zero]
  cases rt_g p k.toNatClampNeg <;> simp
theorem rt_or0 {a : Int32} : a ||| 0 = a := by
  apply Int32.toBitVec_inj.mp
  show a.toBitVec ||| 0#32 = a.toBitVec
  simp
theorem rt_oror {a b : Int32} : a ||| b ||| b = a ||| b := by
  apply Int32.toBitVec_inj.mp
  show a.toBitVec ||| b.toBitVec ||| b.toBitVec = a.toBitVec ||| b.toBitVec
  rw [BitVec.or_assoc, BitVec.or_self]
/-- bits of those that are so -/
def rt_ub (P : Nat → Bool) (n : Nat) : Int32 := match n with
  | 0 => 0
  | k + 1 => if P k = true then rt_ub P k ||| ((1 : Int32) <<< (Int32.ofNat k &&& 31)) else rt_ub P k
theorem rt_ub_y {P : Nat → Bool} {a b k k1 : Int32} (hq : a = rt_ub P k.toNatClampNeg) (h0 : 0 ≤ k.toInt) (h1 : k1.toInt = k.toInt + 1) (hp : P k.toNatClampNeg = true) (hb : b = (1 : Int32) <<< (k &&& 31)) : a ||| b = rt_ub P k1.toNatClampNeg := by
  rw [zi_tns h1 h0]
  show _ = (if P k.toNatClampNeg = true then rt_ub P k.toNatClampNeg ||| ((1 : Int32) <<< (Int32.ofNat k.toNatClampNeg &&& 31)) else rt_ub P k.toNatClampNeg)
  rw [if_pos hp, ← hq, hb, zi_ofn h0]
theorem rt_ub_n {P : Nat → Bool} {a k k1 : Int32} (hq : a = rt_ub P k.toNatClampNeg) (h0 : 0 ≤ k.toInt) (h1 : k1.toInt = k.toInt + 1) (hp : ¬ P k.toNatClampNeg = true) : a = rt_ub P k1.toNatClampNeg := by
  rw [zi_tns h1 h0]
  show _ = (if P k.toNatClampNeg = true then rt_ub P k.toNatClampNeg ||| ((1 : Int32) <<< (Int32.ofNat k.toNatClampNeg &&& 31)) else rt_ub P k.toNatClampNeg)
  rw [if_neg hp, ← hq]
theorem rt_ub_i {P : Nat → Bool} {a b z k k1 : Int32} (hq : z = rt_ub P k.toNatClampNeg) (h0 : 0 ≤ k.toInt) (h1 : k1.toInt = k.toInt + 1) (hb : b = (1 : Int32) <<< (k &&& 31)) (ha : a = if P k.toNatClampNeg = true then z ||| b else z) : a = rt_ub P k1.toNatClampNeg := by
  rw [ha]
  by_cases hp : P k.toNatClampNeg = true
  · rw [if_pos hp]
    exact rt_ub_y hq h0 h1 hp hb
  · rw [if_neg hp]
    exact rt_ub_n hq h0 h1 hp
theorem rt_ub_c {P Q : Nat → Bool} {n : Nat} (h : ∀ k : Nat, k < n → P k = Q k) : rt_ub P n = rt_ub Q n := by
  induction n with
  | zero => rfl
  | succ n ih =>
    show (if P n = true then rt_ub P n ||| ((1 : Int32) <<< (Int32.ofNat n &&& 31)) else rt_ub P n) = (if Q n = true then rt_ub Q n ||| ((1 : Int32) <<< (Int32.ofNat n &&& 31)) else rt_ub Q n)
    rw [h n (by omega), ih (fun k hk => h k (by omega))]
def rt_any (P : Nat → Bool) (n : Nat) : Bool := match n with
  | 0 => false
  | k + 1 => rt_any P k || P k
theorem rt_any_n {P : Nat → Bool} {k k1 : Int32} (hq : rt_any P k.toNatClampNeg = false) (h0 : 0 ≤ k.toInt) (h1 : k1.toInt = k.toInt + 1) (hp : P k.toNatClampNeg = false) : rt_any P k1.toNatClampNeg = false := by
  rw [zi_tns h1 h0]
  show (rt_any P k.toNatClampNeg || P k.toNatClampNeg) = false
  rw [hq, hp]
  rfl
theorem rt_any_st {P : Nat → Bool} {n : Nat} (h : rt_any P n = true) (m : Nat) : rt_any P (n + m) = true := by
  induction m with
  | zero => exact h
  | succ m ih =>
    show (rt_any P (n + m) || P (n + m)) = true
    rw [ih]
    rfl
theorem rt_any_y {P : Nat → Bool} {k n : Nat} (hk : k < n) (hp : P k = true) : rt_any P n = true := by
  have h1 : rt_any P (k + 1) = true := by
    show (rt_any P k || P k) = true
    rw [hp]
    cases rt_any P k <;> rfl
  have h2 := rt_any_st h1 (n - (k + 1))
  rwa [show k + 1 + (n - (k + 1)) = n by omega] at h2
theorem rt_any_i {P : Nat → Bool} {a b z k k1 : Int32} (hx : a = if rt_any P k.toNatClampNeg = true then z ||| b else z) (h0 : 0 ≤ k.toInt) (h1 : k1.toInt = k.toInt + 1) {y : Int32} (hy : y = if P k.toNatClampNeg = true then a ||| b else a) : y = if rt_any P k1.toNatClampNeg = true then z ||| b else z := by
  rw [zi_tns h1 h0]
  show y = if (rt_any P k.toNatClampNeg || P k.toNatClampNeg) = true then z ||| b else z
  rw [hy, hx]
  cases rt_any P k.toNatClampNeg <;> cases P k.toNatClampNeg <;> simp [rt_oror]
/-- rows that tell of bodies that there are, and not ahead of their beginning: the count's place, the row of bodies, that of hours -/
def rt_RB (o f b h : Nat) (nb : Nat) (M : fm_M) : Prop := ∀ k : Nat, (k : Int) < (M.1 o 0 f).toInt → (M.1 b 0 k).toInt < nb ∧ (M.1 50 (M.1 b 0 k).toNatClampNeg 2).toInt ≤ (M.1 h 0 k).toInt
theorem rt_RB_eq {o f b h nb : Nat} {M u : fm_M} (ec : (u.1 o 0 f).toInt = (M.1 o 0 f).toInt) (eb : ∀ j : Nat, u.1 b 0 j = M.1 b 0 j) (eh : ∀ j : Nat, u.1 h 0 j = M.1 h 0 j) (e2 : ∀ j : Nat, u.1 50 j 2 = M.1 50 j 2) (hS : rt_RB o f b h nb M) : rt_RB o f b h nb u := by
  intro k hk
  rw [ec] at hk
  rw [eb, eh, e2]
  exact hS k hk
theorem rt_RB_add {o f b h nb : Nat} {M u : fm_M} {pb ph : Int32} (ec : (u.1 o 0 f).toInt = (M.1 o 0 f).toInt + 1) (eb : ∀ j : Nat, u.1 b 0 j = if j = (M.1 o 0 f).toNatClampNeg then pb else M.1 b 0 j) (eh : ∀ j : Nat, u.1 h 0 j = if j = (M.1 o 0 f).toNatClampNeg then ph else M.1 h 0 j) (e2 : ∀ j : Nat, u.1 50 j 2 = M.1 50 j 2) (hb : pb.toInt < nb) (hh : (M.1 50 pb.toNatClampNeg 2).toInt ≤ ph.toInt) (hS : rt_RB o f b h nb M) : rt_RB o f b h nb u := by
  intro k hk
  rw [ec] at hk
  by_cases g : k = (M.1 o 0 f).toNatClampNeg
  · rw [eb, eh, if_pos g, if_pos g, e2]
    exact ⟨hb, hh⟩
  · rw [eb, eh, if_neg g, if_neg g, e2]
    exact hS k (by rw [Int32.toNatClampNeg] at g; omega)
theorem rt_RB_body {o f b h nb : Nat} {M u : fm_M} (ec : u.1 o 0 f = M.1 o 0 f) (eb : ∀ j : Nat, u.1 b 0 j = M.1 b 0 j) (eh : ∀ j : Nat, u.1 h 0 j = M.1 h 0 j) (e2 : ∀ j : Nat, ¬ j = nb → u.1 50 j 2 = M.1 50 j 2) (h0 : ∀ k : Nat, 0 ≤ (M.1 b 0 k).toInt) (hS : rt_RB o f b h nb M) : rt_RB o f b h (nb + 1) u := by
  intro k hk
  rw [ec] at hk
  obtain ⟨s1, s2⟩ := hS k hk
  have z := h0 k
  rw [eb, eh, e2 _ (by rw [Int32.toNatClampNeg]; omega)]
  exact ⟨by omega, s2⟩
abbrev rt_SB (nb : Nat) (M : fm_M) : Prop := rt_RB 38 3 39 41 nb M
/-- none begins after now -/
def rt_BN (nb : Nat) (M : fm_M) : Prop := ∀ j : Nat, j < nb → (M.1 50 j 2).toInt ≤ (M.1 0 0 9).toInt
theorem rt_BN_eq {nb : Nat} {M u : fm_M} (en : (M.1 0 0 9).toInt ≤ (u.1 0 0 9).toInt) (e2 : ∀ j : Nat, u.1 50 j 2 = M.1 50 j 2) (hB : rt_BN nb M) : rt_BN nb u := by
  intro j hj
  have z := hB j hj
  rw [e2]
  omega
theorem rt_BN_body {nb : Nat} {M u : fm_M} (en : u.1 0 0 9 = M.1 0 0 9) (e2 : ∀ j : Nat, ¬ j = nb → u.1 50 j 2 = M.1 50 j 2) (h2 : u.1 50 nb 2 = M.1 0 0 9) (hB : rt_BN nb M) : rt_BN (nb + 1) u := by
  intro j hj
  rw [en]
  by_cases g : j = nb
  · rw [g, h2]
    exact Int.le_refl _
  · rw [e2 j g]
    exact hB j (by omega)
theorem rt_SB_b {nb : Nat} {es : List Nat} {M L : fm_M} {k b : Int32} (hS : rt_SB nb M) (s : fm_same es M L) (h : ∀ c ∈ ([38003, 39000] : List Nat), c ∉ es) (h0 : 0 ≤ k.toInt) (ht : k.toInt < (L.1 38 0 3).toInt) (eb : b = L.1 39 0 k.toNatClampNeg) : b.toInt < nb := by
  rw [(s 38 0 3 (h _ (by decide))).1] at ht
  rw [eb, (s 39 0 _ (by rw [cd_39]; exact h _ (by decide))).1]
  exact (hS k.toNatClampNeg (by rw [Int32.toNatClampNeg]; omega)).1
theorem rt_SB_h {nb : Nat} {es : List Nat} {M L : fm_M} {k b x : Int32} (hS : rt_SB nb M) (s : fm_same es M L) (h : ∀ c ∈ ([38003, 39000, 41000, 50002] : List Nat), c ∉ es) (h0 : 0 ≤ k.toInt) (ht : k.toInt < (L.1 38 0 3).toInt) (eb : b = L.1 39 0 k.toNatClampNeg) (ex : x = L.1 41 0 k.toNatClampNeg) : (L.1 50 b.toNatClampNeg 2).toInt ≤ x.toInt := by
  rw [(s 38 0 3 (h _ (by decide))).1] at ht
  rw [eb, ex, (s 39 0 _ (by rw [cd_39]; exact h _ (by decide))).1, (s 41 0 _ (by rw [cd_41]; exact h _ (by decide))).1, (s 50 _ 2 (h _ (by decide))).1]
  exact (hS k.toNatClampNeg (by rw [Int32.toNatClampNeg]; omega)).2
def rt_fitc (M : fm_M) (k : Nat) : Bool := rt_g (rt_pcl M (M.1 39 0 k).toNatClampNeg (M.1 41 0 k).toInt) (M.1 40 0 k).toNatClampNeg
def rt_fitm (M : fm_M) (k : Nat) : Bool := rt_g (rt_pm M (M.1 145 0 k) (M.1 147 0 k).toInt (M.1 60 0 0).toInt) (M.1 146 0 k).toNatClampNeg
theorem rt_fitc_of {es : List Nat} {M L : fm_M} {k b x c : Int32} {r : Int64} (s : fm_same es M L) (h : ∀ c ∈ ([2000, 39000, 41000, 50000, 50001, 50002, 50009, 51000, 53000] : List Nat), c ∉ es) (eb : b = L.1 39 0 k.toNatClampNeg) (ex : x = L.1 41 0 k.toNatClampNeg) (ec : c = M.1 40 0 k.toNatClampNeg) (hr : r = rt_pcl L b.toNatClampNeg x.toInt) : rt_g r c.toNatClampNeg = rt_fitc M k.toNatClampNeg := by
  unfold rt_fitc
  rw [hr, eb, ex, ec, (s 39 0 _ (by rw [cd_39]; exact h _ (by decide))).1, (s 41 0 _ (by rw [cd_41]; exact h _ (by decide))).1, rt_pcl_same s (fun i => by rw [cd_2]; exact h _ (by decide)) (h _ (by decide)) (h _ (by decide)) (h _ (by decide)) (h _ (by decide)) (fun i => by rw [cd_51]; exact h _ (by decide)) (fun i => by rw [cd_53]; exact h _ (by decide))]
theorem rt_fitm_same {es : List Nat} {M u : fm_M} (s : fm_same es M u) (h : ∀ c ∈ ([60000, 60005, 60021, 102000, 103000, 104000, 110000, 111000, 112000, 117000, 118000, 119000, 120000, 145000, 146000, 147000] : List Nat), c ∉ es) {k : Nat} : rt_fitm u k = rt_fitm M k := by
  unfold rt_fitm
  rw [(s 60 0 0 (h _ (by decide))).1, (s 145 0 k (by rw [cd_145]; exact h _ (by decide))).1, (s 146 0 k (by rw [cd_146]; exact h _ (by decide))).1, (s 147 0 k (by rw [cd_147]; exact h _ (by decide))).1, rt_pm_same s (fun c hc => h c (by simp at hc ⊢; omega))]
theorem rt_fit_eq {nb : Nat} {M : fm_M} {k : Nat} (hW : rt_WN M) (hK : ∀ j : Nat, j < nb → rt_nkM M j = rt_nmM M j) (hT : rt_TI nb M) (hS : rt_SB nb M) (ek : ∀ j : Nat, j < nb → M.1 50 j 0 = M.1 110 0 j) (e1 : ∀ j : Nat, j < nb → M.1 50 j 1 = M.1 112 0 j) (e2 : ∀ j : Nat, j < nb → M.1 50 j 2 = M.1 111 0 j) (en : M.1 0 0 9 = M.1 60 0 0) (eb : ∀ j : Nat, M.1 39 0 j = M.1 145 0 j) (ec : ∀ j : Nat, M.1 40 0 j = M.1 146 0 j) (eh : ∀ j : Nat, M.1 41 0 j = M.1 147 0 j) (h0 : 0 ≤ (M.1 39 0 k).toInt) (hk : (k : Int) < (M.1 38 0 3).toInt) : rt_fitc M k = rt_fitm M k := by
  obtain ⟨s1, s2⟩ := hS k hk
  have hb : (M.1 39 0 k).toNatClampNeg < nb := by rw [Int32.toNatClampNeg]; omega
  unfold rt_fitc rt_fitm
  rw [← eb k, ← ec k, ← eh k, ← en, ← rt_pk_pm hW (hK _ hb) (ek _ hb) (e1 _ hb) (e2 _ hb) h0, rt_pk_all (fun i hi => (hT _ hb i (by rw [Int32.toNatClampNeg] at hi; omega)).1)]
/-- where one can have drifted from a place, hour by hour -/
def rt_cl (dr : Int → Int64 → Int64) (h : Int) (p : Int64) (n : Nat) : Int64 := match n with
  | 0 => p
  | k + 1 => dr (h + k) (rt_cl dr h p k)
theorem rt_cl_s {dr : Int → Int64 → Int64} {h : Int} {p q r : Int64} {k k1 : Int32} (hq : q = rt_cl dr h p (k.toInt - h).toNat) (h0 : h ≤ k.toInt) (h1 : k1.toInt = k.toInt + 1) (hr : r = dr k.toInt q) : r = rt_cl dr h p (k1.toInt - h).toNat := by
  rw [show (k1.toInt - h).toNat = (k.toInt - h).toNat + 1 by omega]
  show _ = dr (h + ((k.toInt - h).toNat : Nat)) (rt_cl dr h p (k.toInt - h).toNat)
  rw [← hq, hr, show h + (((k.toInt - h).toNat : Nat) : Int) = k.toInt by omega]
def rt_cv (dr : Int → Int64 → Int64) (ha hb : Int) (ca cb : Int32) : Int := if ha ≤ hb then (if rt_g (rt_cl dr ha ((1 : Int64) <<< (ca.toInt64 &&& 63)) (hb - ha).toNat) cb.toNatClampNeg = true then 0 else 1) else (if rt_g (rt_cl dr hb ((1 : Int64) <<< (cb.toInt64 &&& 63)) (ha - hb).toNat) ca.toNatClampNeg = true then 0 else 1)
theorem rt_cv_fin {dr : Int → Int64 → Int64} {F C : Nat → Int32} {e l a b : Int32} {q : Int64} {r : Int} (hE : (e = a ∧ l = b ∧ (F a.toNatClampNeg).toInt ≤ (F b.toNatClampNeg).toInt) ∨ (e = b ∧ l = a ∧ ¬ (F a.toNatClampNeg).toInt ≤ (F b.toNatClampNeg).toInt)) (hq : q = rt_cl dr (F e.toNatClampNeg).toInt ((1 : Int64) <<< ((C e.toNatClampNeg).toInt64 &&& 63)) ((F l.toNatClampNeg).toInt - (F e.toNatClampNeg).toInt).toNat) (hr : (r = 0 ∧ rt_g q (C l.toNatClampNeg).toNatClampNeg = true) ∨ (r = 1 ∧ ¬ rt_g q (C l.toNatClampNeg).toNatClampNeg = true)) : r = rt_cv dr (F a.toNatClampNeg).toInt (F b.toNatClampNeg).toInt (C a.toNatClampNeg) (C b.toNatClampNeg) := by
  rcases hE with ⟨e1, e2, h⟩ | ⟨e1, e2, h⟩
  · rw [e1, e2] at hq
    rw [e2] at hr
    unfold rt_cv
    rw [if_pos h, ← hq]
    rcases hr with ⟨r1, r2⟩ | ⟨r1, r2⟩
    · rw [r1, if_pos r2]
    · rw [r1, if_neg r2]
  · rw [e1, e2] at hq
    rw [e2] at hr
    unfold rt_cv
    rw [if_neg h, ← hq]
    rcases hr with ⟨r1, r2⟩ | ⟨r1, r2⟩
    · rw [r1, if_pos r2]
    · rw [r1, if_neg r2]
theorem rt_cv_c {dr ds : Int → Int64 → Int64} {ha hb : Int} {ca cb : Int32} (e : ∀ x q, dr x q = ds x q) : rt_cv dr ha hb ca cb = rt_cv ds ha hb ca cb := by
  rw [show dr = ds from funext fun x => funext fun q => e x q]
theorem rt_ap_c {a b : Int} : rt_ap a b = rt_ap b a := by
  unfold rt_ap rt_ab
  omega
def rt_ha (p : Int64) (c f t : Int) (x : Nat) : Bool := rt_g p x && decide (f ≤ rt_ap c x ∧ rt_ap c x ≤ t)
theorem rt_ha_1 {p : Int64} {c f t : Int} {k : Int32} (h0 : 0 ≤ k.toInt) (h : rt_g p k.toNatClampNeg = true ∧ f ≤ rt_ap c k.toInt ∧ rt_ap c k.toInt ≤ t) : rt_ha p c f t k.toNatClampNeg = true := by
  have e : (k.toNatClampNeg : Int) = k.toInt := by rw [Int32.toNatClampNeg]; omega
  unfold rt_ha
  rw [e, h.1, decide_eq_true h.2]
  rfl
theorem rt_ha_0 {p : Int64} {c f t : Int} {k : Int32} (h0 : 0 ≤ k.toInt) (h : ¬ (rt_g p k.toNatClampNeg = true ∧ f ≤ rt_ap c k.toInt ∧ rt_ap c k.toInt ≤ t)) : rt_ha p c f t k.toNatClampNeg = false := by
  have e : (k.toNatClampNeg : Int) = k.toInt := by rw [Int32.toNatClampNeg]; omega
  unfold rt_ha
  rw [e]
  cases hz : rt_g p k.toNatClampNeg
  · rfl
  · rw [decide_eq_false (fun z => h ⟨hz, z⟩)]
    rfl
def rt_wat (w h : Int) : Int := 2 * w + (if h % 24 < 6 ∨ 17 < h % 24 then 1 else 0)
/-- who can hear a call, if the sender's places are these: class and reference -/
def rt_hb (M : fm_M) (c : Nat) (p : Int64) : Int32 := rt_ub (fun e => rt_any (rt_ha p (M.1 6 0 e).toInt (M.1 7 0 (rt_wat (M.1 10 0 c).toInt (M.1 11 0 c).toInt).toNat).toInt (M.1 8 0 (rt_wat (M.1 10 0 c).toInt (M.1 11 0 c).toInt).toNat).toInt) 64) (M.1 5 0 1).toNatClampNeg
def rt_hm (M : fm_M) (c : Nat) (p : Int64) : Int32 := rt_ub (fun e => rt_any (rt_ha p (M.1 122 0 e).toInt (M.1 124 0 (rt_wat (M.1 127 0 c).toInt (M.1 128 0 c).toInt).toNat).toInt (M.1 125 0 (rt_wat (M.1 127 0 c).toInt (M.1 128 0 c).toInt).toNat).toInt) 64) (M.1 60 0 23).toNatClampNeg
theorem rt_hb_same {es : List Nat} {M u : fm_M} (s : fm_same es M u) (h : ∀ c ∈ ([5001, 6000, 7000, 8000, 10000, 11000] : List Nat), c ∉ es) {c : Nat} {p : Int64} : rt_hb u c p = rt_hb M c p := by
  unfold rt_hb
  rw [(s 5 0 1 (h _ (by decide))).1, show u.1 6 0 = M.1 6 0 from funext fun i => (s 6 0 i (by rw [cd_6]; exact h _ (by decide))).1, show u.1 7 0 = M.1 7 0 from funext fun i => (s 7 0 i (by rw [cd_7]; exact h _ (by decide))).1, show u.1 8 0 = M.1 8 0 from funext fun i => (s 8 0 i (by rw [cd_8]; exact h _ (by decide))).1, show u.1 10 0 = M.1 10 0 from funext fun i => (s 10 0 i (by rw [cd_10]; exact h _ (by decide))).1, show u.1 11 0 = M.1 11 0 from funext fun i => (s 11 0 i (by rw [cd_11]; exact h _ (by decide))).1]
theorem rt_hm_same {es : List Nat} {M u : fm_M} (s : fm_same es M u) (h : ∀ c ∈ ([60023, 122000, 124000, 125000, 127000, 128000] : List Nat), c ∉ es) {c : Nat} {p : Int64} : rt_hm u c p = rt_hm M c p := by
  unfold rt_hm
  rw [(s 60 0 23 (h _ (by decide))).1, show u.1 122 0 = M.1 122 0 from funext fun i => (s 122 0 i (by rw [cd_122]; exact h _ (by decide))).1, show u.1 124 0 = M.1 124 0 from funext fun i => (s 124 0 i (by rw [cd_124]; exact h _ (by decide))).1, show u.1 125 0 = M.1 125 0 from funext fun i => (s 125 0 i (by rw [cd_125]; exact h _ (by decide))).1, show u.1 127 0 = M.1 127 0 from funext fun i => (s 127 0 i (by rw [cd_127]; exact h _ (by decide))).1, show u.1 128 0 = M.1 128 0 from funext fun i => (s 128 0 i (by rw [cd_128]; exact h _ (by decide))).1]
abbrev rt_CB (nb : Nat) (M : fm_M) : Prop := rt_RB 5 8 9 11 nb M
theorem rt_hb_eq {M : fm_M} {c : Nat} {p : Int64} (e1 : M.1 5 0 1 = M.1 60 0 23) (e6 : ∀ j : Nat, M.1 6 0 j = M.1 122 0 j) (e7 : ∀ j : Nat, M.1 7 0 j = M.1 124 0 j) (e8 : ∀ j : Nat, M.1 8 0 j = M.1 125 0 j) (e10 : ∀ j : Nat, M.1 10 0 j = M.1 127 0 j) (e11 : ∀ j : Nat, M.1 11 0 j = M.1 128 0 j) : rt_hb M c p = rt_hm M c p := by
  unfold rt_hb rt_hm
  rw [e1, show M.1 6 0 = M.1 122 0 from funext e6, show M.1 7 0 = M.1 124 0 from funext e7, show M.1 8 0 = M.1 125 0 from funext e8, show M.1 10 0 = M.1 127 0 from funext e10, show M.1 11 0 = M.1 128 0 from funext e11]
set_option maxHeartbeats 400000 in
set_option maxRecDepth 20000 in
theorem fc_X11_isCell (l : Launch) (p0 : Int32) : Met l yX11_isCell wsX11_isCell ({ frames := 0, cells := 0, slots := 0, locals := 0 }) (va_Pc [.int p0] (fun _ => True)) (vp_Si (fun r : Int32 => ((r = 1 ∧ (0 ≤ p0.toInt ∧ p0.toInt ≤ 63)) ∨ (r = 0 ∧ ¬ (0 ≤ p0.toInt ∧ p0.toInt ≤ 63))))) 0 0 (fun _ => False) := by
  refine Met.ofW (cc := cX11_isCell) (maxL := 1) (ret := (some .boolean)) (by decide) rfl ?_
  intro p e s m args below meth c s₁ B hml hv
  obtain ⟨rfl, _⟩ := hv
  have hx := B.exec
  have hb := B.bytes
  have hr := B.returns
  have hts := atoms_spec (ws := wsX11_isCell) B.pre
  have hown : s.vm.findClass RX11 = some m.cls := findClass_of_methodNamed B.named
  have hl := lv_entry ([.int p0]) (n := 1) (Nat.le_of_ble_eq_true rfl)
  rw [lg_entry_eq]
  generalize (lg_sl ([.int p0]) ++ List.replicate (1 - (lg_sl ([.int p0])).length) Slot.unset).toArray = ls at hl ⊢
  have hl : lv_has ls 1 [(0, .int p0)] := hl
  refine lv_iload_n hx hb dX11_isCell_0 rfl (lv_at hl 0 rfl) ?_
  refine fx_if_lt (tgt := 14) hx hb dX11_isCell_1 (by decide) rfl (fun c1 => ?_) (fun c1 => ?_)
  · refine lv_iconst (v := 0) hx hb dX11_isCell_14 (by decide) ?_
    exact W.zret (v := 0) hx hb hr rfl (fun t ht hW => ⟨0, rfl, Or.inr ⟨rfl, by omega⟩, ht⟩) (fun _ h => absurd h List.not_mem_nil) dX11_isCell_15
  · refine lv_iload_n hx hb dX11_isCell_4 rfl (lv_at hl 0 rfl) ?_
    refine lv_bipush (v := 64) hx hb dX11_isCell_5 (by decide) ?_
    refine fx_icmp_ge (tgt := 14) hx hb dX11_isCell_7 (by decide) rfl zk_64 (fun c2 => ?_) (fun c2 => ?_)
    · refine lv_iconst (v := 0) hx hb dX11_isCell_14 (by decide) ?_
      exact W.zret (v := 0) hx hb hr rfl (fun t ht hW => ⟨0, rfl, Or.inr ⟨rfl, by omega⟩, ht⟩) (fun _ h => absurd h List.not_mem_nil) dX11_isCell_15
    · refine lv_iconst (v := 1) hx hb dX11_isCell_10 (by decide) ?_
      refine lv_goto (tgt := 15) hx hb dX11_isCell_11 (by decide) ?_
      exact W.zret (v := 1) hx hb hr rfl (fun t ht hW => ⟨1, rfl, Or.inl ⟨rfl, by omega⟩, ht⟩) (fun _ h => absurd h List.not_mem_nil) dX11_isCell_15
set_option maxHeartbeats 400000 in
set_option maxRecDepth 20000 in
theorem fc_X11_isMark (l : Launch) (p0 : Int32) : Met l yX11_isMark wsX11_isMark ({ frames := 0, cells := 0, slots := 0, locals := 0 }) (va_Pc [.int p0] (fun _ => True)) (vp_Si (fun r : Int32 => ((r = 1 ∧ (0 ≤ p0.toInt ∧ p0.toInt ≤ 99)) ∨ (r = 0 ∧ ¬ (0 ≤ p0.toInt ∧ p0.toInt ≤ 99))))) 0 0 (fun _ => False) := by
  refine Met.ofW (cc := cX11_isMark) (maxL := 1) (ret := (some .boolean)) (by decide) rfl ?_
  intro p e s m args below meth c s₁ B hml hv
  obtain ⟨rfl, _⟩ := hv
  have hx := B.exec
  have hb := B.bytes
  have hr := B.returns
  have hts := atoms_spec (ws := wsX11_isMark) B.pre
  have hown : s.vm.findClass RX11 = some m.cls := findClass_of_methodNamed B.named
  have hl := lv_entry ([.int p0]) (n := 1) (Nat.le_of_ble_eq_true rfl)
  rw [lg_entry_eq]
  generalize (lg_sl ([.int p0]) ++ List.replicate (1 - (lg_sl ([.int p0])).length) Slot.unset).toArray = ls at hl ⊢
  have hl : lv_has ls 1 [(0, .int p0)] := hl
  refine lv_iload_n hx hb dX11_isMark_0 rfl (lv_at hl 0 rfl) ?_
  refine fx_if_lt (tgt := 14) hx hb dX11_isMark_1 (by decide) rfl (fun c1 => ?_) (fun c1 => ?_)
  · refine lv_iconst (v := 0) hx hb dX11_isMark_14 (by decide) ?_
    exact W.zret (v := 0) hx hb hr rfl (fun t ht hW => ⟨0, rfl, Or.inr ⟨rfl, by omega⟩, ht⟩) (fun _ h => absurd h List.not_mem_nil) dX11_isMark_15
  · refine lv_iload_n hx hb dX11_isMark_4 rfl (lv_at hl 0 rfl) ?_
    refine lv_bipush (v := 99) hx hb dX11_isMark_5 (by decide) ?_
    refine fx_icmp_gt (tgt := 14) hx hb dX11_isMark_7 (by decide) rfl zk_99 (fun c2 => ?_) (fun c2 => ?_)
    · refine lv_iconst (v := 0) hx hb dX11_isMark_14 (by decide) ?_
      exact W.zret (v := 0) hx hb hr rfl (fun t ht hW => ⟨0, rfl, Or.inr ⟨rfl, by omega⟩, ht⟩) (fun _ h => absurd h List.not_mem_nil) dX11_isMark_15
    · refine lv_iconst (v := 1) hx hb dX11_isMark_10 (by decide) ?_
      refine lv_goto (tgt := 15) hx hb dX11_isMark_11 (by decide) ?_
      exact W.zret (v := 1) hx hb hr rfl (fun t ht hW => ⟨1, rfl, Or.inl ⟨rfl, by omega⟩, ht⟩) (fun _ h => absurd h List.not_mem_nil) dX11_isMark_15
set_option maxHeartbeats 400000 in
set_option maxRecDepth 20000 in
theorem fc_X11_isSpan (l : Launch) (p0 p1 : Int32) : Met l yX11_isSpan wsX11_isSpan ({ frames := 0, cells := 0, slots := 0, locals := 0 }) (va_Pc [.int p0, .int p1] (fun _ => True)) (vp_Si (fun r : Int32 => ((r = 1 ∧ (0 ≤ p0.toInt ∧ p0.toInt < p1.toInt ∧ p1.toInt ≤ 240)) ∨ (r = 0 ∧ ¬ (0 ≤ p0.toInt ∧ p0.toInt < p1.toInt ∧ p1.toInt ≤ 240))))) 0 0 (fun _ => False) := by
  refine Met.ofW (cc := cX11_isSpan) (maxL := 2) (ret := (some .boolean)) (by decide) rfl ?_
  intro p e s m args below meth c s₁ B hml hv
  obtain ⟨rfl, _⟩ := hv
  have hx := B.exec
  have hb := B.bytes
  have hr := B.returns
  have hts := atoms_spec (ws := wsX11_isSpan) B.pre
  have hown : s.vm.findClass RX11 = some m.cls := findClass_of_methodNamed B.named
  have hl := lv_entry ([.int p0, .int p1]) (n := 2) (Nat.le_of_ble_eq_true rfl)
  rw [lg_entry_eq]
  generalize (lg_sl ([.int p0, .int p1]) ++ List.replicate (2 - (lg_sl ([.int p0, .int p1])).length) Slot.unset).toArray = ls at hl ⊢
  have hl : lv_has ls 2 [(0, .int p0), (1, .int p1)] := hl
  refine lv_iload_n hx hb dX11_isSpan_0 rfl (lv_at hl 0 rfl) ?_
  refine fx_if_lt (tgt := 20) hx hb dX11_isSpan_1 (by decide) rfl (fun c1 => ?_) (fun c1 => ?_)
  · refine lv_iconst (v := 0) hx hb dX11_isSpan_20 (by decide) ?_
    exact W.zret (v := 0) hx hb hr rfl (fun t ht hW => ⟨0, rfl, Or.inr ⟨rfl, by omega⟩, ht⟩) (fun _ h => absurd h List.not_mem_nil) dX11_isSpan_21
  · refine lv_iload_n hx hb dX11_isSpan_4 rfl (lv_at hl 1 rfl) ?_
    refine lv_iload_n hx hb dX11_isSpan_5 rfl (lv_at hl 0 rfl) ?_
    refine fx_icmp_le (tgt := 20) hx hb dX11_isSpan_6 (by decide) rfl rfl (fun c2 => ?_) (fun c2 => ?_)
    · refine lv_iconst (v := 0) hx hb dX11_isSpan_20 (by decide) ?_
      exact W.zret (v := 0) hx hb hr rfl (fun t ht hW => ⟨0, rfl, Or.inr ⟨rfl, by omega⟩, ht⟩) (fun _ h => absurd h List.not_mem_nil) dX11_isSpan_21
    · refine lv_iload_n hx hb dX11_isSpan_9 rfl (lv_at hl 1 rfl) ?_
      refine lv_sipush (v := 240) hx hb dX11_isSpan_10 (by decide) ?_
      refine fx_icmp_gt (tgt := 20) hx hb dX11_isSpan_13 (by decide) rfl zk_240 (fun c3 => ?_) (fun c3 => ?_)
      · refine lv_iconst (v := 0) hx hb dX11_isSpan_20 (by decide) ?_
        exact W.zret (v := 0) hx hb hr rfl (fun t ht hW => ⟨0, rfl, Or.inr ⟨rfl, by omega⟩, ht⟩) (fun _ h => absurd h List.not_mem_nil) dX11_isSpan_21
      · refine lv_iconst (v := 1) hx hb dX11_isSpan_16 (by decide) ?_
        refine lv_goto (tgt := 21) hx hb dX11_isSpan_17 (by decide) ?_
        exact W.zret (v := 1) hx hb hr rfl (fun t ht hW => ⟨1, rfl, Or.inl ⟨rfl, by omega⟩, ht⟩) (fun _ h => absurd h List.not_mem_nil) dX11_isSpan_21
set_option maxHeartbeats 400000 in
set_option maxRecDepth 20000 in
theorem fc_X11_isWind (l : Launch) (p0 : Int32) : Met l yX11_isWind wsX11_isWind ({ frames := 0, cells := 0, slots := 0, locals := 0 }) (va_Pc [.int p0] (fun _ => True)) (vp_Si (fun r : Int32 => ((r = 1 ∧ (0 ≤ p0.toInt ∧ p0.toInt ≤ 4444 ∧ p0.toInt / 100 % 10 ≤ 4 ∧ p0.toInt / 10 % 10 ≤ 4 ∧ p0.toInt % 10 ≤ 4 ∧ p0.toInt / 1000 ≤ p0.toInt / 100 % 10 ∧ p0.toInt / 10 % 10 ≤ p0.toInt % 10)) ∨ (r = 0 ∧ ¬ (0 ≤ p0.toInt ∧ p0.toInt ≤ 4444 ∧ p0.toInt / 100 % 10 ≤ 4 ∧ p0.toInt / 10 % 10 ≤ 4 ∧ p0.toInt % 10 ≤ 4 ∧ p0.toInt / 1000 ≤ p0.toInt / 100 % 10 ∧ p0.toInt / 10 % 10 ≤ p0.toInt % 10))))) 0 0 (fun _ => False) := by
  refine Met.ofW (cc := cX11_isWind) (maxL := 5) (ret := (some .boolean)) (by decide) rfl ?_
  intro p e s m args below meth c s₁ B hml hv
  obtain ⟨rfl, _⟩ := hv
  have hx := B.exec
  have hb := B.bytes
  have hr := B.returns
  have hts := atoms_spec (ws := wsX11_isWind) B.pre
  have hown : s.vm.findClass RX11 = some m.cls := findClass_of_methodNamed B.named
  have hl := lv_entry ([.int p0]) (n := 5) (Nat.le_of_ble_eq_true rfl)
  rw [lg_entry_eq]
  generalize (lg_sl ([.int p0]) ++ List.replicate (5 - (lg_sl ([.int p0])).length) Slot.unset).toArray = ls at hl ⊢
  have hl : lv_has ls 5 [(0, .int p0)] := hl
  refine lv_iload_n hx hb dX11_isWind_0 rfl (lv_at hl 0 rfl) ?_
  refine fx_if_lt (tgt := 11) hx hb dX11_isWind_1 (by decide) rfl (fun c1 => ?_) (fun c1 => ?_)
  · refine lv_iconst (v := 0) hx hb dX11_isWind_11 (by decide) ?_
    exact W.zret (v := 0) hx hb hr rfl (fun t ht hW => ⟨0, rfl, Or.inr ⟨rfl, by omega⟩, ht⟩) (fun _ h => absurd h List.not_mem_nil) dX11_isWind_12
  · refine lv_iload_n hx hb dX11_isWind_4 rfl (lv_at hl 0 rfl) ?_
    refine lv_sipush (v := 4444) hx hb dX11_isWind_5 (by decide) ?_
    refine fx_icmp_le (tgt := 13) hx hb dX11_isWind_8 (by decide) rfl zk_4444 (fun c2 => ?_) (fun c2 => ?_)
    · refine lv_iload_n hx hb dX11_isWind_13 rfl (lv_at hl 0 rfl) ?_
      refine lv_sipush (v := 1000) hx hb dX11_isWind_14 (by decide) ?_
      refine fx_idiv hx hb dX11_isWind_17 rfl zk_1000 (by omega) (by omega) (fun y3 ey3 ty3 => ?_)
      refine lv_istore_n (lv' := [(1, .int y3), (0, .int p0)]) hx hb dX11_isWind_18 rfl hl (by decide) rfl (fun ls hl => ?_)
      refine lv_iload_n hx hb dX11_isWind_19 rfl (lv_at hl 1 rfl) ?_
      refine lv_bipush (v := 100) hx hb dX11_isWind_20 (by decide) ?_
      refine fx_idiv hx hb dX11_isWind_22 rfl zk_100 (by omega) (by omega) (fun y4 ey4 ty4 => ?_)
      refine lv_bipush (v := 10) hx hb dX11_isWind_23 (by decide) ?_
      refine fx_irem hx hb dX11_isWind_25 rfl zk_10 (by omega) (by omega) (fun y5 ey5 ty5 => ?_)
      refine lv_istore_n (lv' := [(2, .int y5), (1, .int y3), (0, .int p0)]) hx hb dX11_isWind_26 rfl hl (by decide) rfl (fun ls hl => ?_)
      refine lv_iload_n hx hb dX11_isWind_27 rfl (lv_at hl 2 rfl) ?_
      refine lv_bipush (v := 10) hx hb dX11_isWind_28 (by decide) ?_
      refine fx_idiv hx hb dX11_isWind_30 rfl zk_10 (by omega) (by omega) (fun y6 ey6 ty6 => ?_)
      refine lv_bipush (v := 10) hx hb dX11_isWind_31 (by decide) ?_
      refine fx_irem hx hb dX11_isWind_33 rfl zk_10 (by omega) (by omega) (fun y7 ey7 ty7 => ?_)
      refine lv_istore_n (lv' := [(3, .int y7), (2, .int y5), (1, .int y3), (0, .int p0)]) hx hb dX11_isWind_34 rfl hl (by decide) rfl (fun ls hl => ?_)
      refine lv_iload_n hx hb dX11_isWind_35 rfl (lv_at hl 3 rfl) ?_
      refine lv_bipush (v := 10) hx hb dX11_isWind_36 (by decide) ?_
      refine fx_irem hx hb dX11_isWind_38 rfl zk_10 (by omega) (by omega) (fun y8 ey8 ty8 => ?_)
      refine lv_istore (lv' := [(4, .int y8), (3, .int y7), (2, .int y5), (1, .int y3), (0, .int p0)]) hx hb dX11_isWind_39 hl (by decide) rfl (fun ls hl => ?_)
      refine lv_iload_n hx hb dX11_isWind_41 rfl (lv_at hl 2 rfl) ?_
      refine lv_iconst (v := 4) hx hb dX11_isWind_42 (by decide) ?_
      refine fx_icmp_gt (tgt := 72) hx hb dX11_isWind_43 (by decide) rfl zk_4 (fun c9 => ?_) (fun c9 => ?_)
      · refine lv_iconst (v := 0) hx hb dX11_isWind_72 (by decide) ?_
        exact W.zret (v := 0) hx hb hr rfl (fun t ht hW => ⟨0, rfl, Or.inr ⟨rfl, by omega⟩, ht⟩) (fun _ h => absurd h List.not_mem_nil) dX11_isWind_73
      · refine lv_iload_n hx hb dX11_isWind_46 rfl (lv_at hl 1 rfl) ?_
        refine lv_iconst (v := 4) hx hb dX11_isWind_47 (by decide) ?_
        refine fx_icmp_gt (tgt := 72) hx hb dX11_isWind_48 (by decide) rfl zk_4 (fun c10 => ?_) (fun c10 => ?_)
        · refine lv_iconst (v := 0) hx hb dX11_isWind_72 (by decide) ?_
          exact W.zret (v := 0) hx hb hr rfl (fun t ht hW => ⟨0, rfl, Or.inr ⟨rfl, by omega⟩, ht⟩) (fun _ h => absurd h List.not_mem_nil) dX11_isWind_73
        · refine lv_iload hx hb dX11_isWind_51 (lv_at hl 0 rfl) ?_
          refine lv_iconst (v := 4) hx hb dX11_isWind_53 (by decide) ?_
          refine fx_icmp_gt (tgt := 72) hx hb dX11_isWind_54 (by decide) rfl zk_4 (fun c11 => ?_) (fun c11 => ?_)
          · refine lv_iconst (v := 0) hx hb dX11_isWind_72 (by decide) ?_
            exact W.zret (v := 0) hx hb hr rfl (fun t ht hW => ⟨0, rfl, Or.inr ⟨rfl, by omega⟩, ht⟩) (fun _ h => absurd h List.not_mem_nil) dX11_isWind_73
          · refine lv_iload_n hx hb dX11_isWind_57 rfl (lv_at hl 3 rfl) ?_
            refine lv_iload_n hx hb dX11_isWind_58 rfl (lv_at hl 2 rfl) ?_
            refine fx_icmp_gt (tgt := 72) hx hb dX11_isWind_59 (by decide) rfl rfl (fun c12 => ?_) (fun c12 => ?_)
            · refine lv_iconst (v := 0) hx hb dX11_isWind_72 (by decide) ?_
              exact W.zret (v := 0) hx hb hr rfl (fun t ht hW => ⟨0, rfl, Or.inr ⟨rfl, by omega⟩, ht⟩) (fun _ h => absurd h List.not_mem_nil) dX11_isWind_73
            · refine lv_iload_n hx hb dX11_isWind_62 rfl (lv_at hl 1 rfl) ?_
              refine lv_iload hx hb dX11_isWind_63 (lv_at hl 0 rfl) ?_
              refine fx_icmp_gt (tgt := 72) hx hb dX11_isWind_65 (by decide) rfl rfl (fun c13 => ?_) (fun c13 => ?_)
              · refine lv_iconst (v := 0) hx hb dX11_isWind_72 (by decide) ?_
                exact W.zret (v := 0) hx hb hr rfl (fun t ht hW => ⟨0, rfl, Or.inr ⟨rfl, by omega⟩, ht⟩) (fun _ h => absurd h List.not_mem_nil) dX11_isWind_73
              · refine lv_iconst (v := 1) hx hb dX11_isWind_68 (by decide) ?_
                refine lv_goto (tgt := 73) hx hb dX11_isWind_69 (by decide) ?_
                exact W.zret (v := 1) hx hb hr rfl (fun t ht hW => ⟨1, rfl, Or.inl ⟨rfl, by omega⟩, ht⟩) (fun _ h => absurd h List.not_mem_nil) dX11_isWind_73
    · refine lv_iconst (v := 0) hx hb dX11_isWind_11 (by decide) ?_
      exact W.zret (v := 0) hx hb hr rfl (fun t ht hW => ⟨0, rfl, Or.inr ⟨rfl, by omega⟩, ht⟩) (fun _ h => absurd h List.not_mem_nil) dX11_isWind_12
set_option maxHeartbeats 400000 in
set_option maxRecDepth 20000 in
theorem fc_X11_has (l : Launch) (p0 : Int64) (p1 : Int32) : Met l yX11_has wsX11_has ({ frames := 0, cells := 0, slots := 0, locals := 0 }) (va_Pc [.long p0, .int p1] (fun _ => True)) (vp_Si (fun r : Int32 => ((r = 1 ∧ (rt_has p0 p1)) ∨ (r = 0 ∧ ¬ (rt_has p0 p1))))) 0 0 (fun _ => False) := by
  refine Met.ofW (cc := cX11_has) (maxL := 3) (ret := (some .boolean)) (by decide) rfl ?_
  intro p e s m args below meth c s₁ B hml hv
  obtain ⟨rfl, _⟩ := hv
  have hx := B.exec
  have hb := B.bytes
  have hr := B.returns
  have hts := atoms_spec (ws := wsX11_has) B.pre
  have hown : s.vm.findClass RX11 = some m.cls := findClass_of_methodNamed B.named
  have hl := lv_entry ([.long p0, .int p1]) (n := 3) (Nat.le_of_ble_eq_true rfl)
  rw [lg_entry_eq]
  generalize (lg_sl ([.long p0, .int p1]) ++ List.replicate (3 - (lg_sl ([.long p0, .int p1])).length) Slot.unset).toArray = ls at hl ⊢
  have hl : lv_has ls 3 [(0, .long p0), (2, .int p1)] := hl
  refine lv_lload_n hx hb dX11_has_0 rfl (lv_at hl 0 rfl) ?_
  refine lv_iload_n hx hb dX11_has_1 rfl (lv_at hl 1 rfl) ?_
  refine lv_lushr (v := (p0.toUInt64 >>> (p1.toInt64.toUInt64 &&& Int64.toUInt64 63)).toInt64) hx hb dX11_has_2 rfl ?_
  refine lv_topl (fun y1 ey1 => ?_)
  refine lv_lconst (v := 1) hx hb dX11_has_3 (by decide) ?_
  refine lv_land hx hb dX11_has_4 ?_
  refine lv_topl (fun y2 ey2 => ?_)
  refine lv_lconst (v := 0) hx hb dX11_has_5 (by decide) ?_
  refine W.lcmp hx hb dX11_has_6 ?_
  refine fx_lif_eq (tgt := 14) hx hb dX11_has_7 (by decide) (fun c3 => ?_) (fun c3 => ?_)
  · refine lv_iconst (v := 0) hx hb dX11_has_14 (by decide) ?_
    exact W.zret (v := 0) hx hb hr rfl (fun t ht hW => ⟨0, rfl, Or.inr ⟨rfl, by subst_vars; exact fun z => z (by first | assumption | (apply Eq.symm; assumption))⟩, ht⟩) (fun _ h => absurd h List.not_mem_nil) dX11_has_15
  · refine lv_iconst (v := 1) hx hb dX11_has_10 (by decide) ?_
    refine lv_goto (tgt := 15) hx hb dX11_has_11 (by decide) ?_
    exact W.zret (v := 1) hx hb hr rfl (fun t ht hW => ⟨1, rfl, Or.inl ⟨rfl, by subst_vars; assumption⟩, ht⟩) (fun _ h => absurd h List.not_mem_nil) dX11_has_15
set_option maxHeartbeats 400000 in
set_option maxRecDepth 20000 in
theorem fc_X11_apart (l : Launch) (p0 p1 : Int32) (b_p0 : 0 ≤ p0.toInt ∧ p0.toInt ≤ 63) (b_p1 : 0 ≤ p1.toInt ∧ p1.toInt ≤ 63) : Met l yX11_apart wsX11_apart ({ frames := 1, cells := 0, slots := 0, locals := 13 }) (va_Pc [.int p0, .int p1] (fun _ => True)) (vp_Si (fun r : Int32 => (0 ≤ r.toInt ∧ r.toInt ≤ 7) ∧ (r.toInt = rt_ap p0.toInt p1.toInt))) 0 0 (fun _ => False) := by
  refine Met.ofW (cc := cX11_apart) (maxL := 4) (ret := (some .int)) (by decide) rfl ?_
  intro p e s m args below meth c s₁ B hml hv
  obtain ⟨rfl, _⟩ := hv
  have hx := B.exec
  have hb := B.bytes
  have hr := B.returns
  have hts := atoms_spec (ws := wsX11_apart) B.pre
  have hown : s.vm.findClass RX11 = some m.cls := findClass_of_methodNamed B.named
  have hl := lv_entry ([.int p0, .int p1]) (n := 4) (Nat.le_of_ble_eq_true rfl)
  rw [lg_entry_eq]
  generalize (lg_sl ([.int p0, .int p1]) ++ List.replicate (4 - (lg_sl ([.int p0, .int p1])).length) Slot.unset).toArray = ls at hl ⊢
  have hl : lv_has ls 4 [(0, .int p0), (1, .int p1)] := hl
  refine lv_iload_n hx hb dX11_apart_0 rfl (lv_at hl 0 rfl) ?_
  refine lv_bipush (v := 8) hx hb dX11_apart_1 (by decide) ?_
  refine fx_irem hx hb dX11_apart_3 rfl zk_8 (by omega) (by omega) (fun y1 ey1 ty1 => ?_)
  refine lv_iload_n hx hb dX11_apart_4 rfl (lv_at hl 1 rfl) ?_
  refine lv_bipush (v := 8) hx hb dX11_apart_5 (by decide) ?_
  refine fx_irem hx hb dX11_apart_7 rfl zk_8 (by omega) (by omega) (fun y2 ey2 ty2 => ?_)
  refine fx_isub hx hb dX11_apart_8 rfl rfl (by omega) (fun y3 ey3 ty3 => ?_)
  refine va_mabs hx hb (by rw [hml]; exact hl.1.symm) hown (hts (.methodLink RX11 395 Lib.Math.abs.name) (List.mem_cons_of_mem _ tw_3_121)) (hts (.static Lib.Math.abs.name) (List.mem_cons_of_mem _ tw_3_122)) (hts (.initialized "java/lang/Math") (List.mem_cons_of_mem _ tw_1_17)) (hts (.code Lib.Math.abs.name Lib.Math.abs.code 1 (some .int)) (List.mem_cons_of_mem _ tw_3_123)) (Nat.le_of_ble_eq_true rfl) (Nat.le_of_ble_eq_true rfl) (Nat.le_of_ble_eq_true rfl) (Nat.le_of_ble_eq_true rfl) dX11_apart_9 ?_
  refine lv_topi (fun y4 ey4 => ?_)
  have ty4 : y4.toInt = if 0 ≤ y3.toInt then y3.toInt else -y3.toInt := by rw [ey4]; exact zi_abs rfl (by omega)
  refine lv_istore_n (lv' := [(2, .int y4), (0, .int p0), (1, .int p1)]) hx hb dX11_apart_12 rfl hl (by decide) rfl (fun ls hl => ?_)
  refine lv_iload_n hx hb dX11_apart_13 rfl (lv_at hl 1 rfl) ?_
  refine lv_bipush (v := 8) hx hb dX11_apart_14 (by decide) ?_
  refine fx_idiv hx hb dX11_apart_16 rfl zk_8 (by omega) (by omega) (fun y5 ey5 ty5 => ?_)
  refine lv_iload_n hx hb dX11_apart_17 rfl (lv_at hl 2 rfl) ?_
  refine lv_bipush (v := 8) hx hb dX11_apart_18 (by decide) ?_
  refine fx_idiv hx hb dX11_apart_20 rfl zk_8 (by omega) (by omega) (fun y6 ey6 ty6 => ?_)
  refine fx_isub hx hb dX11_apart_21 rfl rfl (by omega) (fun y7 ey7 ty7 => ?_)
  refine va_mabs hx hb (by rw [hml]; exact hl.1.symm) hown (hts (.methodLink RX11 395 Lib.Math.abs.name) (List.mem_cons_of_mem _ tw_3_121)) (hts (.static Lib.Math.abs.name) (List.mem_cons_of_mem _ tw_3_122)) (hts (.initialized "java/lang/Math") (List.mem_cons_of_mem _ tw_1_17)) (hts (.code Lib.Math.abs.name Lib.Math.abs.code 1 (some .int)) (List.mem_cons_of_mem _ tw_3_123)) (Nat.le_of_ble_eq_true rfl) (Nat.le_of_ble_eq_true rfl) (Nat.le_of_ble_eq_true rfl) (Nat.le_of_ble_eq_true rfl) dX11_apart_22 ?_
  refine lv_topi (fun y8 ey8 => ?_)
  have ty8 : y8.toInt = if 0 ≤ y7.toInt then y7.toInt else -y7.toInt := by rw [ey8]; exact zi_abs rfl (by omega)
  refine lv_istore_n (lv' := [(3, .int y8), (2, .int y4), (0, .int p0), (1, .int p1)]) hx hb dX11_apart_25 rfl hl (by decide) rfl (fun ls hl => ?_)
  refine lv_iload_n hx hb dX11_apart_26 rfl (lv_at hl 1 rfl) ?_
  refine lv_iload_n hx hb dX11_apart_27 rfl (lv_at hl 0 rfl) ?_
  refine va_mmax hx hb (by rw [hml]; exact hl.1.symm) hown (hts (.methodLink RX11 400 Lib.Math.max.name) (List.mem_cons_of_mem _ tw_3_124)) (hts (.static Lib.Math.max.name) (List.mem_cons_of_mem _ tw_2_156)) (hts (.initialized "java/lang/Math") (List.mem_cons_of_mem _ tw_1_17)) (hts (.code Lib.Math.max.name Lib.Math.max.code 2 (some .int)) (List.mem_cons_of_mem _ tw_2_157)) (Nat.le_of_ble_eq_true rfl) (Nat.le_of_ble_eq_true rfl) (Nat.le_of_ble_eq_true rfl) (Nat.le_of_ble_eq_true rfl) dX11_apart_28 ?_
  refine lv_topi (fun y9 ey9 => ?_)
  have ty9 : y9.toInt = if y4.toInt < y8.toInt then y8.toInt else y4.toInt := by rw [ey9]; exact zi_max rfl rfl
  exact W.iret (v := y9) hx hb hr (fun t ht hW => ⟨y9, rfl, ⟨(by omega), (by unfold rt_ap rt_ab; omega)⟩, ht⟩) (fun _ h => absurd h List.not_mem_nil) dX11_apart_31
set_option maxHeartbeats 400000 in
set_option maxRecDepth 20000 in
theorem fc_X11_byColumns (l : Launch) (p0 : Int64) (p1 : Int32) : Met l yX11_byColumns wsX11_byColumns ({ frames := 0, cells := 0, slots := 0, locals := 0 }) (va_Pc [.long p0, .int p1] (fun _ => True)) (vp_Sl (fun r : Int64 => (r = rt_byC p0 p1))) 0 0 (fun _ => False) := by
  refine Met.ofW (cc := cX11_byColumns) (maxL := 5) (ret := (some .long)) (by decide) rfl ?_
  intro p e s m args below meth c s₁ B hml hv
  obtain ⟨rfl, _⟩ := hv
  have hx := B.exec
  have hb := B.bytes
  have hr := B.returns
  have hts := atoms_spec (ws := wsX11_byColumns) B.pre
  have hown : s.vm.findClass RX11 = some m.cls := findClass_of_methodNamed B.named
  have hl := lv_entry ([.long p0, .int p1]) (n := 5) (Nat.le_of_ble_eq_true rfl)
  rw [lg_entry_eq]
  generalize (lg_sl ([.long p0, .int p1]) ++ List.replicate (5 - (lg_sl ([.long p0, .int p1])).length) Slot.unset).toArray = ls at hl ⊢
  have hl : lv_has ls 5 [(0, .long p0), (2, .int p1)] := hl
  refine lv_ldc2 (v := 72340172838076673) hx hb hown (hts (.constantLong RX11 406 (72340172838076673)) (List.mem_cons_of_mem _ tw_3_62)) dX11_byColumns_0 ?_
  refine lv_lstore_n (lv' := [(3, .long 72340172838076673), (0, .long p0), (2, .int p1)]) hx hb dX11_byColumns_3 rfl hl (by decide) rfl (fun ls hl => ?_)
  refine lv_iload_n hx hb dX11_byColumns_4 rfl (lv_at hl 2 rfl) ?_
  refine fx_if_lt (tgt := 21) hx hb dX11_byColumns_5 (by decide) rfl (fun c1 => ?_) (fun c1 => ?_)
  · refine lv_lload_n hx hb dX11_byColumns_21 rfl (lv_at hl 1 rfl) ?_
    refine lv_lload_n hx hb dX11_byColumns_22 rfl (lv_at hl 0 rfl) ?_
    refine lv_sipush (v := 255) hx hb dX11_byColumns_23 (by decide) ?_
    refine lv_iload_n hx hb dX11_byColumns_26 rfl (lv_at hl 2 rfl) ?_
    refine lv_ineg hx hb dX11_byColumns_27 ?_
    refine lv_topi (fun y2 ey2 => ?_)
    refine lv_ishl hx hb dX11_byColumns_28 ?_
    refine lv_topi (fun y3 ey3 => ?_)
    refine lv_sipush (v := 255) hx hb dX11_byColumns_29 (by decide) ?_
    refine lv_iand hx hb dX11_byColumns_32 ?_
    refine lv_topi (fun y4 ey4 => ?_)
    refine fx_i2l hx hb dX11_byColumns_33 rfl (fun y5 ey5 ty5 => ?_)
    refine lv_lmul hx hb dX11_byColumns_34 ?_
    refine lv_topl (fun y6 ey6 => ?_)
    refine lv_land hx hb dX11_byColumns_35 ?_
    refine lv_topl (fun y7 ey7 => ?_)
    refine lv_iload_n hx hb dX11_byColumns_36 rfl (lv_at hl 2 rfl) ?_
    refine lv_ineg hx hb dX11_byColumns_37 ?_
    refine lv_topi (fun y8 ey8 => ?_)
    refine lv_lushr (v := (y7.toUInt64 >>> (y8.toInt64.toUInt64 &&& Int64.toUInt64 63)).toInt64) hx hb dX11_byColumns_38 rfl ?_
    refine lv_topl (fun y9 ey9 => ?_)
    exact W.lret (v := y9) hx hb hr (fun t ht hW => ⟨y9, rfl, (by show y9 = _; unfold rt_byC; rw [if_pos (by omega)]; subst_vars; rfl), ht⟩) (fun _ h => absurd h List.not_mem_nil) dX11_byColumns_39
  · refine lv_lload_n hx hb dX11_byColumns_8 rfl (lv_at hl 1 rfl) ?_
    refine lv_lload_n hx hb dX11_byColumns_9 rfl (lv_at hl 0 rfl) ?_
    refine lv_sipush (v := 255) hx hb dX11_byColumns_10 (by decide) ?_
    refine lv_iload_n hx hb dX11_byColumns_13 rfl (lv_at hl 2 rfl) ?_
    refine lv_ishr hx hb dX11_byColumns_14 ?_
    refine lv_topi (fun y10 ey10 => ?_)
    refine fx_i2l hx hb dX11_byColumns_15 rfl (fun y11 ey11 ty11 => ?_)
    refine lv_lmul hx hb dX11_byColumns_16 ?_
    refine lv_topl (fun y12 ey12 => ?_)
    refine lv_land hx hb dX11_byColumns_17 ?_
    refine lv_topl (fun y13 ey13 => ?_)
    refine lv_iload_n hx hb dX11_byColumns_18 rfl (lv_at hl 2 rfl) ?_
    refine lv_lshl (v := y13 <<< (p1.toInt64 &&& 63)) hx hb dX11_byColumns_19 rfl ?_
    refine lv_topl (fun y14 ey14 => ?_)
    exact W.lret (v := y14) hx hb hr (fun t ht hW => ⟨y14, rfl, (by show y14 = _; unfold rt_byC; rw [if_neg (by omega)]; subst_vars; rfl), ht⟩) (fun _ h => absurd h List.not_mem_nil) dX11_byColumns_20
set_option maxHeartbeats 400000 in
set_option maxRecDepth 20000 in
theorem fc_X11_byRows (l : Launch) (p0 : Int64) (p1 : Int32) : Met l yX11_byRows wsX11_byRows ({ frames := 0, cells := 0, slots := 0, locals := 0 }) (va_Pc [.long p0, .int p1] (fun _ => True)) (vp_Sl (fun r : Int64 => (r = rt_byR p0 p1))) 0 0 (fun _ => False) := by
  refine Met.ofW (cc := cX11_byRows) (maxL := 3) (ret := (some .long)) (by decide) rfl ?_
  intro p e s m args below meth c s₁ B hml hv
  obtain ⟨rfl, _⟩ := hv
  have hx := B.exec
  have hb := B.bytes
  have hr := B.returns
  have hts := atoms_spec (ws := wsX11_byRows) B.pre
  have hown : s.vm.findClass RX11 = some m.cls := findClass_of_methodNamed B.named
  have hl := lv_entry ([.long p0, .int p1]) (n := 3) (Nat.le_of_ble_eq_true rfl)
  rw [lg_entry_eq]
  generalize (lg_sl ([.long p0, .int p1]) ++ List.replicate (3 - (lg_sl ([.long p0, .int p1])).length) Slot.unset).toArray = ls at hl ⊢
  have hl : lv_has ls 3 [(0, .long p0), (2, .int p1)] := hl
  refine lv_iload_n hx hb dX11_byRows_0 rfl (lv_at hl 1 rfl) ?_
  refine fx_if_lt (tgt := 13) hx hb dX11_byRows_1 (by decide) rfl (fun c1 => ?_) (fun c1 => ?_)
  · refine lv_lload_n hx hb dX11_byRows_13 rfl (lv_at hl 0 rfl) ?_
    refine lv_bipush (v := 8) hx hb dX11_byRows_14 (by decide) ?_
    refine lv_iload_n hx hb dX11_byRows_16 rfl (lv_at hl 1 rfl) ?_
    refine lv_ineg hx hb dX11_byRows_17 ?_
    refine lv_topi (fun y2 ey2 => ?_)
    refine fx_imulU hx hb dX11_byRows_18 (fun y3 ey3 => ?_)
    refine lv_lushr (v := (p0.toUInt64 >>> (y3.toInt64.toUInt64 &&& Int64.toUInt64 63)).toInt64) hx hb dX11_byRows_19 rfl ?_
    refine lv_topl (fun y4 ey4 => ?_)
    exact W.lret (v := y4) hx hb hr (fun t ht hW => ⟨y4, rfl, (by show y4 = _; unfold rt_byR; rw [if_pos (by omega)]; subst_vars; rfl), ht⟩) (fun _ h => absurd h List.not_mem_nil) dX11_byRows_20
  · refine lv_lload_n hx hb dX11_byRows_4 rfl (lv_at hl 0 rfl) ?_
    refine lv_bipush (v := 8) hx hb dX11_byRows_5 (by decide) ?_
    refine lv_iload_n hx hb dX11_byRows_7 rfl (lv_at hl 1 rfl) ?_
    refine fx_imulU hx hb dX11_byRows_8 (fun y5 ey5 => ?_)
    refine lv_lshl (v := p0 <<< (y5.toInt64 &&& 63)) hx hb dX11_byRows_9 rfl ?_
    refine lv_topl (fun y6 ey6 => ?_)
    refine lv_goto (tgt := 20) hx hb dX11_byRows_10 (by decide) ?_
    exact W.lret (v := y6) hx hb hr (fun t ht hW => ⟨y6, rfl, (by show y6 = _; unfold rt_byR; rw [if_neg (by omega)]; subst_vars; rfl), ht⟩) (fun _ h => absurd h List.not_mem_nil) dX11_byRows_20
set_option maxHeartbeats 400000 in
set_option maxRecDepth 20000 in
theorem fc_X11_nearest (l : Launch) (p0 : Int32) (p1 : Int64) (b_p0 : 0 ≤ p0.toInt ∧ p0.toInt ≤ 63) : Met l yX11_nearest wsX11_nearest ({ frames := 2, cells := 0, slots := 0, locals := 36 }) (va_Pc [.int p0, .long p1] (fun _ => True)) (vp_Si (fun r : Int32 => (0 ≤ r.toInt ∧ r.toInt ≤ 99))) 0 0 (fun _ => False) := by
  refine Met.ofW (cc := cX11_nearest) (maxL := 5) (ret := (some .int)) (by decide) rfl ?_
  intro p e s m args below meth c s₁ B hml hv
  obtain ⟨rfl, _⟩ := hv
  have hx := B.exec
  have hb := B.bytes
  have hr := B.returns
  have hts := atoms_spec (ws := wsX11_nearest) B.pre
  have hown : s.vm.findClass RX11 = some m.cls := findClass_of_methodNamed B.named
  have hl := lv_entry ([.int p0, .long p1]) (n := 5) (Nat.le_of_ble_eq_true rfl)
  rw [lg_entry_eq]
  generalize (lg_sl ([.int p0, .long p1]) ++ List.replicate (5 - (lg_sl ([.int p0, .long p1])).length) Slot.unset).toArray = ls at hl ⊢
  have hl : lv_has ls 5 [(0, .int p0), (1, .long p1)] := hl
  refine lv_bipush (v := 99) hx hb dX11_nearest_0 (by decide) ?_
  refine lv_istore_n (lv' := [(3, .int 99), (0, .int p0), (1, .long p1)]) hx hb dX11_nearest_2 rfl hl (by decide) rfl (fun ls hl => ?_)
  refine lv_iconst (v := 0) hx hb dX11_nearest_3 (by decide) ?_
  refine lv_istore (lv' := [(4, .int 0), (3, .int 99), (0, .int p0), (1, .long p1)]) hx hb dX11_nearest_4 hl (by decide) rfl (fun ls hl => ?_)
  have lp : ∀ (n_lp : Nat) (lp_4 : Int32) (lp_3 : Int32), (64 - lp_4.toInt).toNat < n_lp → (0 ≤ lp_4.toInt ∧ lp_4.toInt ≤ 64) → (0 ≤ lp_3.toInt ∧ lp_3.toInt ≤ 99) → ∀ (ls : Array Slot), lv_has ls 5 [(4, .int lp_4), (3, .int lp_3), (0, .int p0), (1, .long p1)] → W p l e (headSpec wsX11_nearest ({ frames := 2, cells := 0, slots := 0, locals := 36 })).room s m ([.int p0, .long p1] : List Value).toArray below meth c s.heap [] 0 0 (MQ below (vp_Si (fun r : Int32 => (0 ≤ r.toInt ∧ r.toInt ≤ 99))) ([.int p0, .long p1] : List Value).toArray s 0 0 (fun _ => False)) (F0 m 6 ls []) := by
    intro n_lp
    induction n_lp with
    | zero => intro lp_4 lp_3 hm_lp b_lp_4 b_lp_3 ls hl; exact absurd hm_lp (Nat.not_lt_zero _)
    | succ n_lp ih_lp =>
      intro lp_4 lp_3 hm_lp b_lp_4 b_lp_3 ls hl
      refine lv_iload hx hb dX11_nearest_6 (lv_at hl 0 rfl) ?_
      refine lv_bipush (v := 64) hx hb dX11_nearest_8 (by decide) ?_
      refine fx_icmp_ge (tgt := 39) hx hb dX11_nearest_10 (by decide) rfl zk_64 (fun c1 => ?_) (fun c1 => ?_)
      · refine lv_iload_n hx hb dX11_nearest_39 rfl (lv_at hl 1 rfl) ?_
        exact W.iret (v := lp_3) hx hb hr (fun t ht hW => ⟨lp_3, rfl, (by omega), ht⟩) (fun _ h => absurd h List.not_mem_nil) dX11_nearest_40
      · refine lv_lload_n hx hb dX11_nearest_13 rfl (lv_at hl 3 rfl) ?_
        refine lv_iload hx hb dX11_nearest_14 (lv_at hl 0 rfl) ?_
        refine vp_callSi (va_Run.run (va_runS (As := [.long p1, .int lp_4]) (rest := []) ⟨hx, hb, hml, hown, hts⟩ (fc_X11_has l p1 lp_4) (va_cwS 2 hts gX11_nearest_X11_has rfl rfl rfl (by decide +kernel) ⟨Nat.le_of_ble_eq_true rfl, Nat.le_of_ble_eq_true rfl⟩) ⟨fun a U g mk q => q, fun U hU hW => ⟨rfl, trivial⟩⟩ rfl rfl hl.1 rfl (lv_room (Nat.le_of_ble_eq_true rfl)) dX11_nearest_16 ⟨by decide +kernel, by decide +kernel⟩)) (fun r2 hr2 => ?_)
        rcases hr2 with ⟨rfl, c3⟩ | ⟨rfl, c3⟩
        · refine fx_if_eq (tgt := 33) hx hb dX11_nearest_19 (by decide) zk_1 (fun c4 => by exfalso; omega) (fun c4 => ?_)
          refine lv_iload_n hx hb dX11_nearest_22 rfl (lv_at hl 1 rfl) ?_
          refine lv_iload_n hx hb dX11_nearest_23 rfl (lv_at hl 2 rfl) ?_
          refine lv_iload hx hb dX11_nearest_24 (lv_at hl 0 rfl) ?_
          refine vp_callSi (va_Run.run (va_runS (As := [.int p0, .int lp_4]) (rest := [.int lp_3]) ⟨hx, hb, hml, hown, hts⟩ (fc_X11_apart l p0 lp_4 (by omega) (by omega)) (va_cwS 2 hts gX11_nearest_X11_apart rfl rfl rfl (by decide +kernel) ⟨Nat.le_of_ble_eq_true rfl, Nat.le_of_ble_eq_true rfl⟩) ⟨fun a U g mk q => q, fun U hU hW => ⟨rfl, trivial⟩⟩ rfl rfl hl.1 rfl (lv_room (Nat.le_of_ble_eq_true rfl)) dX11_nearest_26 ⟨by decide +kernel, by decide +kernel⟩)) (fun r5 hr5 => ?_)
          obtain ⟨br5, qr5⟩ := hr5
          refine va_mmin hx hb (by rw [hml]; exact hl.1.symm) hown (hts (.methodLink RX11 403 Lib.Math.min.name) (List.mem_cons_of_mem _ tw_4_237)) (hts (.static Lib.Math.min.name) (List.mem_cons_of_mem _ tw_2_181)) (hts (.initialized "java/lang/Math") (List.mem_cons_of_mem _ tw_1_17)) (hts (.code Lib.Math.min.name Lib.Math.min.code 2 (some .int)) (List.mem_cons_of_mem _ tw_2_182)) (Nat.le_of_ble_eq_true rfl) (Nat.le_of_ble_eq_true rfl) (Nat.le_of_ble_eq_true rfl) (Nat.le_of_ble_eq_true rfl) dX11_nearest_29 ?_
          refine lv_topi (fun y6 ey6 => ?_)
          have ty6 : y6.toInt = if r5.toInt < lp_3.toInt then r5.toInt else lp_3.toInt := by rw [ey6]; exact zi_min rfl rfl
          refine lv_istore_n (lv' := [(3, .int y6), (4, .int lp_4), (0, .int p0), (1, .long p1)]) hx hb dX11_nearest_32 rfl hl (by decide) rfl (fun ls hl => ?_)
          obtain ⟨y7, ey7⟩ : ∃ y : Int32, y = lp_4 + 1 := ⟨_, rfl⟩
          have ty7 : y7.toInt = lp_4.toInt + 1 := by rw [ey7, zi_add _ _ (by rw [zk_1]; omega) (by rw [zk_1]; omega), zk_1]
          refine lv_iinc (v := y7) (lv' := [(4, .int y7), (3, .int y6), (0, .int p0), (1, .long p1)]) hx hb dX11_nearest_33 hl (k := 1) rfl (by rw [ey7]; rfl) (by decide) rfl (fun ls hl => ?_)
          refine lv_goto (tgt := 6) hx hb dX11_nearest_36 (by decide) ?_
          exact ih_lp y7 y6 (by omega) (by omega) (by omega) ls (lv_sub hl [0, 1, 2, 3] rfl)
        · refine fx_if_eq (tgt := 33) hx hb dX11_nearest_19 (by decide) zk_0 (fun c8 => ?_) (fun c8 => by exfalso; omega)
          obtain ⟨y9, ey9⟩ : ∃ y : Int32, y = lp_4 + 1 := ⟨_, rfl⟩
          have ty9 : y9.toInt = lp_4.toInt + 1 := by rw [ey9, zi_add _ _ (by rw [zk_1]; omega) (by rw [zk_1]; omega), zk_1]
          refine lv_iinc (v := y9) (lv' := [(4, .int y9), (3, .int lp_3), (0, .int p0), (1, .long p1)]) hx hb dX11_nearest_33 hl (k := 0) rfl (by rw [ey9]; rfl) (by decide) rfl (fun ls hl => ?_)
          refine lv_goto (tgt := 6) hx hb dX11_nearest_36 (by decide) ?_
          exact ih_lp y9 lp_3 (by omega) (by omega) (by omega) ls (lv_sub hl [0, 1, 2, 3] rfl)
  exact lp _ 0 99 (Nat.lt_succ_self _) (by decide) (by decide) ls (lv_sub hl [0, 1, 2, 3] rfl)
set_option maxHeartbeats 400000 in
set_option maxRecDepth 20000 in
theorem fc_X4_digit (l : Launch) (p0 : Int64) (p1 : Int32) : Met l yX4_digit wsX4_digit ({ frames := 0, cells := 0, slots := 0, locals := 0 }) (va_Pc [.long p0, .int p1] (fun _ => True)) (vp_Si (fun r : Int32 => (r = rt_dg p0 p1))) 0 0 (fun _ => False) := by
  refine Met.ofW (cc := cX4_digit) (maxL := 3) (ret := (some .int)) (by decide) rfl ?_
  intro p e s m args below meth c s₁ B hml hv
  obtain ⟨rfl, _⟩ := hv
  have hx := B.exec
  have hb := B.bytes
  have hr := B.returns
  have hts := atoms_spec (ws := wsX4_digit) B.pre
  have hown : s.vm.findClass RX4 = some m.cls := findClass_of_methodNamed B.named
  have hl := lv_entry ([.long p0, .int p1]) (n := 3) (Nat.le_of_ble_eq_true rfl)
  rw [lg_entry_eq]
  generalize (lg_sl ([.long p0, .int p1]) ++ List.replicate (3 - (lg_sl ([.long p0, .int p1])).length) Slot.unset).toArray = ls at hl ⊢
  have hl : lv_has ls 3 [(0, .long p0), (2, .int p1)] := hl
  refine lv_lload_n hx hb dX4_digit_0 rfl (lv_at hl 0 rfl) ?_
  refine lv_iconst (v := 4) hx hb dX4_digit_1 (by decide) ?_
  refine lv_iload_n hx hb dX4_digit_2 rfl (lv_at hl 1 rfl) ?_
  refine fx_imulU hx hb dX4_digit_3 (fun y1 ey1 => ?_)
  refine lv_lushr (v := (p0.toUInt64 >>> (y1.toInt64.toUInt64 &&& Int64.toUInt64 63)).toInt64) hx hb dX4_digit_4 rfl ?_
  refine lv_topl (fun y2 ey2 => ?_)
  refine lv_ldc2 (v := 15) hx hb hown (hts (.constantLong RX4 69 (15)) (List.mem_cons_of_mem _ tw_3_148)) dX4_digit_5 ?_
  refine lv_land hx hb dX4_digit_8 ?_
  refine lv_topl (fun y3 ey3 => ?_)
  refine lv_l2i (v := y3.toInt32) hx hb dX4_digit_9 rfl ?_
  refine lv_topi (fun y4 ey4 => ?_)
  exact W.iret (v := y4) hx hb hr (fun t ht hW => ⟨y4, rfl, (by subst_vars; rfl), ht⟩) (fun _ h => absurd h List.not_mem_nil) dX4_digit_10
set_option maxHeartbeats 400000 in
set_option maxRecDepth 20000 in
theorem fc_X9_truth (l : Launch) (p0 : Int32) : Met l yX9_truth wsX9_truth ({ frames := 0, cells := 0, slots := 0, locals := 0 }) (va_Pc [.int p0] (fun _ => True)) (vp_Si (fun r : Int32 => (0 ≤ r.toInt ∧ r.toInt ≤ 1))) 0 0 (fun _ => False) := by
  refine Met.ofW (cc := cX9_truth) (maxL := 1) (ret := (some .int)) (by decide) rfl ?_
  intro p e s m args below meth c s₁ B hml hv
  obtain ⟨rfl, _⟩ := hv
  have hx := B.exec
  have hb := B.bytes
  have hr := B.returns
  have hts := atoms_spec (ws := wsX9_truth) B.pre
  have hown : s.vm.findClass RX9 = some m.cls := findClass_of_methodNamed B.named
  have hl := lv_entry ([.int p0]) (n := 1) (Nat.le_of_ble_eq_true rfl)
  rw [lg_entry_eq]
  generalize (lg_sl ([.int p0]) ++ List.replicate (1 - (lg_sl ([.int p0])).length) Slot.unset).toArray = ls at hl ⊢
  have hl : lv_has ls 1 [(0, .int p0)] := hl
  refine lv_iload_n hx hb dX9_truth_0 rfl (lv_at hl 0 rfl) ?_
  refine fx_if_eq (tgt := 8) hx hb dX9_truth_1 (by decide) rfl (fun c1 => ?_) (fun c1 => ?_)
  · refine lv_iconst (v := 0) hx hb dX9_truth_8 (by decide) ?_
    exact W.iret (v := 0) hx hb hr (fun t ht hW => ⟨0, rfl, (by decide), ht⟩) (fun _ h => absurd h List.not_mem_nil) dX9_truth_9
  · refine lv_iconst (v := 1) hx hb dX9_truth_4 (by decide) ?_
    refine lv_goto (tgt := 9) hx hb dX9_truth_5 (by decide) ?_
    exact W.iret (v := 1) hx hb hr (fun t ht hW => ⟨1, rfl, (by decide), ht⟩) (fun _ h => absurd h List.not_mem_nil) dX9_truth_9
set_option maxHeartbeats 400000 in
set_option maxRecDepth 20000 in
theorem fc_X9_joined (l : Launch) (p0 p1 p2 : Int32) : Met l yX9_joined wsX9_joined ({ frames := 1, cells := 0, slots := 0, locals := 20 }) (va_Pc [.int p0, .int p1, .int p2] (fun _ => True)) (vp_Si (fun r : Int32 => True)) 0 0 (fun _ => False) := by
  refine Met.ofW (cc := cX9_joined) (maxL := 3) (ret := (some .int)) (by decide) rfl ?_
  intro p e s m args below meth c s₁ B hml hv
  obtain ⟨rfl, _⟩ := hv
  have hx := B.exec
  have hb := B.bytes
  have hr := B.returns
  have hts := atoms_spec (ws := wsX9_joined) B.pre
  have hown : s.vm.findClass RX9 = some m.cls := findClass_of_methodNamed B.named
  have hl := lv_entry ([.int p0, .int p1, .int p2]) (n := 3) (Nat.le_of_ble_eq_true rfl)
  rw [lg_entry_eq]
  generalize (lg_sl ([.int p0, .int p1, .int p2]) ++ List.replicate (3 - (lg_sl ([.int p0, .int p1, .int p2])).length) Slot.unset).toArray = ls at hl ⊢
  have hl : lv_has ls 3 [(0, .int p0), (1, .int p1), (2, .int p2)] := hl
  refine lv_iload_n hx hb dX9_joined_0 rfl (lv_at hl 0 rfl) ?_
  rcases (show p0.toInt < -17 ∨ -11 < p0.toInt ∨ p0 = (-17) ∨ p0 = (-16) ∨ p0 = (-15) ∨ p0 = (-14) ∨ p0 = (-13) ∨ p0 = (-12) ∨ p0 = (-11) by simp only [fa_eq, Int32.reduceToInt]; omega) with c1 | c1 | c1 | c1 | c1 | c1 | c1 | c1 | c1
  · refine lv_tableOut (tgt := 114) hx hb dX9_joined_1 (Or.inl c1) (by decide) ?_
    refine lv_iload_n hx hb dX9_joined_114 rfl (lv_at hl 1 rfl) ?_
    refine lv_iload_n hx hb dX9_joined_115 rfl (lv_at hl 2 rfl) ?_
    refine fx_imulU hx hb dX9_joined_116 (fun y2 ey2 => ?_)
    exact W.iret (v := y2) hx hb hr (fun t ht hW => ⟨y2, rfl, trivial, ht⟩) (fun _ h => absurd h List.not_mem_nil) dX9_joined_117
  · refine lv_tableOut (tgt := 114) hx hb dX9_joined_1 (Or.inr c1) (by decide) ?_
    refine lv_iload_n hx hb dX9_joined_114 rfl (lv_at hl 1 rfl) ?_
    refine lv_iload_n hx hb dX9_joined_115 rfl (lv_at hl 2 rfl) ?_
    refine fx_imulU hx hb dX9_joined_116 (fun y3 ey3 => ?_)
    exact W.iret (v := y3) hx hb hr (fun t ht hW => ⟨y3, rfl, trivial, ht⟩) (fun _ h => absurd h List.not_mem_nil) dX9_joined_117
  · refine lv_tableIn (off := 109) (tgt := 110) hx hb dX9_joined_1 (by rw [c1]; decide) (by rw [c1]; decide) (by rw [c1]; decide) (by decide) ?_
    have zc1 : p0.toInt = -17 := by rw [c1]; rfl
    refine lv_iload_n hx hb dX9_joined_110 rfl (lv_at hl 1 rfl) ?_
    refine lv_iload_n hx hb dX9_joined_111 rfl (lv_at hl 2 rfl) ?_
    refine fx_isubU hx hb dX9_joined_112 (fun y4 ey4 => ?_)
    exact W.iret (v := y4) hx hb hr (fun t ht hW => ⟨y4, rfl, trivial, ht⟩) (fun _ h => absurd h List.not_mem_nil) dX9_joined_113
  · refine lv_tableIn (off := 105) (tgt := 106) hx hb dX9_joined_1 (by rw [c1]; decide) (by rw [c1]; decide) (by rw [c1]; decide) (by decide) ?_
    have zc1 : p0.toInt = -16 := by rw [c1]; rfl
    refine lv_iload_n hx hb dX9_joined_106 rfl (lv_at hl 1 rfl) ?_
    refine lv_iload_n hx hb dX9_joined_107 rfl (lv_at hl 2 rfl) ?_
    refine fx_iaddU hx hb dX9_joined_108 (fun y5 ey5 => ?_)
    exact W.iret (v := y5) hx hb hr (fun t ht hW => ⟨y5, rfl, trivial, ht⟩) (fun _ h => absurd h List.not_mem_nil) dX9_joined_109
  · refine lv_tableIn (off := 91) (tgt := 92) hx hb dX9_joined_1 (by rw [c1]; decide) (by rw [c1]; decide) (by rw [c1]; decide) (by decide) ?_
    have zc1 : p0.toInt = -15 := by rw [c1]; rfl
    refine lv_iload_n hx hb dX9_joined_92 rfl (lv_at hl 1 rfl) ?_
    refine lv_iload_n hx hb dX9_joined_93 rfl (lv_at hl 2 rfl) ?_
    refine fx_icmp_ne (tgt := 101) hx hb dX9_joined_94 (by decide) rfl rfl (fun c6 => ?_) (fun c6 => ?_)
    · refine lv_iconst (v := 0) hx hb dX9_joined_101 (by decide) ?_
      refine vp_callSi (va_Run.run (va_runS (As := [.int 0]) (rest := []) ⟨hx, hb, hml, hown, hts⟩ (fc_X9_truth l 0) (va_cwS 1 hts gX9_joined_X9_truth rfl rfl rfl (by decide +kernel) ⟨Nat.le_of_ble_eq_true rfl, Nat.le_of_ble_eq_true rfl⟩) ⟨fun a U g mk q => q, fun U hU hW => ⟨rfl, trivial⟩⟩ rfl rfl hl.1 rfl (lv_room (Nat.le_of_ble_eq_true rfl)) dX9_joined_102 ⟨by decide +kernel, by decide +kernel⟩)) (fun r7 hr7 => ?_)
      exact W.iret (v := r7) hx hb hr (fun t ht hW => ⟨r7, rfl, trivial, ht⟩) (fun _ h => absurd h List.not_mem_nil) dX9_joined_105
    · refine lv_iconst (v := 1) hx hb dX9_joined_97 (by decide) ?_
      refine lv_goto (tgt := 102) hx hb dX9_joined_98 (by decide) ?_
      refine vp_callSi (va_Run.run (va_runS (As := [.int 1]) (rest := []) ⟨hx, hb, hml, hown, hts⟩ (fc_X9_truth l 1) (va_cwS 1 hts gX9_joined_X9_truth rfl rfl rfl (by decide +kernel) ⟨Nat.le_of_ble_eq_true rfl, Nat.le_of_ble_eq_true rfl⟩) ⟨fun a U g mk q => q, fun U hU hW => ⟨rfl, trivial⟩⟩ rfl rfl hl.1 rfl (lv_room (Nat.le_of_ble_eq_true rfl)) dX9_joined_102 ⟨by decide +kernel, by decide +kernel⟩)) (fun r8 hr8 => ?_)
      exact W.iret (v := r8) hx hb hr (fun t ht hW => ⟨r8, rfl, trivial, ht⟩) (fun _ h => absurd h List.not_mem_nil) dX9_joined_105
  · refine lv_tableIn (off := 77) (tgt := 78) hx hb dX9_joined_1 (by rw [c1]; decide) (by rw [c1]; decide) (by rw [c1]; decide) (by decide) ?_
    have zc1 : p0.toInt = -14 := by rw [c1]; rfl
    refine lv_iload_n hx hb dX9_joined_78 rfl (lv_at hl 1 rfl) ?_
    refine lv_iload_n hx hb dX9_joined_79 rfl (lv_at hl 2 rfl) ?_
    refine fx_icmp_ge (tgt := 87) hx hb dX9_joined_80 (by decide) rfl rfl (fun c9 => ?_) (fun c9 => ?_)
    · refine lv_iconst (v := 0) hx hb dX9_joined_87 (by decide) ?_
      refine vp_callSi (va_Run.run (va_runS (As := [.int 0]) (rest := []) ⟨hx, hb, hml, hown, hts⟩ (fc_X9_truth l 0) (va_cwS 1 hts gX9_joined_X9_truth rfl rfl rfl (by decide +kernel) ⟨Nat.le_of_ble_eq_true rfl, Nat.le_of_ble_eq_true rfl⟩) ⟨fun a U g mk q => q, fun U hU hW => ⟨rfl, trivial⟩⟩ rfl rfl hl.1 rfl (lv_room (Nat.le_of_ble_eq_true rfl)) dX9_joined_88 ⟨by decide +kernel, by decide +kernel⟩)) (fun r10 hr10 => ?_)
      exact W.iret (v := r10) hx hb hr (fun t ht hW => ⟨r10, rfl, trivial, ht⟩) (fun _ h => absurd h List.not_mem_nil) dX9_joined_91
    · refine lv_iconst (v := 1) hx hb dX9_joined_83 (by decide) ?_
      refine lv_goto (tgt := 88) hx hb dX9_joined_84 (by decide) ?_
      refine vp_callSi (va_Run.run (va_runS (As := [.int 1]) (rest := []) ⟨hx, hb, hml, hown, hts⟩ (fc_X9_truth l 1) (va_cwS 1 hts gX9_joined_X9_truth rfl rfl rfl (by decide +kernel) ⟨Nat.le_of_ble_eq_true rfl, Nat.le_of_ble_eq_true rfl⟩) ⟨fun a U g mk q => q, fun U hU hW => ⟨rfl, trivial⟩⟩ rfl rfl hl.1 rfl (lv_room (Nat.le_of_ble_eq_true rfl)) dX9_joined_88 ⟨by decide +kernel, by decide +kernel⟩)) (fun r11 hr11 => ?_)
      exact W.iret (v := r11) hx hb hr (fun t ht hW => ⟨r11, rfl, trivial, ht⟩) (fun _ h => absurd h List.not_mem_nil) dX9_joined_91
  · refine lv_tableIn (off := 113) (tgt := 114) hx hb dX9_joined_1 (by rw [c1]; decide) (by rw [c1]; decide) (by rw [c1]; decide) (by decide) ?_
    have zc1 : p0.toInt = -13 := by rw [c1]; rfl
    refine lv_iload_n hx hb dX9_joined_114 rfl (lv_at hl 1 rfl) ?_
    refine lv_iload_n hx hb dX9_joined_115 rfl (lv_at hl 2 rfl) ?_
    refine fx_imulU hx hb dX9_joined_116 (fun y12 ey12 => ?_)
    exact W.iret (v := y12) hx hb hr (fun t ht hW => ⟨y12, rfl, trivial, ht⟩) (fun _ h => absurd h List.not_mem_nil) dX9_joined_117
  · refine lv_tableIn (off := 60) (tgt := 61) hx hb dX9_joined_1 (by rw [c1]; decide) (by rw [c1]; decide) (by rw [c1]; decide) (by decide) ?_
    have zc1 : p0.toInt = -12 := by rw [c1]; rfl
    refine lv_iload_n hx hb dX9_joined_61 rfl (lv_at hl 1 rfl) ?_
    refine fx_if_eq (tgt := 73) hx hb dX9_joined_62 (by decide) rfl (fun c13 => ?_) (fun c13 => ?_)
    · refine lv_iconst (v := 0) hx hb dX9_joined_73 (by decide) ?_
      refine vp_callSi (va_Run.run (va_runS (As := [.int 0]) (rest := []) ⟨hx, hb, hml, hown, hts⟩ (fc_X9_truth l 0) (va_cwS 1 hts gX9_joined_X9_truth rfl rfl rfl (by decide +kernel) ⟨Nat.le_of_ble_eq_true rfl, Nat.le_of_ble_eq_true rfl⟩) ⟨fun a U g mk q => q, fun U hU hW => ⟨rfl, trivial⟩⟩ rfl rfl hl.1 rfl (lv_room (Nat.le_of_ble_eq_true rfl)) dX9_joined_74 ⟨by decide +kernel, by decide +kernel⟩)) (fun r14 hr14 => ?_)
      exact W.iret (v := r14) hx hb hr (fun t ht hW => ⟨r14, rfl, trivial, ht⟩) (fun _ h => absurd h List.not_mem_nil) dX9_joined_77
    · refine lv_iload_n hx hb dX9_joined_65 rfl (lv_at hl 2 rfl) ?_
      refine fx_if_eq (tgt := 73) hx hb dX9_joined_66 (by decide) rfl (fun c15 => ?_) (fun c15 => ?_)
      · refine lv_iconst (v := 0) hx hb dX9_joined_73 (by decide) ?_
        refine vp_callSi (va_Run.run (va_runS (As := [.int 0]) (rest := []) ⟨hx, hb, hml, hown, hts⟩ (fc_X9_truth l 0) (va_cwS 1 hts gX9_joined_X9_truth rfl rfl rfl (by decide +kernel) ⟨Nat.le_of_ble_eq_true rfl, Nat.le_of_ble_eq_true rfl⟩) ⟨fun a U g mk q => q, fun U hU hW => ⟨rfl, trivial⟩⟩ rfl rfl hl.1 rfl (lv_room (Nat.le_of_ble_eq_true rfl)) dX9_joined_74 ⟨by decide +kernel, by decide +kernel⟩)) (fun r16 hr16 => ?_)
        exact W.iret (v := r16) hx hb hr (fun t ht hW => ⟨r16, rfl, trivial, ht⟩) (fun _ h => absurd h List.not_mem_nil) dX9_joined_77
      · refine lv_iconst (v := 1) hx hb dX9_joined_69 (by decide) ?_
        refine lv_goto (tgt := 74) hx hb dX9_joined_70 (by decide) ?_
        refine vp_callSi (va_Run.run (va_runS (As := [.int 1]) (rest := []) ⟨hx, hb, hml, hown, hts⟩ (fc_X9_truth l 1) (va_cwS 1 hts gX9_joined_X9_truth rfl rfl rfl (by decide +kernel) ⟨Nat.le_of_ble_eq_true rfl, Nat.le_of_ble_eq_true rfl⟩) ⟨fun a U g mk q => q, fun U hU hW => ⟨rfl, trivial⟩⟩ rfl rfl hl.1 rfl (lv_room (Nat.le_of_ble_eq_true rfl)) dX9_joined_74 ⟨by decide +kernel, by decide +kernel⟩)) (fun r17 hr17 => ?_)
        exact W.iret (v := r17) hx hb hr (fun t ht hW => ⟨r17, rfl, trivial, ht⟩) (fun _ h => absurd h List.not_mem_nil) dX9_joined_77
  · refine lv_tableIn (off := 43) (tgt := 44) hx hb dX9_joined_1 (by rw [c1]; decide) (by rw [c1]; decide) (by rw [c1]; decide) (by decide) ?_
    have zc1 : p0.toInt = -11 := by rw [c1]; rfl
    refine lv_iload_n hx hb dX9_joined_44 rfl (lv_at hl 1 rfl) ?_
    refine fx_if_ne (tgt := 52) hx hb dX9_joined_45 (by decide) rfl (fun c18 => ?_) (fun c18 => ?_)
    · refine lv_iconst (v := 1) hx hb dX9_joined_52 (by decide) ?_
      refine lv_goto (tgt := 57) hx hb dX9_joined_53 (by decide) ?_
      refine vp_callSi (va_Run.run (va_runS (As := [.int 1]) (rest := []) ⟨hx, hb, hml, hown, hts⟩ (fc_X9_truth l 1) (va_cwS 1 hts gX9_joined_X9_truth rfl rfl rfl (by decide +kernel) ⟨Nat.le_of_ble_eq_true rfl, Nat.le_of_ble_eq_true rfl⟩) ⟨fun a U g mk q => q, fun U hU hW => ⟨rfl, trivial⟩⟩ rfl rfl hl.1 rfl (lv_room (Nat.le_of_ble_eq_true rfl)) dX9_joined_57 ⟨by decide +kernel, by decide +kernel⟩)) (fun r19 hr19 => ?_)
      exact W.iret (v := r19) hx hb hr (fun t ht hW => ⟨r19, rfl, trivial, ht⟩) (fun _ h => absurd h List.not_mem_nil) dX9_joined_60
    · refine lv_iload_n hx hb dX9_joined_48 rfl (lv_at hl 2 rfl) ?_
      refine fx_if_eq (tgt := 56) hx hb dX9_joined_49 (by decide) rfl (fun c20 => ?_) (fun c20 => ?_)
      · refine lv_iconst (v := 0) hx hb dX9_joined_56 (by decide) ?_
        refine vp_callSi (va_Run.run (va_runS (As := [.int 0]) (rest := []) ⟨hx, hb, hml, hown, hts⟩ (fc_X9_truth l 0) (va_cwS 1 hts gX9_joined_X9_truth rfl rfl rfl (by decide +kernel) ⟨Nat.le_of_ble_eq_true rfl, Nat.le_of_ble_eq_true rfl⟩) ⟨fun a U g mk q => q, fun U hU hW => ⟨rfl, trivial⟩⟩ rfl rfl hl.1 rfl (lv_room (Nat.le_of_ble_eq_true rfl)) dX9_joined_57 ⟨by decide +kernel, by decide +kernel⟩)) (fun r21 hr21 => ?_)
        exact W.iret (v := r21) hx hb hr (fun t ht hW => ⟨r21, rfl, trivial, ht⟩) (fun _ h => absurd h List.not_mem_nil) dX9_joined_60
      · refine lv_iconst (v := 1) hx hb dX9_joined_52 (by decide) ?_
        refine lv_goto (tgt := 57) hx hb dX9_joined_53 (by decide) ?_
        refine vp_callSi (va_Run.run (va_runS (As := [.int 1]) (rest := []) ⟨hx, hb, hml, hown, hts⟩ (fc_X9_truth l 1) (va_cwS 1 hts gX9_joined_X9_truth rfl rfl rfl (by decide +kernel) ⟨Nat.le_of_ble_eq_true rfl, Nat.le_of_ble_eq_true rfl⟩) ⟨fun a U g mk q => q, fun U hU hW => ⟨rfl, trivial⟩⟩ rfl rfl hl.1 rfl (lv_room (Nat.le_of_ble_eq_true rfl)) dX9_joined_57 ⟨by decide +kernel, by decide +kernel⟩)) (fun r22 hr22 => ?_)
        exact W.iret (v := r22) hx hb hr (fun t ht hW => ⟨r22, rfl, trivial, ht⟩) (fun _ h => absurd h List.not_mem_nil) dX9_joined_60
set_option maxHeartbeats 400000 in
set_option maxRecDepth 20000 in
theorem fc_X5_isBlank (l : Launch) (p0 : Int32) : Met l yX5_isBlank wsX5_isBlank ({ frames := 0, cells := 0, slots := 0, locals := 0 }) (va_Pc [.int p0] (fun _ => True)) (vp_Si (fun r : Int32 => ((r = 1 ∧ (p0.toInt = 32 ∨ p0.toInt = 10)) ∨ (r = 0 ∧ ¬ (p0.toInt = 32 ∨ p0.toInt = 10))))) 0 0 (fun _ => False) := by
  refine Met.ofW (cc := cX5_isBlank) (maxL := 1) (ret := (some .boolean)) (by decide) rfl ?_
  intro p e s m args below meth c s₁ B hml hv
  obtain ⟨rfl, _⟩ := hv
  have hx := B.exec
  have hb := B.bytes
  have hr := B.returns
  have hts := atoms_spec (ws := wsX5_isBlank) B.pre
  have hown : s.vm.findClass RX5 = some m.cls := findClass_of_methodNamed B.named
  have hl := lv_entry ([.int p0]) (n := 1) (Nat.le_of_ble_eq_true rfl)
  rw [lg_entry_eq]
  generalize (lg_sl ([.int p0]) ++ List.replicate (1 - (lg_sl ([.int p0])).length) Slot.unset).toArray = ls at hl ⊢
  have hl : lv_has ls 1 [(0, .int p0)] := hl
  refine lv_iload_n hx hb dX5_isBlank_0 rfl (lv_at hl 0 rfl) ?_
  refine lv_bipush (v := 32) hx hb dX5_isBlank_1 (by decide) ?_
  refine fx_icmp_eq (tgt := 12) hx hb dX5_isBlank_3 (by decide) rfl zk_32 (fun c1 => ?_) (fun c1 => ?_)
  · refine lv_iconst (v := 1) hx hb dX5_isBlank_12 (by decide) ?_
    refine lv_goto (tgt := 17) hx hb dX5_isBlank_13 (by decide) ?_
    exact W.zret (v := 1) hx hb hr rfl (fun t ht hW => ⟨1, rfl, Or.inl ⟨rfl, by omega⟩, ht⟩) (fun _ h => absurd h List.not_mem_nil) dX5_isBlank_17
  · refine lv_iload_n hx hb dX5_isBlank_6 rfl (lv_at hl 0 rfl) ?_
    refine lv_bipush (v := 10) hx hb dX5_isBlank_7 (by decide) ?_
    refine fx_icmp_ne (tgt := 16) hx hb dX5_isBlank_9 (by decide) rfl zk_10 (fun c2 => ?_) (fun c2 => ?_)
    · refine lv_iconst (v := 0) hx hb dX5_isBlank_16 (by decide) ?_
      exact W.zret (v := 0) hx hb hr rfl (fun t ht hW => ⟨0, rfl, Or.inr ⟨rfl, by omega⟩, ht⟩) (fun _ h => absurd h List.not_mem_nil) dX5_isBlank_17
    · refine lv_iconst (v := 1) hx hb dX5_isBlank_12 (by decide) ?_
      refine lv_goto (tgt := 17) hx hb dX5_isBlank_13 (by decide) ?_
      exact W.zret (v := 1) hx hb hr rfl (fun t ht hW => ⟨1, rfl, Or.inl ⟨rfl, by omega⟩, ht⟩) (fun _ h => absurd h List.not_mem_nil) dX5_isBlank_17
set_option maxHeartbeats 400000 in
set_option maxRecDepth 20000 in
theorem fc_X5_isLetter (l : Launch) (p0 : Int32) : Met l yX5_isLetter wsX5_isLetter ({ frames := 0, cells := 0, slots := 0, locals := 0 }) (va_Pc [.int p0] (fun _ => True)) (vp_Si (fun r : Int32 => ((r = 1 ∧ (97 ≤ p0.toInt ∧ p0.toInt ≤ 122)) ∨ (r = 0 ∧ ¬ (97 ≤ p0.toInt ∧ p0.toInt ≤ 122))))) 0 0 (fun _ => False) := by
  refine Met.ofW (cc := cX5_isLetter) (maxL := 1) (ret := (some .boolean)) (by decide) rfl ?_
  intro p e s m args below meth c s₁ B hml hv
  obtain ⟨rfl, _⟩ := hv
  have hx := B.exec
  have hb := B.bytes
  have hr := B.returns
  have hts := atoms_spec (ws := wsX5_isLetter) B.pre
  have hown : s.vm.findClass RX5 = some m.cls := findClass_of_methodNamed B.named
  have hl := lv_entry ([.int p0]) (n := 1) (Nat.le_of_ble_eq_true rfl)
  rw [lg_entry_eq]
  generalize (lg_sl ([.int p0]) ++ List.replicate (1 - (lg_sl ([.int p0])).length) Slot.unset).toArray = ls at hl ⊢
  have hl : lv_has ls 1 [(0, .int p0)] := hl
  refine lv_iload_n hx hb dX5_isLetter_0 rfl (lv_at hl 0 rfl) ?_
  refine lv_bipush (v := 97) hx hb dX5_isLetter_1 (by decide) ?_
  refine fx_icmp_lt (tgt := 16) hx hb dX5_isLetter_3 (by decide) rfl zk_97 (fun c1 => ?_) (fun c1 => ?_)
  · refine lv_iconst (v := 0) hx hb dX5_isLetter_16 (by decide) ?_
    exact W.zret (v := 0) hx hb hr rfl (fun t ht hW => ⟨0, rfl, Or.inr ⟨rfl, by omega⟩, ht⟩) (fun _ h => absurd h List.not_mem_nil) dX5_isLetter_17
  · refine lv_iload_n hx hb dX5_isLetter_6 rfl (lv_at hl 0 rfl) ?_
    refine lv_bipush (v := 122) hx hb dX5_isLetter_7 (by decide) ?_
    refine fx_icmp_gt (tgt := 16) hx hb dX5_isLetter_9 (by decide) rfl zk_122 (fun c2 => ?_) (fun c2 => ?_)
    · refine lv_iconst (v := 0) hx hb dX5_isLetter_16 (by decide) ?_
      exact W.zret (v := 0) hx hb hr rfl (fun t ht hW => ⟨0, rfl, Or.inr ⟨rfl, by omega⟩, ht⟩) (fun _ h => absurd h List.not_mem_nil) dX5_isLetter_17
    · refine lv_iconst (v := 1) hx hb dX5_isLetter_12 (by decide) ?_
      refine lv_goto (tgt := 17) hx hb dX5_isLetter_13 (by decide) ?_
      exact W.zret (v := 1) hx hb hr rfl (fun t ht hW => ⟨1, rfl, Or.inl ⟨rfl, by omega⟩, ht⟩) (fun _ h => absurd h List.not_mem_nil) dX5_isLetter_17
set_option maxHeartbeats 400000 in
set_option maxRecDepth 20000 in
theorem fc_X5_isDigit (l : Launch) (p0 : Int32) : Met l yX5_isDigit wsX5_isDigit ({ frames := 0, cells := 0, slots := 0, locals := 0 }) (va_Pc [.int p0] (fun _ => True)) (vp_Si (fun r : Int32 => ((r = 1 ∧ (48 ≤ p0.toInt ∧ p0.toInt ≤ 57)) ∨ (r = 0 ∧ ¬ (48 ≤ p0.toInt ∧ p0.toInt ≤ 57))))) 0 0 (fun _ => False) := by
  refine Met.ofW (cc := cX5_isDigit) (maxL := 1) (ret := (some .boolean)) (by decide) rfl ?_
  intro p e s m args below meth c s₁ B hml hv
  obtain ⟨rfl, _⟩ := hv
  have hx := B.exec
  have hb := B.bytes
  have hr := B.returns
  have hts := atoms_spec (ws := wsX5_isDigit) B.pre
  have hown : s.vm.findClass RX5 = some m.cls := findClass_of_methodNamed B.named
  have hl := lv_entry ([.int p0]) (n := 1) (Nat.le_of_ble_eq_true rfl)
  rw [lg_entry_eq]
  generalize (lg_sl ([.int p0]) ++ List.replicate (1 - (lg_sl ([.int p0])).length) Slot.unset).toArray = ls at hl ⊢
  have hl : lv_has ls 1 [(0, .int p0)] := hl
  refine lv_iload_n hx hb dX5_isDigit_0 rfl (lv_at hl 0 rfl) ?_
  refine lv_bipush (v := 48) hx hb dX5_isDigit_1 (by decide) ?_
  refine fx_icmp_lt (tgt := 16) hx hb dX5_isDigit_3 (by decide) rfl zk_48 (fun c1 => ?_) (fun c1 => ?_)
  · refine lv_iconst (v := 0) hx hb dX5_isDigit_16 (by decide) ?_
    exact W.zret (v := 0) hx hb hr rfl (fun t ht hW => ⟨0, rfl, Or.inr ⟨rfl, by omega⟩, ht⟩) (fun _ h => absurd h List.not_mem_nil) dX5_isDigit_17
  · refine lv_iload_n hx hb dX5_isDigit_6 rfl (lv_at hl 0 rfl) ?_
    refine lv_bipush (v := 57) hx hb dX5_isDigit_7 (by decide) ?_
    refine fx_icmp_gt (tgt := 16) hx hb dX5_isDigit_9 (by decide) rfl zk_57 (fun c2 => ?_) (fun c2 => ?_)
    · refine lv_iconst (v := 0) hx hb dX5_isDigit_16 (by decide) ?_
      exact W.zret (v := 0) hx hb hr rfl (fun t ht hW => ⟨0, rfl, Or.inr ⟨rfl, by omega⟩, ht⟩) (fun _ h => absurd h List.not_mem_nil) dX5_isDigit_17
    · refine lv_iconst (v := 1) hx hb dX5_isDigit_12 (by decide) ?_
      refine lv_goto (tgt := 17) hx hb dX5_isDigit_13 (by decide) ?_
      exact W.zret (v := 1) hx hb hr rfl (fun t ht hW => ⟨1, rfl, Or.inl ⟨rfl, by omega⟩, ht⟩) (fun _ h => absurd h List.not_mem_nil) dX5_isDigit_17
set_option maxHeartbeats 400000 in
set_option maxRecDepth 20000 in
theorem fc_X5_isSign (l : Launch) (p0 : Int32) : Met l yX5_isSign wsX5_isSign ({ frames := 0, cells := 0, slots := 0, locals := 0 }) (va_Pc [.int p0] (fun _ => True)) (vp_Si (fun r : Int32 => ((r = 1 ∧ ((40 ≤ p0.toInt ∧ p0.toInt ≤ 43) ∨ p0.toInt = 45 ∨ (59 ≤ p0.toInt ∧ p0.toInt ≤ 61))) ∨ (r = 0 ∧ ¬ ((40 ≤ p0.toInt ∧ p0.toInt ≤ 43) ∨ p0.toInt = 45 ∨ (59 ≤ p0.toInt ∧ p0.toInt ≤ 61)))))) 0 0 (fun _ => False) := by
  refine Met.ofW (cc := cX5_isSign) (maxL := 1) (ret := (some .boolean)) (by decide) rfl ?_
  intro p e s m args below meth c s₁ B hml hv
  obtain ⟨rfl, _⟩ := hv
  have hx := B.exec
  have hb := B.bytes
  have hr := B.returns
  have hts := atoms_spec (ws := wsX5_isSign) B.pre
  have hown : s.vm.findClass RX5 = some m.cls := findClass_of_methodNamed B.named
  have hl := lv_entry ([.int p0]) (n := 1) (Nat.le_of_ble_eq_true rfl)
  rw [lg_entry_eq]
  generalize (lg_sl ([.int p0]) ++ List.replicate (1 - (lg_sl ([.int p0])).length) Slot.unset).toArray = ls at hl ⊢
  have hl : lv_has ls 1 [(0, .int p0)] := hl
  refine lv_iload_n hx hb dX5_isSign_0 rfl (lv_at hl 0 rfl) ?_
  refine lv_bipush (v := 40) hx hb dX5_isSign_1 (by decide) ?_
  refine fx_icmp_lt (tgt := 12) hx hb dX5_isSign_3 (by decide) rfl zk_40 (fun c1 => ?_) (fun c1 => ?_)
  · refine lv_iload_n hx hb dX5_isSign_12 rfl (lv_at hl 0 rfl) ?_
    refine lv_bipush (v := 45) hx hb dX5_isSign_13 (by decide) ?_
    refine fx_icmp_eq (tgt := 30) hx hb dX5_isSign_15 (by decide) rfl zk_45 (fun c2 => by exfalso; omega) (fun c2 => ?_)
    refine lv_iload_n hx hb dX5_isSign_18 rfl (lv_at hl 0 rfl) ?_
    refine lv_bipush (v := 59) hx hb dX5_isSign_19 (by decide) ?_
    refine fx_icmp_lt (tgt := 34) hx hb dX5_isSign_21 (by decide) rfl zk_59 (fun c3 => ?_) (fun c3 => by exfalso; omega)
    refine lv_iconst (v := 0) hx hb dX5_isSign_34 (by decide) ?_
    exact W.zret (v := 0) hx hb hr rfl (fun t ht hW => ⟨0, rfl, Or.inr ⟨rfl, by omega⟩, ht⟩) (fun _ h => absurd h List.not_mem_nil) dX5_isSign_35
  · refine lv_iload_n hx hb dX5_isSign_6 rfl (lv_at hl 0 rfl) ?_
    refine lv_bipush (v := 43) hx hb dX5_isSign_7 (by decide) ?_
    refine fx_icmp_le (tgt := 30) hx hb dX5_isSign_9 (by decide) rfl zk_43 (fun c4 => ?_) (fun c4 => ?_)
    · refine lv_iconst (v := 1) hx hb dX5_isSign_30 (by decide) ?_
      refine lv_goto (tgt := 35) hx hb dX5_isSign_31 (by decide) ?_
      exact W.zret (v := 1) hx hb hr rfl (fun t ht hW => ⟨1, rfl, Or.inl ⟨rfl, by omega⟩, ht⟩) (fun _ h => absurd h List.not_mem_nil) dX5_isSign_35
    · refine lv_iload_n hx hb dX5_isSign_12 rfl (lv_at hl 0 rfl) ?_
      refine lv_bipush (v := 45) hx hb dX5_isSign_13 (by decide) ?_
      refine fx_icmp_eq (tgt := 30) hx hb dX5_isSign_15 (by decide) rfl zk_45 (fun c5 => ?_) (fun c5 => ?_)
      · refine lv_iconst (v := 1) hx hb dX5_isSign_30 (by decide) ?_
        refine lv_goto (tgt := 35) hx hb dX5_isSign_31 (by decide) ?_
        exact W.zret (v := 1) hx hb hr rfl (fun t ht hW => ⟨1, rfl, Or.inl ⟨rfl, by omega⟩, ht⟩) (fun _ h => absurd h List.not_mem_nil) dX5_isSign_35
      · refine lv_iload_n hx hb dX5_isSign_18 rfl (lv_at hl 0 rfl) ?_
        refine lv_bipush (v := 59) hx hb dX5_isSign_19 (by decide) ?_
        refine fx_icmp_lt (tgt := 34) hx hb dX5_isSign_21 (by decide) rfl zk_59 (fun c6 => ?_) (fun c6 => ?_)
        · refine lv_iconst (v := 0) hx hb dX5_isSign_34 (by decide) ?_
          exact W.zret (v := 0) hx hb hr rfl (fun t ht hW => ⟨0, rfl, Or.inr ⟨rfl, by omega⟩, ht⟩) (fun _ h => absurd h List.not_mem_nil) dX5_isSign_35
        · refine lv_iload_n hx hb dX5_isSign_24 rfl (lv_at hl 0 rfl) ?_
          refine lv_bipush (v := 61) hx hb dX5_isSign_25 (by decide) ?_
          refine fx_icmp_gt (tgt := 34) hx hb dX5_isSign_27 (by decide) rfl zk_61 (fun c7 => ?_) (fun c7 => ?_)
          · refine lv_iconst (v := 0) hx hb dX5_isSign_34 (by decide) ?_
            exact W.zret (v := 0) hx hb hr rfl (fun t ht hW => ⟨0, rfl, Or.inr ⟨rfl, by omega⟩, ht⟩) (fun _ h => absurd h List.not_mem_nil) dX5_isSign_35
          · refine lv_iconst (v := 1) hx hb dX5_isSign_30 (by decide) ?_
            refine lv_goto (tgt := 35) hx hb dX5_isSign_31 (by decide) ?_
            exact W.zret (v := 1) hx hb hr rfl (fun t ht hW => ⟨1, rfl, Or.inl ⟨rfl, by omega⟩, ht⟩) (fun _ h => absurd h List.not_mem_nil) dX5_isSign_35
set_option maxHeartbeats 400000 in
set_option maxRecDepth 20000 in
theorem fc_X6_commonDivisor (l : Launch) (p0 p1 : Int64) : Met l yX6_commonDivisor wsX6_commonDivisor ({ frames := 0, cells := 0, slots := 0, locals := 0 }) (va_Pc [.long p0, .long p1] (fun _ => True)) (vp_Sl (fun r : Int64 => (¬ r = 0))) 0 0 (fun _ => False) := by
  refine Met.ofW (cc := cX6_commonDivisor) (maxL := 11) (ret := (some .long)) (by decide) rfl ?_
  intro p e s m args below meth c s₁ B hml hv
  obtain ⟨rfl, _⟩ := hv
  have hx := B.exec
  have hb := B.bytes
  have hr := B.returns
  have hts := atoms_spec (ws := wsX6_commonDivisor) B.pre
  have hown : s.vm.findClass RX6 = some m.cls := findClass_of_methodNamed B.named
  have hl := lv_entry ([.long p0, .long p1]) (n := 11) (Nat.le_of_ble_eq_true rfl)
  rw [lg_entry_eq]
  generalize (lg_sl ([.long p0, .long p1]) ++ List.replicate (11 - (lg_sl ([.long p0, .long p1])).length) Slot.unset).toArray = ls at hl ⊢
  have hl : lv_has ls 11 [(0, .long p0), (2, .long p1)] := hl
  refine lv_lload_n hx hb dX6_commonDivisor_0 rfl (lv_at hl 0 rfl) ?_
  refine lv_lstore (lv' := [(4, .long p0), (0, .long p0), (2, .long p1)]) hx hb dX6_commonDivisor_1 hl (by decide) rfl (fun ls hl => ?_)
  refine lv_lload_n hx hb dX6_commonDivisor_3 rfl (lv_at hl 2 rfl) ?_
  refine lv_lstore (lv' := [(6, .long p1), (4, .long p0), (0, .long p0), (2, .long p1)]) hx hb dX6_commonDivisor_4 hl (by decide) rfl (fun ls hl => ?_)
  refine lv_iconst (v := 0) hx hb dX6_commonDivisor_6 (by decide) ?_
  refine lv_istore (lv' := [(8, .int 0), (6, .long p1), (4, .long p0), (0, .long p0), (2, .long p1)]) hx hb dX6_commonDivisor_7 hl (by decide) rfl (fun ls hl => ?_)
  have lp : ∀ (n_lp : Nat) (lp_8 : Int32) (lp_6 : Int64) (lp_4 : Int64), (200 - lp_8.toInt).toNat < n_lp → (0 ≤ lp_8.toInt ∧ lp_8.toInt ≤ 200) → ∀ (ls : Array Slot), lv_has ls 11 [(8, .int lp_8), (6, .long lp_6), (4, .long lp_4), (0, .long p0), (2, .long p1)] → W p l e (headSpec wsX6_commonDivisor ({ frames := 0, cells := 0, slots := 0, locals := 0 })).room s m ([.long p0, .long p1] : List Value).toArray below meth c s.heap [] 0 0 (MQ below (vp_Sl (fun r : Int64 => (¬ r = 0))) ([.long p0, .long p1] : List Value).toArray s 0 0 (fun _ => False)) (F0 m 9 ls []) := by
    intro n_lp
    induction n_lp with
    | zero => intro lp_8 lp_6 lp_4 hm_lp b_lp_8 ls hl; exact absurd hm_lp (Nat.not_lt_zero _)
    | succ n_lp ih_lp =>
      intro lp_8 lp_6 lp_4 hm_lp b_lp_8 ls hl
      refine lv_iload hx hb dX6_commonDivisor_9 (lv_at hl 0 rfl) ?_
      refine lv_sipush (v := 200) hx hb dX6_commonDivisor_11 (by decide) ?_
      refine fx_icmp_ge (tgt := 45) hx hb dX6_commonDivisor_14 (by decide) rfl zk_200 (fun c1 => ?_) (fun c1 => ?_)
      · refine lv_lload hx hb dX6_commonDivisor_45 (lv_at hl 2 rfl) ?_
        refine lv_lconst (v := 0) hx hb dX6_commonDivisor_47 (by decide) ?_
        refine W.lcmp hx hb dX6_commonDivisor_48 ?_
        refine fx_lif_ne (tgt := 56) hx hb dX6_commonDivisor_49 (by decide) (fun c2 => ?_) (fun c2 => ?_)
        · refine lv_lload hx hb dX6_commonDivisor_56 (lv_at hl 2 rfl) ?_
          exact W.lret (v := lp_4) hx hb hr (fun t ht hW => ⟨lp_4, rfl, (by assumption), ht⟩) (fun _ h => absurd h List.not_mem_nil) dX6_commonDivisor_58
        · refine lv_lconst (v := 1) hx hb dX6_commonDivisor_52 (by decide) ?_
          refine lv_goto (tgt := 58) hx hb dX6_commonDivisor_53 (by decide) ?_
          exact W.lret (v := 1) hx hb hr (fun t ht hW => ⟨1, rfl, (by decide), ht⟩) (fun _ h => absurd h List.not_mem_nil) dX6_commonDivisor_58
      · refine lv_lload hx hb dX6_commonDivisor_17 (lv_at hl 1 rfl) ?_
        refine lv_lconst (v := 0) hx hb dX6_commonDivisor_19 (by decide) ?_
        refine W.lcmp hx hb dX6_commonDivisor_20 ?_
        refine fx_lif_eq (tgt := 45) hx hb dX6_commonDivisor_21 (by decide) (fun c3 => ?_) (fun c3 => ?_)
        · refine lv_lload hx hb dX6_commonDivisor_45 (lv_at hl 2 rfl) ?_
          refine lv_lconst (v := 0) hx hb dX6_commonDivisor_47 (by decide) ?_
          refine W.lcmp hx hb dX6_commonDivisor_48 ?_
          refine fx_lif_ne (tgt := 56) hx hb dX6_commonDivisor_49 (by decide) (fun c4 => ?_) (fun c4 => ?_)
          · refine lv_lload hx hb dX6_commonDivisor_56 (lv_at hl 2 rfl) ?_
            exact W.lret (v := lp_4) hx hb hr (fun t ht hW => ⟨lp_4, rfl, (by assumption), ht⟩) (fun _ h => absurd h List.not_mem_nil) dX6_commonDivisor_58
          · refine lv_lconst (v := 1) hx hb dX6_commonDivisor_52 (by decide) ?_
            refine lv_goto (tgt := 58) hx hb dX6_commonDivisor_53 (by decide) ?_
            exact W.lret (v := 1) hx hb hr (fun t ht hW => ⟨1, rfl, (by decide), ht⟩) (fun _ h => absurd h List.not_mem_nil) dX6_commonDivisor_58
        · refine lv_lload hx hb dX6_commonDivisor_24 (lv_at hl 2 rfl) ?_
          refine lv_lload hx hb dX6_commonDivisor_26 (lv_at hl 1 rfl) ?_
          refine lv_lrem hx hb dX6_commonDivisor_28 (by assumption) ?_
          refine lv_topl (fun y5 ey5 => ?_)
          refine lv_lstore (lv' := [(9, .long y5), (8, .int lp_8), (6, .long lp_6), (4, .long lp_4), (0, .long p0), (2, .long p1)]) hx hb dX6_commonDivisor_29 hl (by decide) rfl (fun ls hl => ?_)
          refine lv_lload hx hb dX6_commonDivisor_31 (lv_at hl 2 rfl) ?_
          refine lv_lstore (lv' := [(4, .long lp_6), (9, .long y5), (8, .int lp_8), (6, .long lp_6), (0, .long p0), (2, .long p1)]) hx hb dX6_commonDivisor_33 hl (by decide) rfl (fun ls hl => ?_)
          refine lv_lload hx hb dX6_commonDivisor_35 (lv_at hl 1 rfl) ?_
          refine lv_lstore (lv' := [(6, .long y5), (4, .long lp_6), (9, .long y5), (8, .int lp_8), (0, .long p0), (2, .long p1)]) hx hb dX6_commonDivisor_37 hl (by decide) rfl (fun ls hl => ?_)
          obtain ⟨y6, ey6⟩ : ∃ y : Int32, y = lp_8 + 1 := ⟨_, rfl⟩
          have ty6 : y6.toInt = lp_8.toInt + 1 := by rw [ey6, zi_add _ _ (by rw [zk_1]; omega) (by rw [zk_1]; omega), zk_1]
          refine lv_iinc (v := y6) (lv' := [(8, .int y6), (6, .long y5), (4, .long lp_6), (9, .long y5), (0, .long p0), (2, .long p1)]) hx hb dX6_commonDivisor_39 hl (k := 3) rfl (by rw [ey6]; rfl) (by decide) rfl (fun ls hl => ?_)
          refine lv_goto (tgt := 9) hx hb dX6_commonDivisor_42 (by decide) ?_
          exact ih_lp y6 y5 lp_6 (by omega) (by omega) ls (lv_sub hl [0, 1, 2, 4, 5] rfl)
  exact lp _ 0 p1 p0 (Nat.lt_succ_self _) (by decide) ls (lv_sub hl [0, 1, 2, 3, 4] rfl)

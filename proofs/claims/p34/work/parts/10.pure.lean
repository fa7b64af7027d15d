theorem zb_X11_isCell_0 : (decode cX11_isCell 0 = .ok (.iload_n 0, 1)) ∧ (decode cX11_isCell 1 = .ok (.ifCond .lt 13, 3)) ∧ (decode cX11_isCell 14 = .ok (.iconst 0, 1)) ∧ (decode cX11_isCell 15 = .ok (.ireturn, 1)) ∧ (decode cX11_isCell 4 = .ok (.iload_n 0, 1)) ∧ (decode cX11_isCell 5 = .ok (.bipush 64, 2)) ∧ (decode cX11_isCell 7 = .ok (.if_icmp .ge 7, 3)) ∧ (decode cX11_isCell 10 = .ok (.iconst 1, 1)) ∧ (decode cX11_isCell 11 = .ok (.goto 4, 3)) := by decide +kernel
theorem dX11_isCell_0 : decode cX11_isCell 0 = .ok (.iload_n 0, 1) := zb_X11_isCell_0.1
theorem dX11_isCell_1 : decode cX11_isCell 1 = .ok (.ifCond .lt 13, 3) := zb_X11_isCell_0.2.1
theorem dX11_isCell_14 : decode cX11_isCell 14 = .ok (.iconst 0, 1) := zb_X11_isCell_0.2.2.1
theorem dX11_isCell_15 : decode cX11_isCell 15 = .ok (.ireturn, 1) := zb_X11_isCell_0.2.2.2.1
theorem dX11_isCell_4 : decode cX11_isCell 4 = .ok (.iload_n 0, 1) := zb_X11_isCell_0.2.2.2.2.1
theorem dX11_isCell_5 : decode cX11_isCell 5 = .ok (.bipush 64, 2) := zb_X11_isCell_0.2.2.2.2.2.1
theorem dX11_isCell_7 : decode cX11_isCell 7 = .ok (.if_icmp .ge 7, 3) := zb_X11_isCell_0.2.2.2.2.2.2.1
theorem dX11_isCell_10 : decode cX11_isCell 10 = .ok (.iconst 1, 1) := zb_X11_isCell_0.2.2.2.2.2.2.2.1
theorem dX11_isCell_11 : decode cX11_isCell 11 = .ok (.goto 4, 3) := zb_X11_isCell_0.2.2.2.2.2.2.2.2
theorem zb_X11_isMark_0 : (decode cX11_isMark 0 = .ok (.iload_n 0, 1)) ∧ (decode cX11_isMark 1 = .ok (.ifCond .lt 13, 3)) ∧ (decode cX11_isMark 14 = .ok (.iconst 0, 1)) ∧ (decode cX11_isMark 15 = .ok (.ireturn, 1)) ∧ (decode cX11_isMark 4 = .ok (.iload_n 0, 1)) ∧ (decode cX11_isMark 5 = .ok (.bipush 99, 2)) ∧ (decode cX11_isMark 7 = .ok (.if_icmp .gt 7, 3)) ∧ (decode cX11_isMark 10 = .ok (.iconst 1, 1)) ∧ (decode cX11_isMark 11 = .ok (.goto 4, 3)) := by decide +kernel
theorem dX11_isMark_0 : decode cX11_isMark 0 = .ok (.iload_n 0, 1) := zb_X11_isMark_0.1
theorem dX11_isMark_1 : decode cX11_isMark 1 = .ok (.ifCond .lt 13, 3) := zb_X11_isMark_0.2.1
theorem dX11_isMark_14 : decode cX11_isMark 14 = .ok (.iconst 0, 1) := zb_X11_isMark_0.2.2.1
theorem dX11_isMark_15 : decode cX11_isMark 15 = .ok (.ireturn, 1) := zb_X11_isMark_0.2.2.2.1
theorem dX11_isMark_4 : decode cX11_isMark 4 = .ok (.iload_n 0, 1) := zb_X11_isMark_0.2.2.2.2.1
theorem dX11_isMark_5 : decode cX11_isMark 5 = .ok (.bipush 99, 2) := zb_X11_isMark_0.2.2.2.2.2.1
theorem dX11_isMark_7 : decode cX11_isMark 7 = .ok (.if_icmp .gt 7, 3) := zb_X11_isMark_0.2.2.2.2.2.2.1
theorem dX11_isMark_10 : decode cX11_isMark 10 = .ok (.iconst 1, 1) := zb_X11_isMark_0.2.2.2.2.2.2.2.1
theorem dX11_isMark_11 : decode cX11_isMark 11 = .ok (.goto 4, 3) := zb_X11_isMark_0.2.2.2.2.2.2.2.2
theorem zb_X11_isSpan_0 : (decode cX11_isSpan 0 = .ok (.iload_n 0, 1)) ∧ (decode cX11_isSpan 1 = .ok (.ifCond .lt 19, 3)) ∧ (decode cX11_isSpan 20 = .ok (.iconst 0, 1)) ∧ (decode cX11_isSpan 21 = .ok (.ireturn, 1)) ∧ (decode cX11_isSpan 4 = .ok (.iload_n 1, 1)) ∧ (decode cX11_isSpan 5 = .ok (.iload_n 0, 1)) ∧ (decode cX11_isSpan 6 = .ok (.if_icmp .le 14, 3)) ∧ (decode cX11_isSpan 9 = .ok (.iload_n 1, 1)) ∧ (decode cX11_isSpan 10 = .ok (.sipush 240, 3)) ∧ (decode cX11_isSpan 13 = .ok (.if_icmp .gt 7, 3)) ∧ (decode cX11_isSpan 16 = .ok (.iconst 1, 1)) ∧ (decode cX11_isSpan 17 = .ok (.goto 4, 3)) := by decide +kernel
theorem dX11_isSpan_0 : decode cX11_isSpan 0 = .ok (.iload_n 0, 1) := zb_X11_isSpan_0.1
theorem dX11_isSpan_1 : decode cX11_isSpan 1 = .ok (.ifCond .lt 19, 3) := zb_X11_isSpan_0.2.1
theorem dX11_isSpan_20 : decode cX11_isSpan 20 = .ok (.iconst 0, 1) := zb_X11_isSpan_0.2.2.1
theorem dX11_isSpan_21 : decode cX11_isSpan 21 = .ok (.ireturn, 1) := zb_X11_isSpan_0.2.2.2.1
theorem dX11_isSpan_4 : decode cX11_isSpan 4 = .ok (.iload_n 1, 1) := zb_X11_isSpan_0.2.2.2.2.1
theorem dX11_isSpan_5 : decode cX11_isSpan 5 = .ok (.iload_n 0, 1) := zb_X11_isSpan_0.2.2.2.2.2.1
theorem dX11_isSpan_6 : decode cX11_isSpan 6 = .ok (.if_icmp .le 14, 3) := zb_X11_isSpan_0.2.2.2.2.2.2.1
theorem dX11_isSpan_9 : decode cX11_isSpan 9 = .ok (.iload_n 1, 1) := zb_X11_isSpan_0.2.2.2.2.2.2.2.1
theorem dX11_isSpan_10 : decode cX11_isSpan 10 = .ok (.sipush 240, 3) := zb_X11_isSpan_0.2.2.2.2.2.2.2.2.1
theorem dX11_isSpan_13 : decode cX11_isSpan 13 = .ok (.if_icmp .gt 7, 3) := zb_X11_isSpan_0.2.2.2.2.2.2.2.2.2.1
theorem dX11_isSpan_16 : decode cX11_isSpan 16 = .ok (.iconst 1, 1) := zb_X11_isSpan_0.2.2.2.2.2.2.2.2.2.2.1
theorem dX11_isSpan_17 : decode cX11_isSpan 17 = .ok (.goto 4, 3) := zb_X11_isSpan_0.2.2.2.2.2.2.2.2.2.2.2
theorem zb_X11_isWind_0 : (decode cX11_isWind 0 = .ok (.iload_n 0, 1)) ∧ (decode cX11_isWind 1 = .ok (.ifCond .lt 10, 3)) ∧ (decode cX11_isWind 11 = .ok (.iconst 0, 1)) ∧ (decode cX11_isWind 12 = .ok (.ireturn, 1)) ∧ (decode cX11_isWind 4 = .ok (.iload_n 0, 1)) ∧ (decode cX11_isWind 5 = .ok (.sipush 4444, 3)) ∧ (decode cX11_isWind 8 = .ok (.if_icmp .le 5, 3)) ∧ (decode cX11_isWind 13 = .ok (.iload_n 0, 1)) ∧ (decode cX11_isWind 14 = .ok (.sipush 1000, 3)) ∧ (decode cX11_isWind 17 = .ok (.idiv, 1)) ∧ (decode cX11_isWind 18 = .ok (.istore_n 1, 1)) ∧ (decode cX11_isWind 19 = .ok (.iload_n 0, 1)) := by decide +kernel
theorem dX11_isWind_0 : decode cX11_isWind 0 = .ok (.iload_n 0, 1) := zb_X11_isWind_0.1
theorem dX11_isWind_1 : decode cX11_isWind 1 = .ok (.ifCond .lt 10, 3) := zb_X11_isWind_0.2.1
theorem dX11_isWind_11 : decode cX11_isWind 11 = .ok (.iconst 0, 1) := zb_X11_isWind_0.2.2.1
theorem dX11_isWind_12 : decode cX11_isWind 12 = .ok (.ireturn, 1) := zb_X11_isWind_0.2.2.2.1
theorem dX11_isWind_4 : decode cX11_isWind 4 = .ok (.iload_n 0, 1) := zb_X11_isWind_0.2.2.2.2.1
theorem dX11_isWind_5 : decode cX11_isWind 5 = .ok (.sipush 4444, 3) := zb_X11_isWind_0.2.2.2.2.2.1
theorem dX11_isWind_8 : decode cX11_isWind 8 = .ok (.if_icmp .le 5, 3) := zb_X11_isWind_0.2.2.2.2.2.2.1
theorem dX11_isWind_13 : decode cX11_isWind 13 = .ok (.iload_n 0, 1) := zb_X11_isWind_0.2.2.2.2.2.2.2.1
theorem dX11_isWind_14 : decode cX11_isWind 14 = .ok (.sipush 1000, 3) := zb_X11_isWind_0.2.2.2.2.2.2.2.2.1
theorem dX11_isWind_17 : decode cX11_isWind 17 = .ok (.idiv, 1) := zb_X11_isWind_0.2.2.2.2.2.2.2.2.2.1
theorem dX11_isWind_18 : decode cX11_isWind 18 = .ok (.istore_n 1, 1) := zb_X11_isWind_0.2.2.2.2.2.2.2.2.2.2.1
theorem dX11_isWind_19 : decode cX11_isWind 19 = .ok (.iload_n 0, 1) := zb_X11_isWind_0.2.2.2.2.2.2.2.2.2.2.2
theorem zb_X11_isWind_20 : (decode cX11_isWind 20 = .ok (.bipush 100, 2)) ∧ (decode cX11_isWind 22 = .ok (.idiv, 1)) ∧ (decode cX11_isWind 23 = .ok (.bipush 10, 2)) ∧ (decode cX11_isWind 25 = .ok (.irem, 1)) ∧ (decode cX11_isWind 26 = .ok (.istore_n 2, 1)) ∧ (decode cX11_isWind 27 = .ok (.iload_n 0, 1)) ∧ (decode cX11_isWind 28 = .ok (.bipush 10, 2)) ∧ (decode cX11_isWind 30 = .ok (.idiv, 1)) ∧ (decode cX11_isWind 31 = .ok (.bipush 10, 2)) ∧ (decode cX11_isWind 33 = .ok (.irem, 1)) ∧ (decode cX11_isWind 34 = .ok (.istore_n 3, 1)) ∧ (decode cX11_isWind 35 = .ok (.iload_n 0, 1)) := by decide +kernel
theorem dX11_isWind_20 : decode cX11_isWind 20 = .ok (.bipush 100, 2) := zb_X11_isWind_20.1
theorem dX11_isWind_22 : decode cX11_isWind 22 = .ok (.idiv, 1) := zb_X11_isWind_20.2.1
theorem dX11_isWind_23 : decode cX11_isWind 23 = .ok (.bipush 10, 2) := zb_X11_isWind_20.2.2.1
theorem dX11_isWind_25 : decode cX11_isWind 25 = .ok (.irem, 1) := zb_X11_isWind_20.2.2.2.1
theorem dX11_isWind_26 : decode cX11_isWind 26 = .ok (.istore_n 2, 1) := zb_X11_isWind_20.2.2.2.2.1
theorem dX11_isWind_27 : decode cX11_isWind 27 = .ok (.iload_n 0, 1) := zb_X11_isWind_20.2.2.2.2.2.1
theorem dX11_isWind_28 : decode cX11_isWind 28 = .ok (.bipush 10, 2) := zb_X11_isWind_20.2.2.2.2.2.2.1
theorem dX11_isWind_30 : decode cX11_isWind 30 = .ok (.idiv, 1) := zb_X11_isWind_20.2.2.2.2.2.2.2.1
theorem dX11_isWind_31 : decode cX11_isWind 31 = .ok (.bipush 10, 2) := zb_X11_isWind_20.2.2.2.2.2.2.2.2.1
theorem dX11_isWind_33 : decode cX11_isWind 33 = .ok (.irem, 1) := zb_X11_isWind_20.2.2.2.2.2.2.2.2.2.1
theorem dX11_isWind_34 : decode cX11_isWind 34 = .ok (.istore_n 3, 1) := zb_X11_isWind_20.2.2.2.2.2.2.2.2.2.2.1
theorem dX11_isWind_35 : decode cX11_isWind 35 = .ok (.iload_n 0, 1) := zb_X11_isWind_20.2.2.2.2.2.2.2.2.2.2.2
theorem zb_X11_isWind_36 : (decode cX11_isWind 36 = .ok (.bipush 10, 2)) ∧ (decode cX11_isWind 38 = .ok (.irem, 1)) ∧ (decode cX11_isWind 39 = .ok (.istore 4, 2)) ∧ (decode cX11_isWind 41 = .ok (.iload_n 2, 1)) ∧ (decode cX11_isWind 42 = .ok (.iconst 4, 1)) ∧ (decode cX11_isWind 43 = .ok (.if_icmp .gt 29, 3)) ∧ (decode cX11_isWind 72 = .ok (.iconst 0, 1)) ∧ (decode cX11_isWind 73 = .ok (.ireturn, 1)) ∧ (decode cX11_isWind 46 = .ok (.iload_n 3, 1)) ∧ (decode cX11_isWind 47 = .ok (.iconst 4, 1)) ∧ (decode cX11_isWind 48 = .ok (.if_icmp .gt 24, 3)) ∧ (decode cX11_isWind 51 = .ok (.iload 4, 2)) := by decide +kernel
theorem dX11_isWind_36 : decode cX11_isWind 36 = .ok (.bipush 10, 2) := zb_X11_isWind_36.1
theorem dX11_isWind_38 : decode cX11_isWind 38 = .ok (.irem, 1) := zb_X11_isWind_36.2.1
theorem dX11_isWind_39 : decode cX11_isWind 39 = .ok (.istore 4, 2) := zb_X11_isWind_36.2.2.1
theorem dX11_isWind_41 : decode cX11_isWind 41 = .ok (.iload_n 2, 1) := zb_X11_isWind_36.2.2.2.1
theorem dX11_isWind_42 : decode cX11_isWind 42 = .ok (.iconst 4, 1) := zb_X11_isWind_36.2.2.2.2.1
theorem dX11_isWind_43 : decode cX11_isWind 43 = .ok (.if_icmp .gt 29, 3) := zb_X11_isWind_36.2.2.2.2.2.1
theorem dX11_isWind_72 : decode cX11_isWind 72 = .ok (.iconst 0, 1) := zb_X11_isWind_36.2.2.2.2.2.2.1
theorem dX11_isWind_73 : decode cX11_isWind 73 = .ok (.ireturn, 1) := zb_X11_isWind_36.2.2.2.2.2.2.2.1
theorem dX11_isWind_46 : decode cX11_isWind 46 = .ok (.iload_n 3, 1) := zb_X11_isWind_36.2.2.2.2.2.2.2.2.1
theorem dX11_isWind_47 : decode cX11_isWind 47 = .ok (.iconst 4, 1) := zb_X11_isWind_36.2.2.2.2.2.2.2.2.2.1
theorem dX11_isWind_48 : decode cX11_isWind 48 = .ok (.if_icmp .gt 24, 3) := zb_X11_isWind_36.2.2.2.2.2.2.2.2.2.2.1
theorem dX11_isWind_51 : decode cX11_isWind 51 = .ok (.iload 4, 2) := zb_X11_isWind_36.2.2.2.2.2.2.2.2.2.2.2
theorem zb_X11_isWind_53 : (decode cX11_isWind 53 = .ok (.iconst 4, 1)) ∧ (decode cX11_isWind 54 = .ok (.if_icmp .gt 18, 3)) ∧ (decode cX11_isWind 57 = .ok (.iload_n 1, 1)) ∧ (decode cX11_isWind 58 = .ok (.iload_n 2, 1)) ∧ (decode cX11_isWind 59 = .ok (.if_icmp .gt 13, 3)) ∧ (decode cX11_isWind 62 = .ok (.iload_n 3, 1)) ∧ (decode cX11_isWind 63 = .ok (.iload 4, 2)) ∧ (decode cX11_isWind 65 = .ok (.if_icmp .gt 7, 3)) ∧ (decode cX11_isWind 68 = .ok (.iconst 1, 1)) ∧ (decode cX11_isWind 69 = .ok (.goto 4, 3)) := by decide +kernel
theorem dX11_isWind_53 : decode cX11_isWind 53 = .ok (.iconst 4, 1) := zb_X11_isWind_53.1
theorem dX11_isWind_54 : decode cX11_isWind 54 = .ok (.if_icmp .gt 18, 3) := zb_X11_isWind_53.2.1
theorem dX11_isWind_57 : decode cX11_isWind 57 = .ok (.iload_n 1, 1) := zb_X11_isWind_53.2.2.1
theorem dX11_isWind_58 : decode cX11_isWind 58 = .ok (.iload_n 2, 1) := zb_X11_isWind_53.2.2.2.1
theorem dX11_isWind_59 : decode cX11_isWind 59 = .ok (.if_icmp .gt 13, 3) := zb_X11_isWind_53.2.2.2.2.1
theorem dX11_isWind_62 : decode cX11_isWind 62 = .ok (.iload_n 3, 1) := zb_X11_isWind_53.2.2.2.2.2.1
theorem dX11_isWind_63 : decode cX11_isWind 63 = .ok (.iload 4, 2) := zb_X11_isWind_53.2.2.2.2.2.2.1
theorem dX11_isWind_65 : decode cX11_isWind 65 = .ok (.if_icmp .gt 7, 3) := zb_X11_isWind_53.2.2.2.2.2.2.2.1
theorem dX11_isWind_68 : decode cX11_isWind 68 = .ok (.iconst 1, 1) := zb_X11_isWind_53.2.2.2.2.2.2.2.2.1
theorem dX11_isWind_69 : decode cX11_isWind 69 = .ok (.goto 4, 3) := zb_X11_isWind_53.2.2.2.2.2.2.2.2.2
theorem zb_X11_has_0 : (decode cX11_has 0 = .ok (.lload_n 0, 1)) ∧ (decode cX11_has 1 = .ok (.iload_n 2, 1)) ∧ (decode cX11_has 2 = .ok (.lushr, 1)) ∧ (decode cX11_has 3 = .ok (.lconst 1, 1)) ∧ (decode cX11_has 4 = .ok (.land, 1)) ∧ (decode cX11_has 5 = .ok (.lconst 0, 1)) ∧ (decode cX11_has 6 = .ok (.lcmp, 1)) ∧ (decode cX11_has 7 = .ok (.ifCond .eq 7, 3)) ∧ (decode cX11_has 14 = .ok (.iconst 0, 1)) ∧ (decode cX11_has 15 = .ok (.ireturn, 1)) ∧ (decode cX11_has 10 = .ok (.iconst 1, 1)) ∧ (decode cX11_has 11 = .ok (.goto 4, 3)) := by decide +kernel
theorem dX11_has_0 : decode cX11_has 0 = .ok (.lload_n 0, 1) := zb_X11_has_0.1
theorem dX11_has_1 : decode cX11_has 1 = .ok (.iload_n 2, 1) := zb_X11_has_0.2.1
theorem dX11_has_2 : decode cX11_has 2 = .ok (.lushr, 1) := zb_X11_has_0.2.2.1
theorem dX11_has_3 : decode cX11_has 3 = .ok (.lconst 1, 1) := zb_X11_has_0.2.2.2.1
theorem dX11_has_4 : decode cX11_has 4 = .ok (.land, 1) := zb_X11_has_0.2.2.2.2.1
theorem dX11_has_5 : decode cX11_has 5 = .ok (.lconst 0, 1) := zb_X11_has_0.2.2.2.2.2.1
theorem dX11_has_6 : decode cX11_has 6 = .ok (.lcmp, 1) := zb_X11_has_0.2.2.2.2.2.2.1
theorem dX11_has_7 : decode cX11_has 7 = .ok (.ifCond .eq 7, 3) := zb_X11_has_0.2.2.2.2.2.2.2.1
theorem dX11_has_14 : decode cX11_has 14 = .ok (.iconst 0, 1) := zb_X11_has_0.2.2.2.2.2.2.2.2.1
theorem dX11_has_15 : decode cX11_has 15 = .ok (.ireturn, 1) := zb_X11_has_0.2.2.2.2.2.2.2.2.2.1
theorem dX11_has_10 : decode cX11_has 10 = .ok (.iconst 1, 1) := zb_X11_has_0.2.2.2.2.2.2.2.2.2.2.1
theorem dX11_has_11 : decode cX11_has 11 = .ok (.goto 4, 3) := zb_X11_has_0.2.2.2.2.2.2.2.2.2.2.2
theorem zb_X11_apart_0 : (decode cX11_apart 0 = .ok (.iload_n 0, 1)) ∧ (decode cX11_apart 1 = .ok (.bipush 8, 2)) ∧ (decode cX11_apart 3 = .ok (.irem, 1)) ∧ (decode cX11_apart 4 = .ok (.iload_n 1, 1)) ∧ (decode cX11_apart 5 = .ok (.bipush 8, 2)) ∧ (decode cX11_apart 7 = .ok (.irem, 1)) ∧ (decode cX11_apart 8 = .ok (.isub, 1)) ∧ (decode cX11_apart 9 = .ok (.invokestatic 395, 3)) ∧ (decode cX11_apart 12 = .ok (.istore_n 2, 1)) ∧ (decode cX11_apart 13 = .ok (.iload_n 0, 1)) ∧ (decode cX11_apart 14 = .ok (.bipush 8, 2)) := by decide +kernel
theorem dX11_apart_0 : decode cX11_apart 0 = .ok (.iload_n 0, 1) := zb_X11_apart_0.1
theorem dX11_apart_1 : decode cX11_apart 1 = .ok (.bipush 8, 2) := zb_X11_apart_0.2.1
theorem dX11_apart_3 : decode cX11_apart 3 = .ok (.irem, 1) := zb_X11_apart_0.2.2.1
theorem dX11_apart_4 : decode cX11_apart 4 = .ok (.iload_n 1, 1) := zb_X11_apart_0.2.2.2.1
theorem dX11_apart_5 : decode cX11_apart 5 = .ok (.bipush 8, 2) := zb_X11_apart_0.2.2.2.2.1
theorem dX11_apart_7 : decode cX11_apart 7 = .ok (.irem, 1) := zb_X11_apart_0.2.2.2.2.2.1
theorem dX11_apart_8 : decode cX11_apart 8 = .ok (.isub, 1) := zb_X11_apart_0.2.2.2.2.2.2.1
theorem dX11_apart_9 : decode cX11_apart 9 = .ok (.invokestatic 395, 3) := zb_X11_apart_0.2.2.2.2.2.2.2.1
theorem dX11_apart_12 : decode cX11_apart 12 = .ok (.istore_n 2, 1) := zb_X11_apart_0.2.2.2.2.2.2.2.2.1
theorem dX11_apart_13 : decode cX11_apart 13 = .ok (.iload_n 0, 1) := zb_X11_apart_0.2.2.2.2.2.2.2.2.2.1
theorem dX11_apart_14 : decode cX11_apart 14 = .ok (.bipush 8, 2) := zb_X11_apart_0.2.2.2.2.2.2.2.2.2.2
theorem zb_X11_apart_16 : (decode cX11_apart 16 = .ok (.idiv, 1)) ∧ (decode cX11_apart 17 = .ok (.iload_n 1, 1)) ∧ (decode cX11_apart 18 = .ok (.bipush 8, 2)) ∧ (decode cX11_apart 20 = .ok (.idiv, 1)) ∧ (decode cX11_apart 21 = .ok (.isub, 1)) ∧ (decode cX11_apart 22 = .ok (.invokestatic 395, 3)) ∧ (decode cX11_apart 25 = .ok (.istore_n 3, 1)) ∧ (decode cX11_apart 26 = .ok (.iload_n 2, 1)) ∧ (decode cX11_apart 27 = .ok (.iload_n 3, 1)) ∧ (decode cX11_apart 28 = .ok (.invokestatic 400, 3)) ∧ (decode cX11_apart 31 = .ok (.ireturn, 1)) := by decide +kernel
theorem dX11_apart_16 : decode cX11_apart 16 = .ok (.idiv, 1) := zb_X11_apart_16.1
theorem dX11_apart_17 : decode cX11_apart 17 = .ok (.iload_n 1, 1) := zb_X11_apart_16.2.1
theorem dX11_apart_18 : decode cX11_apart 18 = .ok (.bipush 8, 2) := zb_X11_apart_16.2.2.1
theorem dX11_apart_20 : decode cX11_apart 20 = .ok (.idiv, 1) := zb_X11_apart_16.2.2.2.1
theorem dX11_apart_21 : decode cX11_apart 21 = .ok (.isub, 1) := zb_X11_apart_16.2.2.2.2.1
theorem dX11_apart_22 : decode cX11_apart 22 = .ok (.invokestatic 395, 3) := zb_X11_apart_16.2.2.2.2.2.1
theorem dX11_apart_25 : decode cX11_apart 25 = .ok (.istore_n 3, 1) := zb_X11_apart_16.2.2.2.2.2.2.1
theorem dX11_apart_26 : decode cX11_apart 26 = .ok (.iload_n 2, 1) := zb_X11_apart_16.2.2.2.2.2.2.2.1
theorem dX11_apart_27 : decode cX11_apart 27 = .ok (.iload_n 3, 1) := zb_X11_apart_16.2.2.2.2.2.2.2.2.1
theorem dX11_apart_28 : decode cX11_apart 28 = .ok (.invokestatic 400, 3) := zb_X11_apart_16.2.2.2.2.2.2.2.2.2.1
theorem dX11_apart_31 : decode cX11_apart 31 = .ok (.ireturn, 1) := zb_X11_apart_16.2.2.2.2.2.2.2.2.2.2
theorem zb_X11_byColumns_0 : (decode cX11_byColumns 0 = .ok (.ldc2_w 406, 3)) ∧ (decode cX11_byColumns 3 = .ok (.lstore_n 3, 1)) ∧ (decode cX11_byColumns 4 = .ok (.iload_n 2, 1)) ∧ (decode cX11_byColumns 5 = .ok (.ifCond .lt 16, 3)) ∧ (decode cX11_byColumns 21 = .ok (.lload_n 0, 1)) ∧ (decode cX11_byColumns 22 = .ok (.lload_n 3, 1)) ∧ (decode cX11_byColumns 23 = .ok (.sipush 255, 3)) ∧ (decode cX11_byColumns 26 = .ok (.iload_n 2, 1)) ∧ (decode cX11_byColumns 27 = .ok (.ineg, 1)) ∧ (decode cX11_byColumns 28 = .ok (.ishl, 1)) := by decide +kernel
theorem dX11_byColumns_0 : decode cX11_byColumns 0 = .ok (.ldc2_w 406, 3) := zb_X11_byColumns_0.1
theorem dX11_byColumns_3 : decode cX11_byColumns 3 = .ok (.lstore_n 3, 1) := zb_X11_byColumns_0.2.1
theorem dX11_byColumns_4 : decode cX11_byColumns 4 = .ok (.iload_n 2, 1) := zb_X11_byColumns_0.2.2.1
theorem dX11_byColumns_5 : decode cX11_byColumns 5 = .ok (.ifCond .lt 16, 3) := zb_X11_byColumns_0.2.2.2.1
theorem dX11_byColumns_21 : decode cX11_byColumns 21 = .ok (.lload_n 0, 1) := zb_X11_byColumns_0.2.2.2.2.1
theorem dX11_byColumns_22 : decode cX11_byColumns 22 = .ok (.lload_n 3, 1) := zb_X11_byColumns_0.2.2.2.2.2.1
theorem dX11_byColumns_23 : decode cX11_byColumns 23 = .ok (.sipush 255, 3) := zb_X11_byColumns_0.2.2.2.2.2.2.1
theorem dX11_byColumns_26 : decode cX11_byColumns 26 = .ok (.iload_n 2, 1) := zb_X11_byColumns_0.2.2.2.2.2.2.2.1
theorem dX11_byColumns_27 : decode cX11_byColumns 27 = .ok (.ineg, 1) := zb_X11_byColumns_0.2.2.2.2.2.2.2.2.1
theorem dX11_byColumns_28 : decode cX11_byColumns 28 = .ok (.ishl, 1) := zb_X11_byColumns_0.2.2.2.2.2.2.2.2.2
theorem zb_X11_byColumns_29 : (decode cX11_byColumns 29 = .ok (.sipush 255, 3)) ∧ (decode cX11_byColumns 32 = .ok (.iand, 1)) ∧ (decode cX11_byColumns 33 = .ok (.i2l, 1)) ∧ (decode cX11_byColumns 34 = .ok (.lmul, 1)) ∧ (decode cX11_byColumns 35 = .ok (.land, 1)) ∧ (decode cX11_byColumns 36 = .ok (.iload_n 2, 1)) ∧ (decode cX11_byColumns 37 = .ok (.ineg, 1)) ∧ (decode cX11_byColumns 38 = .ok (.lushr, 1)) ∧ (decode cX11_byColumns 39 = .ok (.lreturn, 1)) ∧ (decode cX11_byColumns 8 = .ok (.lload_n 0, 1)) := by decide +kernel
theorem dX11_byColumns_29 : decode cX11_byColumns 29 = .ok (.sipush 255, 3) := zb_X11_byColumns_29.1
theorem dX11_byColumns_32 : decode cX11_byColumns 32 = .ok (.iand, 1) := zb_X11_byColumns_29.2.1
theorem dX11_byColumns_33 : decode cX11_byColumns 33 = .ok (.i2l, 1) := zb_X11_byColumns_29.2.2.1
theorem dX11_byColumns_34 : decode cX11_byColumns 34 = .ok (.lmul, 1) := zb_X11_byColumns_29.2.2.2.1
theorem dX11_byColumns_35 : decode cX11_byColumns 35 = .ok (.land, 1) := zb_X11_byColumns_29.2.2.2.2.1
theorem dX11_byColumns_36 : decode cX11_byColumns 36 = .ok (.iload_n 2, 1) := zb_X11_byColumns_29.2.2.2.2.2.1
theorem dX11_byColumns_37 : decode cX11_byColumns 37 = .ok (.ineg, 1) := zb_X11_byColumns_29.2.2.2.2.2.2.1
theorem dX11_byColumns_38 : decode cX11_byColumns 38 = .ok (.lushr, 1) := zb_X11_byColumns_29.2.2.2.2.2.2.2.1
theorem dX11_byColumns_39 : decode cX11_byColumns 39 = .ok (.lreturn, 1) := zb_X11_byColumns_29.2.2.2.2.2.2.2.2.1
theorem dX11_byColumns_8 : decode cX11_byColumns 8 = .ok (.lload_n 0, 1) := zb_X11_byColumns_29.2.2.2.2.2.2.2.2.2
theorem zb_X11_byColumns_9 : (decode cX11_byColumns 9 = .ok (.lload_n 3, 1)) ∧ (decode cX11_byColumns 10 = .ok (.sipush 255, 3)) ∧ (decode cX11_byColumns 13 = .ok (.iload_n 2, 1)) ∧ (decode cX11_byColumns 14 = .ok (.ishr, 1)) ∧ (decode cX11_byColumns 15 = .ok (.i2l, 1)) ∧ (decode cX11_byColumns 16 = .ok (.lmul, 1)) ∧ (decode cX11_byColumns 17 = .ok (.land, 1)) ∧ (decode cX11_byColumns 18 = .ok (.iload_n 2, 1)) ∧ (decode cX11_byColumns 19 = .ok (.lshl, 1)) ∧ (decode cX11_byColumns 20 = .ok (.lreturn, 1)) := by decide +kernel
theorem dX11_byColumns_9 : decode cX11_byColumns 9 = .ok (.lload_n 3, 1) := zb_X11_byColumns_9.1
theorem dX11_byColumns_10 : decode cX11_byColumns 10 = .ok (.sipush 255, 3) := zb_X11_byColumns_9.2.1
theorem dX11_byColumns_13 : decode cX11_byColumns 13 = .ok (.iload_n 2, 1) := zb_X11_byColumns_9.2.2.1
theorem dX11_byColumns_14 : decode cX11_byColumns 14 = .ok (.ishr, 1) := zb_X11_byColumns_9.2.2.2.1
theorem dX11_byColumns_15 : decode cX11_byColumns 15 = .ok (.i2l, 1) := zb_X11_byColumns_9.2.2.2.2.1
theorem dX11_byColumns_16 : decode cX11_byColumns 16 = .ok (.lmul, 1) := zb_X11_byColumns_9.2.2.2.2.2.1
theorem dX11_byColumns_17 : decode cX11_byColumns 17 = .ok (.land, 1) := zb_X11_byColumns_9.2.2.2.2.2.2.1
theorem dX11_byColumns_18 : decode cX11_byColumns 18 = .ok (.iload_n 2, 1) := zb_X11_byColumns_9.2.2.2.2.2.2.2.1
theorem dX11_byColumns_19 : decode cX11_byColumns 19 = .ok (.lshl, 1) := zb_X11_byColumns_9.2.2.2.2.2.2.2.2.1
theorem dX11_byColumns_20 : decode cX11_byColumns 20 = .ok (.lreturn, 1) := zb_X11_byColumns_9.2.2.2.2.2.2.2.2.2
theorem zb_X11_byRows_0 : (decode cX11_byRows 0 = .ok (.iload_n 2, 1)) ∧ (decode cX11_byRows 1 = .ok (.ifCond .lt 12, 3)) ∧ (decode cX11_byRows 13 = .ok (.lload_n 0, 1)) ∧ (decode cX11_byRows 14 = .ok (.bipush 8, 2)) ∧ (decode cX11_byRows 16 = .ok (.iload_n 2, 1)) ∧ (decode cX11_byRows 17 = .ok (.ineg, 1)) ∧ (decode cX11_byRows 18 = .ok (.imul, 1)) ∧ (decode cX11_byRows 19 = .ok (.lushr, 1)) := by decide +kernel
theorem dX11_byRows_0 : decode cX11_byRows 0 = .ok (.iload_n 2, 1) := zb_X11_byRows_0.1
theorem dX11_byRows_1 : decode cX11_byRows 1 = .ok (.ifCond .lt 12, 3) := zb_X11_byRows_0.2.1
theorem dX11_byRows_13 : decode cX11_byRows 13 = .ok (.lload_n 0, 1) := zb_X11_byRows_0.2.2.1
theorem dX11_byRows_14 : decode cX11_byRows 14 = .ok (.bipush 8, 2) := zb_X11_byRows_0.2.2.2.1
theorem dX11_byRows_16 : decode cX11_byRows 16 = .ok (.iload_n 2, 1) := zb_X11_byRows_0.2.2.2.2.1
theorem dX11_byRows_17 : decode cX11_byRows 17 = .ok (.ineg, 1) := zb_X11_byRows_0.2.2.2.2.2.1
theorem dX11_byRows_18 : decode cX11_byRows 18 = .ok (.imul, 1) := zb_X11_byRows_0.2.2.2.2.2.2.1
theorem dX11_byRows_19 : decode cX11_byRows 19 = .ok (.lushr, 1) := zb_X11_byRows_0.2.2.2.2.2.2.2
theorem zb_X11_byRows_20 : (decode cX11_byRows 20 = .ok (.lreturn, 1)) ∧ (decode cX11_byRows 4 = .ok (.lload_n 0, 1)) ∧ (decode cX11_byRows 5 = .ok (.bipush 8, 2)) ∧ (decode cX11_byRows 7 = .ok (.iload_n 2, 1)) ∧ (decode cX11_byRows 8 = .ok (.imul, 1)) ∧ (decode cX11_byRows 9 = .ok (.lshl, 1)) ∧ (decode cX11_byRows 10 = .ok (.goto 10, 3)) := by decide +kernel
theorem dX11_byRows_20 : decode cX11_byRows 20 = .ok (.lreturn, 1) := zb_X11_byRows_20.1
theorem dX11_byRows_4 : decode cX11_byRows 4 = .ok (.lload_n 0, 1) := zb_X11_byRows_20.2.1
theorem dX11_byRows_5 : decode cX11_byRows 5 = .ok (.bipush 8, 2) := zb_X11_byRows_20.2.2.1
theorem dX11_byRows_7 : decode cX11_byRows 7 = .ok (.iload_n 2, 1) := zb_X11_byRows_20.2.2.2.1
theorem dX11_byRows_8 : decode cX11_byRows 8 = .ok (.imul, 1) := zb_X11_byRows_20.2.2.2.2.1
theorem dX11_byRows_9 : decode cX11_byRows 9 = .ok (.lshl, 1) := zb_X11_byRows_20.2.2.2.2.2.1
theorem dX11_byRows_10 : decode cX11_byRows 10 = .ok (.goto 10, 3) := zb_X11_byRows_20.2.2.2.2.2.2
theorem zb_X11_nearest_0 : (decode cX11_nearest 0 = .ok (.bipush 99, 2)) ∧ (decode cX11_nearest 2 = .ok (.istore_n 3, 1)) ∧ (decode cX11_nearest 3 = .ok (.iconst 0, 1)) ∧ (decode cX11_nearest 4 = .ok (.istore 4, 2)) ∧ (decode cX11_nearest 6 = .ok (.iload 4, 2)) ∧ (decode cX11_nearest 8 = .ok (.bipush 64, 2)) ∧ (decode cX11_nearest 10 = .ok (.if_icmp .ge 29, 3)) ∧ (decode cX11_nearest 39 = .ok (.iload_n 3, 1)) ∧ (decode cX11_nearest 40 = .ok (.ireturn, 1)) ∧ (decode cX11_nearest 13 = .ok (.lload_n 1, 1)) ∧ (decode cX11_nearest 14 = .ok (.iload 4, 2)) := by decide +kernel
theorem dX11_nearest_0 : decode cX11_nearest 0 = .ok (.bipush 99, 2) := zb_X11_nearest_0.1
theorem dX11_nearest_2 : decode cX11_nearest 2 = .ok (.istore_n 3, 1) := zb_X11_nearest_0.2.1
theorem dX11_nearest_3 : decode cX11_nearest 3 = .ok (.iconst 0, 1) := zb_X11_nearest_0.2.2.1
theorem dX11_nearest_4 : decode cX11_nearest 4 = .ok (.istore 4, 2) := zb_X11_nearest_0.2.2.2.1
theorem dX11_nearest_6 : decode cX11_nearest 6 = .ok (.iload 4, 2) := zb_X11_nearest_0.2.2.2.2.1
theorem dX11_nearest_8 : decode cX11_nearest 8 = .ok (.bipush 64, 2) := zb_X11_nearest_0.2.2.2.2.2.1
theorem dX11_nearest_10 : decode cX11_nearest 10 = .ok (.if_icmp .ge 29, 3) := zb_X11_nearest_0.2.2.2.2.2.2.1
theorem dX11_nearest_39 : decode cX11_nearest 39 = .ok (.iload_n 3, 1) := zb_X11_nearest_0.2.2.2.2.2.2.2.1
theorem dX11_nearest_40 : decode cX11_nearest 40 = .ok (.ireturn, 1) := zb_X11_nearest_0.2.2.2.2.2.2.2.2.1
theorem dX11_nearest_13 : decode cX11_nearest 13 = .ok (.lload_n 1, 1) := zb_X11_nearest_0.2.2.2.2.2.2.2.2.2.1
theorem dX11_nearest_14 : decode cX11_nearest 14 = .ok (.iload 4, 2) := zb_X11_nearest_0.2.2.2.2.2.2.2.2.2.2
theorem zb_X11_nearest_16 : (decode cX11_nearest 16 = .ok (.invokestatic 317, 3)) ∧ (decode cX11_nearest 19 = .ok (.ifCond .eq 14, 3)) ∧ (decode cX11_nearest 22 = .ok (.iload_n 3, 1)) ∧ (decode cX11_nearest 23 = .ok (.iload_n 0, 1)) ∧ (decode cX11_nearest 24 = .ok (.iload 4, 2)) ∧ (decode cX11_nearest 26 = .ok (.invokestatic 256, 3)) ∧ (decode cX11_nearest 29 = .ok (.invokestatic 403, 3)) ∧ (decode cX11_nearest 32 = .ok (.istore_n 3, 1)) ∧ (decode cX11_nearest 33 = .ok (.iinc 4 1, 3)) ∧ (decode cX11_nearest 36 = .ok (.goto (-30), 3)) := by decide +kernel
theorem dX11_nearest_16 : decode cX11_nearest 16 = .ok (.invokestatic 317, 3) := zb_X11_nearest_16.1
theorem dX11_nearest_19 : decode cX11_nearest 19 = .ok (.ifCond .eq 14, 3) := zb_X11_nearest_16.2.1
theorem dX11_nearest_22 : decode cX11_nearest 22 = .ok (.iload_n 3, 1) := zb_X11_nearest_16.2.2.1
theorem dX11_nearest_23 : decode cX11_nearest 23 = .ok (.iload_n 0, 1) := zb_X11_nearest_16.2.2.2.1
theorem dX11_nearest_24 : decode cX11_nearest 24 = .ok (.iload 4, 2) := zb_X11_nearest_16.2.2.2.2.1
theorem dX11_nearest_26 : decode cX11_nearest 26 = .ok (.invokestatic 256, 3) := zb_X11_nearest_16.2.2.2.2.2.1
theorem dX11_nearest_29 : decode cX11_nearest 29 = .ok (.invokestatic 403, 3) := zb_X11_nearest_16.2.2.2.2.2.2.1
theorem dX11_nearest_32 : decode cX11_nearest 32 = .ok (.istore_n 3, 1) := zb_X11_nearest_16.2.2.2.2.2.2.2.1
theorem dX11_nearest_33 : decode cX11_nearest 33 = .ok (.iinc 4 1, 3) := zb_X11_nearest_16.2.2.2.2.2.2.2.2.1
theorem dX11_nearest_36 : decode cX11_nearest 36 = .ok (.goto (-30), 3) := zb_X11_nearest_16.2.2.2.2.2.2.2.2.2
theorem zb_X4_digit_0 : (decode cX4_digit 0 = .ok (.lload_n 0, 1)) ∧ (decode cX4_digit 1 = .ok (.iconst 4, 1)) ∧ (decode cX4_digit 2 = .ok (.iload_n 2, 1)) ∧ (decode cX4_digit 3 = .ok (.imul, 1)) ∧ (decode cX4_digit 4 = .ok (.lushr, 1)) ∧ (decode cX4_digit 5 = .ok (.ldc2_w 69, 3)) ∧ (decode cX4_digit 8 = .ok (.land, 1)) ∧ (decode cX4_digit 9 = .ok (.l2i, 1)) ∧ (decode cX4_digit 10 = .ok (.ireturn, 1)) := by decide +kernel
theorem dX4_digit_0 : decode cX4_digit 0 = .ok (.lload_n 0, 1) := zb_X4_digit_0.1
theorem dX4_digit_1 : decode cX4_digit 1 = .ok (.iconst 4, 1) := zb_X4_digit_0.2.1
theorem dX4_digit_2 : decode cX4_digit 2 = .ok (.iload_n 2, 1) := zb_X4_digit_0.2.2.1
theorem dX4_digit_3 : decode cX4_digit 3 = .ok (.imul, 1) := zb_X4_digit_0.2.2.2.1
theorem dX4_digit_4 : decode cX4_digit 4 = .ok (.lushr, 1) := zb_X4_digit_0.2.2.2.2.1
theorem dX4_digit_5 : decode cX4_digit 5 = .ok (.ldc2_w 69, 3) := zb_X4_digit_0.2.2.2.2.2.1
theorem dX4_digit_8 : decode cX4_digit 8 = .ok (.land, 1) := zb_X4_digit_0.2.2.2.2.2.2.1
theorem dX4_digit_9 : decode cX4_digit 9 = .ok (.l2i, 1) := zb_X4_digit_0.2.2.2.2.2.2.2.1
theorem dX4_digit_10 : decode cX4_digit 10 = .ok (.ireturn, 1) := zb_X4_digit_0.2.2.2.2.2.2.2.2
theorem zb_X9_truth_0 : (decode cX9_truth 0 = .ok (.iload_n 0, 1)) ∧ (decode cX9_truth 1 = .ok (.ifCond .eq 7, 3)) ∧ (decode cX9_truth 8 = .ok (.iconst 0, 1)) ∧ (decode cX9_truth 9 = .ok (.ireturn, 1)) ∧ (decode cX9_truth 4 = .ok (.iconst 1, 1)) ∧ (decode cX9_truth 5 = .ok (.goto 4, 3)) := by decide +kernel
theorem dX9_truth_0 : decode cX9_truth 0 = .ok (.iload_n 0, 1) := zb_X9_truth_0.1
theorem dX9_truth_1 : decode cX9_truth 1 = .ok (.ifCond .eq 7, 3) := zb_X9_truth_0.2.1
theorem dX9_truth_8 : decode cX9_truth 8 = .ok (.iconst 0, 1) := zb_X9_truth_0.2.2.1
theorem dX9_truth_9 : decode cX9_truth 9 = .ok (.ireturn, 1) := zb_X9_truth_0.2.2.2.1
theorem dX9_truth_4 : decode cX9_truth 4 = .ok (.iconst 1, 1) := zb_X9_truth_0.2.2.2.2.1
theorem dX9_truth_5 : decode cX9_truth 5 = .ok (.goto 4, 3) := zb_X9_truth_0.2.2.2.2.2
theorem zb_X9_joined_0 : (decode cX9_joined 0 = .ok (.iload_n 0, 1)) ∧ (decode cX9_joined 1 = .ok (.tableswitch 113 (-17) (-11) #[109, 105, 91, 77, 113, 60, 43], 43)) ∧ (decode cX9_joined 114 = .ok (.iload_n 1, 1)) ∧ (decode cX9_joined 115 = .ok (.iload_n 2, 1)) ∧ (decode cX9_joined 116 = .ok (.imul, 1)) ∧ (decode cX9_joined 117 = .ok (.ireturn, 1)) ∧ (decode cX9_joined 110 = .ok (.iload_n 1, 1)) ∧ (decode cX9_joined 111 = .ok (.iload_n 2, 1)) ∧ (decode cX9_joined 112 = .ok (.isub, 1)) ∧ (decode cX9_joined 113 = .ok (.ireturn, 1)) ∧ (decode cX9_joined 106 = .ok (.iload_n 1, 1)) ∧ (decode cX9_joined 107 = .ok (.iload_n 2, 1)) := by decide +kernel
theorem dX9_joined_0 : decode cX9_joined 0 = .ok (.iload_n 0, 1) := zb_X9_joined_0.1
theorem dX9_joined_1 : decode cX9_joined 1 = .ok (.tableswitch 113 (-17) (-11) #[109, 105, 91, 77, 113, 60, 43], 43) := zb_X9_joined_0.2.1
theorem dX9_joined_114 : decode cX9_joined 114 = .ok (.iload_n 1, 1) := zb_X9_joined_0.2.2.1
theorem dX9_joined_115 : decode cX9_joined 115 = .ok (.iload_n 2, 1) := zb_X9_joined_0.2.2.2.1
theorem dX9_joined_116 : decode cX9_joined 116 = .ok (.imul, 1) := zb_X9_joined_0.2.2.2.2.1
theorem dX9_joined_117 : decode cX9_joined 117 = .ok (.ireturn, 1) := zb_X9_joined_0.2.2.2.2.2.1
theorem dX9_joined_110 : decode cX9_joined 110 = .ok (.iload_n 1, 1) := zb_X9_joined_0.2.2.2.2.2.2.1
theorem dX9_joined_111 : decode cX9_joined 111 = .ok (.iload_n 2, 1) := zb_X9_joined_0.2.2.2.2.2.2.2.1
theorem dX9_joined_112 : decode cX9_joined 112 = .ok (.isub, 1) := zb_X9_joined_0.2.2.2.2.2.2.2.2.1
theorem dX9_joined_113 : decode cX9_joined 113 = .ok (.ireturn, 1) := zb_X9_joined_0.2.2.2.2.2.2.2.2.2.1
theorem dX9_joined_106 : decode cX9_joined 106 = .ok (.iload_n 1, 1) := zb_X9_joined_0.2.2.2.2.2.2.2.2.2.2.1
theorem dX9_joined_107 : decode cX9_joined 107 = .ok (.iload_n 2, 1) := zb_X9_joined_0.2.2.2.2.2.2.2.2.2.2.2
theorem zb_X9_joined_108 : (decode cX9_joined 108 = .ok (.iadd, 1)) ∧ (decode cX9_joined 109 = .ok (.ireturn, 1)) ∧ (decode cX9_joined 92 = .ok (.iload_n 1, 1)) ∧ (decode cX9_joined 93 = .ok (.iload_n 2, 1)) ∧ (decode cX9_joined 94 = .ok (.if_icmp .ne 7, 3)) ∧ (decode cX9_joined 101 = .ok (.iconst 0, 1)) ∧ (decode cX9_joined 102 = .ok (.invokestatic 49, 3)) ∧ (decode cX9_joined 105 = .ok (.ireturn, 1)) ∧ (decode cX9_joined 97 = .ok (.iconst 1, 1)) ∧ (decode cX9_joined 98 = .ok (.goto 4, 3)) ∧ (decode cX9_joined 78 = .ok (.iload_n 1, 1)) ∧ (decode cX9_joined 79 = .ok (.iload_n 2, 1)) := by decide +kernel
theorem dX9_joined_108 : decode cX9_joined 108 = .ok (.iadd, 1) := zb_X9_joined_108.1
theorem dX9_joined_109 : decode cX9_joined 109 = .ok (.ireturn, 1) := zb_X9_joined_108.2.1
theorem dX9_joined_92 : decode cX9_joined 92 = .ok (.iload_n 1, 1) := zb_X9_joined_108.2.2.1
theorem dX9_joined_93 : decode cX9_joined 93 = .ok (.iload_n 2, 1) := zb_X9_joined_108.2.2.2.1
theorem dX9_joined_94 : decode cX9_joined 94 = .ok (.if_icmp .ne 7, 3) := zb_X9_joined_108.2.2.2.2.1
theorem dX9_joined_101 : decode cX9_joined 101 = .ok (.iconst 0, 1) := zb_X9_joined_108.2.2.2.2.2.1
theorem dX9_joined_102 : decode cX9_joined 102 = .ok (.invokestatic 49, 3) := zb_X9_joined_108.2.2.2.2.2.2.1
theorem dX9_joined_105 : decode cX9_joined 105 = .ok (.ireturn, 1) := zb_X9_joined_108.2.2.2.2.2.2.2.1
theorem dX9_joined_97 : decode cX9_joined 97 = .ok (.iconst 1, 1) := zb_X9_joined_108.2.2.2.2.2.2.2.2.1
theorem dX9_joined_98 : decode cX9_joined 98 = .ok (.goto 4, 3) := zb_X9_joined_108.2.2.2.2.2.2.2.2.2.1
theorem dX9_joined_78 : decode cX9_joined 78 = .ok (.iload_n 1, 1) := zb_X9_joined_108.2.2.2.2.2.2.2.2.2.2.1
theorem dX9_joined_79 : decode cX9_joined 79 = .ok (.iload_n 2, 1) := zb_X9_joined_108.2.2.2.2.2.2.2.2.2.2.2
theorem zb_X9_joined_80 : (decode cX9_joined 80 = .ok (.if_icmp .ge 7, 3)) ∧ (decode cX9_joined 87 = .ok (.iconst 0, 1)) ∧ (decode cX9_joined 88 = .ok (.invokestatic 49, 3)) ∧ (decode cX9_joined 91 = .ok (.ireturn, 1)) ∧ (decode cX9_joined 83 = .ok (.iconst 1, 1)) ∧ (decode cX9_joined 84 = .ok (.goto 4, 3)) ∧ (decode cX9_joined 61 = .ok (.iload_n 1, 1)) ∧ (decode cX9_joined 62 = .ok (.ifCond .eq 11, 3)) ∧ (decode cX9_joined 73 = .ok (.iconst 0, 1)) ∧ (decode cX9_joined 74 = .ok (.invokestatic 49, 3)) ∧ (decode cX9_joined 77 = .ok (.ireturn, 1)) ∧ (decode cX9_joined 65 = .ok (.iload_n 2, 1)) := by decide +kernel
theorem dX9_joined_80 : decode cX9_joined 80 = .ok (.if_icmp .ge 7, 3) := zb_X9_joined_80.1
theorem dX9_joined_87 : decode cX9_joined 87 = .ok (.iconst 0, 1) := zb_X9_joined_80.2.1
theorem dX9_joined_88 : decode cX9_joined 88 = .ok (.invokestatic 49, 3) := zb_X9_joined_80.2.2.1
theorem dX9_joined_91 : decode cX9_joined 91 = .ok (.ireturn, 1) := zb_X9_joined_80.2.2.2.1
theorem dX9_joined_83 : decode cX9_joined 83 = .ok (.iconst 1, 1) := zb_X9_joined_80.2.2.2.2.1
theorem dX9_joined_84 : decode cX9_joined 84 = .ok (.goto 4, 3) := zb_X9_joined_80.2.2.2.2.2.1
theorem dX9_joined_61 : decode cX9_joined 61 = .ok (.iload_n 1, 1) := zb_X9_joined_80.2.2.2.2.2.2.1
theorem dX9_joined_62 : decode cX9_joined 62 = .ok (.ifCond .eq 11, 3) := zb_X9_joined_80.2.2.2.2.2.2.2.1
theorem dX9_joined_73 : decode cX9_joined 73 = .ok (.iconst 0, 1) := zb_X9_joined_80.2.2.2.2.2.2.2.2.1
theorem dX9_joined_74 : decode cX9_joined 74 = .ok (.invokestatic 49, 3) := zb_X9_joined_80.2.2.2.2.2.2.2.2.2.1
theorem dX9_joined_77 : decode cX9_joined 77 = .ok (.ireturn, 1) := zb_X9_joined_80.2.2.2.2.2.2.2.2.2.2.1
theorem dX9_joined_65 : decode cX9_joined 65 = .ok (.iload_n 2, 1) := zb_X9_joined_80.2.2.2.2.2.2.2.2.2.2.2
theorem zb_X9_joined_66 : (decode cX9_joined 66 = .ok (.ifCond .eq 7, 3)) ∧ (decode cX9_joined 69 = .ok (.iconst 1, 1)) ∧ (decode cX9_joined 70 = .ok (.goto 4, 3)) ∧ (decode cX9_joined 44 = .ok (.iload_n 1, 1)) ∧ (decode cX9_joined 45 = .ok (.ifCond .ne 7, 3)) ∧ (decode cX9_joined 52 = .ok (.iconst 1, 1)) ∧ (decode cX9_joined 53 = .ok (.goto 4, 3)) ∧ (decode cX9_joined 57 = .ok (.invokestatic 49, 3)) ∧ (decode cX9_joined 60 = .ok (.ireturn, 1)) ∧ (decode cX9_joined 48 = .ok (.iload_n 2, 1)) ∧ (decode cX9_joined 49 = .ok (.ifCond .eq 7, 3)) ∧ (decode cX9_joined 56 = .ok (.iconst 0, 1)) := by decide +kernel
theorem dX9_joined_66 : decode cX9_joined 66 = .ok (.ifCond .eq 7, 3) := zb_X9_joined_66.1
theorem dX9_joined_69 : decode cX9_joined 69 = .ok (.iconst 1, 1) := zb_X9_joined_66.2.1
theorem dX9_joined_70 : decode cX9_joined 70 = .ok (.goto 4, 3) := zb_X9_joined_66.2.2.1
theorem dX9_joined_44 : decode cX9_joined 44 = .ok (.iload_n 1, 1) := zb_X9_joined_66.2.2.2.1
theorem dX9_joined_45 : decode cX9_joined 45 = .ok (.ifCond .ne 7, 3) := zb_X9_joined_66.2.2.2.2.1
theorem dX9_joined_52 : decode cX9_joined 52 = .ok (.iconst 1, 1) := zb_X9_joined_66.2.2.2.2.2.1
theorem dX9_joined_53 : decode cX9_joined 53 = .ok (.goto 4, 3) := zb_X9_joined_66.2.2.2.2.2.2.1
theorem dX9_joined_57 : decode cX9_joined 57 = .ok (.invokestatic 49, 3) := zb_X9_joined_66.2.2.2.2.2.2.2.1
theorem dX9_joined_60 : decode cX9_joined 60 = .ok (.ireturn, 1) := zb_X9_joined_66.2.2.2.2.2.2.2.2.1
theorem dX9_joined_48 : decode cX9_joined 48 = .ok (.iload_n 2, 1) := zb_X9_joined_66.2.2.2.2.2.2.2.2.2.1
theorem dX9_joined_49 : decode cX9_joined 49 = .ok (.ifCond .eq 7, 3) := zb_X9_joined_66.2.2.2.2.2.2.2.2.2.2.1
theorem dX9_joined_56 : decode cX9_joined 56 = .ok (.iconst 0, 1) := zb_X9_joined_66.2.2.2.2.2.2.2.2.2.2.2
theorem zb_X5_isBlank_0 : (decode cX5_isBlank 0 = .ok (.iload_n 0, 1)) ∧ (decode cX5_isBlank 1 = .ok (.bipush 32, 2)) ∧ (decode cX5_isBlank 3 = .ok (.if_icmp .eq 9, 3)) ∧ (decode cX5_isBlank 12 = .ok (.iconst 1, 1)) ∧ (decode cX5_isBlank 13 = .ok (.goto 4, 3)) ∧ (decode cX5_isBlank 17 = .ok (.ireturn, 1)) ∧ (decode cX5_isBlank 6 = .ok (.iload_n 0, 1)) ∧ (decode cX5_isBlank 7 = .ok (.bipush 10, 2)) ∧ (decode cX5_isBlank 9 = .ok (.if_icmp .ne 7, 3)) ∧ (decode cX5_isBlank 16 = .ok (.iconst 0, 1)) := by decide +kernel
theorem dX5_isBlank_0 : decode cX5_isBlank 0 = .ok (.iload_n 0, 1) := zb_X5_isBlank_0.1
theorem dX5_isBlank_1 : decode cX5_isBlank 1 = .ok (.bipush 32, 2) := zb_X5_isBlank_0.2.1
theorem dX5_isBlank_3 : decode cX5_isBlank 3 = .ok (.if_icmp .eq 9, 3) := zb_X5_isBlank_0.2.2.1
theorem dX5_isBlank_12 : decode cX5_isBlank 12 = .ok (.iconst 1, 1) := zb_X5_isBlank_0.2.2.2.1
theorem dX5_isBlank_13 : decode cX5_isBlank 13 = .ok (.goto 4, 3) := zb_X5_isBlank_0.2.2.2.2.1
theorem dX5_isBlank_17 : decode cX5_isBlank 17 = .ok (.ireturn, 1) := zb_X5_isBlank_0.2.2.2.2.2.1
theorem dX5_isBlank_6 : decode cX5_isBlank 6 = .ok (.iload_n 0, 1) := zb_X5_isBlank_0.2.2.2.2.2.2.1
theorem dX5_isBlank_7 : decode cX5_isBlank 7 = .ok (.bipush 10, 2) := zb_X5_isBlank_0.2.2.2.2.2.2.2.1
theorem dX5_isBlank_9 : decode cX5_isBlank 9 = .ok (.if_icmp .ne 7, 3) := zb_X5_isBlank_0.2.2.2.2.2.2.2.2.1
theorem dX5_isBlank_16 : decode cX5_isBlank 16 = .ok (.iconst 0, 1) := zb_X5_isBlank_0.2.2.2.2.2.2.2.2.2
theorem zb_X5_isLetter_0 : (decode cX5_isLetter 0 = .ok (.iload_n 0, 1)) ∧ (decode cX5_isLetter 1 = .ok (.bipush 97, 2)) ∧ (decode cX5_isLetter 3 = .ok (.if_icmp .lt 13, 3)) ∧ (decode cX5_isLetter 16 = .ok (.iconst 0, 1)) ∧ (decode cX5_isLetter 17 = .ok (.ireturn, 1)) ∧ (decode cX5_isLetter 6 = .ok (.iload_n 0, 1)) ∧ (decode cX5_isLetter 7 = .ok (.bipush 122, 2)) ∧ (decode cX5_isLetter 9 = .ok (.if_icmp .gt 7, 3)) ∧ (decode cX5_isLetter 12 = .ok (.iconst 1, 1)) ∧ (decode cX5_isLetter 13 = .ok (.goto 4, 3)) := by decide +kernel
theorem dX5_isLetter_0 : decode cX5_isLetter 0 = .ok (.iload_n 0, 1) := zb_X5_isLetter_0.1
theorem dX5_isLetter_1 : decode cX5_isLetter 1 = .ok (.bipush 97, 2) := zb_X5_isLetter_0.2.1
theorem dX5_isLetter_3 : decode cX5_isLetter 3 = .ok (.if_icmp .lt 13, 3) := zb_X5_isLetter_0.2.2.1
theorem dX5_isLetter_16 : decode cX5_isLetter 16 = .ok (.iconst 0, 1) := zb_X5_isLetter_0.2.2.2.1
theorem dX5_isLetter_17 : decode cX5_isLetter 17 = .ok (.ireturn, 1) := zb_X5_isLetter_0.2.2.2.2.1
theorem dX5_isLetter_6 : decode cX5_isLetter 6 = .ok (.iload_n 0, 1) := zb_X5_isLetter_0.2.2.2.2.2.1
theorem dX5_isLetter_7 : decode cX5_isLetter 7 = .ok (.bipush 122, 2) := zb_X5_isLetter_0.2.2.2.2.2.2.1
theorem dX5_isLetter_9 : decode cX5_isLetter 9 = .ok (.if_icmp .gt 7, 3) := zb_X5_isLetter_0.2.2.2.2.2.2.2.1
theorem dX5_isLetter_12 : decode cX5_isLetter 12 = .ok (.iconst 1, 1) := zb_X5_isLetter_0.2.2.2.2.2.2.2.2.1
theorem dX5_isLetter_13 : decode cX5_isLetter 13 = .ok (.goto 4, 3) := zb_X5_isLetter_0.2.2.2.2.2.2.2.2.2
theorem zb_X5_isDigit_0 : (decode cX5_isDigit 0 = .ok (.iload_n 0, 1)) ∧ (decode cX5_isDigit 1 = .ok (.bipush 48, 2)) ∧ (decode cX5_isDigit 3 = .ok (.if_icmp .lt 13, 3)) ∧ (decode cX5_isDigit 16 = .ok (.iconst 0, 1)) ∧ (decode cX5_isDigit 17 = .ok (.ireturn, 1)) ∧ (decode cX5_isDigit 6 = .ok (.iload_n 0, 1)) ∧ (decode cX5_isDigit 7 = .ok (.bipush 57, 2)) ∧ (decode cX5_isDigit 9 = .ok (.if_icmp .gt 7, 3)) ∧ (decode cX5_isDigit 12 = .ok (.iconst 1, 1)) ∧ (decode cX5_isDigit 13 = .ok (.goto 4, 3)) := by decide +kernel
theorem dX5_isDigit_0 : decode cX5_isDigit 0 = .ok (.iload_n 0, 1) := zb_X5_isDigit_0.1
theorem dX5_isDigit_1 : decode cX5_isDigit 1 = .ok (.bipush 48, 2) := zb_X5_isDigit_0.2.1
theorem dX5_isDigit_3 : decode cX5_isDigit 3 = .ok (.if_icmp .lt 13, 3) := zb_X5_isDigit_0.2.2.1
theorem dX5_isDigit_16 : decode cX5_isDigit 16 = .ok (.iconst 0, 1) := zb_X5_isDigit_0.2.2.2.1
theorem dX5_isDigit_17 : decode cX5_isDigit 17 = .ok (.ireturn, 1) := zb_X5_isDigit_0.2.2.2.2.1
theorem dX5_isDigit_6 : decode cX5_isDigit 6 = .ok (.iload_n 0, 1) := zb_X5_isDigit_0.2.2.2.2.2.1
theorem dX5_isDigit_7 : decode cX5_isDigit 7 = .ok (.bipush 57, 2) := zb_X5_isDigit_0.2.2.2.2.2.2.1
theorem dX5_isDigit_9 : decode cX5_isDigit 9 = .ok (.if_icmp .gt 7, 3) := zb_X5_isDigit_0.2.2.2.2.2.2.2.1
theorem dX5_isDigit_12 : decode cX5_isDigit 12 = .ok (.iconst 1, 1) := zb_X5_isDigit_0.2.2.2.2.2.2.2.2.1
theorem dX5_isDigit_13 : decode cX5_isDigit 13 = .ok (.goto 4, 3) := zb_X5_isDigit_0.2.2.2.2.2.2.2.2.2
theorem zb_X5_isSign_0 : (decode cX5_isSign 0 = .ok (.iload_n 0, 1)) ∧ (decode cX5_isSign 1 = .ok (.bipush 40, 2)) ∧ (decode cX5_isSign 3 = .ok (.if_icmp .lt 9, 3)) ∧ (decode cX5_isSign 12 = .ok (.iload_n 0, 1)) ∧ (decode cX5_isSign 13 = .ok (.bipush 45, 2)) ∧ (decode cX5_isSign 15 = .ok (.if_icmp .eq 15, 3)) ∧ (decode cX5_isSign 18 = .ok (.iload_n 0, 1)) ∧ (decode cX5_isSign 19 = .ok (.bipush 59, 2)) ∧ (decode cX5_isSign 21 = .ok (.if_icmp .lt 13, 3)) ∧ (decode cX5_isSign 34 = .ok (.iconst 0, 1)) := by decide +kernel
theorem dX5_isSign_0 : decode cX5_isSign 0 = .ok (.iload_n 0, 1) := zb_X5_isSign_0.1
theorem dX5_isSign_1 : decode cX5_isSign 1 = .ok (.bipush 40, 2) := zb_X5_isSign_0.2.1
theorem dX5_isSign_3 : decode cX5_isSign 3 = .ok (.if_icmp .lt 9, 3) := zb_X5_isSign_0.2.2.1
theorem dX5_isSign_12 : decode cX5_isSign 12 = .ok (.iload_n 0, 1) := zb_X5_isSign_0.2.2.2.1
theorem dX5_isSign_13 : decode cX5_isSign 13 = .ok (.bipush 45, 2) := zb_X5_isSign_0.2.2.2.2.1
theorem dX5_isSign_15 : decode cX5_isSign 15 = .ok (.if_icmp .eq 15, 3) := zb_X5_isSign_0.2.2.2.2.2.1
theorem dX5_isSign_18 : decode cX5_isSign 18 = .ok (.iload_n 0, 1) := zb_X5_isSign_0.2.2.2.2.2.2.1
theorem dX5_isSign_19 : decode cX5_isSign 19 = .ok (.bipush 59, 2) := zb_X5_isSign_0.2.2.2.2.2.2.2.1
theorem dX5_isSign_21 : decode cX5_isSign 21 = .ok (.if_icmp .lt 13, 3) := zb_X5_isSign_0.2.2.2.2.2.2.2.2.1
theorem dX5_isSign_34 : decode cX5_isSign 34 = .ok (.iconst 0, 1) := zb_X5_isSign_0.2.2.2.2.2.2.2.2.2
theorem zb_X5_isSign_35 : (decode cX5_isSign 35 = .ok (.ireturn, 1)) ∧ (decode cX5_isSign 6 = .ok (.iload_n 0, 1)) ∧ (decode cX5_isSign 7 = .ok (.bipush 43, 2)) ∧ (decode cX5_isSign 9 = .ok (.if_icmp .le 21, 3)) ∧ (decode cX5_isSign 30 = .ok (.iconst 1, 1)) ∧ (decode cX5_isSign 31 = .ok (.goto 4, 3)) ∧ (decode cX5_isSign 24 = .ok (.iload_n 0, 1)) ∧ (decode cX5_isSign 25 = .ok (.bipush 61, 2)) ∧ (decode cX5_isSign 27 = .ok (.if_icmp .gt 7, 3)) := by decide +kernel
theorem dX5_isSign_35 : decode cX5_isSign 35 = .ok (.ireturn, 1) := zb_X5_isSign_35.1
theorem dX5_isSign_6 : decode cX5_isSign 6 = .ok (.iload_n 0, 1) := zb_X5_isSign_35.2.1
theorem dX5_isSign_7 : decode cX5_isSign 7 = .ok (.bipush 43, 2) := zb_X5_isSign_35.2.2.1
theorem dX5_isSign_9 : decode cX5_isSign 9 = .ok (.if_icmp .le 21, 3) := zb_X5_isSign_35.2.2.2.1
theorem dX5_isSign_30 : decode cX5_isSign 30 = .ok (.iconst 1, 1) := zb_X5_isSign_35.2.2.2.2.1
theorem dX5_isSign_31 : decode cX5_isSign 31 = .ok (.goto 4, 3) := zb_X5_isSign_35.2.2.2.2.2.1
theorem dX5_isSign_24 : decode cX5_isSign 24 = .ok (.iload_n 0, 1) := zb_X5_isSign_35.2.2.2.2.2.2.1
theorem dX5_isSign_25 : decode cX5_isSign 25 = .ok (.bipush 61, 2) := zb_X5_isSign_35.2.2.2.2.2.2.2.1
theorem dX5_isSign_27 : decode cX5_isSign 27 = .ok (.if_icmp .gt 7, 3) := zb_X5_isSign_35.2.2.2.2.2.2.2.2
theorem zb_X6_commonDivisor_0 : (decode cX6_commonDivisor 0 = .ok (.lload_n 0, 1)) ∧ (decode cX6_commonDivisor 1 = .ok (.lstore 4, 2)) ∧ (decode cX6_commonDivisor 3 = .ok (.lload_n 2, 1)) ∧ (decode cX6_commonDivisor 4 = .ok (.lstore 6, 2)) ∧ (decode cX6_commonDivisor 6 = .ok (.iconst 0, 1)) ∧ (decode cX6_commonDivisor 7 = .ok (.istore 8, 2)) ∧ (decode cX6_commonDivisor 9 = .ok (.iload 8, 2)) ∧ (decode cX6_commonDivisor 11 = .ok (.sipush 200, 3)) ∧ (decode cX6_commonDivisor 14 = .ok (.if_icmp .ge 31, 3)) ∧ (decode cX6_commonDivisor 45 = .ok (.lload 4, 2)) ∧ (decode cX6_commonDivisor 47 = .ok (.lconst 0, 1)) := by decide +kernel
theorem dX6_commonDivisor_0 : decode cX6_commonDivisor 0 = .ok (.lload_n 0, 1) := zb_X6_commonDivisor_0.1
theorem dX6_commonDivisor_1 : decode cX6_commonDivisor 1 = .ok (.lstore 4, 2) := zb_X6_commonDivisor_0.2.1
theorem dX6_commonDivisor_3 : decode cX6_commonDivisor 3 = .ok (.lload_n 2, 1) := zb_X6_commonDivisor_0.2.2.1
theorem dX6_commonDivisor_4 : decode cX6_commonDivisor 4 = .ok (.lstore 6, 2) := zb_X6_commonDivisor_0.2.2.2.1
theorem dX6_commonDivisor_6 : decode cX6_commonDivisor 6 = .ok (.iconst 0, 1) := zb_X6_commonDivisor_0.2.2.2.2.1
theorem dX6_commonDivisor_7 : decode cX6_commonDivisor 7 = .ok (.istore 8, 2) := zb_X6_commonDivisor_0.2.2.2.2.2.1
theorem dX6_commonDivisor_9 : decode cX6_commonDivisor 9 = .ok (.iload 8, 2) := zb_X6_commonDivisor_0.2.2.2.2.2.2.1
theorem dX6_commonDivisor_11 : decode cX6_commonDivisor 11 = .ok (.sipush 200, 3) := zb_X6_commonDivisor_0.2.2.2.2.2.2.2.1
theorem dX6_commonDivisor_14 : decode cX6_commonDivisor 14 = .ok (.if_icmp .ge 31, 3) := zb_X6_commonDivisor_0.2.2.2.2.2.2.2.2.1
theorem dX6_commonDivisor_45 : decode cX6_commonDivisor 45 = .ok (.lload 4, 2) := zb_X6_commonDivisor_0.2.2.2.2.2.2.2.2.2.1
theorem dX6_commonDivisor_47 : decode cX6_commonDivisor 47 = .ok (.lconst 0, 1) := zb_X6_commonDivisor_0.2.2.2.2.2.2.2.2.2.2
theorem zb_X6_commonDivisor_48 : (decode cX6_commonDivisor 48 = .ok (.lcmp, 1)) ∧ (decode cX6_commonDivisor 49 = .ok (.ifCond .ne 7, 3)) ∧ (decode cX6_commonDivisor 56 = .ok (.lload 4, 2)) ∧ (decode cX6_commonDivisor 58 = .ok (.lreturn, 1)) ∧ (decode cX6_commonDivisor 52 = .ok (.lconst 1, 1)) ∧ (decode cX6_commonDivisor 53 = .ok (.goto 5, 3)) ∧ (decode cX6_commonDivisor 17 = .ok (.lload 6, 2)) ∧ (decode cX6_commonDivisor 19 = .ok (.lconst 0, 1)) ∧ (decode cX6_commonDivisor 20 = .ok (.lcmp, 1)) ∧ (decode cX6_commonDivisor 21 = .ok (.ifCond .eq 24, 3)) ∧ (decode cX6_commonDivisor 24 = .ok (.lload 4, 2)) := by decide +kernel
theorem dX6_commonDivisor_48 : decode cX6_commonDivisor 48 = .ok (.lcmp, 1) := zb_X6_commonDivisor_48.1
theorem dX6_commonDivisor_49 : decode cX6_commonDivisor 49 = .ok (.ifCond .ne 7, 3) := zb_X6_commonDivisor_48.2.1
theorem dX6_commonDivisor_56 : decode cX6_commonDivisor 56 = .ok (.lload 4, 2) := zb_X6_commonDivisor_48.2.2.1
theorem dX6_commonDivisor_58 : decode cX6_commonDivisor 58 = .ok (.lreturn, 1) := zb_X6_commonDivisor_48.2.2.2.1
theorem dX6_commonDivisor_52 : decode cX6_commonDivisor 52 = .ok (.lconst 1, 1) := zb_X6_commonDivisor_48.2.2.2.2.1
theorem dX6_commonDivisor_53 : decode cX6_commonDivisor 53 = .ok (.goto 5, 3) := zb_X6_commonDivisor_48.2.2.2.2.2.1
theorem dX6_commonDivisor_17 : decode cX6_commonDivisor 17 = .ok (.lload 6, 2) := zb_X6_commonDivisor_48.2.2.2.2.2.2.1
theorem dX6_commonDivisor_19 : decode cX6_commonDivisor 19 = .ok (.lconst 0, 1) := zb_X6_commonDivisor_48.2.2.2.2.2.2.2.1
theorem dX6_commonDivisor_20 : decode cX6_commonDivisor 20 = .ok (.lcmp, 1) := zb_X6_commonDivisor_48.2.2.2.2.2.2.2.2.1
theorem dX6_commonDivisor_21 : decode cX6_commonDivisor 21 = .ok (.ifCond .eq 24, 3) := zb_X6_commonDivisor_48.2.2.2.2.2.2.2.2.2.1
theorem dX6_commonDivisor_24 : decode cX6_commonDivisor 24 = .ok (.lload 4, 2) := zb_X6_commonDivisor_48.2.2.2.2.2.2.2.2.2.2
theorem zb_X6_commonDivisor_26 : (decode cX6_commonDivisor 26 = .ok (.lload 6, 2)) ∧ (decode cX6_commonDivisor 28 = .ok (.lrem, 1)) ∧ (decode cX6_commonDivisor 29 = .ok (.lstore 9, 2)) ∧ (decode cX6_commonDivisor 31 = .ok (.lload 6, 2)) ∧ (decode cX6_commonDivisor 33 = .ok (.lstore 4, 2)) ∧ (decode cX6_commonDivisor 35 = .ok (.lload 9, 2)) ∧ (decode cX6_commonDivisor 37 = .ok (.lstore 6, 2)) ∧ (decode cX6_commonDivisor 39 = .ok (.iinc 8 1, 3)) ∧ (decode cX6_commonDivisor 42 = .ok (.goto (-33), 3)) := by decide +kernel
theorem dX6_commonDivisor_26 : decode cX6_commonDivisor 26 = .ok (.lload 6, 2) := zb_X6_commonDivisor_26.1
theorem dX6_commonDivisor_28 : decode cX6_commonDivisor 28 = .ok (.lrem, 1) := zb_X6_commonDivisor_26.2.1
theorem dX6_commonDivisor_29 : decode cX6_commonDivisor 29 = .ok (.lstore 9, 2) := zb_X6_commonDivisor_26.2.2.1
theorem dX6_commonDivisor_31 : decode cX6_commonDivisor 31 = .ok (.lload 6, 2) := zb_X6_commonDivisor_26.2.2.2.1
theorem dX6_commonDivisor_33 : decode cX6_commonDivisor 33 = .ok (.lstore 4, 2) := zb_X6_commonDivisor_26.2.2.2.2.1
theorem dX6_commonDivisor_35 : decode cX6_commonDivisor 35 = .ok (.lload 9, 2) := zb_X6_commonDivisor_26.2.2.2.2.2.1
theorem dX6_commonDivisor_37 : decode cX6_commonDivisor 37 = .ok (.lstore 6, 2) := zb_X6_commonDivisor_26.2.2.2.2.2.2.1
theorem dX6_commonDivisor_39 : decode cX6_commonDivisor 39 = .ok (.iinc 8 1, 3) := zb_X6_commonDivisor_26.2.2.2.2.2.2.2.1
theorem dX6_commonDivisor_42 : decode cX6_commonDivisor 42 = .ok (.goto (-33), 3) := zb_X6_commonDivisor_26.2.2.2.2.2.2.2.2
theorem gX11_nearest_X11_has : GoodIn wsX11_nearest (va_wsS RX11 317 yX11_has wsX11_has) := ru_gG (ru_gS tw_4_236 tw_3_126 tw_1_1 mT_X11_has)
theorem gX11_nearest_X11_apart : GoodIn wsX11_nearest (va_wsS RX11 256 yX11_apart wsX11_apart) := ru_gG (ru_gS tw_4_12 tw_3_119 tw_1_1 mT_X11_apart)
theorem gX9_joined_X9_truth : GoodIn wsX9_joined (va_wsS RX9 49 yX9_truth wsX9_truth) := ru_gG (ru_gS tw_4_227 tw_4_228 tw_1_8 mT_X9_truth)
/-- whether a set of cells has one -/
def rt_has (q : Int64) (k : Int32) : Prop := ¬ (q.toUInt64 >>> (k.toInt64.toUInt64 &&& Int64.toUInt64 63)).toInt64 &&& 1 = 0
def rt_dg (q : Int64) (k : Int32) : Int32 := ((q.toUInt64 >>> ((4 * k).toInt64.toUInt64 &&& Int64.toUInt64 63)).toInt64 &&& 15).toInt32
theorem fm_cq {p : Program} {l : Launch} {e : Env} {R : Room} {s : State} {m : MethodId} {args : Array Value} {below : List Frame} {meth : Method} {c : Code} {H : Heap} {locs : List Loc} {cells slots : Nat} {Q : State → Prop} {pc : Nat} {ls : Array Slot} {rest st0 : List Value} {D : va_G} {ad : Nat → Nat → Nat} {C : Nat → Nat → ClassId} {nb : Nat} {A : Nat → Prop} {H0 : Heap} {a : Array Value} {post : Option Nat → fm_M → Prop} (hr : va_Run p l e R s m args below meth c H locs cells slots 0 0 (F0 m pc ls st0) rest (va_Qq post (fun u t => fm_at D ad C nb u t.heap) (fm_A nb ad) a) (fm_A nb ad)) (hS : va_S A H0 H locs) (hc : fm_Cx D ad C nb A s)
    (kk : ∀ (r : Option Nat) (M1 : fm_M) (H1 : Heap) (locs1 : List Loc), post r M1 → fm_at D ad C nb M1 H1 → va_S A H0 H1 locs1 → W p l e R s m args below meth c H1 locs1 cells slots Q (F0 m (pc + 3) ls (va_rf r :: rest))) : W p l e R s m args below meth c H locs cells slots Q (F0 m pc ls st0) :=
  va_callq hr hS (fun q _ h => hc.2.2.2.2.2 q h) (fun q h => hc.2.2.2.2.2 q h) (fun r u t H1 locs1 ht _ hp hB _ _ hS1 => kk r u H1 locs1 hp (by rw [← ht]; exact hB) hS1)
theorem fm_wI_ar {M : fm_M} {q k i j : Nat} {x : Int32} : (fm_wI M q k i x).1 q k j = if j = i then x else M.1 q k j := by
  by_cases h : j = i
  · subst h
    rw [fm_wI_at, if_pos rfl]
  · rw [fm_wI_nj (fun z => h z.2.2), if_neg h]
theorem fm_wI_ob {M : fm_M} {q k f j : Nat} {x : Int32} : (fm_wI M q k f x).1 q j f = if j = k then x else M.1 q j f := by
  by_cases h : j = k
  · subst h
    rw [fm_wI_at, if_pos rfl]
  · rw [fm_wI_nj (fun z => h z.2.1), if_neg h]
theorem rt_under {i : Int32} (h : 0 ≤ i.toInt ∧ i.toInt < 6) : (i.toInt = 0 ∧ (([-1, 0, 0, 1, 1, 2] : List Int32).getD i.toNatClampNeg 0).toInt = -1) ∨ (i.toInt = 1 ∧ (([-1, 0, 0, 1, 1, 2] : List Int32).getD i.toNatClampNeg 0).toInt = 0) ∨ (i.toInt = 2 ∧ (([-1, 0, 0, 1, 1, 2] : List Int32).getD i.toNatClampNeg 0).toInt = 0) ∨ (i.toInt = 3 ∧ (([-1, 0, 0, 1, 1, 2] : List Int32).getD i.toNatClampNeg 0).toInt = 1) ∨ (i.toInt = 4 ∧ (([-1, 0, 0, 1, 1, 2] : List Int32).getD i.toNatClampNeg 0).toInt = 1) ∨ (i.toInt = 5 ∧ (([-1, 0, 0, 1, 1, 2] : List Int32).getD i.toNatClampNeg 0).toInt = 2) := by
  rcases (show i = 0 ∨ i = 1 ∨ i = 2 ∨ i = 3 ∨ i = 4 ∨ i = 5 by simp only [fa_eq, Int32.reduceToInt]; omega) with rfl | rfl | rfl | rfl | rfl | rfl <;> decide
theorem rt_und {i : Int32} {w : Int} (h : 0 < i.toInt ∧ i.toInt < 6) (hn : ¬ i.toInt = w) : (w = 0 ∨ (([-1, 0, 0, 1, 1, 2] : List Int32).getD i.toNatClampNeg 0).toInt = w ∨ ((([-1, 0, 0, 1, 1, 2] : List Int32).getD i.toNatClampNeg 0).toInt = 5 ∧ w = 2) ∨ (((([-1, 0, 0, 1, 1, 2] : List Int32).getD i.toNatClampNeg 0).toInt = 3 ∨ (([-1, 0, 0, 1, 1, 2] : List Int32).getD i.toNatClampNeg 0).toInt = 4) ∧ w = 1)) ↔ (w = 0 ∨ i.toInt = w ∨ (i.toInt = 5 ∧ w = 2) ∨ ((i.toInt = 3 ∨ i.toInt = 4) ∧ w = 1)) := by
  rcases rt_under (i := i) (by omega) with ⟨h1, h2⟩ | ⟨h1, h2⟩ | ⟨h1, h2⟩ | ⟨h1, h2⟩ | ⟨h1, h2⟩ | ⟨h1, h2⟩ <;> rw [h1, h2] <;> rw [h1] at hn <;> omega
theorem fm_I.bd {nb : Nat} {ad : Nat → Nat → Nat} {M : fm_M} (hI : fm_I nb ad M) {a k j : Nat} {lo up : Int} (h : fm_b a j = (lo, up)) : lo ≤ (M.1 a k j).toInt ∧ (M.1 a k j).toInt ≤ up := by
  have h2 := hI.1 a k j
  rw [h] at h2
  exact h2
theorem rt_ifx {c d : Prop} [Decidable c] [Decidable d] {x y : Int32} (h : c ↔ d) : (if c then x else y) = if d then x else y := by
  by_cases z : c
  · rw [if_pos z, if_pos (h.mp z)]
  · rw [if_neg z, if_neg (fun w => z (h.mpr w))]
theorem fm_wL_ar {M : fm_M} {q k i j : Nat} {x : Int64} : (fm_wL M q k i x).2.1 q k j = if j = i then x else M.2.1 q k j := by
  by_cases h : j = i
  · subst h
    rw [fm_wL_at, if_pos rfl]
  · rw [fm_wL_nj (fun z => h z.2.2), if_neg h]
theorem zi_tn {a b : Int32} (h : a.toInt = b.toInt) : a.toNatClampNeg = b.toNatClampNeg := by rw [Int32.toNatClampNeg, Int32.toNatClampNeg, h]
theorem zi_tns {k k1 : Int32} (h1 : k1.toInt = k.toInt + 1) (h0 : 0 ≤ k.toInt) : k1.toNatClampNeg = k.toNatClampNeg + 1 := by rw [Int32.toNatClampNeg, Int32.toNatClampNeg]; omega
theorem zi_ofn {k : Int32} (h0 : 0 ≤ k.toInt) : Int32.ofNat k.toNatClampNeg = k := by
  rw [fa_eq, Int32.toInt_ofNat_of_lt]
  · rw [Int32.toNatClampNeg]; omega
  · have := Int32.toInt_lt k; rw [Int32.toNatClampNeg]; omega
theorem fm_wI_2 {M : fm_M} {q k i j n : Nat} {x : Int32} : (fm_wI M q k i x).1 q j n = if j = k ∧ n = i then x else M.1 q j n := by
  by_cases h : j = k ∧ n = i
  · rw [if_pos h, h.1, h.2, fm_wI_at]
  · rw [if_neg h, fm_wI_nj (fun z => h ⟨z.2.1, z.2.2⟩)]
theorem fm_wA_2 {M : fm_M} {q k j n : Nat} {f : Nat → Int32} : (fm_wA M q k f).1 q j n = if j = k then f n else M.1 q j n := by
  by_cases h : j = k
  · rw [if_pos h, h, fm_wA_at]
  · rw [if_neg h, fm_wA_ne (fun z => h z.2)]
def rt_ct (s v : Int32) : Int32 := if s.toInt = 0 then v.toInt8.toInt32 else if s.toInt = 1 then v.toInt16.toInt32 else v
theorem rt_z2 {f g : Nat → Nat → Int32} {ks : Nat} {k k1 : Int32} (h : ∀ j n : Nat, f j n = if j = ks ∧ (n : Int) < k.toInt then 0 else g j n) (h0 : 0 ≤ k.toInt) (h1 : k1.toInt = k.toInt + 1) {j n : Nat} : (if j = ks ∧ n = k.toNatClampNeg then 0 else f j n) = if j = ks ∧ (n : Int) < k1.toInt then 0 else g j n := by
  have e : (k.toNatClampNeg : Int) = k.toInt := by rw [Int32.toNatClampNeg]; omega
  by_cases hj : j = ks ∧ n = k.toNatClampNeg
  · rw [if_pos hj, if_pos (by omega)]
  · rw [if_neg hj, h j n]
    by_cases h2 : j = ks ∧ (n : Int) < k.toInt
    · rw [if_pos h2, if_pos (by omega)]
    · rw [if_neg h2, if_neg (by omega)]
theorem rt_z1 {f g : Nat → Int32} {lo : Int} {k k1 : Int32} (h : ∀ n : Nat, f n = if lo ≤ n ∧ (n : Int) < k.toInt then 0 else g n) (h0 : 0 ≤ k.toInt ∧ lo ≤ k.toInt) (h1 : k1.toInt = k.toInt + 1) {n : Nat} : (if n = k.toNatClampNeg then 0 else f n) = if lo ≤ n ∧ (n : Int) < k1.toInt then 0 else g n := by
  have e : (k.toNatClampNeg : Int) = k.toInt := by rw [Int32.toNatClampNeg]; omega
  by_cases hj : n = k.toNatClampNeg
  · rw [if_pos hj, if_pos (by omega)]
  · rw [if_neg hj, h n]
    by_cases h2 : lo ≤ n ∧ (n : Int) < k.toInt
    · rw [if_pos h2, if_pos (by omega)]
    · rw [if_neg h2, if_neg (by omega)]
theorem rt_cp1 {f g : Nat → Int32} {D k k1 : Int} {S y : Nat} {x : Int32} (h : ∀ n : Nat, f n = if D ≤ n ∧ (n : Int) < D + k then g (S + (n - D.toNat)) else g n) (hx : x = g (S + k.toNat)) (hy : (y : Int) = D + k) (hk : 0 ≤ k ∧ 0 ≤ D) (h1 : k1 = k + 1) {n : Nat} : (if n = y then x else f n) = if D ≤ n ∧ (n : Int) < D + k1 then g (S + (n - D.toNat)) else g n := by
  by_cases hj : n = y
  · rw [if_pos hj, if_pos (by omega), hx, show n - D.toNat = k.toNat by omega]
  · rw [if_neg hj, h n]
    by_cases h2 : D ≤ n ∧ (n : Int) < D + k
    · rw [if_pos h2, if_pos (by omega)]
    · rw [if_neg h2, if_neg (by omega)]
theorem zl_2k {b : Int64} (h : 0 ≤ b.toInt ∧ b.toInt ≤ 20) : (2 * b).toInt = 2 * b.toInt := by
  have e : (2 : Int64).toInt = 2 := rfl
  rw [zl_mul (by rw [e]; omega), e]
def rt_itc (M : fm_M) (s : Nat) (x : Int) : Int := if 0 ≤ x ∧ x < 40 then (M.1 47 s x.toNat).toInt else 0
def rt_itm (M : fm_M) (s : Nat) (x : Int) : Int := if 0 ≤ x ∧ x < 40 then (M.1 177 0 (40 * s + x.toNat)).toInt else 0
def rt_fx (it : Int → Int) (b h f c : Int) (n : Nat) : Int × Int := match n with
  | 0 => (c, 0)
  | k + 1 => if (b ≤ it (f + 2 * k) ∧ it (f + 2 * k) ≤ h ∧ 0 ≤ it (f + 2 * k + 1) ∧ it (f + 2 * k + 1) ≤ 63) ∧ (rt_fx it b h f c k).1 < 40 then ((rt_fx it b h f c k).1 + 1, (rt_fx it b h f c k).2 + 1) else rt_fx it b h f c k
abbrev rt_fxs (it : Int → Int) (T b h f c n r u : Int) : Prop := ∃ k : Nat, (k : Int) ≤ n ∧ (∀ q : Nat, q < k → 0 ≤ f + 2 * q ∧ f + 2 * q + 2 ≤ T) ∧ u = (rt_fx it b h f c k).1 ∧ (((k : Int) = n ∧ r = (rt_fx it b h f c k).2) ∨ ((k : Int) < n ∧ ¬ (0 ≤ f + 2 * k ∧ f + 2 * k + 2 ≤ T) ∧ r = -12))
theorem rt_fxs_u {it : Int → Int} {T b h f c n r u r1 u1 : Int} (x : rt_fxs it T b h f c n r u) (y : rt_fxs it T b h f c n r1 u1) : r = r1 ∧ u = u1 := by
  obtain ⟨k, k1, k2, k3, k4⟩ := x
  obtain ⟨j, j1, j2, j3, j4⟩ := y
  have e : k = j := by
    rcases Nat.lt_trichotomy k j with g | g | g
    · have g1 := j2 k g
      omega
    · exact g
    · have g1 := k2 j g
      omega
  subst e
  refine ⟨?_, by rw [k3, j3]⟩
  rcases k4 with ⟨a1, a2⟩ | ⟨a1, a2, a3⟩ <;> rcases j4 with ⟨b1, b2⟩ | ⟨b1, b2, b3⟩
  · rw [a2, b2]
  · omega
  · omega
  · rw [a3, b3]
theorem rt_fx_y {it : Int → Int} {b h f c u w a e : Int} {k k1 : Int32} (h1 : k1.toInt = k.toInt + 1) (h0 : 0 ≤ k.toInt) (hu : u = (rt_fx it b h f c k.toNatClampNeg).1) (hw : w = (rt_fx it b h f c k.toNatClampNeg).2) (ea : a = it (f + 2 * k.toInt)) (ee : e = it (f + 2 * k.toInt + 1)) (hc : (b ≤ a ∧ a ≤ h ∧ 0 ≤ e ∧ e ≤ 63) ∧ u < 40) : u + 1 = (rt_fx it b h f c k1.toNatClampNeg).1 ∧ w + 1 = (rt_fx it b h f c k1.toNatClampNeg).2 := by
  have z : (k.toNatClampNeg : Int) = k.toInt := by rw [Int32.toNatClampNeg]; omega
  rw [zi_tns h1 h0, rt_fx, z, ← ea, ← ee, ← hu, ← hw, if_pos hc]
  exact ⟨rfl, rfl⟩
theorem rt_fx_n {it : Int → Int} {b h f c u w a e : Int} {k k1 : Int32} (h1 : k1.toInt = k.toInt + 1) (h0 : 0 ≤ k.toInt) (hu : u = (rt_fx it b h f c k.toNatClampNeg).1) (hw : w = (rt_fx it b h f c k.toNatClampNeg).2) (ea : a = it (f + 2 * k.toInt)) (ee : e = it (f + 2 * k.toInt + 1)) (hc : ¬ ((b ≤ a ∧ a ≤ h ∧ 0 ≤ e ∧ e ≤ 63) ∧ u < 40)) : u = (rt_fx it b h f c k1.toNatClampNeg).1 ∧ w = (rt_fx it b h f c k1.toNatClampNeg).2 := by
  have z : (k.toNatClampNeg : Int) = k.toInt := by rw [Int32.toNatClampNeg]; omega
  rw [zi_tns h1 h0, rt_fx, z, ← ea, ← ee, ← hu, if_neg hc]
  exact ⟨hu, hw⟩
theorem rt_itc_at {M : fm_M} {s : Nat} {x : Int} {v : Int32} {i : Nat} (h : 0 ≤ x ∧ x < 40) (hi : i = x.toNat) (hv : v = M.1 47 s i) : v.toInt = rt_itc M s x := by
  unfold rt_itc
  rw [if_pos h, hv, hi]
theorem rt_itm_at {M : fm_M} {s : Nat} {x : Int} {v : Int32} {i : Nat} (h : 0 ≤ x ∧ x < 40) (hi : i = 40 * s + x.toNat) (hv : v = M.1 177 0 i) : v.toInt = rt_itm M s x := by
  unfold rt_itm
  rw [if_pos h, hv, hi]
/-- reading a text by its tokens: T their kinds, S their places; a state: the token's number, the fault's place or -1 -/
def rt_adv (T : Nat → Int) (s : Nat × Int) : Nat × Int := (if T s.1 = 0 then s.1 else s.1 + 1, s.2)
def rt_fail (S : Nat → Int) (s : Nat × Int) : Nat × Int := (s.1, if s.2 < 0 then S s.1 else s.2)
def rt_need (T S : Nat → Int) (c : Int) (s : Nat × Int) : Nat × Int := if s.2 < 0 ∧ T s.1 = c then rt_adv T s else rt_fail S s
def rt_pst (T S : Nat → Int) (P : Nat → Int → Nat × Int → Option (Nat × Int)) (nt : Nat) (o : Int) (s : Nat × Int) : Option (Nat × Int) := match nt with
  | 0 => (P 2 o s).bind (P 1 o)
  | 1 => if s.2 < 0 ∧ T s.1 = 9 then (P 2 o (rt_adv T s)).bind (P 1 o) else some s
  | 2 => (P 4 o s).bind (P 3 o)
  | 3 => if s.2 < 0 ∧ T s.1 = 10 then (P 4 o (rt_adv T s)).bind (P 3 o) else some s
  | 4 => if s.2 < 0 ∧ T s.1 = 11 then (if 5 ≤ o then some (rt_fail S s) else P 4 (o + 1) (rt_adv T s)) else P 5 o s
  | 5 => (P 6 o s).bind (P 11 o)
  | 6 => (P 8 o s).bind (P 7 o)
  | 7 => if s.2 < 0 ∧ (T s.1 = 43 ∨ T s.1 = 45) then (P 8 o (rt_adv T s)).bind (P 7 o) else some s
  | 8 => (P 10 o s).bind (P 9 o)
  | 9 => if s.2 < 0 ∧ T s.1 = 42 then (P 10 o (rt_adv T s)).bind (P 9 o) else some s
  | 10 => if s.2 < 0 ∧ (T s.1 = 12 ∨ (0 < T s.1 ∧ T s.1 ≤ 6)) then some (rt_adv T s) else if (s.2 < 0 ∧ T s.1 = 45) ∧ o < 5 then P 10 (o + 1) (rt_adv T s) else if (s.2 < 0 ∧ T s.1 = 40) ∧ o < 5 then (P 0 (o + 1) (rt_adv T s)).bind (P 12 o) else some (rt_fail S s)
  | 11 => if s.2 < 0 ∧ (T s.1 = 60 ∨ T s.1 = 61) then P 6 o (rt_adv T s) else some s
  | _ => some (rt_need T S 41 s)
def rt_ps (T S : Nat → Int) (F : Nat) : Nat → Int → Nat × Int → Option (Nat × Int) := match F with
  | 0 => fun _ _ _ => none
  | F + 1 => rt_pst T S (rt_ps T S F)
theorem rt_bd_up {P Q : Nat → Int → Nat × Int → Option (Nat × Int)} (h : ∀ (n : Nat) (o : Int) (s r : Nat × Int), P n o s = some r → Q n o s = some r) {a b : Nat} {o p : Int} {s r : Nat × Int} (hp : (P a o s).bind (P b p) = some r) : (Q a o s).bind (Q b p) = some r := by
  obtain ⟨s1, h1, h2⟩ := Option.bind_eq_some_iff.mp hp
  exact Option.bind_eq_some_iff.mpr ⟨s1, h _ _ _ _ h1, h _ _ _ _ h2⟩
theorem rt_pst_up {T S : Nat → Int} {P Q : Nat → Int → Nat × Int → Option (Nat × Int)} (h : ∀ (n : Nat) (o : Int) (s r : Nat × Int), P n o s = some r → Q n o s = some r) {nt : Nat} {o : Int} {s r : Nat × Int} (hp : rt_pst T S P nt o s = some r) : rt_pst T S Q nt o s = some r := by
  match nt, hp with
  | 0, hp => exact rt_bd_up h hp
  | 1, hp =>
    show (if s.2 < 0 ∧ T s.1 = 9 then (Q 2 o (rt_adv T s)).bind (Q 1 o) else some s) = some r
    have hp : (if s.2 < 0 ∧ T s.1 = 9 then (P 2 o (rt_adv T s)).bind (P 1 o) else some s) = some r := hp
    by_cases c : s.2 < 0 ∧ T s.1 = 9
    · rw [if_pos c] at hp ⊢
      exact rt_bd_up h hp
    · rw [if_neg c] at hp ⊢
      exact hp
  | 2, hp => exact rt_bd_up h hp
  | 3, hp =>
    show (if s.2 < 0 ∧ T s.1 = 10 then (Q 4 o (rt_adv T s)).bind (Q 3 o) else some s) = some r
    have hp : (if s.2 < 0 ∧ T s.1 = 10 then (P 4 o (rt_adv T s)).bind (P 3 o) else some s) = some r := hp
    by_cases c : s.2 < 0 ∧ T s.1 = 10
    · rw [if_pos c] at hp ⊢
      exact rt_bd_up h hp
    · rw [if_neg c] at hp ⊢
      exact hp
  | 4, hp =>
    show (if s.2 < 0 ∧ T s.1 = 11 then (if 5 ≤ o then some (rt_fail S s) else Q 4 (o + 1) (rt_adv T s)) else Q 5 o s) = some r
    have hp : (if s.2 < 0 ∧ T s.1 = 11 then (if 5 ≤ o then some (rt_fail S s) else P 4 (o + 1) (rt_adv T s)) else P 5 o s) = some r := hp
    by_cases c : s.2 < 0 ∧ T s.1 = 11
    · rw [if_pos c] at hp ⊢
      by_cases c2 : 5 ≤ o
      · rw [if_pos c2] at hp ⊢
        exact hp
      · rw [if_neg c2] at hp ⊢
        exact h _ _ _ _ hp
    · rw [if_neg c] at hp ⊢
      exact h _ _ _ _ hp
  | 5, hp => exact rt_bd_up h hp
  | 6, hp => exact rt_bd_up h hp
  | 7, hp =>
    show (if s.2 < 0 ∧ (T s.1 = 43 ∨ T s.1 = 45) then (Q 8 o (rt_adv T s)).bind (Q 7 o) else some s) = some r
    have hp : (if s.2 < 0 ∧ (T s.1 = 43 ∨ T s.1 = 45) then (P 8 o (rt_adv T s)).bind (P 7 o) else some s) = some r := hp
    by_cases c : s.2 < 0 ∧ (T s.1 = 43 ∨ T s.1 = 45)
    · rw [if_pos c] at hp ⊢
      exact rt_bd_up h hp
    · rw [if_neg c] at hp ⊢
      exact hp
  | 8, hp => exact rt_bd_up h hp
  | 9, hp =>
    show (if s.2 < 0 ∧ T s.1 = 42 then (Q 10 o (rt_adv T s)).bind (Q 9 o) else some s) = some r
    have hp : (if s.2 < 0 ∧ T s.1 = 42 then (P 10 o (rt_adv T s)).bind (P 9 o) else some s) = some r := hp
    by_cases c : s.2 < 0 ∧ T s.1 = 42
    · rw [if_pos c] at hp ⊢
      exact rt_bd_up h hp
    · rw [if_neg c] at hp ⊢
      exact hp
  | 10, hp =>
    show (if s.2 < 0 ∧ (T s.1 = 12 ∨ (0 < T s.1 ∧ T s.1 ≤ 6)) then some (rt_adv T s) else if (s.2 < 0 ∧ T s.1 = 45) ∧ o < 5 then Q 10 (o + 1) (rt_adv T s) else if (s.2 < 0 ∧ T s.1 = 40) ∧ o < 5 then (Q 0 (o + 1) (rt_adv T s)).bind (Q 12 o) else some (rt_fail S s)) = some r
    have hp : (if s.2 < 0 ∧ (T s.1 = 12 ∨ (0 < T s.1 ∧ T s.1 ≤ 6)) then some (rt_adv T s) else if (s.2 < 0 ∧ T s.1 = 45) ∧ o < 5 then P 10 (o + 1) (rt_adv T s) else if (s.2 < 0 ∧ T s.1 = 40) ∧ o < 5 then (P 0 (o + 1) (rt_adv T s)).bind (P 12 o) else some (rt_fail S s)) = some r := hp
    by_cases c : s.2 < 0 ∧ (T s.1 = 12 ∨ (0 < T s.1 ∧ T s.1 ≤ 6))
    · rw [if_pos c] at hp ⊢
      exact hp
    · rw [if_neg c] at hp ⊢
      by_cases c2 : (s.2 < 0 ∧ T s.1 = 45) ∧ o < 5
      · rw [if_pos c2] at hp ⊢
        exact h _ _ _ _ hp
      · rw [if_neg c2] at hp ⊢
        by_cases c3 : (s.2 < 0 ∧ T s.1 = 40) ∧ o < 5
        · rw [if_pos c3] at hp ⊢
          exact rt_bd_up h hp
        · rw [if_neg c3] at hp ⊢
          exact hp
  | 11, hp =>
    show (if s.2 < 0 ∧ (T s.1 = 60 ∨ T s.1 = 61) then Q 6 o (rt_adv T s) else some s) = some r
    have hp : (if s.2 < 0 ∧ (T s.1 = 60 ∨ T s.1 = 61) then P 6 o (rt_adv T s) else some s) = some r := hp
    by_cases c : s.2 < 0 ∧ (T s.1 = 60 ∨ T s.1 = 61)
    · rw [if_pos c] at hp ⊢
      exact h _ _ _ _ hp
    · rw [if_neg c] at hp ⊢
      exact hp
  | _ + 12, hp => exact hp
theorem rt_ps_up {T S : Nat → Int} {F : Nat} {nt : Nat} {o : Int} {s r : Nat × Int} (h : rt_ps T S F nt o s = some r) : rt_ps T S (F + 1) nt o s = some r := by
  induction F generalizing nt o s r with
  | zero => exact absurd h (by intro z; cases z)
  | succ F ih => exact rt_pst_up (P := rt_ps T S F) (Q := rt_ps T S (F + 1)) (fun _ _ _ _ z => ih z) h
theorem rt_ps_le {T S : Nat → Int} {F : Nat} {nt : Nat} {o : Int} {s r : Nat × Int} (h : rt_ps T S F nt o s = some r) (n : Nat) : rt_ps T S (F + n) nt o s = some r := by
  induction n with
  | zero => exact h
  | succ n ih => exact rt_ps_up ih
def rt_PS (T S : Nat → Int) (nt : Nat) (o : Int) (s r : Nat × Int) : Prop := ∃ F : Nat, rt_ps T S F nt o s = some r
theorem rt_PS_u {T S : Nat → Int} {nt : Nat} {o : Int} {s r q : Nat × Int} (a : rt_PS T S nt o s r) (b : rt_PS T S nt o s q) : r = q := by
  obtain ⟨F, hF⟩ := a
  obtain ⟨G, hG⟩ := b
  have h1 := rt_ps_le hF G
  have h2 := rt_ps_le hG F
  rw [Nat.add_comm] at h2
  exact Option.some.inj (h1.symm.trans h2)
/-- two readings one behind the other, with one fuel -/
theorem rt_PS_b {T S : Nat → Int} {a b : Nat} {o p : Int} {s s1 r : Nat × Int} (h1 : rt_PS T S a o s s1) (h2 : rt_PS T S b p s1 r) : ∃ F : Nat, (rt_ps T S F a o s).bind (rt_ps T S F b p) = some r := by
  obtain ⟨F, hF⟩ := h1
  obtain ⟨G, hG⟩ := h2
  have g2 := rt_ps_le hG F
  rw [Nat.add_comm] at g2
  exact ⟨F + G, Option.bind_eq_some_iff.mpr ⟨s1, rt_ps_le hF G, g2⟩⟩
theorem rt_PS_0 {T S : Nat → Int} {o : Int} {s s1 r : Nat × Int} (h1 : rt_PS T S 2 o s s1) (h2 : rt_PS T S 1 o s1 r) : rt_PS T S 0 o s r := by
  obtain ⟨F, h⟩ := rt_PS_b h1 h2
  exact ⟨F + 1, h⟩
theorem rt_PS_2 {T S : Nat → Int} {o : Int} {s s1 r : Nat × Int} (h1 : rt_PS T S 4 o s s1) (h2 : rt_PS T S 3 o s1 r) : rt_PS T S 2 o s r := by
  obtain ⟨F, h⟩ := rt_PS_b h1 h2
  exact ⟨F + 1, h⟩
theorem rt_PS_5 {T S : Nat → Int} {o : Int} {s s1 r : Nat × Int} (h1 : rt_PS T S 6 o s s1) (h2 : rt_PS T S 11 o s1 r) : rt_PS T S 5 o s r := by
  obtain ⟨F, h⟩ := rt_PS_b h1 h2
  exact ⟨F + 1, h⟩
theorem rt_PS_6 {T S : Nat → Int} {o : Int} {s s1 r : Nat × Int} (h1 : rt_PS T S 8 o s s1) (h2 : rt_PS T S 7 o s1 r) : rt_PS T S 6 o s r := by
  obtain ⟨F, h⟩ := rt_PS_b h1 h2
  exact ⟨F + 1, h⟩
theorem rt_PS_8 {T S : Nat → Int} {o : Int} {s s1 r : Nat × Int} (h1 : rt_PS T S 10 o s s1) (h2 : rt_PS T S 9 o s1 r) : rt_PS T S 8 o s r := by
  obtain ⟨F, h⟩ := rt_PS_b h1 h2
  exact ⟨F + 1, h⟩
theorem rt_PS_1y {T S : Nat → Int} {o : Int} {s s1 r : Nat × Int} (c : s.2 < 0 ∧ T s.1 = 9) (h1 : rt_PS T S 2 o (rt_adv T s) s1) (h2 : rt_PS T S 1 o s1 r) : rt_PS T S 1 o s r := by
  obtain ⟨F, h⟩ := rt_PS_b h1 h2
  exact ⟨F + 1, (if_pos c).trans h⟩
theorem rt_PS_1n {T S : Nat → Int} {o : Int} {s : Nat × Int} (c : ¬ (s.2 < 0 ∧ T s.1 = 9)) : rt_PS T S 1 o s s := ⟨1, if_neg c⟩
theorem rt_PS_3y {T S : Nat → Int} {o : Int} {s s1 r : Nat × Int} (c : s.2 < 0 ∧ T s.1 = 10) (h1 : rt_PS T S 4 o (rt_adv T s) s1) (h2 : rt_PS T S 3 o s1 r) : rt_PS T S 3 o s r := by
  obtain ⟨F, h⟩ := rt_PS_b h1 h2
  exact ⟨F + 1, (if_pos c).trans h⟩
theorem rt_PS_3n {T S : Nat → Int} {o : Int} {s : Nat × Int} (c : ¬ (s.2 < 0 ∧ T s.1 = 10)) : rt_PS T S 3 o s s := ⟨1, if_neg c⟩
theorem rt_PS_7y {T S : Nat → Int} {o : Int} {s s1 r : Nat × Int} (c : s.2 < 0 ∧ (T s.1 = 43 ∨ T s.1 = 45)) (h1 : rt_PS T S 8 o (rt_adv T s) s1) (h2 : rt_PS T S 7 o s1 r) : rt_PS T S 7 o s r := by
  obtain ⟨F, h⟩ := rt_PS_b h1 h2
  exact ⟨F + 1, (if_pos c).trans h⟩
theorem rt_PS_7n {T S : Nat → Int} {o : Int} {s : Nat × Int} (c : ¬ (s.2 < 0 ∧ (T s.1 = 43 ∨ T s.1 = 45))) : rt_PS T S 7 o s s := ⟨1, if_neg c⟩
theorem rt_PS_9y {T S : Nat → Int} {o : Int} {s s1 r : Nat × Int} (c : s.2 < 0 ∧ T s.1 = 42) (h1 : rt_PS T S 10 o (rt_adv T s) s1) (h2 : rt_PS T S 9 o s1 r) : rt_PS T S 9 o s r := by
  obtain ⟨F, h⟩ := rt_PS_b h1 h2
  exact ⟨F + 1, (if_pos c).trans h⟩
theorem rt_PS_9n {T S : Nat → Int} {o : Int} {s : Nat × Int} (c : ¬ (s.2 < 0 ∧ T s.1 = 42)) : rt_PS T S 9 o s s := ⟨1, if_neg c⟩
theorem rt_PS_11y {T S : Nat → Int} {o : Int} {s r : Nat × Int} (c : s.2 < 0 ∧ (T s.1 = 60 ∨ T s.1 = 61)) (h1 : rt_PS T S 6 o (rt_adv T s) r) : rt_PS T S 11 o s r := by
  obtain ⟨F, h⟩ := h1
  exact ⟨F + 1, (if_pos c).trans h⟩
theorem rt_PS_11n {T S : Nat → Int} {o : Int} {s : Nat × Int} (c : ¬ (s.2 < 0 ∧ (T s.1 = 60 ∨ T s.1 = 61))) : rt_PS T S 11 o s s := ⟨1, if_neg c⟩
theorem rt_PS_4f {T S : Nat → Int} {o : Int} {s : Nat × Int} (c : s.2 < 0 ∧ T s.1 = 11) (c2 : 5 ≤ o) : rt_PS T S 4 o s (rt_fail S s) := ⟨1, (if_pos c).trans (if_pos c2)⟩
theorem rt_PS_4y {T S : Nat → Int} {o : Int} {s r : Nat × Int} (c : s.2 < 0 ∧ T s.1 = 11) (c2 : ¬ 5 ≤ o) (h1 : rt_PS T S 4 (o + 1) (rt_adv T s) r) : rt_PS T S 4 o s r := by
  obtain ⟨F, h⟩ := h1
  exact ⟨F + 1, (if_pos c).trans ((if_neg c2).trans h)⟩
theorem rt_PS_4n {T S : Nat → Int} {o : Int} {s r : Nat × Int} (c : ¬ (s.2 < 0 ∧ T s.1 = 11)) (h1 : rt_PS T S 5 o s r) : rt_PS T S 4 o s r := by
  obtain ⟨F, h⟩ := h1
  exact ⟨F + 1, (if_neg c).trans h⟩
theorem rt_PS_10v {T S : Nat → Int} {o : Int} {s : Nat × Int} (c : s.2 < 0 ∧ (T s.1 = 12 ∨ (0 < T s.1 ∧ T s.1 ≤ 6))) : rt_PS T S 10 o s (rt_adv T s) := ⟨1, if_pos c⟩
theorem rt_PS_10m {T S : Nat → Int} {o : Int} {s r : Nat × Int} (c : (s.2 < 0 ∧ T s.1 = 45) ∧ o < 5) (h1 : rt_PS T S 10 (o + 1) (rt_adv T s) r) : rt_PS T S 10 o s r := by
  obtain ⟨F, h⟩ := h1
  exact ⟨F + 1, (if_neg (by omega)).trans ((if_pos c).trans h)⟩
theorem rt_PS_10b {T S : Nat → Int} {o : Int} {s r : Nat × Int} (c : (s.2 < 0 ∧ T s.1 = 40) ∧ o < 5) (h1 : rt_PS T S 0 (o + 1) (rt_adv T s) r) : rt_PS T S 10 o s (rt_need T S 41 r) := by
  obtain ⟨F, h⟩ := rt_PS_b h1 (show rt_PS T S 12 o r (rt_need T S 41 r) from ⟨1, rfl⟩)
  exact ⟨F + 1, (if_neg (by omega)).trans ((if_neg (by omega)).trans ((if_pos c).trans h))⟩
theorem rt_PS_10f {T S : Nat → Int} {o : Int} {s : Nat × Int} (c : ¬ (s.2 < 0 ∧ (T s.1 = 12 ∨ (0 < T s.1 ∧ T s.1 ≤ 6) ∨ (T s.1 = 45 ∧ o < 5) ∨ (T s.1 = 40 ∧ o < 5)))) : rt_PS T S 10 o s (rt_fail S s) := ⟨1, (if_neg (by omega)).trans ((if_neg (by omega)).trans (if_neg (by omega)))⟩
/-- behind a fault nothing is read -/
theorem rt_PS_id10 {T S : Nat → Int} {o : Int} {s : Nat × Int} (h : 0 ≤ s.2) : rt_PS T S 10 o s s := by
  have e : rt_fail S s = s := by
    unfold rt_fail
    rw [if_neg (by omega)]
  have z := rt_PS_10f (T := T) (S := S) (o := o) (s := s) (by omega)
  rw [e] at z
  exact z
theorem rt_PS_id {T S : Nat → Int} {o : Int} {s : Nat × Int} (h : 0 ≤ s.2) {n : Nat} (hn : n ≤ 11) : rt_PS T S n o s s := by
  have h10 := rt_PS_id10 (T := T) (S := S) (o := o) h
  have h8 := rt_PS_8 h10 (rt_PS_9n (T := T) (S := S) (o := o) (by omega))
  have h6 := rt_PS_6 h8 (rt_PS_7n (T := T) (S := S) (o := o) (by omega))
  have h5 := rt_PS_5 h6 (rt_PS_11n (T := T) (S := S) (o := o) (by omega))
  have h4 := rt_PS_4n (by omega) h5
  have h2 := rt_PS_2 h4 (rt_PS_3n (T := T) (S := S) (o := o) (by omega))
  have h0 := rt_PS_0 h2 (rt_PS_1n (T := T) (S := S) (o := o) (by omega))
  rcases (show n = 0 ∨ n = 1 ∨ n = 2 ∨ n = 3 ∨ n = 4 ∨ n = 5 ∨ n = 6 ∨ n = 7 ∨ n = 8 ∨ n = 9 ∨ n = 10 ∨ n = 11 by omega) with rfl | rfl | rfl | rfl | rfl | rfl | rfl | rfl | rfl | rfl | rfl | rfl
  · exact h0
  · exact rt_PS_1n (by omega)
  · exact h2
  · exact rt_PS_3n (by omega)
  · exact h4
  · exact h5
  · exact h6
  · exact rt_PS_7n (by omega)
  · exact h8
  · exact rt_PS_9n (by omega)
  · exact h10
  · exact rt_PS_11n (by omega)
theorem rt_adv_r {T : Nat → Int} {s : Nat × Int} {c : Nat} (h0 : T c = 0) (h : s.1 ≤ c) : s.1 ≤ (rt_adv T s).1 ∧ (rt_adv T s).1 ≤ c := by
  unfold rt_adv
  show s.1 ≤ (if T s.1 = 0 then s.1 else s.1 + 1) ∧ (if T s.1 = 0 then s.1 else s.1 + 1) ≤ c
  by_cases z : T s.1 = 0
  · rw [if_pos z]
    omega
  · rw [if_neg z]
    have : s.1 ≠ c := fun e => z (by rw [e]; exact h0)
    omega
theorem rt_need_r {T S : Nat → Int} {s : Nat × Int} {c : Nat} {k : Int} (h0 : T c = 0) (h : s.1 ≤ c) : s.1 ≤ (rt_need T S k s).1 ∧ (rt_need T S k s).1 ≤ c := by
  unfold rt_need
  by_cases z : s.2 < 0 ∧ T s.1 = k
  · rw [if_pos z]
    exact rt_adv_r h0 h
  · rw [if_neg z]
    exact ⟨Nat.le_refl _, h⟩
theorem rt_bd_r {P : Nat → Int → Nat × Int → Option (Nat × Int)} {c : Nat} (h : ∀ (n : Nat) (o : Int) (s r : Nat × Int), s.1 ≤ c → P n o s = some r → s.1 ≤ r.1 ∧ r.1 ≤ c) {a b : Nat} {o p : Int} {s r : Nat × Int} (hs : s.1 ≤ c) (hp : (P a o s).bind (P b p) = some r) : s.1 ≤ r.1 ∧ r.1 ≤ c := by
  obtain ⟨s1, h1, h2⟩ := Option.bind_eq_some_iff.mp hp
  obtain ⟨k1, k2⟩ := h _ _ _ _ hs h1
  obtain ⟨k3, k4⟩ := h _ _ _ _ k2 h2
  exact ⟨Nat.le_trans k1 k3, k4⟩
theorem rt_tr_r {s a r : Nat × Int} {c : Nat} (h : s.1 ≤ a.1 ∧ a.1 ≤ c) (g : a.1 ≤ c → a.1 ≤ r.1 ∧ r.1 ≤ c) : s.1 ≤ r.1 ∧ r.1 ≤ c := ⟨Nat.le_trans h.1 (g h.2).1, (g h.2).2⟩
theorem rt_some_r {s a r : Nat × Int} {c : Nat} (h : s.1 ≤ a.1 ∧ a.1 ≤ c) (e : some a = some r) : s.1 ≤ r.1 ∧ r.1 ≤ c := by
  cases e
  exact h
/-- a reading stays within the tokens -/
theorem rt_pst_r {T S : Nat → Int} {P : Nat → Int → Nat × Int → Option (Nat × Int)} {c : Nat} (h0 : T c = 0) (h : ∀ (n : Nat) (o : Int) (s r : Nat × Int), s.1 ≤ c → P n o s = some r → s.1 ≤ r.1 ∧ r.1 ≤ c) {nt : Nat} {o : Int} {s r : Nat × Int} (hs : s.1 ≤ c) (hp : rt_pst T S P nt o s = some r) : s.1 ≤ r.1 ∧ r.1 ≤ c := by
  have hv := rt_adv_r (s := s) h0 hs
  have hi : s.1 ≤ s.1 ∧ s.1 ≤ c := ⟨Nat.le_refl _, hs⟩
  match nt, hp with
  | 0, hp => exact rt_bd_r h hs hp
  | 1, hp =>
    have hp : (if s.2 < 0 ∧ T s.1 = 9 then (P 2 o (rt_adv T s)).bind (P 1 o) else some s) = some r := hp
    split at hp
    · exact rt_tr_r hv (fun g => rt_bd_r h g hp)
    · exact rt_some_r hi hp
  | 2, hp => exact rt_bd_r h hs hp
  | 3, hp =>
    have hp : (if s.2 < 0 ∧ T s.1 = 10 then (P 4 o (rt_adv T s)).bind (P 3 o) else some s) = some r := hp
    split at hp
    · exact rt_tr_r hv (fun g => rt_bd_r h g hp)
    · exact rt_some_r hi hp
  | 4, hp =>
    have hp : (if s.2 < 0 ∧ T s.1 = 11 then (if 5 ≤ o then some (rt_fail S s) else P 4 (o + 1) (rt_adv T s)) else P 5 o s) = some r := hp
    split at hp
    · split at hp
      · exact rt_some_r (a := rt_fail S s) hi hp
      · exact rt_tr_r hv (fun g => h _ _ _ _ g hp)
    · exact h _ _ _ _ hs hp
  | 5, hp => exact rt_bd_r h hs hp
  | 6, hp => exact rt_bd_r h hs hp
  | 7, hp =>
    have hp : (if s.2 < 0 ∧ (T s.1 = 43 ∨ T s.1 = 45) then (P 8 o (rt_adv T s)).bind (P 7 o) else some s) = some r := hp
    split at hp
    · exact rt_tr_r hv (fun g => rt_bd_r h g hp)
    · exact rt_some_r hi hp
  | 8, hp => exact rt_bd_r h hs hp
  | 9, hp =>
    have hp : (if s.2 < 0 ∧ T s.1 = 42 then (P 10 o (rt_adv T s)).bind (P 9 o) else some s) = some r := hp
    split at hp
    · exact rt_tr_r hv (fun g => rt_bd_r h g hp)
    · exact rt_some_r hi hp
  | 10, hp =>
    have hp : (if s.2 < 0 ∧ (T s.1 = 12 ∨ (0 < T s.1 ∧ T s.1 ≤ 6)) then some (rt_adv T s) else if (s.2 < 0 ∧ T s.1 = 45) ∧ o < 5 then P 10 (o + 1) (rt_adv T s) else if (s.2 < 0 ∧ T s.1 = 40) ∧ o < 5 then (P 0 (o + 1) (rt_adv T s)).bind (P 12 o) else some (rt_fail S s)) = some r := hp
    split at hp
    · exact rt_some_r hv hp
    · split at hp
      · exact rt_tr_r hv (fun g => h _ _ _ _ g hp)
      · split at hp
        · exact rt_tr_r hv (fun g => rt_bd_r h g hp)
        · exact rt_some_r (a := rt_fail S s) hi hp
  | 11, hp =>
    have hp : (if s.2 < 0 ∧ (T s.1 = 60 ∨ T s.1 = 61) then P 6 o (rt_adv T s) else some s) = some r := hp
    split at hp
    · exact rt_tr_r hv (fun g => h _ _ _ _ g hp)
    · exact rt_some_r hi hp
  | _ + 12, hp => exact rt_some_r (rt_need_r h0 hs) hp
theorem rt_ps_r {T S : Nat → Int} {c : Nat} (h0 : T c = 0) {F nt : Nat} {o : Int} {s r : Nat × Int} (hs : s.1 ≤ c) (h : rt_ps T S F nt o s = some r) : s.1 ≤ r.1 ∧ r.1 ≤ c := by
  induction F generalizing nt o s r with
  | zero => exact absurd h (by intro z; cases z)
  | succ F ih => exact rt_pst_r h0 (fun _ _ _ _ a b => ih a b) hs h
theorem rt_PS_r {T S : Nat → Int} {c : Nat} {nt : Nat} {o : Int} {s r : Nat × Int} (h : rt_PS T S nt o s r) (h0 : T c = 0) (hs : s.1 ≤ c) : s.1 ≤ r.1 ∧ r.1 ≤ c := by
  obtain ⟨F, hF⟩ := h
  exact rt_ps_r h0 hs hF
/-- a reading asks no tokens but those up to the end -/
theorem rt_pst_c {T U S R : Nat → Int} {P Q : Nat → Int → Nat × Int → Option (Nat × Int)} {c : Nat} (h0 : T c = 0) (hT : ∀ k : Nat, k ≤ c → U k = T k ∧ R k = S k) (hr : ∀ (n : Nat) (o : Int) (s r : Nat × Int), s.1 ≤ c → P n o s = some r → s.1 ≤ r.1 ∧ r.1 ≤ c) (h : ∀ (n : Nat) (o : Int) (s : Nat × Int), s.1 ≤ c → Q n o s = P n o s) {nt : Nat} {o : Int} {s : Nat × Int} (hs : s.1 ≤ c) : rt_pst U R Q nt o s = rt_pst T S P nt o s := by
  obtain ⟨eT, eS⟩ := hT s.1 hs
  have hv := rt_adv_r (s := s) h0 hs
  have ea : rt_adv U s = rt_adv T s := by unfold rt_adv; rw [eT]
  have ef : rt_fail R s = rt_fail S s := by unfold rt_fail; rw [eS]
  have en : rt_need U R 41 s = rt_need T S 41 s := by unfold rt_need; rw [eT, ea, ef]
  have hb : ∀ (a b : Nat) (p q : Int) (t : Nat × Int), t.1 ≤ c → (Q a p t).bind (Q b q) = (P a p t).bind (P b q) := by
    intro a b p q t ht
    rw [h a p t ht]
    cases e : P a p t with
    | none => rfl
    | some t1 => exact h b q t1 (hr _ _ _ _ ht e).2
  match nt with
  | 0 => exact hb _ _ _ _ _ hs
  | 1 =>
    show (if s.2 < 0 ∧ U s.1 = 9 then (Q 2 o (rt_adv U s)).bind (Q 1 o) else some s) = (if s.2 < 0 ∧ T s.1 = 9 then (P 2 o (rt_adv T s)).bind (P 1 o) else some s)
    rw [eT, ea, hb _ _ _ _ _ hv.2]
  | 2 => exact hb _ _ _ _ _ hs
  | 3 =>
    show (if s.2 < 0 ∧ U s.1 = 10 then (Q 4 o (rt_adv U s)).bind (Q 3 o) else some s) = (if s.2 < 0 ∧ T s.1 = 10 then (P 4 o (rt_adv T s)).bind (P 3 o) else some s)
    rw [eT, ea, hb _ _ _ _ _ hv.2]
  | 4 =>
    show (if s.2 < 0 ∧ U s.1 = 11 then (if 5 ≤ o then some (rt_fail R s) else Q 4 (o + 1) (rt_adv U s)) else Q 5 o s) = (if s.2 < 0 ∧ T s.1 = 11 then (if 5 ≤ o then some (rt_fail S s) else P 4 (o + 1) (rt_adv T s)) else P 5 o s)
    rw [eT, ea, ef, h _ _ _ hv.2, h _ _ _ hs]
  | 5 => exact hb _ _ _ _ _ hs
  | 6 => exact hb _ _ _ _ _ hs
  | 7 =>
    show (if s.2 < 0 ∧ (U s.1 = 43 ∨ U s.1 = 45) then (Q 8 o (rt_adv U s)).bind (Q 7 o) else some s) = (if s.2 < 0 ∧ (T s.1 = 43 ∨ T s.1 = 45) then (P 8 o (rt_adv T s)).bind (P 7 o) else some s)
    rw [eT, ea, hb _ _ _ _ _ hv.2]
  | 8 => exact hb _ _ _ _ _ hs
  | 9 =>
    show (if s.2 < 0 ∧ U s.1 = 42 then (Q 10 o (rt_adv U s)).bind (Q 9 o) else some s) = (if s.2 < 0 ∧ T s.1 = 42 then (P 10 o (rt_adv T s)).bind (P 9 o) else some s)
    rw [eT, ea, hb _ _ _ _ _ hv.2]
  | 10 =>
    show (if s.2 < 0 ∧ (U s.1 = 12 ∨ (0 < U s.1 ∧ U s.1 ≤ 6)) then some (rt_adv U s) else if (s.2 < 0 ∧ U s.1 = 45) ∧ o < 5 then Q 10 (o + 1) (rt_adv U s) else if (s.2 < 0 ∧ U s.1 = 40) ∧ o < 5 then (Q 0 (o + 1) (rt_adv U s)).bind (Q 12 o) else some (rt_fail R s)) = (if s.2 < 0 ∧ (T s.1 = 12 ∨ (0 < T s.1 ∧ T s.1 ≤ 6)) then some (rt_adv T s) else if (s.2 < 0 ∧ T s.1 = 45) ∧ o < 5 then P 10 (o + 1) (rt_adv T s) else if (s.2 < 0 ∧ T s.1 = 40) ∧ o < 5 then (P 0 (o + 1) (rt_adv T s)).bind (P 12 o) else some (rt_fail S s))
    rw [eT, ea, ef, h _ _ _ hv.2, hb _ _ _ _ _ hv.2]
  | 11 =>
    show (if s.2 < 0 ∧ (U s.1 = 60 ∨ U s.1 = 61) then Q 6 o (rt_adv U s) else some s) = (if s.2 < 0 ∧ (T s.1 = 60 ∨ T s.1 = 61) then P 6 o (rt_adv T s) else some s)
    rw [eT, ea, h _ _ _ hv.2]
  | n + 12 =>
    show some (rt_need U R 41 s) = some (rt_need T S 41 s)
    rw [en]
theorem rt_ps_c {T U S R : Nat → Int} {c : Nat} (h0 : T c = 0) (hT : ∀ k : Nat, k ≤ c → U k = T k ∧ R k = S k) {F nt : Nat} {o : Int} {s : Nat × Int} (hs : s.1 ≤ c) : rt_ps U R F nt o s = rt_ps T S F nt o s := by
  induction F generalizing nt o s with
  | zero => rfl
  | succ F ih => exact rt_pst_c h0 hT (fun _ _ _ _ a b => rt_ps_r h0 a b) (fun _ _ _ a => ih a) hs
theorem rt_PS_c {T U S R : Nat → Int} {c : Nat} (h0 : T c = 0) (hT : ∀ k : Nat, k ≤ c → U k = T k ∧ R k = S k) {nt : Nat} {o : Int} {s r : Nat × Int} (hs : s.1 ≤ c) (h : rt_PS U R nt o s r) : rt_PS T S nt o s r := by
  obtain ⟨F, hF⟩ := h
  exact ⟨F, by rw [← rt_ps_c h0 hT hs]; exact hF⟩
def rt_ch (x : Int32) : Int32 := ((x &&& 255).toUInt32 % 65536).toInt32
abbrev rt_isL (b : Int) : Prop := 97 ≤ b ∧ b ≤ 122
abbrev rt_isD (b : Int) : Prop := 48 ≤ b ∧ b ≤ 57
abbrev rt_isB (b : Int) : Prop := b = 32 ∨ b = 10
abbrev rt_isG (b : Int) : Prop := (40 ≤ b ∧ b ≤ 43) ∨ b = 45 ∨ (59 ≤ b ∧ b ≤ 61)
/-- behind blanks from p on comes q -/
def rt_SK (f : Int → Int) (n p q : Int) : Prop := p ≤ q ∧ q ≤ n ∧ (∀ x : Int, p ≤ x → x < q → rt_isB (f x)) ∧ ¬ (q < n ∧ rt_isB (f q))
/-- a token from p on ends at e -/
def rt_EN (f : Int → Int) (n p e : Int) : Prop := p < e ∧ e ≤ n ∧ ((rt_isL (f p) ∧ (∀ x : Int, p ≤ x → x < e → rt_isL (f x)) ∧ ¬ (e < n ∧ rt_isL (f e))) ∨ (rt_isD (f p) ∧ (∀ x : Int, p ≤ x → x < e → rt_isD (f x)) ∧ ¬ (e < n ∧ rt_isD (f e))) ∨ (¬ rt_isL (f p) ∧ ¬ rt_isD (f p) ∧ e = p + 1))
theorem rt_SK_u {f : Int → Int} {n p q r : Int} (a : rt_SK f n p q) (b : rt_SK f n p r) : q = r := by
  obtain ⟨a1, a2, a3, a4⟩ := a
  obtain ⟨b1, b2, b3, b4⟩ := b
  rcases Int.lt_trichotomy q r with g | g | g
  · exact absurd ⟨by omega, b3 q a1 g⟩ a4
  · exact g
  · exact absurd ⟨by omega, a3 r b1 g⟩ b4
theorem rt_EN_u {f : Int → Int} {n p e d : Int} (a : rt_EN f n p e) (b : rt_EN f n p d) : e = d := by
  obtain ⟨a1, a2, a3⟩ := a
  obtain ⟨b1, b2, b3⟩ := b
  rcases a3 with ⟨c1, c2, c3⟩ | ⟨c1, c2, c3⟩ | ⟨c1, c2, c3⟩ <;> rcases b3 with ⟨d1, d2, d3⟩ | ⟨d1, d2, d3⟩ | ⟨d1, d2, d3⟩
  · rcases Int.lt_trichotomy e d with g | g | g
    · exact absurd ⟨by omega, d2 e (by omega) g⟩ c3
    · exact g
    · exact absurd ⟨by omega, c2 d (by omega) g⟩ d3
  · exfalso; omega
  · exact absurd c1 d1
  · exfalso; omega
  · rcases Int.lt_trichotomy e d with g | g | g
    · exact absurd ⟨by omega, d2 e (by omega) g⟩ c3
    · exact g
    · exact absurd ⟨by omega, c2 d (by omega) g⟩ d3
  · exact absurd c1 d2
  · exact absurd d1 c1
  · exact absurd d1 c2
  · omega
/-- a stretch of bytes spells a word -/
def rt_mt (f : Int → Int) (p e : Int) (w : List Int32) : Prop := e - p = w.length ∧ ∀ j : Nat, j < w.length → f (p + j) = (w.getD j 0).toInt
def rt_W (k : Nat) : List Int32 := ([[], [115, 116, 114, 101, 110, 103, 116, 104], [104, 117, 114, 116], [115, 107, 105, 108, 108], [104, 111, 117, 114], [102, 117, 101, 108], [102, 97, 114], [116, 97, 107, 101], [103, 111], [111, 114], [97, 110, 100], [110, 111, 116]] : List (List Int32)).getD k []
theorem rt_W_ne : ∀ j k : Fin 12, 1 ≤ j.1 → 1 ≤ k.1 → j ≠ k → (rt_W j.1).length ≠ (rt_W k.1).length ∨ ((List.range 8).any (fun i => decide (i < (rt_W j.1).length) && decide (((rt_W j.1).getD i 0).toInt ≠ ((rt_W k.1).getD i 0).toInt))) = true := by decide +kernel
theorem rt_W_1 : ∀ k : Fin 12, 1 ≤ k.1 → 1 ≤ (rt_W k.1).length ∧ 97 ≤ ((rt_W k.1).getD 0 0).toInt ∧ ((rt_W k.1).getD 0 0).toInt ≤ 122 := by decide +kernel
theorem rt_mt_u {f : Int → Int} {p e : Int} {j k : Nat} (hj : 1 ≤ j ∧ j ≤ 11) (hk : 1 ≤ k ∧ k ≤ 11) (a : rt_mt f p e (rt_W j)) (b : rt_mt f p e (rt_W k)) : j = k := by
  apply Decidable.byContradiction
  intro hne
  rcases rt_W_ne ⟨j, by omega⟩ ⟨k, by omega⟩ hj.1 hk.1 (fun z => hne (congrArg Fin.val z)) with h | h
  · apply h
    have h1 := a.1
    have h2 := b.1
    show (rt_W j).length = (rt_W k).length
    omega
  · obtain ⟨i, hi, h2⟩ := List.any_eq_true.mp h
    have h2 : (decide (i < (rt_W j).length) && decide (((rt_W j).getD i 0).toInt ≠ ((rt_W k).getD i 0).toInt)) = true := h2
    rw [Bool.and_eq_true, decide_eq_true_eq, decide_eq_true_eq] at h2
    have h2 : i < (rt_W j).length ∧ ((rt_W j).getD i 0).toInt ≠ ((rt_W k).getD i 0).toInt := h2
    have h3 := a.2 i h2.1
    have h4 := b.2 i (by have h5 := a.1; have h6 := b.1; omega)
    exact h2.2 (h3.symm.trans h4)
/-- which kind of token it is -/
def rt_KD (f : Int → Int) (p e t : Int) : Prop := (rt_isL (f p) ∧ ((∃ k : Nat, 1 ≤ k ∧ k ≤ 11 ∧ t = k ∧ rt_mt f p e (rt_W k)) ∨ (t = -1 ∧ ∀ k : Nat, 1 ≤ k → k ≤ 11 → ¬ rt_mt f p e (rt_W k)))) ∨ (rt_isD (f p) ∧ ((e - p ≤ 4 ∧ t = 12) ∨ (4 < e - p ∧ t = -1))) ∨ (¬ rt_isL (f p) ∧ ¬ rt_isD (f p) ∧ ((rt_isG (f p) ∧ t = f p) ∨ (¬ rt_isG (f p) ∧ t = -1)))
theorem rt_kw {f : Int → Int} {p e t : Int} (hK : rt_KD f p e t) {k : Nat} (hk : 1 ≤ k ∧ k ≤ 11) : rt_mt f p e (rt_W k) ↔ t = k := by
  obtain ⟨w1, w2, w3⟩ := rt_W_1 ⟨k, by omega⟩ hk.1
  constructor
  · intro m
    have h0 := m.2 0 w1
    rw [show p + ((0 : Nat) : Int) = p by omega] at h0
    have w2 : 97 ≤ ((rt_W k).getD 0 0).toInt := w2
    have w3 : ((rt_W k).getD 0 0).toInt ≤ 122 := w3
    have hL : rt_isL (f p) := by rw [h0]; exact ⟨w2, w3⟩
    rcases hK with ⟨_, ⟨j, j1, j2, j3, j4⟩ | ⟨_, j2⟩⟩ | ⟨d1, _⟩ | ⟨d1, _⟩
    · rw [j3, rt_mt_u ⟨j1, j2⟩ hk j4 m]
    · exact absurd m (j2 k hk.1 hk.2)
    · exfalso; omega
    · exact absurd hL d1
  · intro ht
    rcases hK with ⟨_, ⟨j, j1, j2, j3, j4⟩ | ⟨j1, _⟩⟩ | ⟨_, ⟨_, d2⟩ | ⟨_, d2⟩⟩ | ⟨_, _, ⟨d3, d4⟩ | ⟨_, d4⟩⟩
    · have e : j = k := by omega
      rw [← e]
      exact j4
    all_goals (exfalso; omega)
theorem rt_kg {f : Int → Int} {n p e t : Int} (hE : rt_EN f n p e) (hK : rt_KD f p e t) {g : Int32} (hg : rt_isG g.toInt) : rt_mt f p e [g] ↔ t = g.toInt := by
  constructor
  · intro m
    have h0 := m.2 0 (show 0 < 1 from Nat.zero_lt_one)
    rw [show p + ((0 : Nat) : Int) = p by omega] at h0
    have h0 : f p = g.toInt := h0
    rcases hK with ⟨d1, _⟩ | ⟨d1, _⟩ | ⟨_, _, ⟨_, d4⟩ | ⟨d3, _⟩⟩
    · exfalso; omega
    · exfalso; omega
    · rw [d4, h0]
    · exfalso; omega
  · intro ht
    rcases hK with ⟨_, ⟨j, j1, j2, j3, j4⟩ | ⟨j1, _⟩⟩ | ⟨_, ⟨_, d2⟩ | ⟨_, d2⟩⟩ | ⟨d1, d2, ⟨d3, d4⟩ | ⟨_, d4⟩⟩
    · exfalso; omega
    · exfalso; omega
    · exfalso; omega
    · exfalso; omega
    · obtain ⟨_, _, c | c | c⟩ := hE
      · exact absurd c.1 d1
      · exact absurd c.1 d2
      · refine ⟨by show e - p = ((1 : Nat) : Int); omega, fun j hj => ?_⟩
        have hj : j < 1 := hj
        rw [show j = 0 by omega, show p + ((0 : Nat) : Int) = p by omega]
        show f p = g.toInt
        omega
    · exfalso; omega
theorem rt_kn {f : Int → Int} {p e t : Int} (hK : rt_KD f p e t) : t = 12 ↔ (rt_isD (f p) ∧ e - p ≤ 4) := by
  rcases hK with ⟨d1, ⟨j, j1, j2, j3, j4⟩ | ⟨j1, _⟩⟩ | ⟨d1, ⟨d2, d3⟩ | ⟨d2, d3⟩⟩ | ⟨d1, d2, ⟨d3, d4⟩ | ⟨d3, d4⟩⟩ <;> omega
/-- the tokens of a tape: S where they begin, B where the one before ends, T their kinds -/
def rt_TK (f : Int → Int) (n : Int) (c : Nat) (S B T : Nat → Int) : Prop := B 0 = 0 ∧ (∀ k : Nat, k < c → S k < n ∧ rt_SK f n (B k) (S k) ∧ rt_EN f n (S k) (B (k + 1)) ∧ rt_KD f (S k) (B (k + 1)) (T k)) ∧ rt_SK f n (B c) (S c) ∧ S c = n ∧ B (c + 1) = n ∧ T c = 0
/-- the same while they are cut: cnt tokens are there, and from the last one's end to pl there are blanks alone -/
def rt_TP (f : Int → Int) (n : Int) (cnt : Nat) (S T : Nat → Int) (pl : Int) : Prop := ∃ B : Nat → Int, B 0 = 0 ∧ (∀ k : Nat, k < cnt → S k < n ∧ rt_SK f n (B k) (S k) ∧ rt_EN f n (S k) (B (k + 1)) ∧ rt_KD f (S k) (B (k + 1)) (T k)) ∧ B cnt ≤ pl ∧ pl ≤ n ∧ (∀ x : Int, B cnt ≤ x → x < pl → rt_isB (f x)) ∧ (cnt : Int) ≤ pl
theorem rt_TP_0 {f : Int → Int} {n : Int} {S T : Nat → Int} (h : 0 ≤ n) : rt_TP f n 0 S T 0 := ⟨fun _ => 0, rfl, fun k hk => absurd hk (Nat.not_lt_zero k), Int.le_refl _, h, fun x h1 h2 => absurd h2 (Int.not_lt.mpr h1), Int.le_refl _⟩
theorem rt_TP_b {f : Int → Int} {n : Int} {cnt : Nat} {S T : Nat → Int} {pl : Int} (h : rt_TP f n cnt S T pl) (hn : pl < n) (hb : rt_isB (f pl)) : rt_TP f n cnt S T (pl + 1) := by
  obtain ⟨B, b0, b1, b2, b3, b4, b5⟩ := h
  refine ⟨B, b0, b1, by omega, by omega, fun x h1 h2 => ?_, by omega⟩
  rcases Int.lt_or_le x pl with g | g
  · exact b4 x h1 g
  · rw [show x = pl by omega]
    exact hb
theorem rt_TP_t {f : Int → Int} {n : Int} {cnt : Nat} {S T S1 T1 : Nat → Int} {pl e : Int} (h : rt_TP f n cnt S T pl) (hn : pl < n) (hb : ¬ rt_isB (f pl)) (hS : ∀ k : Nat, k < cnt → S1 k = S k) (hT : ∀ k : Nat, k < cnt → T1 k = T k) (hs : S1 cnt = pl) (hE : rt_EN f n pl e) (hK : rt_KD f pl e (T1 cnt)) : rt_TP f n (cnt + 1) S1 T1 e := by
  obtain ⟨B, b0, b1, b2, b3, b4, b5⟩ := h
  have e1 := hE.1
  have e2 := hE.2.1
  refine ⟨fun k => if k = cnt + 1 then e else B k, ?_, fun k hk => ?_, ?_, e2, fun x h1 h2 => ?_, by omega⟩
  · show (if 0 = cnt + 1 then e else B 0) = 0
    rw [if_neg (by omega), b0]
  · show S1 k < n ∧ rt_SK f n (if k = cnt + 1 then e else B k) (S1 k) ∧ rt_EN f n (S1 k) (if k + 1 = cnt + 1 then e else B (k + 1)) ∧ rt_KD f (S1 k) (if k + 1 = cnt + 1 then e else B (k + 1)) (T1 k)
    rw [if_neg (by omega)]
    by_cases g : k = cnt
    · rw [if_pos (by omega), g, hs]
      exact ⟨hn, ⟨b2, b3, b4, fun z => hb z.2⟩, hE, hK⟩
    · rw [if_neg (by omega), hS k (by omega), hT k (by omega)]
      exact b1 k (by omega)
  · show (if cnt + 1 = cnt + 1 then e else B (cnt + 1)) ≤ e
    rw [if_pos rfl]
    exact Int.le_refl _
  · have h1 : (if cnt + 1 = cnt + 1 then e else B (cnt + 1)) ≤ x := h1
    rw [if_pos rfl] at h1
    omega
theorem rt_TP_x {f : Int → Int} {n : Int} {cnt : Nat} {S T S1 T1 : Nat → Int} {pl : Int} (h : rt_TP f n cnt S T pl) (hn : n ≤ pl) (hS : ∀ k : Nat, k < cnt → S1 k = S k) (hT : ∀ k : Nat, k < cnt → T1 k = T k) (hs : S1 cnt = n) (ht : T1 cnt = 0) : ∃ B : Nat → Int, rt_TK f n cnt S1 B T1 := by
  obtain ⟨B, b0, b1, b2, b3, b4, b5⟩ := h
  refine ⟨fun k => if k = cnt + 1 then n else B k, ?_, fun k hk => ?_, ?_, hs, ?_, ht⟩
  · show (if 0 = cnt + 1 then n else B 0) = 0
    rw [if_neg (by omega), b0]
  · show S1 k < n ∧ rt_SK f n (if k = cnt + 1 then n else B k) (S1 k) ∧ rt_EN f n (S1 k) (if k + 1 = cnt + 1 then n else B (k + 1)) ∧ rt_KD f (S1 k) (if k + 1 = cnt + 1 then n else B (k + 1)) (T1 k)
    rw [if_neg (by omega), if_neg (by omega), hS k hk, hT k hk]
    exact b1 k hk
  · show rt_SK f n (if cnt = cnt + 1 then n else B cnt) (S1 cnt)
    rw [if_neg (by omega), hs]
    exact ⟨by omega, Int.le_refl _, fun x h1 h2 => b4 x h1 (by omega), fun z => absurd z.1 (by omega)⟩
  · show (if cnt + 1 = cnt + 1 then n else B (cnt + 1)) = n
    rw [if_pos rfl]
def rt_tb (M : fm_M) (x : Int) : Int := (M.1 28 0 x.toNat).toInt
def rt_tT (M : fm_M) (k : Nat) : Int := (M.1 33 0 k).toInt
def rt_tS (M : fm_M) (k : Nat) : Int := (M.1 34 0 k).toInt
/-- where the class's reader is -/
def rt_sq (M : fm_M) : Nat × Int := ((M.1 32 0 6).toNatClampNeg, (M.1 32 0 7).toInt)
def rt_RD (c : Nat) (M : fm_M) : Prop := rt_tT M c = 0 ∧ c ≤ 160 ∧ (M.1 32 0 6).toInt ≤ c ∧ 0 ≤ (M.1 32 0 6).toInt
theorem rt_sq_same {es : List Nat} {M u : fm_M} (s : fm_same es M u) (h : ∀ c ∈ ([32006, 32007] : List Nat), c ∉ es) : rt_sq u = rt_sq M := by
  unfold rt_sq
  rw [(s 32 0 6 (h _ (by decide))).1, (s 32 0 7 (h _ (by decide))).1]
theorem rt_tTS {es : List Nat} {M u : fm_M} (s : fm_same es M u) (h : ∀ c ∈ ([33000, 34000] : List Nat), c ∉ es) : rt_tT u = rt_tT M ∧ rt_tS u = rt_tS M := by
  refine ⟨funext fun k => ?_, funext fun k => ?_⟩
  · unfold rt_tT
    rw [(s 33 0 k (by rw [cd_33]; exact h _ (by decide))).1]
  · unfold rt_tS
    rw [(s 34 0 k (by rw [cd_34]; exact h _ (by decide))).1]
theorem rt_RD_same {c : Nat} {es : List Nat} {M u : fm_M} (s : fm_same es M u) (h : ∀ c ∈ ([32006, 33000] : List Nat), c ∉ es) (hR : rt_RD c M) : rt_RD c u := by
  obtain ⟨r1, r2, r3, r4⟩ := hR
  refine ⟨?_, r2, ?_, ?_⟩
  · unfold rt_tT
    rw [(s 33 0 c (by rw [cd_33]; exact h _ (by decide))).1]
    exact r1
  · rw [(s 32 0 6 (h _ (by decide))).1]
    exact r3
  · rw [(s 32 0 6 (h _ (by decide))).1]
    exact r4
theorem rt_RD_to {c : Nat} {es : List Nat} {M u : fm_M} {q : Nat × Int} (hR : rt_RD c M) (s : fm_same es M u) (h : ∀ c ∈ ([33000] : List Nat), c ∉ es) (h0 : 0 ≤ (u.1 32 0 6).toInt) (hq : rt_sq u = q) (hr : q.1 ≤ c) : rt_RD c u := by
  obtain ⟨r1, r2, r3, r4⟩ := hR
  have e : (u.1 32 0 6).toNatClampNeg ≤ c := by rw [← hq] at hr; exact hr
  refine ⟨?_, r2, ?_, h0⟩
  · unfold rt_tT
    rw [(s 33 0 c (by rw [cd_33]; exact h _ (by decide))).1]
    exact r1
  · rw [Int32.toNatClampNeg] at e
    omega
theorem rt_RD_at {c : Nat} {M : fm_M} (hR : rt_RD c M) : (rt_sq M).1 ≤ c := by
  obtain ⟨r1, r2, r3, r4⟩ := hR
  show (M.1 32 0 6).toNatClampNeg ≤ c
  rw [Int32.toNatClampNeg]
  omega
theorem rt_RD_ps {c : Nat} {es : List Nat} {M u : fm_M} {nt : Nat} {o : Int} (hR : rt_RD c M) (hp : rt_PS (rt_tT M) (rt_tS M) nt o (rt_sq M) (rt_sq u)) (s : fm_same es M u) (h : ∀ c ∈ ([33000] : List Nat), c ∉ es) (h0 : 0 ≤ (u.1 32 0 6).toInt) : rt_RD c u := rt_RD_to hR s h h0 rfl (rt_PS_r hp hR.1 (rt_RD_at hR)).2
theorem rt_RD_adv {c : Nat} {es : List Nat} {M u : fm_M} (hR : rt_RD c M) (hp : rt_sq u = rt_adv (rt_tT M) (rt_sq M)) (s : fm_same es M u) (h : ∀ c ∈ ([33000] : List Nat), c ∉ es) (h0 : 0 ≤ (u.1 32 0 6).toInt) : rt_RD c u := rt_RD_to hR s h h0 hp (rt_adv_r hR.1 (rt_RD_at hR)).2
theorem rt_RD_need {c : Nat} {es : List Nat} {M u : fm_M} {k : Int} (hR : rt_RD c M) (hp : rt_sq u = rt_need (rt_tT M) (rt_tS M) k (rt_sq M)) (s : fm_same es M u) (h : ∀ c ∈ ([33000] : List Nat), c ∉ es) (h0 : 0 ≤ (u.1 32 0 6).toInt) : rt_RD c u := rt_RD_to hR s h h0 hp (rt_need_r hR.1 (rt_RD_at hR)).2
theorem rt_adv_y {M u : fm_M} {x y t : Int32} (ex : x = M.1 32 0 6) (et : t = M.1 33 0 x.toNatClampNeg) (hn : ¬ t.toInt = 0) (hy : y.toInt = x.toInt + 1) (h0 : 0 ≤ x.toInt) (eu : u = fm_wI M 32 0 6 y) : rt_sq u = rt_adv (rt_tT M) (rt_sq M) := by
  unfold rt_sq rt_adv rt_tT
  show ((u.1 32 0 6).toNatClampNeg, (u.1 32 0 7).toInt) = (if (M.1 33 0 (M.1 32 0 6).toNatClampNeg).toInt = 0 then (M.1 32 0 6).toNatClampNeg else (M.1 32 0 6).toNatClampNeg + 1, (M.1 32 0 7).toInt)
  rw [← ex, ← et, if_neg hn, eu, fm_wI_at, fm_wI_nj (fun z => absurd z.2.2 (by decide)), zi_tns hy h0]
theorem rt_adv_n {M : fm_M} (h : (M.1 33 0 (M.1 32 0 6).toNatClampNeg).toInt = 0) : rt_sq M = rt_adv (rt_tT M) (rt_sq M) := by
  unfold rt_sq rt_adv rt_tT
  show ((M.1 32 0 6).toNatClampNeg, (M.1 32 0 7).toInt) = (if (M.1 33 0 (M.1 32 0 6).toNatClampNeg).toInt = 0 then (M.1 32 0 6).toNatClampNeg else (M.1 32 0 6).toNatClampNeg + 1, (M.1 32 0 7).toInt)
  rw [if_pos h]
theorem rt_RD_160 {c : Nat} {M : fm_M} (hR : rt_RD c M) (h : 160 ≤ (M.1 32 0 6).toInt) : (M.1 33 0 (M.1 32 0 6).toNatClampNeg).toInt = 0 := by
  obtain ⟨r1, r2, r3, r4⟩ := hR
  have e : (M.1 32 0 6).toNatClampNeg = c := by rw [Int32.toNatClampNeg]; omega
  rw [e]
  exact r1
theorem rt_fail_y {M u : fm_M} {x y z : Int32} (ex : x = M.1 32 0 6) (ey : y = M.1 34 0 x.toNatClampNeg) (ez : z = M.1 32 0 7) (hz : z.toInt < 0) (eu : u = fm_wI M 32 0 7 y) : rt_sq u = rt_fail (rt_tS M) (rt_sq M) := by
  unfold rt_sq rt_fail rt_tS
  show ((u.1 32 0 6).toNatClampNeg, (u.1 32 0 7).toInt) = ((M.1 32 0 6).toNatClampNeg, if (M.1 32 0 7).toInt < 0 then (M.1 34 0 (M.1 32 0 6).toNatClampNeg).toInt else (M.1 32 0 7).toInt)
  rw [← ez, if_pos hz, eu, fm_wI_at, fm_wI_nj (fun z => absurd z.2.2 (by decide)), ← ex, ← ey]
theorem rt_fail_n {M : fm_M} (h : ¬ (M.1 32 0 7).toInt < 0) : rt_sq M = rt_fail (rt_tS M) (rt_sq M) := by
  unfold rt_sq rt_fail
  show ((M.1 32 0 6).toNatClampNeg, (M.1 32 0 7).toInt) = ((M.1 32 0 6).toNatClampNeg, if (M.1 32 0 7).toInt < 0 then rt_tS M (M.1 32 0 6).toNatClampNeg else (M.1 32 0 7).toInt)
  rw [if_neg h]
theorem rt_see {T : Nat → Int} {M : fm_M} (e : rt_tT M = T) {k : Int} : ((M.1 32 0 7).toInt < 0 ∧ (M.1 33 0 (M.1 32 0 6).toNatClampNeg).toInt = k) ↔ ((rt_sq M).2 < 0 ∧ T (rt_sq M).1 = k) := by
  rw [← e]
  exact Iff.rfl
theorem rt_ka {c : Nat} {T S : Nat → Int} {nt : Nat} {o : Int} {p q u : fm_M} {k : Int} (hT : rt_tT p = T) (hR : rt_RD c p) (hk : k ≤ (p.1 32 0 6).toInt) (hs : ¬ T (rt_sq p).1 = 0) (ha : rt_sq q = rt_adv T (rt_sq p)) (hp : rt_PS T S nt o (rt_sq q) (rt_sq u)) (h0 : 0 ≤ (u.1 32 0 6).toInt) : k + 1 ≤ (u.1 32 0 6).toInt := by
  have hc : T c = 0 := by rw [← hT]; exact hR.1
  have h1 := rt_RD_at hR
  have h2 := (rt_adv_r (s := rt_sq p) hc h1).2
  rw [← ha] at h2
  have h3 := (rt_PS_r hp hc h2).1
  have h4 : (rt_sq q).1 = (rt_sq p).1 + 1 := by
    rw [ha]
    show (if T (rt_sq p).1 = 0 then (rt_sq p).1 else (rt_sq p).1 + 1) = _
    rw [if_neg hs]
  rw [h4] at h3
  have h5 : (p.1 32 0 6).toNatClampNeg + 1 ≤ (u.1 32 0 6).toNatClampNeg := h3
  have h6 := hR.2.2.2
  rw [Int32.toNatClampNeg, Int32.toNatClampNeg] at h5
  omega
theorem rt_sn160 {c : Nat} {T : Nat → Int} {M : fm_M} (hR : rt_RD c M) (h : 160 ≤ (M.1 32 0 6).toInt) (e : rt_tT M = T) : T (rt_sq M).1 = 0 := by
  rw [← e]
  exact rt_RD_160 hR h
/-- what a reading of the whole comes to: the place of the fault, or -1 -/
def rt_RT (T S : Nat → Int) (r : Int) : Prop := ∃ s2 s5 : Nat × Int, rt_PS T S 0 0 (rt_need T S 7 (0, -1)) s2 ∧ rt_PS T S 0 0 (rt_need T S 8 (rt_need T S 59 s2)) s5 ∧ r = (rt_need T S 0 (rt_need T S 59 s5)).2
theorem rt_RT_u {T S : Nat → Int} {r q : Int} (a : rt_RT T S r) (b : rt_RT T S q) : r = q := by
  obtain ⟨s, t, a1, a2, a3⟩ := a
  obtain ⟨s', t', b1, b2, b3⟩ := b
  have e1 := rt_PS_u a1 b1
  rw [← e1] at b2
  have e2 := rt_PS_u a2 b2
  rw [a3, b3, e2]
/-- the bytes that the reference reads: those of the tape (b < 0), or of the kept texts from b on -/
def rt_mb (M : fm_M) (b : Int) (x : Int) : Int := if b < 0 then (M.1 151 0 x.toNat).toInt else (M.1 153 0 (b + x).toNat).toInt
theorem rt_mb_t {M : fm_M} {b p x : Int32} (eb : b = M.1 60 0 62) (hb : b.toInt < 0) (ex : x = M.1 151 0 p.toNatClampNeg) : x.toInt = rt_mb M (M.1 60 0 62).toInt p.toInt := by
  unfold rt_mb
  rw [← eb, if_pos hb, ex]
  rfl
theorem rt_mb_k {M : fm_M} {b p x y : Int32} (eb : b = M.1 60 0 62) (hb : ¬ b.toInt < 0) (hy : y.toInt = b.toInt + p.toInt) (ex : x = M.1 153 0 y.toNatClampNeg) : x.toInt = rt_mb M (M.1 60 0 62).toInt p.toInt := by
  unfold rt_mb
  rw [← eb, if_neg hb, ← hy, ex]
  rfl
theorem rt_mbt {es : List Nat} {M u : fm_M} (s : fm_same es M u) (h : ∀ c ∈ ([151000, 153000] : List Nat), c ∉ es) (b : Int) : rt_mb u b = rt_mb M b := by
  refine funext fun x => ?_
  unfold rt_mb
  rw [(s 151 0 x.toNat (by rw [cd_151]; exact h _ (by decide))).1, (s 153 0 (b + x).toNat (by rw [cd_153]; exact h _ (by decide))).1]
theorem rt_mbs {es : List Nat} {M u : fm_M} (s : fm_same es M u) (h : ∀ c ∈ ([60062, 60063, 151000, 153000] : List Nat), c ∉ es) : rt_mb u (u.1 60 0 62).toInt = rt_mb M (M.1 60 0 62).toInt ∧ u.1 60 0 63 = M.1 60 0 63 := by
  refine ⟨?_, (s 60 0 63 (h _ (by decide))).1⟩
  rw [(s 60 0 62 (h _ (by decide))).1]
  refine rt_mbt s (fun c hc => h c ?_) _
  rcases List.mem_cons.mp hc with rfl | hc
  · decide
  · rcases List.mem_cons.mp hc with rfl | hc
    · decide
    · exact absurd hc List.not_mem_nil
abbrev rt_TM (M : fm_M) (c : Nat) (S B T : Nat → Int) : Prop := rt_TK (rt_mb M (M.1 60 0 62).toInt) (M.1 60 0 63).toInt c S B T
theorem rt_TMs {es : List Nat} {M u : fm_M} (s : fm_same es M u) (h : ∀ c ∈ ([60062, 60063, 151000, 153000] : List Nat), c ∉ es) {c : Nat} {S B T : Nat → Int} (hT : rt_TM M c S B T) : rt_TM u c S B T := by
  obtain ⟨e1, e2⟩ := rt_mbs s h
  show rt_TK (rt_mb u (u.1 60 0 62).toInt) (u.1 60 0 63).toInt c S B T
  rw [e1, e2]
  exact hT
theorem rt_TK_to {f : Int → Int} {n : Int} {c : Nat} {S B T : Nat → Int} (h : rt_TK f n c S B T) {k : Nat} (hk : k ≤ c) : B (k + 1) ≤ n ∧ S k ≤ B (k + 1) := by
  obtain ⟨h0, h1, h2, h3, h4, h5⟩ := h
  rcases Nat.lt_or_ge k c with g | g
  · obtain ⟨a, b, d, e⟩ := h1 k g
    have d1 := d.1
    have d2 := d.2.1
    exact ⟨d2, by omega⟩
  · rw [show k = c by omega, h3, h4]
    exact ⟨Int.le_refl _, Int.le_refl _⟩
theorem rt_KD_0 {f : Int → Int} {p e t : Int} (h : rt_KD f p e t) : t ≠ 0 := by
  rcases h with ⟨_, ⟨k, k1, _, k3, _⟩ | ⟨k1, _⟩⟩ | ⟨_, ⟨_, k1⟩ | ⟨_, k1⟩⟩ | ⟨_, _, ⟨k1, k2⟩ | ⟨_, k1⟩⟩ <;> omega
theorem rt_KD_u {f : Int → Int} {p e t u : Int} (a : rt_KD f p e t) (b : rt_KD f p e u) : t = u := by
  rcases a with ⟨a0, ⟨k, k1, k2, k3, k4⟩ | ⟨k1, k2⟩⟩ | ⟨a0, ak⟩ | ⟨a0, a1, ak⟩
  · have := (rt_kw b ⟨k1, k2⟩).mp k4
    omega
  · rcases b with ⟨b0, ⟨j, j1, j2, j3, j4⟩ | ⟨j1, _⟩⟩ | ⟨b0, _⟩ | ⟨b0, _⟩
    · exact absurd j4 (k2 j j1 j2)
    · omega
    · exfalso; omega
    · exact absurd a0 b0
  · rcases b with ⟨b0, _⟩ | ⟨b0, bk⟩ | ⟨b0, b1, _⟩
    · exfalso; omega
    · rcases ak with ⟨x, y⟩ | ⟨x, y⟩ <;> rcases bk with ⟨z, w⟩ | ⟨z, w⟩ <;> omega
    · exact absurd a0 b1
  · rcases b with ⟨b0, _⟩ | ⟨b0, _⟩ | ⟨b0, b1, bk⟩
    · exact absurd b0 a0
    · exact absurd b0 a1
    · rcases ak with ⟨x, y⟩ | ⟨x, y⟩ <;> rcases bk with ⟨z, w⟩ | ⟨z, w⟩
      · omega
      · exact absurd x z
      · exact absurd z x
      · omega
/-- how far a run of a sort goes -/
theorem rt_end (P : Int → Prop) {n : Int} : ∀ (d : Nat) (p : Int), p ≤ n → (n - p).toNat ≤ d → ∃ q : Int, p ≤ q ∧ q ≤ n ∧ (∀ x : Int, p ≤ x → x < q → P x) ∧ ¬ (q < n ∧ P q) := by
  intro d
  induction d with
  | zero => exact fun p h1 h2 => ⟨p, Int.le_refl _, h1, fun x a b => absurd b (by omega), fun z => absurd z.1 (by omega)⟩
  | succ d ih =>
    intro p h1 h2
    by_cases g : p < n ∧ P p
    · have g1 := g.1
      obtain ⟨q, q1, q2, q3, q4⟩ := ih (p + 1) (by omega) (by omega)
      refine ⟨q, by omega, q2, fun x a b => ?_, q4⟩
      rcases Int.lt_or_le p x with c | c
      · exact q3 x (by omega) b
      · rw [show x = p by omega]
        exact g.2
    · exact ⟨p, Int.le_refl _, h1, fun x a b => absurd b (by omega), g⟩
theorem rt_EN_ex {f : Int → Int} {n p : Int} (h : p < n) : ∃ e : Int, rt_EN f n p e := by
  by_cases a : rt_isL (f p)
  · obtain ⟨q, q1, q2, q3, q4⟩ := rt_end (fun x => rt_isL (f x)) (n := n) (n - p).toNat p (by omega) (Nat.le_refl _)
    have g : p < q := by
      rcases Int.lt_or_le p q with c | c
      · exact c
      · exact absurd ⟨by omega, by rw [show q = p by omega]; exact a⟩ q4
    exact ⟨q, g, q2, Or.inl ⟨a, q3, q4⟩⟩
  · by_cases b : rt_isD (f p)
    · obtain ⟨q, q1, q2, q3, q4⟩ := rt_end (fun x => rt_isD (f x)) (n := n) (n - p).toNat p (by omega) (Nat.le_refl _)
      have g : p < q := by
        rcases Int.lt_or_le p q with c | c
        · exact c
        · exact absurd ⟨by omega, by rw [show q = p by omega]; exact b⟩ q4
      exact ⟨q, g, q2, Or.inr (Or.inl ⟨b, q3, q4⟩)⟩
    · exact ⟨p + 1, by omega, by omega, Or.inr (Or.inr ⟨a, b, rfl⟩)⟩
theorem rt_KD_ex (f : Int → Int) (p e : Int) : ∃ t : Int, rt_KD f p e t := by
  by_cases a : rt_isL (f p)
  · by_cases w : ∃ k : Nat, 1 ≤ k ∧ k ≤ 11 ∧ rt_mt f p e (rt_W k)
    · obtain ⟨k, k1, k2, k3⟩ := w
      exact ⟨k, Or.inl ⟨a, Or.inl ⟨k, k1, k2, rfl, k3⟩⟩⟩
    · exact ⟨-1, Or.inl ⟨a, Or.inr ⟨rfl, fun k k1 k2 m => w ⟨k, k1, k2, m⟩⟩⟩⟩
  · by_cases b : rt_isD (f p)
    · by_cases g : e - p ≤ 4
      · exact ⟨12, Or.inr (Or.inl ⟨b, Or.inl ⟨g, rfl⟩⟩)⟩
      · exact ⟨-1, Or.inr (Or.inl ⟨b, Or.inr ⟨by omega, rfl⟩⟩)⟩
    · by_cases g : rt_isG (f p)
      · exact ⟨f p, Or.inr (Or.inr ⟨a, b, Or.inl ⟨g, rfl⟩⟩)⟩
      · exact ⟨-1, Or.inr (Or.inr ⟨a, b, Or.inr ⟨g, rfl⟩⟩)⟩
theorem rt_TK_x0 {f : Int → Int} {n : Int} {cnt : Nat} {S T : Nat → Int} {pl : Int} (h : rt_TP f n cnt S T pl) (hn : n ≤ pl) : ∃ (c : Nat) (S B T : Nat → Int), rt_TK f n c S B T := by
  obtain ⟨B, hB⟩ := rt_TP_x (S1 := fun k => if k = cnt then n else S k) (T1 := fun k => if k = cnt then 0 else T k) h hn (fun k hk => if_neg (by omega)) (fun k hk => if_neg (by omega)) (if_pos rfl) (if_pos rfl)
  exact ⟨cnt, _, B, _, hB⟩
theorem rt_TK_ex0 {f : Int → Int} {n : Int} : ∀ (d cnt : Nat) (S T : Nat → Int) (pl : Int), (n - pl).toNat ≤ d → rt_TP f n cnt S T pl → ∃ (c : Nat) (S B T : Nat → Int), rt_TK f n c S B T := by
  intro d
  induction d with
  | zero => exact fun cnt S T pl hd h => rt_TK_x0 h (by omega)
  | succ d ih =>
    intro cnt S T pl hd h
    rcases Int.lt_or_le pl n with hn | hn
    · by_cases hb : rt_isB (f pl)
      · exact ih cnt S T (pl + 1) (by omega) (rt_TP_b h hn hb)
      · obtain ⟨e, hE⟩ := rt_EN_ex (f := f) hn
        obtain ⟨t, hK⟩ := rt_KD_ex f pl e
        have e1 := hE.1
        refine ih (cnt + 1) (fun k => if k = cnt then pl else S k) (fun k => if k = cnt then t else T k) e (by omega) (rt_TP_t h hn hb (fun k hk => if_neg (by omega)) (fun k hk => if_neg (by omega)) (if_pos rfl) hE ?_)
        show rt_KD f pl e (if cnt = cnt then t else T cnt)
        rw [if_pos rfl]
        exact hK
    · exact rt_TK_x0 h hn
/-- every tape has its tokens -/
theorem rt_TK_ex (f : Int → Int) {n : Int} (h : 0 ≤ n) : ∃ (c : Nat) (S B T : Nat → Int), rt_TK f n c S B T := rt_TK_ex0 (n - 0).toNat 0 (fun _ => 0) (fun _ => 0) 0 (Nat.le_refl _) (rt_TP_0 h)
/-- and no others -/
theorem rt_TK_u {f : Int → Int} {n : Int} {c d : Nat} {S B T R C U : Nat → Int} (a : rt_TK f n c S B T) (b : rt_TK f n d R C U) : ∀ k : Nat, k ≤ c → U k = T k ∧ R k = S k := by
  obtain ⟨a0, a1, a2, a3, a4, a5⟩ := a
  obtain ⟨b0, b1, b2, b3, b4, b5⟩ := b
  have hB : ∀ k : Nat, k ≤ c → k ≤ d → C k = B k := by
    intro k
    induction k with
    | zero => intro _ _; rw [a0, b0]
    | succ k ih =>
      intro h1 h2
      obtain ⟨_, s1, e1, _⟩ := a1 k (by omega)
      obtain ⟨_, s2, e2, _⟩ := b1 k (by omega)
      rw [ih (by omega) (by omega)] at s2
      rw [rt_SK_u s2 s1] at e2
      exact rt_EN_u e2 e1
  have hS : ∀ k : Nat, k ≤ c → k ≤ d → R k = S k := by
    intro k h1 h2
    have sa : rt_SK f n (B k) (S k) := by
      rcases Nat.lt_or_ge k c with g | g
      · exact (a1 k g).2.1
      · rw [show k = c by omega]
        exact a2
    have sb : rt_SK f n (C k) (R k) := by
      rcases Nat.lt_or_ge k d with g | g
      · exact (b1 k g).2.1
      · rw [show k = d by omega]
        exact b2
    rw [hB k h1 h2] at sb
    exact rt_SK_u sb sa
  have hcd : c = d := by
    rcases Nat.lt_trichotomy c d with g | g | g
    · have h1 := hS c (Nat.le_refl _) (by omega)
      have h2 := (b1 c g).1
      exfalso; omega
    · exact g
    · have h1 := hS d (by omega) (Nat.le_refl _)
      have h2 := (a1 d g).1
      exfalso; omega
  intro k hk
  refine ⟨?_, hS k hk (by omega)⟩
  rcases Nat.lt_or_ge k c with g | g
  · obtain ⟨_, _, e1, k1⟩ := a1 k g
    obtain ⟨_, _, e2, k2⟩ := b1 k (by omega)
    rw [hS k hk (by omega)] at e2 k2
    rw [rt_EN_u e2 e1] at k2
    exact rt_KD_u k2 k1
  · rw [show k = c by omega, a5, hcd, b5]
theorem rt_need_c {T U S R : Nat → Int} {c : Nat} (hT : ∀ k : Nat, k ≤ c → U k = T k ∧ R k = S k) (k : Int) (s : Nat × Int) (hs : s.1 ≤ c) : rt_need U R k s = rt_need T S k s := by
  obtain ⟨eT, eS⟩ := hT s.1 hs
  unfold rt_need rt_adv rt_fail
  rw [eT, eS]
theorem rt_RT_c {T U S R : Nat → Int} {c : Nat} (h0 : T c = 0) (hT : ∀ k : Nat, k ≤ c → U k = T k ∧ R k = S k) {r : Int} (h : rt_RT U R r) : rt_RT T S r := by
  obtain ⟨s2, s5, h1, h2, h3⟩ := h
  have n1 := rt_need_r (S := S) (k := 7) (s := (0, -1)) h0 (Nat.zero_le c)
  rw [rt_need_c hT 7 (0, -1) (Nat.zero_le c)] at h1
  have p1 := rt_PS_c h0 hT n1.2 h1
  have r1 := rt_PS_r p1 h0 n1.2
  have n2 := rt_need_r (S := S) (k := 59) (s := s2) h0 r1.2
  have n3 := rt_need_r (S := S) (k := 8) (s := rt_need T S 59 s2) h0 n2.2
  rw [rt_need_c hT 59 s2 r1.2, rt_need_c hT 8 (rt_need T S 59 s2) n2.2] at h2
  have p2 := rt_PS_c h0 hT n3.2 h2
  have r2 := rt_PS_r p2 h0 n3.2
  have n4 := rt_need_r (S := S) (k := 59) (s := s5) h0 r2.2
  rw [rt_need_c hT 59 s5 r2.2, rt_need_c hT 0 (rt_need T S 59 s5) n4.2] at h3
  exact ⟨s2, s5, p1, p2, h3⟩
theorem rt_TK_f {f g : Int → Int} {n : Int} {c : Nat} {S B T : Nat → Int} (hf : ∀ x : Int, 0 ≤ x → x < n → g x = f x) (h : rt_TK f n c S B T) : rt_TK g n c S B T := by
  obtain ⟨h0, h1, h2, h3, h4, h5⟩ := h
  have hB : ∀ k : Nat, k ≤ c → 0 ≤ B k := by
    intro k
    induction k with
    | zero => intro _; omega
    | succ k ih =>
      intro hk
      obtain ⟨_, s1, e1, _⟩ := h1 k (by omega)
      have i1 := ih (by omega)
      have i2 := s1.1
      have i3 := e1.1
      omega
  have hSK : ∀ (p q : Int), 0 ≤ p → rt_SK f n p q → rt_SK g n p q := by
    intro p q hp hs
    obtain ⟨a1, a2, a3, a4⟩ := hs
    refine ⟨a1, a2, fun x b1 b2 => ?_, fun z => a4 ⟨z.1, ?_⟩⟩
    · rw [hf x (by omega) (by omega)]
      exact a3 x b1 b2
    · rw [← hf q (by omega) z.1]
      exact z.2
  refine ⟨h0, fun k hk => ?_, hSK _ _ (hB c (Nat.le_refl _)) h2, h3, h4, h5⟩
  obtain ⟨a, s1, e1, k1⟩ := h1 k hk
  have b := hB k (by omega)
  have s0 := s1.1
  obtain ⟨e2, e3, e4⟩ := e1
  have ep : g (S k) = f (S k) := hf _ (by omega) a
  refine ⟨a, hSK _ _ b s1, ⟨e2, e3, ?_⟩, ?_⟩
  · rcases e4 with ⟨c1, c2, c3⟩ | ⟨c1, c2, c3⟩ | ⟨c1, c2, c3⟩
    · refine Or.inl ⟨by rw [ep]; exact c1, fun x x1 x2 => by rw [hf x (by omega) (by omega)]; exact c2 x x1 x2, fun z => c3 ⟨z.1, ?_⟩⟩
      rw [← hf _ (by omega) z.1]
      exact z.2
    · refine Or.inr (Or.inl ⟨by rw [ep]; exact c1, fun x x1 x2 => by rw [hf x (by omega) (by omega)]; exact c2 x x1 x2, fun z => c3 ⟨z.1, ?_⟩⟩)
      rw [← hf _ (by omega) z.1]
      exact z.2
    · exact Or.inr (Or.inr ⟨by rw [ep]; exact c1, by rw [ep]; exact c2, c3⟩)
  · have hm : ∀ j : Nat, (rt_mt g (S k) (B (k + 1)) (rt_W j) ↔ rt_mt f (S k) (B (k + 1)) (rt_W j)) := by
      intro j
      constructor
      · intro m
        have m1 := m.1
        exact ⟨m1, fun i hi => by rw [← hf (S k + i) (by omega) (by omega)]; exact m.2 i hi⟩
      · intro m
        have m1 := m.1
        exact ⟨m1, fun i hi => by rw [hf (S k + i) (by omega) (by omega)]; exact m.2 i hi⟩
    rcases k1 with ⟨d1, ⟨j, j1, j2, j3, j4⟩ | ⟨j1, j2⟩⟩ | d | d
    · exact Or.inl ⟨by rw [ep]; exact d1, Or.inl ⟨j, j1, j2, j3, (hm j).mpr j4⟩⟩
    · exact Or.inl ⟨by rw [ep]; exact d1, Or.inr ⟨j1, fun j a b z => j2 j a b ((hm j).mp z)⟩⟩
    · exact Or.inr (Or.inl (by rw [ep]; exact d))
    · exact Or.inr (Or.inr (by rw [ep]; exact d))
/-- the same bytes: the same answer -/
theorem rt_RT_tk {f g : Int → Int} {n : Int} {c d : Nat} {S B T R C U : Nat → Int} {r q : Int} (hf : ∀ x : Int, 0 ≤ x → x < n → g x = f x) (a : rt_TK f n c S B T) (b : rt_TK g n d R C U) (ha : rt_RT T S r) (hb : rt_RT U R q) : r = q := rt_RT_u ha (rt_RT_c a.2.2.2.2.2 (rt_TK_u a (rt_TK_f (fun x h1 h2 => (hf x h1 h2).symm) b)) hb)
/-- where the reference is in the text -/
def rt_ms (c : Nat) (S B : Nat → Int) (M : fm_M) (s : Nat × Int) : Prop := s.1 ≤ c ∧ (M.1 60 0 64).toInt = S s.1 ∧ (M.1 60 0 65).toInt = B (s.1 + 1) ∧ (M.1 60 0 67).toInt = s.2
theorem rt_ms_same {es : List Nat} {M u : fm_M} (s : fm_same es M u) (h : ∀ c ∈ ([60064, 60065, 60067] : List Nat), c ∉ es) {c : Nat} {S B : Nat → Int} {q : Nat × Int} (hm : rt_ms c S B M q) : rt_ms c S B u q := by
  obtain ⟨m1, m2, m3, m4⟩ := hm
  refine ⟨m1, ?_, ?_, ?_⟩
  · rw [(s 60 0 64 (h _ (by decide))).1]
    exact m2
  · rw [(s 60 0 65 (h _ (by decide))).1]
    exact m3
  · rw [(s 60 0 67 (h _ (by decide))).1]
    exact m4
theorem rt_mto {M : fm_M} {c : Nat} {S B T : Nat → Int} {s : Nat × Int} (hT : rt_TM M c S B T) (hm : rt_ms c S B M s) : (M.1 60 0 65).toInt ≤ (M.1 60 0 63).toInt := by
  rw [hm.2.2.1]
  exact (rt_TK_to hT hm.1).1
theorem rt_nx {f : Int → Int} {n : Int} {c : Nat} {S B T : Nat → Int} (hT : rt_TK f n c S B T) {k : Nat} (hk : k ≤ c) {q e : Int} (h1 : rt_SK f n (B k) q) (h2 : (q < n ∧ rt_EN f n q e) ∨ (q = n ∧ e = n)) : q = S k ∧ e = B (k + 1) := by
  obtain ⟨t0, t1, t2, t3, t4, t5⟩ := hT
  rcases Nat.lt_or_ge k c with g | g
  · obtain ⟨a, s1, e1, _⟩ := t1 k g
    have z := rt_SK_u h1 s1
    rcases h2 with ⟨_, h2⟩ | ⟨h2, _⟩
    · rw [z] at h2
      exact ⟨z, rt_EN_u h2 e1⟩
    · exfalso; omega
  · have ek : k = c := by omega
    rw [ek] at h1 ⊢
    have z := rt_SK_u h1 t2
    rcases h2 with ⟨h2, _⟩ | ⟨h2, h3⟩
    · exfalso; omega
    · exact ⟨z, by omega⟩
abbrev rt_NX (M u : fm_M) : Prop := rt_SK (rt_mb M (M.1 60 0 62).toInt) (M.1 60 0 63).toInt (M.1 60 0 65).toInt (u.1 60 0 64).toInt ∧ (((u.1 60 0 64).toInt < (M.1 60 0 63).toInt ∧ rt_EN (rt_mb M (M.1 60 0 62).toInt) (M.1 60 0 63).toInt (u.1 60 0 64).toInt (u.1 60 0 65).toInt) ∨ ((u.1 60 0 64).toInt = (M.1 60 0 63).toInt ∧ (u.1 60 0 65).toInt = (M.1 60 0 63).toInt))
theorem rt_ms_c {f : Int → Int} {n : Int} {c : Nat} {S B T : Nat → Int} (hT : rt_TK f n c S B T) {k : Nat} (hk : k ≤ c) (z : T k = 0) : k = c := by
  rcases Nat.lt_or_ge k c with g | g
  · exact absurd z (rt_KD_0 (hT.2.1 k g).2.2.2)
  · omega
theorem rt_ms_next {M u : fm_M} {c : Nat} {S B T : Nat → Int} {s : Nat × Int} (hT : rt_TM M c S B T) (hm : rt_ms c S B M s) (hn : rt_NX M u) (hf : u.1 60 0 67 = M.1 60 0 67) : rt_ms c S B u (rt_adv T s) := by
  obtain ⟨m1, m2, m3, m4⟩ := hm
  obtain ⟨h1, h2⟩ := hn
  have h0 : T c = 0 := hT.2.2.2.2.2
  rw [m3] at h1
  unfold rt_adv
  by_cases z : T s.1 = 0
  · have e : s.1 = c := rt_ms_c hT m1 z
    have b4 : B (c + 1) = (M.1 60 0 63).toInt := hT.2.2.2.2.1
    have b3 : S c = (M.1 60 0 63).toInt := hT.2.2.2.1
    rw [e, b4] at h1
    have a1 := h1.1
    have a2 := h1.2.1
    rw [if_pos z]
    refine ⟨m1, ?_, ?_, ?_⟩
    · show (u.1 60 0 64).toInt = S s.1
      rw [e, b3]
      omega
    · show (u.1 60 0 65).toInt = B (s.1 + 1)
      rw [e, b4]
      rcases h2 with ⟨h2, _⟩ | ⟨_, h2⟩
      · exfalso; omega
      · exact h2
    · show (u.1 60 0 67).toInt = s.2
      rw [hf]
      exact m4
  · have g : s.1 < c := by
      rcases Nat.lt_or_ge s.1 c with g | g
      · exact g
      · exact absurd (by rw [show s.1 = c by omega]; exact h0) z
    obtain ⟨z1, z2⟩ := rt_nx hT (k := s.1 + 1) (by omega) h1 h2
    rw [if_neg z]
    refine ⟨?_, z1, z2, ?_⟩
    · show s.1 + 1 ≤ c
      omega
    · show (u.1 60 0 67).toInt = s.2
      rw [hf]
      exact m4
theorem rt_ms_first {M u : fm_M} {c : Nat} {S B T : Nat → Int} (hT : rt_TM M c S B T) (h0 : (M.1 60 0 65).toInt = 0) (hn : rt_NX M u) (hf : (u.1 60 0 67).toInt = -1) : rt_ms c S B u (0, -1) := by
  obtain ⟨h1, h2⟩ := hn
  have b0 : B 0 = 0 := hT.1
  rw [h0, ← b0] at h1
  obtain ⟨z1, z2⟩ := rt_nx hT (k := 0) (Nat.zero_le c) h1 h2
  exact ⟨Nat.zero_le c, z1, z2, hf⟩
theorem rt_ms_fail {M u : fm_M} {c : Nat} {S B : Nat → Int} {s : Nat × Int} (hm : rt_ms c S B M s) (h : (u.1 60 0 67).toInt = if (M.1 60 0 67).toInt < 0 then (M.1 60 0 64).toInt else (M.1 60 0 67).toInt) (e1 : u.1 60 0 64 = M.1 60 0 64) (e2 : u.1 60 0 65 = M.1 60 0 65) : rt_ms c S B u (rt_fail S s) := by
  obtain ⟨m1, m2, m3, m4⟩ := hm
  refine ⟨m1, ?_, ?_, ?_⟩
  · show (u.1 60 0 64).toInt = S s.1
    rw [e1]
    exact m2
  · show (u.1 60 0 65).toInt = B (s.1 + 1)
    rw [e2]
    exact m3
  · show (u.1 60 0 67).toInt = if s.2 < 0 then S s.1 else s.2
    rw [h, m4, m2]
theorem rt_fail_0 {S : Nat → Int} {s : Nat × Int} (h : 0 ≤ S s.1) : 0 ≤ (rt_fail S s).2 := by
  show 0 ≤ (if s.2 < 0 then S s.1 else s.2)
  by_cases g : s.2 < 0
  · rw [if_pos g]
    exact h
  · rw [if_neg g]
    omega
theorem rt_ms_f0 {M : fm_M} {c : Nat} {S B : Nat → Int} {s : Nat × Int} (hm : rt_ms c S B M s) (h : 0 ≤ (M.1 60 0 64).toInt) {P : Prop} : (rt_fail S s).2 < 0 → P := by
  intro z
  have g := rt_fail_0 (S := S) (s := s) (by rw [← hm.2.1]; exact h)
  exact absurd z (by omega)
/-- a word's number among the tokens -/
def rt_cd (N : Nat) (f : Nat → Int32) (t : Int) : Prop := t ≠ 0 ∧ (∀ j : Nat, j < N → rt_ch (f j) = f j) ∧ ∀ (g : Int → Int) (n p e k : Int), rt_EN g n p e → rt_KD g p e k → ((e - p = N ∧ ∀ j : Nat, j < N → g (p + j) = (f j).toInt) ↔ k = t)
theorem rt_W_ch : ∀ k : Fin 12, ∀ j : Fin 8, rt_ch ((rt_W k.1).getD j.1 0) = (rt_W k.1).getD j.1 0 := by decide +kernel
theorem rt_W_len : ∀ k : Fin 12, (rt_W k.1).length ≤ 8 := by decide +kernel
theorem rt_cdw (k : Nat) (hk : 1 ≤ k ∧ k ≤ 11) : rt_cd (rt_W k).length (fun j => (rt_W k).getD j 0) k := ⟨by omega, fun j hj => rt_W_ch ⟨k, by omega⟩ ⟨j, Nat.lt_of_lt_of_le hj (rt_W_len ⟨k, by omega⟩)⟩, fun g n p e t hE hK => rt_kw hK hk⟩
theorem rt_cdg (g : Int32) (hg : rt_isG g.toInt) (hc : rt_ch g = g) : rt_cd 1 (fun j => [g].getD j 0) g.toInt := by
  refine ⟨by omega, fun j hj => ?_, fun f n p e t hE hK => rt_kg hE hK hg⟩
  rw [show j = 0 by omega]
  exact hc
theorem rt_is {M : fm_M} {c : Nat} {S B T : Nat → Int} {s : Nat × Int} {N : Nat} {f : Nat → Int32} {t : Int} (hT : rt_TM M c S B T) (hm : rt_ms c S B M s) (hc : rt_cd N f t) : ((M.1 60 0 64).toInt < (M.1 60 0 63).toInt ∧ (M.1 60 0 65).toInt - (M.1 60 0 64).toInt = N ∧ ∀ j : Nat, j < N → rt_mb M (M.1 60 0 62).toInt ((M.1 60 0 64).toInt + j) = (f j).toInt) ↔ T s.1 = t := by
  obtain ⟨m1, m2, m3, m4⟩ := hm
  obtain ⟨c1, c2, c3⟩ := hc
  rw [m2, m3]
  rcases Nat.lt_or_ge s.1 c with g | g
  · obtain ⟨a, _, e1, k1⟩ := hT.2.1 s.1 g
    have z := c3 _ _ _ _ _ e1 k1
    exact ⟨fun h => z.mp h.2, fun h => ⟨a, z.mpr h⟩⟩
  · have e : s.1 = c := by omega
    have b3 : S c = (M.1 60 0 63).toInt := hT.2.2.2.1
    have b5 : T c = 0 := hT.2.2.2.2.2
    constructor
    · intro h
      have h1 := h.1
      rw [e, b3] at h1
      exact absurd h1 (by omega)
    · intro h
      rw [e, b5] at h
      exact absurd h.symm c1
theorem rt_ms_lt {M : fm_M} {c : Nat} {S B T : Nat → Int} {s : Nat × Int} (hT : rt_TM M c S B T) (hm : rt_ms c S B M s) (h : (M.1 60 0 64).toInt < (M.1 60 0 63).toInt) : s.1 < c := by
  rcases Nat.lt_or_ge s.1 c with g | g
  · exact g
  · have e : s.1 = c := by have := hm.1; omega
    have b3 : S c = (M.1 60 0 63).toInt := hT.2.2.2.1
    rw [hm.2.1, e, b3] at h
    exact absurd h (by omega)
theorem rt_isd {M : fm_M} {c : Nat} {S B T : Nat → Int} {s : Nat × Int} (hT : rt_TM M c S B T) (hm : rt_ms c S B M s) (h : (M.1 60 0 64).toInt < (M.1 60 0 63).toInt ∧ rt_isD (rt_mb M (M.1 60 0 62).toInt (M.1 60 0 64).toInt)) : ((M.1 60 0 65).toInt - (M.1 60 0 64).toInt ≤ 4 → T s.1 = 12) ∧ (4 < (M.1 60 0 65).toInt - (M.1 60 0 64).toInt → T s.1 = -1) := by
  have g := rt_ms_lt hT hm h.1
  obtain ⟨h1, h2⟩ := h
  obtain ⟨m1, m2, m3, m4⟩ := hm
  rw [m2] at h2
  rw [m2, m3]
  obtain ⟨a, _, e1, k1⟩ := hT.2.1 s.1 g
  rcases k1 with ⟨d1, _⟩ | ⟨_, ⟨d1, d2⟩ | ⟨d1, d2⟩⟩ | ⟨_, d1, _⟩
  · exfalso; omega
  · exact ⟨fun _ => d2, fun z => absurd z (by omega)⟩
  · exact ⟨fun z => absurd z (by omega), fun _ => d2⟩
  · exact absurd h2 d1
theorem rt_isn {M : fm_M} {c : Nat} {S B T : Nat → Int} {s : Nat × Int} (hT : rt_TM M c S B T) (hm : rt_ms c S B M s) (h : ¬ ((M.1 60 0 64).toInt < (M.1 60 0 63).toInt ∧ rt_isD (rt_mb M (M.1 60 0 62).toInt (M.1 60 0 64).toInt))) : ¬ T s.1 = 12 := by
  intro z
  obtain ⟨m1, m2, m3, m4⟩ := hm
  rcases Nat.lt_or_ge s.1 c with g | g
  · obtain ⟨a, _, e1, k1⟩ := hT.2.1 s.1 g
    rw [m2] at h
    exact h ⟨a, ((rt_kn k1).mp z).1⟩
  · have e : s.1 = c := by omega
    have b5 : T c = 0 := hT.2.2.2.2.2
    rw [e, b5] at z
    exact absurd z (by decide)
theorem rt_iend {M : fm_M} {c : Nat} {S B T : Nat → Int} {s : Nat × Int} (hT : rt_TM M c S B T) (hm : rt_ms c S B M s) : (M.1 60 0 63).toInt ≤ (M.1 60 0 64).toInt ↔ T s.1 = 0 := by
  have b3 : S c = (M.1 60 0 63).toInt := hT.2.2.2.1
  have b5 : T c = 0 := hT.2.2.2.2.2
  constructor
  · intro h
    rcases Nat.lt_or_ge s.1 c with g | g
    · have a := (hT.2.1 s.1 g).1
      rw [hm.2.1] at h
      exact absurd h (by omega)
    · rw [show s.1 = c by have := hm.1; omega]
      exact b5
  · intro z
    rw [hm.2.1, rt_ms_c hT hm.1 z, b3]
    exact Int.le_refl _
theorem rt_need_n {T S : Nat → Int} {k : Int} {s : Nat × Int} (h : ¬ (s.2 < 0 ∧ T s.1 = k)) : rt_need T S k s = rt_fail S s := if_neg h
theorem rt_need_y {T S : Nat → Int} {k : Int} {s : Nat × Int} (h : s.2 < 0 ∧ T s.1 = k) : rt_need T S k s = rt_adv T s := if_pos h
theorem rt_need_0 {T S : Nat → Int} {s : Nat × Int} (h : T s.1 = 0) : (rt_need T S 0 s).2 = s.2 := by
  by_cases g : s.2 < 0
  · rw [rt_need_y ⟨g, h⟩]
    rfl
  · rw [rt_need_n (fun z => g z.1)]
    show (if s.2 < 0 then S s.1 else s.2) = s.2
    rw [if_neg g]
theorem rt_b01 {r : Int32} {C : Prop} (h : 0 ≤ r.toInt ∧ r.toInt ≤ 1) (h1 : r.toInt = 1 → C) (h0 : r.toInt = 0 → ¬ C) : (r = 1 ∧ C) ∨ (r = 0 ∧ ¬ C) := by
  rcases (show r.toInt = 1 ∨ r.toInt = 0 by omega) with g | g
  · exact Or.inl ⟨Int32.toInt_inj.mp (g.trans rfl), h1 g⟩
  · exact Or.inr ⟨Int32.toInt_inj.mp (g.trans rfl), h0 g⟩
theorem rt_cd_1 : rt_cd 8 (fun j => ([115, 116, 114, 101, 110, 103, 116, 104] : List Int32).getD j 0) 1 := rt_cdw 1 (by decide)
theorem rt_cd_2 : rt_cd 4 (fun j => ([104, 117, 114, 116] : List Int32).getD j 0) 2 := rt_cdw 2 (by decide)
theorem rt_cd_3 : rt_cd 5 (fun j => ([115, 107, 105, 108, 108] : List Int32).getD j 0) 3 := rt_cdw 3 (by decide)
theorem rt_cd_4 : rt_cd 4 (fun j => ([104, 111, 117, 114] : List Int32).getD j 0) 4 := rt_cdw 4 (by decide)
theorem rt_cd_5 : rt_cd 4 (fun j => ([102, 117, 101, 108] : List Int32).getD j 0) 5 := rt_cdw 5 (by decide)
theorem rt_cd_6 : rt_cd 3 (fun j => ([102, 97, 114] : List Int32).getD j 0) 6 := rt_cdw 6 (by decide)
theorem rt_cd_7 : rt_cd 4 (fun j => ([116, 97, 107, 101] : List Int32).getD j 0) 7 := rt_cdw 7 (by decide)
theorem rt_cd_8 : rt_cd 2 (fun j => ([103, 111] : List Int32).getD j 0) 8 := rt_cdw 8 (by decide)
theorem rt_cd_9 : rt_cd 2 (fun j => ([111, 114] : List Int32).getD j 0) 9 := rt_cdw 9 (by decide)
theorem rt_cd_10 : rt_cd 3 (fun j => ([97, 110, 100] : List Int32).getD j 0) 10 := rt_cdw 10 (by decide)
theorem rt_cd_11 : rt_cd 3 (fun j => ([110, 111, 116] : List Int32).getD j 0) 11 := rt_cdw 11 (by decide)
theorem rt_cd_40 : rt_cd 1 (fun j => ([40] : List Int32).getD j 0) 40 := rt_cdg 40 (by decide +kernel) (by decide +kernel)
theorem rt_cd_41 : rt_cd 1 (fun j => ([41] : List Int32).getD j 0) 41 := rt_cdg 41 (by decide +kernel) (by decide +kernel)
theorem rt_cd_42 : rt_cd 1 (fun j => ([42] : List Int32).getD j 0) 42 := rt_cdg 42 (by decide +kernel) (by decide +kernel)
theorem rt_cd_43 : rt_cd 1 (fun j => ([43] : List Int32).getD j 0) 43 := rt_cdg 43 (by decide +kernel) (by decide +kernel)
theorem rt_cd_45 : rt_cd 1 (fun j => ([45] : List Int32).getD j 0) 45 := rt_cdg 45 (by decide +kernel) (by decide +kernel)
theorem rt_cd_59 : rt_cd 1 (fun j => ([59] : List Int32).getD j 0) 59 := rt_cdg 59 (by decide +kernel) (by decide +kernel)
theorem rt_cd_60 : rt_cd 1 (fun j => ([60] : List Int32).getD j 0) 60 := rt_cdg 60 (by decide +kernel) (by decide +kernel)
theorem rt_cd_61 : rt_cd 1 (fun j => ([61] : List Int32).getD j 0) 61 := rt_cdg 61 (by decide +kernel) (by decide +kernel)
/-- the k-th byte of eight -/
def rt_by (x : Int64) (k : Int32) : Int32 := ((x.toUInt64 >>> ((8 * k).toInt64.toUInt64 &&& Int64.toUInt64 63)).toInt64 &&& 255).toInt32
def rt_fdr (A : Nat → Int32) (x : Int64) (n k : Int) (j : Nat) : Int32 := if n ≤ j ∧ (j : Int) < n + k then rt_by x (Int32.ofInt (j - n)) else A j
theorem rt_fdr_0 {A : Nat → Int32} {x : Int64} {n k : Int} {j : Nat} (h : k = 0) : rt_fdr A x n k j = A j := by
  unfold rt_fdr
  rw [if_neg (by omega)]
theorem rt_fst {A B : Nat → Int32} {x : Int64} {n : Int} {k k1 ix v : Int32} (h : ∀ j : Nat, A j = rt_fdr B x n k.toInt j) (hn : 0 ≤ n) (hk : 0 ≤ k.toInt) (h1 : k1.toInt = k.toInt + 1) (hi : ix.toInt = n + k.toInt) (hv : v = rt_by x k) (j : Nat) : (if j = ix.toNatClampNeg then v else A j) = rt_fdr B x n k1.toInt j := by
  by_cases g : j = ix.toNatClampNeg
  · have e : (j : Int) = n + k.toInt := by
      rw [g, Int32.toNatClampNeg]
      omega
    unfold rt_fdr
    rw [if_pos g, if_pos (by omega), show (j : Int) - n = k.toInt by omega, Int32.ofInt_toInt]
    exact hv
  · have e : ¬ (j : Int) = n + k.toInt := by
      intro z
      apply g
      rw [Int32.toNatClampNeg, hi, ← z]
      omega
    rw [if_neg g, h j]
    unfold rt_fdr
    by_cases c : n ≤ j ∧ (j : Int) < n + k.toInt
    · rw [if_pos c, if_pos (by omega)]
    · rw [if_neg c, if_neg (by omega)]
def rt_ccn (M : fm_M) (k : Int32) : Int32 := if k.toInt = 0 then M.1 0 0 9 else if k.toInt = 1 then M.1 0 0 10 else if k.toInt = 2 then M.1 1 0 2 else if k.toInt = 3 then M.1 0 0 11 else if k.toInt = 4 then M.1 5 0 1 else if k.toInt = 5 then M.1 5 0 8 else if k.toInt = 6 then M.1 5 0 12 else if k.toInt = 7 then M.1 16 0 1 else if k.toInt = 8 then M.1 21 0 5 else if k.toInt = 9 then M.1 38 0 3 else if k.toInt = 10 then M.1 42 0 1 else if k.toInt = 11 then M.1 27 0 3 else if k.toInt = 12 then M.1 27 0 1 else if k.toInt = 13 then M.1 27 0 4 else if k.toInt = 14 then M.1 0 0 12 else -2
def rt_mcn (M : fm_M) (k : Int32) : Int32 := if k.toInt = 0 then M.1 60 0 0 else if k.toInt = 1 then M.1 60 0 16 else if k.toInt = 2 then M.1 60 0 5 else if k.toInt = 3 then M.1 60 0 21 else if k.toInt = 4 then M.1 60 0 23 else if k.toInt = 5 then M.1 60 0 30 else if k.toInt = 6 then M.1 60 0 34 else if k.toInt = 7 then M.1 60 0 36 else if k.toInt = 8 then M.1 60 0 44 else if k.toInt = 9 then M.1 60 0 48 else if k.toInt = 10 then M.1 60 0 50 else if k.toInt = 11 then M.1 60 0 55 else if k.toInt = 12 then M.1 60 0 52 else if k.toInt = 13 then M.1 60 0 56 else if k.toInt = 14 then M.1 60 0 1 else -2
theorem rt_text_eq {Ma Mb Mc : fm_M} {r1 r2 : Int32} (h1 : (6 ≤ (Ma.1 27 0 3).toInt ∧ r1.toInt = -4 ∧ Mb = Ma) ∨ ((Ma.1 27 0 3).toInt < 6 ∧ (Mb.1 27 0 1).toInt = 0 ∧ ∃ (c : Nat) (S B T : Nat → Int) (ft : Int), rt_TK (rt_tb Ma) (Ma.1 27 0 1).toInt c S B T ∧ rt_RT T S ft ∧ ((0 ≤ ft ∧ r1.toInt = -100 - ft ∧ (Mb.1 27 0 3).toInt = (Ma.1 27 0 3).toInt) ∨ (ft < 0 ∧ r1.toInt = (Ma.1 27 0 3).toInt ∧ (Mb.1 27 0 3).toInt = (Ma.1 27 0 3).toInt + 1)))) (h2 : (6 ≤ (Mb.1 60 0 55).toInt ∧ r2.toInt = -4 ∧ Mc = Mb) ∨ ((Mb.1 60 0 55).toInt < 6 ∧ (Mc.1 60 0 52).toInt = 0 ∧ ∃ (c : Nat) (S B T : Nat → Int) (ft : Int), rt_TK (rt_mb Mb (-1)) (Mb.1 60 0 52).toInt c S B T ∧ rt_RT T S ft ∧ ((0 ≤ ft ∧ r2.toInt = -100 - ft ∧ (Mc.1 60 0 55).toInt = (Mb.1 60 0 55).toInt) ∨ (ft < 0 ∧ r2.toInt = (Mb.1 60 0 55).toInt ∧ (Mc.1 60 0 55).toInt = (Mb.1 60 0 55).toInt + 1)))) (e52 : (Mb.1 60 0 52).toInt = (Ma.1 27 0 1).toInt) (e55 : (Mb.1 60 0 55).toInt = (Ma.1 27 0 3).toInt) (eb : ∀ j : Nat, Mb.1 151 0 j = Ma.1 28 0 j) (f1 : (Mc.1 27 0 1).toInt = (Mb.1 27 0 1).toInt) (f3 : (Mc.1 27 0 3).toInt = (Mb.1 27 0 3).toInt) : r1.toInt = r2.toInt ∧ (Mc.1 27 0 1).toInt = (Mc.1 60 0 52).toInt ∧ (Mc.1 27 0 3).toInt = (Mc.1 60 0 55).toInt := by
  have hf : ∀ x : Int, 0 ≤ x → x < (Ma.1 27 0 1).toInt → rt_mb Mb (-1) x = rt_tb Ma x := by
    intro x _ _
    unfold rt_mb rt_tb
    rw [if_pos (by decide), eb]
  rcases h1 with ⟨a1, a2, a3⟩ | ⟨a1, a2, c, S, B, T, ft, a3, a4, a5⟩
  · rcases h2 with ⟨g1, g2, g3⟩ | ⟨g1, g2, _⟩
    · have q1 : (Mb.1 27 0 1).toInt = (Ma.1 27 0 1).toInt := by rw [a3]
      have q3 : (Mb.1 27 0 3).toInt = (Ma.1 27 0 3).toInt := by rw [a3]
      have k1 : (Mc.1 60 0 52).toInt = (Mb.1 60 0 52).toInt := by rw [g3]
      have k3 : (Mc.1 60 0 55).toInt = (Mb.1 60 0 55).toInt := by rw [g3]
      exact ⟨by omega, by omega, by omega⟩
    · exfalso; omega
  · rcases h2 with ⟨g1, g2, g3⟩ | ⟨g1, g2, d, R, C, U, fu, g3, g4, g5⟩
    · exfalso; omega
    · rw [e52] at g3
      have e := rt_RT_tk hf a3 g3 a4 g4
      rcases a5 with ⟨a5, a6, a7⟩ | ⟨a5, a6, a7⟩ <;> rcases g5 with ⟨g5, g6, g7⟩ | ⟨g5, g6, g7⟩ <;> exact ⟨by omega, by omega, by omega⟩
set_option maxHeartbeats 400000 in
set_option maxRecDepth 20000 in
theorem fc_X11_isCell (l : Launch) (p0 : Int32) : Met l yX11_isCell wsX11_isCell ({ frames := 0, cells := 0, slots := 0, locals := 0 }) (va_Pc [.int p0] (fun _ => True)) (vp_Si (fun r : Int32 => ((r = 1 ∧ (0 ≤ p0.toInt ∧ p0.toInt ≤ 63)) ∨ (r = 0 ∧ ¬ (0 ≤ p0.toInt ∧ p0.toInt ≤ 63))))) 0 0 (fun _ => False) := by
  refine Met.ofW (cc := cX11_isCell) (maxL := 1) (ret := (some .boolean)) (by decide) rfl ?_
  intro p e s m args below meth c s₁ B hml hv
  obtain ⟨rfl, _⟩ := hv
  have hx := B.exec
  have hb := B.bytes
  have hr := B.returns
  have hts := atoms_spec (ws := wsX11_isCell) B.pre
  have hown : s.vm.findClass RX11 = some m.cls := findClass_of_methodNamed B.named
  have hl := lv_entry ([.int p0]) (n := 1) (Nat.le_of_ble_eq_true rfl)
  rw [lg_entry_eq]
  generalize (lg_sl ([.int p0]) ++ List.replicate (1 - (lg_sl ([.int p0])).length) Slot.unset).toArray = ls at hl ⊢
  have hl : lv_has ls 1 [(0, .int p0)] := hl
  refine lv_iload_n hx hb dX11_isCell_0 rfl (lv_at hl 0 rfl) ?_
  refine fx_if_lt (tgt := 14) hx hb dX11_isCell_1 (by decide) rfl (fun c1 => ?_) (fun c1 => ?_)
  · refine lv_iconst (v := 0) hx hb dX11_isCell_14 (by decide) ?_
    exact W.zret (v := 0) hx hb hr rfl (fun t ht hW => ⟨0, rfl, Or.inr ⟨rfl, by omega⟩, ht⟩) (fun _ h => absurd h List.not_mem_nil) dX11_isCell_15
  · refine lv_iload_n hx hb dX11_isCell_4 rfl (lv_at hl 0 rfl) ?_
    refine lv_bipush (v := 64) hx hb dX11_isCell_5 (by decide) ?_
    refine fx_icmp_ge (tgt := 14) hx hb dX11_isCell_7 (by decide) rfl zk_64 (fun c2 => ?_) (fun c2 => ?_)
    · refine lv_iconst (v := 0) hx hb dX11_isCell_14 (by decide) ?_
      exact W.zret (v := 0) hx hb hr rfl (fun t ht hW => ⟨0, rfl, Or.inr ⟨rfl, by omega⟩, ht⟩) (fun _ h => absurd h List.not_mem_nil) dX11_isCell_15
    · refine lv_iconst (v := 1) hx hb dX11_isCell_10 (by decide) ?_
      refine lv_goto (tgt := 15) hx hb dX11_isCell_11 (by decide) ?_
      exact W.zret (v := 1) hx hb hr rfl (fun t ht hW => ⟨1, rfl, Or.inl ⟨rfl, by omega⟩, ht⟩) (fun _ h => absurd h List.not_mem_nil) dX11_isCell_15
set_option maxHeartbeats 400000 in
set_option maxRecDepth 20000 in
theorem fc_X11_isMark (l : Launch) (p0 : Int32) : Met l yX11_isMark wsX11_isMark ({ frames := 0, cells := 0, slots := 0, locals := 0 }) (va_Pc [.int p0] (fun _ => True)) (vp_Si (fun r : Int32 => ((r = 1 ∧ (0 ≤ p0.toInt ∧ p0.toInt ≤ 99)) ∨ (r = 0 ∧ ¬ (0 ≤ p0.toInt ∧ p0.toInt ≤ 99))))) 0 0 (fun _ => False) := by
  refine Met.ofW (cc := cX11_isMark) (maxL := 1) (ret := (some .boolean)) (by decide) rfl ?_
  intro p e s m args below meth c s₁ B hml hv
  obtain ⟨rfl, _⟩ := hv
  have hx := B.exec
  have hb := B.bytes
  have hr := B.returns
  have hts := atoms_spec (ws := wsX11_isMark) B.pre
  have hown : s.vm.findClass RX11 = some m.cls := findClass_of_methodNamed B.named
  have hl := lv_entry ([.int p0]) (n := 1) (Nat.le_of_ble_eq_true rfl)
  rw [lg_entry_eq]
  generalize (lg_sl ([.int p0]) ++ List.replicate (1 - (lg_sl ([.int p0])).length) Slot.unset).toArray = ls at hl ⊢
  have hl : lv_has ls 1 [(0, .int p0)] := hl
  refine lv_iload_n hx hb dX11_isMark_0 rfl (lv_at hl 0 rfl) ?_
  refine fx_if_lt (tgt := 14) hx hb dX11_isMark_1 (by decide) rfl (fun c1 => ?_) (fun c1 => ?_)
  · refine lv_iconst (v := 0) hx hb dX11_isMark_14 (by decide) ?_
    exact W.zret (v := 0) hx hb hr rfl (fun t ht hW => ⟨0, rfl, Or.inr ⟨rfl, by omega⟩, ht⟩) (fun _ h => absurd h List.not_mem_nil) dX11_isMark_15
  · refine lv_iload_n hx hb dX11_isMark_4 rfl (lv_at hl 0 rfl) ?_
    refine lv_bipush (v := 99) hx hb dX11_isMark_5 (by decide) ?_
    refine fx_icmp_gt (tgt := 14) hx hb dX11_isMark_7 (by decide) rfl zk_99 (fun c2 => ?_) (fun c2 => ?_)
    · refine lv_iconst (v := 0) hx hb dX11_isMark_14 (by decide) ?_
      exact W.zret (v := 0) hx hb hr rfl (fun t ht hW => ⟨0, rfl, Or.inr ⟨rfl, by omega⟩, ht⟩) (fun _ h => absurd h List.not_mem_nil) dX11_isMark_15
    · refine lv_iconst (v := 1) hx hb dX11_isMark_10 (by decide) ?_
      refine lv_goto (tgt := 15) hx hb dX11_isMark_11 (by decide) ?_
      exact W.zret (v := 1) hx hb hr rfl (fun t ht hW => ⟨1, rfl, Or.inl ⟨rfl, by omega⟩, ht⟩) (fun _ h => absurd h List.not_mem_nil) dX11_isMark_15
set_option maxHeartbeats 400000 in
set_option maxRecDepth 20000 in
theorem fc_X11_isSpan (l : Launch) (p0 p1 : Int32) : Met l yX11_isSpan wsX11_isSpan ({ frames := 0, cells := 0, slots := 0, locals := 0 }) (va_Pc [.int p0, .int p1] (fun _ => True)) (vp_Si (fun r : Int32 => ((r = 1 ∧ (0 ≤ p0.toInt ∧ p0.toInt < p1.toInt ∧ p1.toInt ≤ 240)) ∨ (r = 0 ∧ ¬ (0 ≤ p0.toInt ∧ p0.toInt < p1.toInt ∧ p1.toInt ≤ 240))))) 0 0 (fun _ => False) := by
  refine Met.ofW (cc := cX11_isSpan) (maxL := 2) (ret := (some .boolean)) (by decide) rfl ?_
  intro p e s m args below meth c s₁ B hml hv
  obtain ⟨rfl, _⟩ := hv
  have hx := B.exec
  have hb := B.bytes
  have hr := B.returns
  have hts := atoms_spec (ws := wsX11_isSpan) B.pre
  have hown : s.vm.findClass RX11 = some m.cls := findClass_of_methodNamed B.named
  have hl := lv_entry ([.int p0, .int p1]) (n := 2) (Nat.le_of_ble_eq_true rfl)
  rw [lg_entry_eq]
  generalize (lg_sl ([.int p0, .int p1]) ++ List.replicate (2 - (lg_sl ([.int p0, .int p1])).length) Slot.unset).toArray = ls at hl ⊢
  have hl : lv_has ls 2 [(0, .int p0), (1, .int p1)] := hl
  refine lv_iload_n hx hb dX11_isSpan_0 rfl (lv_at hl 0 rfl) ?_
  refine fx_if_lt (tgt := 20) hx hb dX11_isSpan_1 (by decide) rfl (fun c1 => ?_) (fun c1 => ?_)
  · refine lv_iconst (v := 0) hx hb dX11_isSpan_20 (by decide) ?_
    exact W.zret (v := 0) hx hb hr rfl (fun t ht hW => ⟨0, rfl, Or.inr ⟨rfl, by omega⟩, ht⟩) (fun _ h => absurd h List.not_mem_nil) dX11_isSpan_21
  · refine lv_iload_n hx hb dX11_isSpan_4 rfl (lv_at hl 1 rfl) ?_
    refine lv_iload_n hx hb dX11_isSpan_5 rfl (lv_at hl 0 rfl) ?_
    refine fx_icmp_le (tgt := 20) hx hb dX11_isSpan_6 (by decide) rfl rfl (fun c2 => ?_) (fun c2 => ?_)
    · refine lv_iconst (v := 0) hx hb dX11_isSpan_20 (by decide) ?_
      exact W.zret (v := 0) hx hb hr rfl (fun t ht hW => ⟨0, rfl, Or.inr ⟨rfl, by omega⟩, ht⟩) (fun _ h => absurd h List.not_mem_nil) dX11_isSpan_21
    · refine lv_iload_n hx hb dX11_isSpan_9 rfl (lv_at hl 1 rfl) ?_
      refine lv_sipush (v := 240) hx hb dX11_isSpan_10 (by decide) ?_
      refine fx_icmp_gt (tgt := 20) hx hb dX11_isSpan_13 (by decide) rfl zk_240 (fun c3 => ?_) (fun c3 => ?_)
      · refine lv_iconst (v := 0) hx hb dX11_isSpan_20 (by decide) ?_
        exact W.zret (v := 0) hx hb hr rfl (fun t ht hW => ⟨0, rfl, Or.inr ⟨rfl, by omega⟩, ht⟩) (fun _ h => absurd h List.not_mem_nil) dX11_isSpan_21
      · refine lv_iconst (v := 1) hx hb dX11_isSpan_16 (by decide) ?_
        refine lv_goto (tgt := 21) hx hb dX11_isSpan_17 (by decide) ?_
        exact W.zret (v := 1) hx hb hr rfl (fun t ht hW => ⟨1, rfl, Or.inl ⟨rfl, by omega⟩, ht⟩) (fun _ h => absurd h List.not_mem_nil) dX11_isSpan_21
set_option maxHeartbeats 400000 in
set_option maxRecDepth 20000 in
theorem fc_X11_isWind (l : Launch) (p0 : Int32) : Met l yX11_isWind wsX11_isWind ({ frames := 0, cells := 0, slots := 0, locals := 0 }) (va_Pc [.int p0] (fun _ => True)) (vp_Si (fun r : Int32 => ((r = 1 ∧ (0 ≤ p0.toInt ∧ p0.toInt ≤ 4444 ∧ p0.toInt / 100 % 10 ≤ 4 ∧ p0.toInt / 10 % 10 ≤ 4 ∧ p0.toInt % 10 ≤ 4 ∧ p0.toInt / 1000 ≤ p0.toInt / 100 % 10 ∧ p0.toInt / 10 % 10 ≤ p0.toInt % 10)) ∨ (r = 0 ∧ ¬ (0 ≤ p0.toInt ∧ p0.toInt ≤ 4444 ∧ p0.toInt / 100 % 10 ≤ 4 ∧ p0.toInt / 10 % 10 ≤ 4 ∧ p0.toInt % 10 ≤ 4 ∧ p0.toInt / 1000 ≤ p0.toInt / 100 % 10 ∧ p0.toInt / 10 % 10 ≤ p0.toInt % 10))))) 0 0 (fun _ => False) := by
  refine Met.ofW (cc := cX11_isWind) (maxL := 5) (ret := (some .boolean)) (by decide) rfl ?_
  intro p e s m args below meth c s₁ B hml hv
  obtain ⟨rfl, _⟩ := hv
  have hx := B.exec
  have hb := B.bytes
  have hr := B.returns
  have hts := atoms_spec (ws := wsX11_isWind) B.pre
  have hown : s.vm.findClass RX11 = some m.cls := findClass_of_methodNamed B.named
  have hl := lv_entry ([.int p0]) (n := 5) (Nat.le_of_ble_eq_true rfl)
  rw [lg_entry_eq]
  generalize (lg_sl ([.int p0]) ++ List.replicate (5 - (lg_sl ([.int p0])).length) Slot.unset).toArray = ls at hl ⊢
  have hl : lv_has ls 5 [(0, .int p0)] := hl
  refine lv_iload_n hx hb dX11_isWind_0 rfl (lv_at hl 0 rfl) ?_
  refine fx_if_lt (tgt := 11) hx hb dX11_isWind_1 (by decide) rfl (fun c1 => ?_) (fun c1 => ?_)
  · refine lv_iconst (v := 0) hx hb dX11_isWind_11 (by decide) ?_
    exact W.zret (v := 0) hx hb hr rfl (fun t ht hW => ⟨0, rfl, Or.inr ⟨rfl, by omega⟩, ht⟩) (fun _ h => absurd h List.not_mem_nil) dX11_isWind_12
  · refine lv_iload_n hx hb dX11_isWind_4 rfl (lv_at hl 0 rfl) ?_
    refine lv_sipush (v := 4444) hx hb dX11_isWind_5 (by decide) ?_
    refine fx_icmp_le (tgt := 13) hx hb dX11_isWind_8 (by decide) rfl zk_4444 (fun c2 => ?_) (fun c2 => ?_)
    · refine lv_iload_n hx hb dX11_isWind_13 rfl (lv_at hl 0 rfl) ?_
      refine lv_sipush (v := 1000) hx hb dX11_isWind_14 (by decide) ?_
      refine fx_idiv hx hb dX11_isWind_17 rfl zk_1000 (by omega) (by omega) (fun y3 ey3 ty3 => ?_)
      refine lv_istore_n (lv' := [(1, .int y3), (0, .int p0)]) hx hb dX11_isWind_18 rfl hl (by decide) rfl (fun ls hl => ?_)
      refine lv_iload_n hx hb dX11_isWind_19 rfl (lv_at hl 1 rfl) ?_
      refine lv_bipush (v := 100) hx hb dX11_isWind_20 (by decide) ?_
      refine fx_idiv hx hb dX11_isWind_22 rfl zk_100 (by omega) (by omega) (fun y4 ey4 ty4 => ?_)
      refine lv_bipush (v := 10) hx hb dX11_isWind_23 (by decide) ?_
      refine fx_irem hx hb dX11_isWind_25 rfl zk_10 (by omega) (by omega) (fun y5 ey5 ty5 => ?_)
      refine lv_istore_n (lv' := [(2, .int y5), (1, .int y3), (0, .int p0)]) hx hb dX11_isWind_26 rfl hl (by decide) rfl (fun ls hl => ?_)
      refine lv_iload_n hx hb dX11_isWind_27 rfl (lv_at hl 2 rfl) ?_
      refine lv_bipush (v := 10) hx hb dX11_isWind_28 (by decide) ?_
      refine fx_idiv hx hb dX11_isWind_30 rfl zk_10 (by omega) (by omega) (fun y6 ey6 ty6 => ?_)
      refine lv_bipush (v := 10) hx hb dX11_isWind_31 (by decide) ?_
      refine fx_irem hx hb dX11_isWind_33 rfl zk_10 (by omega) (by omega) (fun y7 ey7 ty7 => ?_)
      refine lv_istore_n (lv' := [(3, .int y7), (2, .int y5), (1, .int y3), (0, .int p0)]) hx hb dX11_isWind_34 rfl hl (by decide) rfl (fun ls hl => ?_)
      refine lv_iload_n hx hb dX11_isWind_35 rfl (lv_at hl 3 rfl) ?_
      refine lv_bipush (v := 10) hx hb dX11_isWind_36 (by decide) ?_
      refine fx_irem hx hb dX11_isWind_38 rfl zk_10 (by omega) (by omega) (fun y8 ey8 ty8 => ?_)
      refine lv_istore (lv' := [(4, .int y8), (3, .int y7), (2, .int y5), (1, .int y3), (0, .int p0)]) hx hb dX11_isWind_39 hl (by decide) rfl (fun ls hl => ?_)
      refine lv_iload_n hx hb dX11_isWind_41 rfl (lv_at hl 2 rfl) ?_
      refine lv_iconst (v := 4) hx hb dX11_isWind_42 (by decide) ?_
      refine fx_icmp_gt (tgt := 72) hx hb dX11_isWind_43 (by decide) rfl zk_4 (fun c9 => ?_) (fun c9 => ?_)
      · refine lv_iconst (v := 0) hx hb dX11_isWind_72 (by decide) ?_
        exact W.zret (v := 0) hx hb hr rfl (fun t ht hW => ⟨0, rfl, Or.inr ⟨rfl, by omega⟩, ht⟩) (fun _ h => absurd h List.not_mem_nil) dX11_isWind_73
      · refine lv_iload_n hx hb dX11_isWind_46 rfl (lv_at hl 1 rfl) ?_
        refine lv_iconst (v := 4) hx hb dX11_isWind_47 (by decide) ?_
        refine fx_icmp_gt (tgt := 72) hx hb dX11_isWind_48 (by decide) rfl zk_4 (fun c10 => ?_) (fun c10 => ?_)
        · refine lv_iconst (v := 0) hx hb dX11_isWind_72 (by decide) ?_
          exact W.zret (v := 0) hx hb hr rfl (fun t ht hW => ⟨0, rfl, Or.inr ⟨rfl, by omega⟩, ht⟩) (fun _ h => absurd h List.not_mem_nil) dX11_isWind_73
        · refine lv_iload hx hb dX11_isWind_51 (lv_at hl 0 rfl) ?_
          refine lv_iconst (v := 4) hx hb dX11_isWind_53 (by decide) ?_
          refine fx_icmp_gt (tgt := 72) hx hb dX11_isWind_54 (by decide) rfl zk_4 (fun c11 => ?_) (fun c11 => ?_)
          · refine lv_iconst (v := 0) hx hb dX11_isWind_72 (by decide) ?_
            exact W.zret (v := 0) hx hb hr rfl (fun t ht hW => ⟨0, rfl, Or.inr ⟨rfl, by omega⟩, ht⟩) (fun _ h => absurd h List.not_mem_nil) dX11_isWind_73
          · refine lv_iload_n hx hb dX11_isWind_57 rfl (lv_at hl 3 rfl) ?_
            refine lv_iload_n hx hb dX11_isWind_58 rfl (lv_at hl 2 rfl) ?_
            refine fx_icmp_gt (tgt := 72) hx hb dX11_isWind_59 (by decide) rfl rfl (fun c12 => ?_) (fun c12 => ?_)
            · refine lv_iconst (v := 0) hx hb dX11_isWind_72 (by decide) ?_
              exact W.zret (v := 0) hx hb hr rfl (fun t ht hW => ⟨0, rfl, Or.inr ⟨rfl, by omega⟩, ht⟩) (fun _ h => absurd h List.not_mem_nil) dX11_isWind_73
            · refine lv_iload_n hx hb dX11_isWind_62 rfl (lv_at hl 1 rfl) ?_
              refine lv_iload hx hb dX11_isWind_63 (lv_at hl 0 rfl) ?_
              refine fx_icmp_gt (tgt := 72) hx hb dX11_isWind_65 (by decide) rfl rfl (fun c13 => ?_) (fun c13 => ?_)
              · refine lv_iconst (v := 0) hx hb dX11_isWind_72 (by decide) ?_
                exact W.zret (v := 0) hx hb hr rfl (fun t ht hW => ⟨0, rfl, Or.inr ⟨rfl, by omega⟩, ht⟩) (fun _ h => absurd h List.not_mem_nil) dX11_isWind_73
              · refine lv_iconst (v := 1) hx hb dX11_isWind_68 (by decide) ?_
                refine lv_goto (tgt := 73) hx hb dX11_isWind_69 (by decide) ?_
                exact W.zret (v := 1) hx hb hr rfl (fun t ht hW => ⟨1, rfl, Or.inl ⟨rfl, by omega⟩, ht⟩) (fun _ h => absurd h List.not_mem_nil) dX11_isWind_73
    · refine lv_iconst (v := 0) hx hb dX11_isWind_11 (by decide) ?_
      exact W.zret (v := 0) hx hb hr rfl (fun t ht hW => ⟨0, rfl, Or.inr ⟨rfl, by omega⟩, ht⟩) (fun _ h => absurd h List.not_mem_nil) dX11_isWind_12
set_option maxHeartbeats 400000 in
set_option maxRecDepth 20000 in
theorem fc_X11_has (l : Launch) (p0 : Int64) (p1 : Int32) : Met l yX11_has wsX11_has ({ frames := 0, cells := 0, slots := 0, locals := 0 }) (va_Pc [.long p0, .int p1] (fun _ => True)) (vp_Si (fun r : Int32 => ((r = 1 ∧ (rt_has p0 p1)) ∨ (r = 0 ∧ ¬ (rt_has p0 p1))))) 0 0 (fun _ => False) := by
  refine Met.ofW (cc := cX11_has) (maxL := 3) (ret := (some .boolean)) (by decide) rfl ?_
  intro p e s m args below meth c s₁ B hml hv
  obtain ⟨rfl, _⟩ := hv
  have hx := B.exec
  have hb := B.bytes
  have hr := B.returns
  have hts := atoms_spec (ws := wsX11_has) B.pre
  have hown : s.vm.findClass RX11 = some m.cls := findClass_of_methodNamed B.named
  have hl := lv_entry ([.long p0, .int p1]) (n := 3) (Nat.le_of_ble_eq_true rfl)
  rw [lg_entry_eq]
  generalize (lg_sl ([.long p0, .int p1]) ++ List.replicate (3 - (lg_sl ([.long p0, .int p1])).length) Slot.unset).toArray = ls at hl ⊢
  have hl : lv_has ls 3 [(0, .long p0), (2, .int p1)] := hl
  refine lv_lload_n hx hb dX11_has_0 rfl (lv_at hl 0 rfl) ?_
  refine lv_iload_n hx hb dX11_has_1 rfl (lv_at hl 1 rfl) ?_
  refine lv_lushr (v := (p0.toUInt64 >>> (p1.toInt64.toUInt64 &&& Int64.toUInt64 63)).toInt64) hx hb dX11_has_2 rfl ?_
  refine lv_topl (fun y1 ey1 => ?_)
  refine lv_lconst (v := 1) hx hb dX11_has_3 (by decide) ?_
  refine lv_land hx hb dX11_has_4 ?_
  refine lv_topl (fun y2 ey2 => ?_)
  refine lv_lconst (v := 0) hx hb dX11_has_5 (by decide) ?_
  refine W.lcmp hx hb dX11_has_6 ?_
  refine fx_lif_eq (tgt := 14) hx hb dX11_has_7 (by decide) (fun c3 => ?_) (fun c3 => ?_)
  · refine lv_iconst (v := 0) hx hb dX11_has_14 (by decide) ?_
    exact W.zret (v := 0) hx hb hr rfl (fun t ht hW => ⟨0, rfl, Or.inr ⟨rfl, by subst_vars; exact fun z => z (by first | assumption | (apply Eq.symm; assumption))⟩, ht⟩) (fun _ h => absurd h List.not_mem_nil) dX11_has_15
  · refine lv_iconst (v := 1) hx hb dX11_has_10 (by decide) ?_
    refine lv_goto (tgt := 15) hx hb dX11_has_11 (by decide) ?_
    exact W.zret (v := 1) hx hb hr rfl (fun t ht hW => ⟨1, rfl, Or.inl ⟨rfl, by subst_vars; assumption⟩, ht⟩) (fun _ h => absurd h List.not_mem_nil) dX11_has_15
set_option maxHeartbeats 400000 in
set_option maxRecDepth 20000 in
theorem fc_X11_apart (l : Launch) (p0 p1 : Int32) (b_p0 : 0 ≤ p0.toInt ∧ p0.toInt ≤ 63) (b_p1 : 0 ≤ p1.toInt ∧ p1.toInt ≤ 63) : Met l yX11_apart wsX11_apart ({ frames := 1, cells := 0, slots := 0, locals := 13 }) (va_Pc [.int p0, .int p1] (fun _ => True)) (vp_Si (fun r : Int32 => (0 ≤ r.toInt ∧ r.toInt ≤ 7))) 0 0 (fun _ => False) := by
  refine Met.ofW (cc := cX11_apart) (maxL := 4) (ret := (some .int)) (by decide) rfl ?_
  intro p e s m args below meth c s₁ B hml hv
  obtain ⟨rfl, _⟩ := hv
  have hx := B.exec
  have hb := B.bytes
  have hr := B.returns
  have hts := atoms_spec (ws := wsX11_apart) B.pre
  have hown : s.vm.findClass RX11 = some m.cls := findClass_of_methodNamed B.named
  have hl := lv_entry ([.int p0, .int p1]) (n := 4) (Nat.le_of_ble_eq_true rfl)
  rw [lg_entry_eq]
  generalize (lg_sl ([.int p0, .int p1]) ++ List.replicate (4 - (lg_sl ([.int p0, .int p1])).length) Slot.unset).toArray = ls at hl ⊢
  have hl : lv_has ls 4 [(0, .int p0), (1, .int p1)] := hl
  refine lv_iload_n hx hb dX11_apart_0 rfl (lv_at hl 0 rfl) ?_
  refine lv_bipush (v := 8) hx hb dX11_apart_1 (by decide) ?_
  refine fx_irem hx hb dX11_apart_3 rfl zk_8 (by omega) (by omega) (fun y1 ey1 ty1 => ?_)
  refine lv_iload_n hx hb dX11_apart_4 rfl (lv_at hl 1 rfl) ?_
  refine lv_bipush (v := 8) hx hb dX11_apart_5 (by decide) ?_
  refine fx_irem hx hb dX11_apart_7 rfl zk_8 (by omega) (by omega) (fun y2 ey2 ty2 => ?_)
  refine fx_isub hx hb dX11_apart_8 rfl rfl (by omega) (fun y3 ey3 ty3 => ?_)
  refine va_mabs hx hb (by rw [hml]; exact hl.1.symm) hown (hts (.methodLink RX11 395 Lib.Math.abs.name) (List.mem_cons_of_mem _ tw_3_121)) (hts (.static Lib.Math.abs.name) (List.mem_cons_of_mem _ tw_3_122)) (hts (.initialized "java/lang/Math") (List.mem_cons_of_mem _ tw_1_17)) (hts (.code Lib.Math.abs.name Lib.Math.abs.code 1 (some .int)) (List.mem_cons_of_mem _ tw_3_123)) (Nat.le_of_ble_eq_true rfl) (Nat.le_of_ble_eq_true rfl) (Nat.le_of_ble_eq_true rfl) (Nat.le_of_ble_eq_true rfl) dX11_apart_9 ?_
  refine lv_topi (fun y4 ey4 => ?_)
  have ty4 : y4.toInt = if 0 ≤ y3.toInt then y3.toInt else -y3.toInt := by rw [ey4]; exact zi_abs rfl (by omega)
  refine lv_istore_n (lv' := [(2, .int y4), (0, .int p0), (1, .int p1)]) hx hb dX11_apart_12 rfl hl (by decide) rfl (fun ls hl => ?_)
  refine lv_iload_n hx hb dX11_apart_13 rfl (lv_at hl 1 rfl) ?_
  refine lv_bipush (v := 8) hx hb dX11_apart_14 (by decide) ?_
  refine fx_idiv hx hb dX11_apart_16 rfl zk_8 (by omega) (by omega) (fun y5 ey5 ty5 => ?_)
  refine lv_iload_n hx hb dX11_apart_17 rfl (lv_at hl 2 rfl) ?_
  refine lv_bipush (v := 8) hx hb dX11_apart_18 (by decide) ?_
  refine fx_idiv hx hb dX11_apart_20 rfl zk_8 (by omega) (by omega) (fun y6 ey6 ty6 => ?_)
  refine fx_isub hx hb dX11_apart_21 rfl rfl (by omega) (fun y7 ey7 ty7 => ?_)
  refine va_mabs hx hb (by rw [hml]; exact hl.1.symm) hown (hts (.methodLink RX11 395 Lib.Math.abs.name) (List.mem_cons_of_mem _ tw_3_121)) (hts (.static Lib.Math.abs.name) (List.mem_cons_of_mem _ tw_3_122)) (hts (.initialized "java/lang/Math") (List.mem_cons_of_mem _ tw_1_17)) (hts (.code Lib.Math.abs.name Lib.Math.abs.code 1 (some .int)) (List.mem_cons_of_mem _ tw_3_123)) (Nat.le_of_ble_eq_true rfl) (Nat.le_of_ble_eq_true rfl) (Nat.le_of_ble_eq_true rfl) (Nat.le_of_ble_eq_true rfl) dX11_apart_22 ?_
  refine lv_topi (fun y8 ey8 => ?_)
  have ty8 : y8.toInt = if 0 ≤ y7.toInt then y7.toInt else -y7.toInt := by rw [ey8]; exact zi_abs rfl (by omega)
  refine lv_istore_n (lv' := [(3, .int y8), (2, .int y4), (0, .int p0), (1, .int p1)]) hx hb dX11_apart_25 rfl hl (by decide) rfl (fun ls hl => ?_)
  refine lv_iload_n hx hb dX11_apart_26 rfl (lv_at hl 1 rfl) ?_
  refine lv_iload_n hx hb dX11_apart_27 rfl (lv_at hl 0 rfl) ?_
  refine va_mmax hx hb (by rw [hml]; exact hl.1.symm) hown (hts (.methodLink RX11 400 Lib.Math.max.name) (List.mem_cons_of_mem _ tw_3_124)) (hts (.static Lib.Math.max.name) (List.mem_cons_of_mem _ tw_2_156)) (hts (.initialized "java/lang/Math") (List.mem_cons_of_mem _ tw_1_17)) (hts (.code Lib.Math.max.name Lib.Math.max.code 2 (some .int)) (List.mem_cons_of_mem _ tw_2_157)) (Nat.le_of_ble_eq_true rfl) (Nat.le_of_ble_eq_true rfl) (Nat.le_of_ble_eq_true rfl) (Nat.le_of_ble_eq_true rfl) dX11_apart_28 ?_
  refine lv_topi (fun y9 ey9 => ?_)
  have ty9 : y9.toInt = if y4.toInt < y8.toInt then y8.toInt else y4.toInt := by rw [ey9]; exact zi_max rfl rfl
  exact W.iret (v := y9) hx hb hr (fun t ht hW => ⟨y9, rfl, (by omega), ht⟩) (fun _ h => absurd h List.not_mem_nil) dX11_apart_31
set_option maxHeartbeats 400000 in
set_option maxRecDepth 20000 in
theorem fc_X11_byColumns (l : Launch) (p0 : Int64) (p1 : Int32) : Met l yX11_byColumns wsX11_byColumns ({ frames := 0, cells := 0, slots := 0, locals := 0 }) (va_Pc [.long p0, .int p1] (fun _ => True)) (vp_Sl (fun r : Int64 => True)) 0 0 (fun _ => False) := by
  refine Met.ofW (cc := cX11_byColumns) (maxL := 5) (ret := (some .long)) (by decide) rfl ?_
  intro p e s m args below meth c s₁ B hml hv
  obtain ⟨rfl, _⟩ := hv
  have hx := B.exec
  have hb := B.bytes
  have hr := B.returns
  have hts := atoms_spec (ws := wsX11_byColumns) B.pre
  have hown : s.vm.findClass RX11 = some m.cls := findClass_of_methodNamed B.named
  have hl := lv_entry ([.long p0, .int p1]) (n := 5) (Nat.le_of_ble_eq_true rfl)
  rw [lg_entry_eq]
  generalize (lg_sl ([.long p0, .int p1]) ++ List.replicate (5 - (lg_sl ([.long p0, .int p1])).length) Slot.unset).toArray = ls at hl ⊢
  have hl : lv_has ls 5 [(0, .long p0), (2, .int p1)] := hl
  refine lv_ldc2 (v := 72340172838076673) hx hb hown (hts (.constantLong RX11 406 (72340172838076673)) (List.mem_cons_of_mem _ tw_3_62)) dX11_byColumns_0 ?_
  refine lv_lstore_n (lv' := [(3, .long 72340172838076673), (0, .long p0), (2, .int p1)]) hx hb dX11_byColumns_3 rfl hl (by decide) rfl (fun ls hl => ?_)
  refine lv_iload_n hx hb dX11_byColumns_4 rfl (lv_at hl 2 rfl) ?_
  refine fx_if_lt (tgt := 21) hx hb dX11_byColumns_5 (by decide) rfl (fun c1 => ?_) (fun c1 => ?_)
  · refine lv_lload_n hx hb dX11_byColumns_21 rfl (lv_at hl 1 rfl) ?_
    refine lv_lload_n hx hb dX11_byColumns_22 rfl (lv_at hl 0 rfl) ?_
    refine lv_sipush (v := 255) hx hb dX11_byColumns_23 (by decide) ?_
    refine lv_iload_n hx hb dX11_byColumns_26 rfl (lv_at hl 2 rfl) ?_
    refine lv_ineg hx hb dX11_byColumns_27 ?_
    refine lv_topi (fun y2 ey2 => ?_)
    refine lv_ishl hx hb dX11_byColumns_28 ?_
    refine lv_topi (fun y3 ey3 => ?_)
    refine lv_sipush (v := 255) hx hb dX11_byColumns_29 (by decide) ?_
    refine lv_iand hx hb dX11_byColumns_32 ?_
    refine lv_topi (fun y4 ey4 => ?_)
    refine fx_i2l hx hb dX11_byColumns_33 rfl (fun y5 ey5 ty5 => ?_)
    refine lv_lmul hx hb dX11_byColumns_34 ?_
    refine lv_topl (fun y6 ey6 => ?_)
    refine lv_land hx hb dX11_byColumns_35 ?_
    refine lv_topl (fun y7 ey7 => ?_)
    refine lv_iload_n hx hb dX11_byColumns_36 rfl (lv_at hl 2 rfl) ?_
    refine lv_ineg hx hb dX11_byColumns_37 ?_
    refine lv_topi (fun y8 ey8 => ?_)
    refine lv_lushr (v := (y7.toUInt64 >>> (y8.toInt64.toUInt64 &&& Int64.toUInt64 63)).toInt64) hx hb dX11_byColumns_38 rfl ?_
    refine lv_topl (fun y9 ey9 => ?_)
    exact W.lret (v := y9) hx hb hr (fun t ht hW => ⟨y9, rfl, trivial, ht⟩) (fun _ h => absurd h List.not_mem_nil) dX11_byColumns_39
  · refine lv_lload_n hx hb dX11_byColumns_8 rfl (lv_at hl 1 rfl) ?_
    refine lv_lload_n hx hb dX11_byColumns_9 rfl (lv_at hl 0 rfl) ?_
    refine lv_sipush (v := 255) hx hb dX11_byColumns_10 (by decide) ?_
    refine lv_iload_n hx hb dX11_byColumns_13 rfl (lv_at hl 2 rfl) ?_
    refine lv_ishr hx hb dX11_byColumns_14 ?_
    refine lv_topi (fun y10 ey10 => ?_)
    refine fx_i2l hx hb dX11_byColumns_15 rfl (fun y11 ey11 ty11 => ?_)
    refine lv_lmul hx hb dX11_byColumns_16 ?_
    refine lv_topl (fun y12 ey12 => ?_)
    refine lv_land hx hb dX11_byColumns_17 ?_
    refine lv_topl (fun y13 ey13 => ?_)
    refine lv_iload_n hx hb dX11_byColumns_18 rfl (lv_at hl 2 rfl) ?_
    refine lv_lshl (v := y13 <<< (p1.toInt64 &&& 63)) hx hb dX11_byColumns_19 rfl ?_
    refine lv_topl (fun y14 ey14 => ?_)
    exact W.lret (v := y14) hx hb hr (fun t ht hW => ⟨y14, rfl, trivial, ht⟩) (fun _ h => absurd h List.not_mem_nil) dX11_byColumns_20
set_option maxHeartbeats 400000 in
set_option maxRecDepth 20000 in
theorem fc_X11_byRows (l : Launch) (p0 : Int64) (p1 : Int32) : Met l yX11_byRows wsX11_byRows ({ frames := 0, cells := 0, slots := 0, locals := 0 }) (va_Pc [.long p0, .int p1] (fun _ => True)) (vp_Sl (fun r : Int64 => True)) 0 0 (fun _ => False) := by
  refine Met.ofW (cc := cX11_byRows) (maxL := 3) (ret := (some .long)) (by decide) rfl ?_
  intro p e s m args below meth c s₁ B hml hv
  obtain ⟨rfl, _⟩ := hv
  have hx := B.exec
  have hb := B.bytes
  have hr := B.returns
  have hts := atoms_spec (ws := wsX11_byRows) B.pre
  have hown : s.vm.findClass RX11 = some m.cls := findClass_of_methodNamed B.named
  have hl := lv_entry ([.long p0, .int p1]) (n := 3) (Nat.le_of_ble_eq_true rfl)
  rw [lg_entry_eq]
  generalize (lg_sl ([.long p0, .int p1]) ++ List.replicate (3 - (lg_sl ([.long p0, .int p1])).length) Slot.unset).toArray = ls at hl ⊢
  have hl : lv_has ls 3 [(0, .long p0), (2, .int p1)] := hl
  refine lv_iload_n hx hb dX11_byRows_0 rfl (lv_at hl 1 rfl) ?_
  refine fx_if_lt (tgt := 13) hx hb dX11_byRows_1 (by decide) rfl (fun c1 => ?_) (fun c1 => ?_)
  · refine lv_lload_n hx hb dX11_byRows_13 rfl (lv_at hl 0 rfl) ?_
    refine lv_bipush (v := 8) hx hb dX11_byRows_14 (by decide) ?_
    refine lv_iload_n hx hb dX11_byRows_16 rfl (lv_at hl 1 rfl) ?_
    refine lv_ineg hx hb dX11_byRows_17 ?_
    refine lv_topi (fun y2 ey2 => ?_)
    refine fx_imulU hx hb dX11_byRows_18 (fun y3 ey3 => ?_)
    refine lv_lushr (v := (p0.toUInt64 >>> (y3.toInt64.toUInt64 &&& Int64.toUInt64 63)).toInt64) hx hb dX11_byRows_19 rfl ?_
    refine lv_topl (fun y4 ey4 => ?_)
    exact W.lret (v := y4) hx hb hr (fun t ht hW => ⟨y4, rfl, trivial, ht⟩) (fun _ h => absurd h List.not_mem_nil) dX11_byRows_20
  · refine lv_lload_n hx hb dX11_byRows_4 rfl (lv_at hl 0 rfl) ?_
    refine lv_bipush (v := 8) hx hb dX11_byRows_5 (by decide) ?_
    refine lv_iload_n hx hb dX11_byRows_7 rfl (lv_at hl 1 rfl) ?_
    refine fx_imulU hx hb dX11_byRows_8 (fun y5 ey5 => ?_)
    refine lv_lshl (v := p0 <<< (y5.toInt64 &&& 63)) hx hb dX11_byRows_9 rfl ?_
    refine lv_topl (fun y6 ey6 => ?_)
    refine lv_goto (tgt := 20) hx hb dX11_byRows_10 (by decide) ?_
    exact W.lret (v := y6) hx hb hr (fun t ht hW => ⟨y6, rfl, trivial, ht⟩) (fun _ h => absurd h List.not_mem_nil) dX11_byRows_20
set_option maxHeartbeats 400000 in
set_option maxRecDepth 20000 in
theorem fc_X11_nearest (l : Launch) (p0 : Int32) (p1 : Int64) (b_p0 : 0 ≤ p0.toInt ∧ p0.toInt ≤ 63) : Met l yX11_nearest wsX11_nearest ({ frames := 2, cells := 0, slots := 0, locals := 36 }) (va_Pc [.int p0, .long p1] (fun _ => True)) (vp_Si (fun r : Int32 => (0 ≤ r.toInt ∧ r.toInt ≤ 99))) 0 0 (fun _ => False) := by
  refine Met.ofW (cc := cX11_nearest) (maxL := 5) (ret := (some .int)) (by decide) rfl ?_
  intro p e s m args below meth c s₁ B hml hv
  obtain ⟨rfl, _⟩ := hv
  have hx := B.exec
  have hb := B.bytes
  have hr := B.returns
  have hts := atoms_spec (ws := wsX11_nearest) B.pre
  have hown : s.vm.findClass RX11 = some m.cls := findClass_of_methodNamed B.named
  have hl := lv_entry ([.int p0, .long p1]) (n := 5) (Nat.le_of_ble_eq_true rfl)
  rw [lg_entry_eq]
  generalize (lg_sl ([.int p0, .long p1]) ++ List.replicate (5 - (lg_sl ([.int p0, .long p1])).length) Slot.unset).toArray = ls at hl ⊢
  have hl : lv_has ls 5 [(0, .int p0), (1, .long p1)] := hl
  refine lv_bipush (v := 99) hx hb dX11_nearest_0 (by decide) ?_
  refine lv_istore_n (lv' := [(3, .int 99), (0, .int p0), (1, .long p1)]) hx hb dX11_nearest_2 rfl hl (by decide) rfl (fun ls hl => ?_)
  refine lv_iconst (v := 0) hx hb dX11_nearest_3 (by decide) ?_
  refine lv_istore (lv' := [(4, .int 0), (3, .int 99), (0, .int p0), (1, .long p1)]) hx hb dX11_nearest_4 hl (by decide) rfl (fun ls hl => ?_)
  have lp : ∀ (n_lp : Nat) (lp_4 : Int32) (lp_3 : Int32), (64 - lp_4.toInt).toNat < n_lp → (0 ≤ lp_4.toInt ∧ lp_4.toInt ≤ 64) → (0 ≤ lp_3.toInt ∧ lp_3.toInt ≤ 99) → ∀ (ls : Array Slot), lv_has ls 5 [(4, .int lp_4), (3, .int lp_3), (0, .int p0), (1, .long p1)] → W p l e (headSpec wsX11_nearest ({ frames := 2, cells := 0, slots := 0, locals := 36 })).room s m ([.int p0, .long p1] : List Value).toArray below meth c s.heap [] 0 0 (MQ below (vp_Si (fun r : Int32 => (0 ≤ r.toInt ∧ r.toInt ≤ 99))) ([.int p0, .long p1] : List Value).toArray s 0 0 (fun _ => False)) (F0 m 6 ls []) := by
    intro n_lp
    induction n_lp with
    | zero => intro lp_4 lp_3 hm_lp b_lp_4 b_lp_3 ls hl; exact absurd hm_lp (Nat.not_lt_zero _)
    | succ n_lp ih_lp =>
      intro lp_4 lp_3 hm_lp b_lp_4 b_lp_3 ls hl
      refine lv_iload hx hb dX11_nearest_6 (lv_at hl 0 rfl) ?_
      refine lv_bipush (v := 64) hx hb dX11_nearest_8 (by decide) ?_
      refine fx_icmp_ge (tgt := 39) hx hb dX11_nearest_10 (by decide) rfl zk_64 (fun c1 => ?_) (fun c1 => ?_)
      · refine lv_iload_n hx hb dX11_nearest_39 rfl (lv_at hl 1 rfl) ?_
        exact W.iret (v := lp_3) hx hb hr (fun t ht hW => ⟨lp_3, rfl, (by omega), ht⟩) (fun _ h => absurd h List.not_mem_nil) dX11_nearest_40
      · refine lv_lload_n hx hb dX11_nearest_13 rfl (lv_at hl 3 rfl) ?_
        refine lv_iload hx hb dX11_nearest_14 (lv_at hl 0 rfl) ?_
        refine vp_callSi (va_Run.run (va_runS (As := [.long p1, .int lp_4]) (rest := []) ⟨hx, hb, hml, hown, hts⟩ (fc_X11_has l p1 lp_4) (va_cwS 2 hts gX11_nearest_X11_has rfl rfl rfl (by decide +kernel) ⟨Nat.le_of_ble_eq_true rfl, Nat.le_of_ble_eq_true rfl⟩) ⟨fun a U g mk q => q, fun U hU hW => ⟨rfl, trivial⟩⟩ rfl rfl hl.1 rfl (lv_room (Nat.le_of_ble_eq_true rfl)) dX11_nearest_16 ⟨by decide +kernel, by decide +kernel⟩)) (fun r2 hr2 => ?_)
        rcases hr2 with ⟨rfl, c3⟩ | ⟨rfl, c3⟩
        · refine fx_if_eq (tgt := 33) hx hb dX11_nearest_19 (by decide) zk_1 (fun c4 => by exfalso; omega) (fun c4 => ?_)
          refine lv_iload_n hx hb dX11_nearest_22 rfl (lv_at hl 1 rfl) ?_
          refine lv_iload_n hx hb dX11_nearest_23 rfl (lv_at hl 2 rfl) ?_
          refine lv_iload hx hb dX11_nearest_24 (lv_at hl 0 rfl) ?_
          refine vp_callSi (va_Run.run (va_runS (As := [.int p0, .int lp_4]) (rest := [.int lp_3]) ⟨hx, hb, hml, hown, hts⟩ (fc_X11_apart l p0 lp_4 (by omega) (by omega)) (va_cwS 2 hts gX11_nearest_X11_apart rfl rfl rfl (by decide +kernel) ⟨Nat.le_of_ble_eq_true rfl, Nat.le_of_ble_eq_true rfl⟩) ⟨fun a U g mk q => q, fun U hU hW => ⟨rfl, trivial⟩⟩ rfl rfl hl.1 rfl (lv_room (Nat.le_of_ble_eq_true rfl)) dX11_nearest_26 ⟨by decide +kernel, by decide +kernel⟩)) (fun r5 hr5 => ?_)
          refine va_mmin hx hb (by rw [hml]; exact hl.1.symm) hown (hts (.methodLink RX11 403 Lib.Math.min.name) (List.mem_cons_of_mem _ tw_4_237)) (hts (.static Lib.Math.min.name) (List.mem_cons_of_mem _ tw_2_181)) (hts (.initialized "java/lang/Math") (List.mem_cons_of_mem _ tw_1_17)) (hts (.code Lib.Math.min.name Lib.Math.min.code 2 (some .int)) (List.mem_cons_of_mem _ tw_2_182)) (Nat.le_of_ble_eq_true rfl) (Nat.le_of_ble_eq_true rfl) (Nat.le_of_ble_eq_true rfl) (Nat.le_of_ble_eq_true rfl) dX11_nearest_29 ?_
          refine lv_topi (fun y6 ey6 => ?_)
          have ty6 : y6.toInt = if r5.toInt < lp_3.toInt then r5.toInt else lp_3.toInt := by rw [ey6]; exact zi_min rfl rfl
          refine lv_istore_n (lv' := [(3, .int y6), (4, .int lp_4), (0, .int p0), (1, .long p1)]) hx hb dX11_nearest_32 rfl hl (by decide) rfl (fun ls hl => ?_)
          obtain ⟨y7, ey7⟩ : ∃ y : Int32, y = lp_4 + 1 := ⟨_, rfl⟩
          have ty7 : y7.toInt = lp_4.toInt + 1 := by rw [ey7, zi_add _ _ (by rw [zk_1]; omega) (by rw [zk_1]; omega), zk_1]
          refine lv_iinc (v := y7) (lv' := [(4, .int y7), (3, .int y6), (0, .int p0), (1, .long p1)]) hx hb dX11_nearest_33 hl (k := 1) rfl (by rw [ey7]; rfl) (by decide) rfl (fun ls hl => ?_)
          refine lv_goto (tgt := 6) hx hb dX11_nearest_36 (by decide) ?_
          exact ih_lp y7 y6 (by omega) (by omega) (by omega) ls (lv_sub hl [0, 1, 2, 3] rfl)
        · refine fx_if_eq (tgt := 33) hx hb dX11_nearest_19 (by decide) zk_0 (fun c8 => ?_) (fun c8 => by exfalso; omega)
          obtain ⟨y9, ey9⟩ : ∃ y : Int32, y = lp_4 + 1 := ⟨_, rfl⟩
          have ty9 : y9.toInt = lp_4.toInt + 1 := by rw [ey9, zi_add _ _ (by rw [zk_1]; omega) (by rw [zk_1]; omega), zk_1]
          refine lv_iinc (v := y9) (lv' := [(4, .int y9), (3, .int lp_3), (0, .int p0), (1, .long p1)]) hx hb dX11_nearest_33 hl (k := 0) rfl (by rw [ey9]; rfl) (by decide) rfl (fun ls hl => ?_)
          refine lv_goto (tgt := 6) hx hb dX11_nearest_36 (by decide) ?_
          exact ih_lp y9 lp_3 (by omega) (by omega) (by omega) ls (lv_sub hl [0, 1, 2, 3] rfl)
  exact lp _ 0 99 (Nat.lt_succ_self _) (by decide) (by decide) ls (lv_sub hl [0, 1, 2, 3] rfl)
set_option maxHeartbeats 400000 in
set_option maxRecDepth 20000 in
theorem fc_X4_digit (l : Launch) (p0 : Int64) (p1 : Int32) : Met l yX4_digit wsX4_digit ({ frames := 0, cells := 0, slots := 0, locals := 0 }) (va_Pc [.long p0, .int p1] (fun _ => True)) (vp_Si (fun r : Int32 => (r = rt_dg p0 p1))) 0 0 (fun _ => False) := by
  refine Met.ofW (cc := cX4_digit) (maxL := 3) (ret := (some .int)) (by decide) rfl ?_
  intro p e s m args below meth c s₁ B hml hv
  obtain ⟨rfl, _⟩ := hv
  have hx := B.exec
  have hb := B.bytes
  have hr := B.returns
  have hts := atoms_spec (ws := wsX4_digit) B.pre
  have hown : s.vm.findClass RX4 = some m.cls := findClass_of_methodNamed B.named
  have hl := lv_entry ([.long p0, .int p1]) (n := 3) (Nat.le_of_ble_eq_true rfl)
  rw [lg_entry_eq]
  generalize (lg_sl ([.long p0, .int p1]) ++ List.replicate (3 - (lg_sl ([.long p0, .int p1])).length) Slot.unset).toArray = ls at hl ⊢
  have hl : lv_has ls 3 [(0, .long p0), (2, .int p1)] := hl
  refine lv_lload_n hx hb dX4_digit_0 rfl (lv_at hl 0 rfl) ?_
  refine lv_iconst (v := 4) hx hb dX4_digit_1 (by decide) ?_
  refine lv_iload_n hx hb dX4_digit_2 rfl (lv_at hl 1 rfl) ?_
  refine fx_imulU hx hb dX4_digit_3 (fun y1 ey1 => ?_)
  refine lv_lushr (v := (p0.toUInt64 >>> (y1.toInt64.toUInt64 &&& Int64.toUInt64 63)).toInt64) hx hb dX4_digit_4 rfl ?_
  refine lv_topl (fun y2 ey2 => ?_)
  refine lv_ldc2 (v := 15) hx hb hown (hts (.constantLong RX4 69 (15)) (List.mem_cons_of_mem _ tw_3_148)) dX4_digit_5 ?_
  refine lv_land hx hb dX4_digit_8 ?_
  refine lv_topl (fun y3 ey3 => ?_)
  refine lv_l2i (v := y3.toInt32) hx hb dX4_digit_9 rfl ?_
  refine lv_topi (fun y4 ey4 => ?_)
  exact W.iret (v := y4) hx hb hr (fun t ht hW => ⟨y4, rfl, (by subst_vars; rfl), ht⟩) (fun _ h => absurd h List.not_mem_nil) dX4_digit_10
set_option maxHeartbeats 400000 in
set_option maxRecDepth 20000 in
theorem fc_X9_truth (l : Launch) (p0 : Int32) : Met l yX9_truth wsX9_truth ({ frames := 0, cells := 0, slots := 0, locals := 0 }) (va_Pc [.int p0] (fun _ => True)) (vp_Si (fun r : Int32 => (0 ≤ r.toInt ∧ r.toInt ≤ 1))) 0 0 (fun _ => False) := by
  refine Met.ofW (cc := cX9_truth) (maxL := 1) (ret := (some .int)) (by decide) rfl ?_
  intro p e s m args below meth c s₁ B hml hv
  obtain ⟨rfl, _⟩ := hv
  have hx := B.exec
  have hb := B.bytes
  have hr := B.returns
  have hts := atoms_spec (ws := wsX9_truth) B.pre
  have hown : s.vm.findClass RX9 = some m.cls := findClass_of_methodNamed B.named
  have hl := lv_entry ([.int p0]) (n := 1) (Nat.le_of_ble_eq_true rfl)
  rw [lg_entry_eq]
  generalize (lg_sl ([.int p0]) ++ List.replicate (1 - (lg_sl ([.int p0])).length) Slot.unset).toArray = ls at hl ⊢
  have hl : lv_has ls 1 [(0, .int p0)] := hl
  refine lv_iload_n hx hb dX9_truth_0 rfl (lv_at hl 0 rfl) ?_
  refine fx_if_eq (tgt := 8) hx hb dX9_truth_1 (by decide) rfl (fun c1 => ?_) (fun c1 => ?_)
  · refine lv_iconst (v := 0) hx hb dX9_truth_8 (by decide) ?_
    exact W.iret (v := 0) hx hb hr (fun t ht hW => ⟨0, rfl, (by decide), ht⟩) (fun _ h => absurd h List.not_mem_nil) dX9_truth_9
  · refine lv_iconst (v := 1) hx hb dX9_truth_4 (by decide) ?_
    refine lv_goto (tgt := 9) hx hb dX9_truth_5 (by decide) ?_
    exact W.iret (v := 1) hx hb hr (fun t ht hW => ⟨1, rfl, (by decide), ht⟩) (fun _ h => absurd h List.not_mem_nil) dX9_truth_9
set_option maxHeartbeats 400000 in
set_option maxRecDepth 20000 in
theorem fc_X9_joined (l : Launch) (p0 p1 p2 : Int32) : Met l yX9_joined wsX9_joined ({ frames := 1, cells := 0, slots := 0, locals := 20 }) (va_Pc [.int p0, .int p1, .int p2] (fun _ => True)) (vp_Si (fun r : Int32 => True)) 0 0 (fun _ => False) := by
  refine Met.ofW (cc := cX9_joined) (maxL := 3) (ret := (some .int)) (by decide) rfl ?_
  intro p e s m args below meth c s₁ B hml hv
  obtain ⟨rfl, _⟩ := hv
  have hx := B.exec
  have hb := B.bytes
  have hr := B.returns
  have hts := atoms_spec (ws := wsX9_joined) B.pre
  have hown : s.vm.findClass RX9 = some m.cls := findClass_of_methodNamed B.named
  have hl := lv_entry ([.int p0, .int p1, .int p2]) (n := 3) (Nat.le_of_ble_eq_true rfl)
  rw [lg_entry_eq]
  generalize (lg_sl ([.int p0, .int p1, .int p2]) ++ List.replicate (3 - (lg_sl ([.int p0, .int p1, .int p2])).length) Slot.unset).toArray = ls at hl ⊢
  have hl : lv_has ls 3 [(0, .int p0), (1, .int p1), (2, .int p2)] := hl
  refine lv_iload_n hx hb dX9_joined_0 rfl (lv_at hl 0 rfl) ?_
  rcases (show p0.toInt < -17 ∨ -11 < p0.toInt ∨ p0 = (-17) ∨ p0 = (-16) ∨ p0 = (-15) ∨ p0 = (-14) ∨ p0 = (-13) ∨ p0 = (-12) ∨ p0 = (-11) by simp only [fa_eq, Int32.reduceToInt]; omega) with c1 | c1 | c1 | c1 | c1 | c1 | c1 | c1 | c1
  · refine lv_tableOut (tgt := 114) hx hb dX9_joined_1 (Or.inl c1) (by decide) ?_
    refine lv_iload_n hx hb dX9_joined_114 rfl (lv_at hl 1 rfl) ?_
    refine lv_iload_n hx hb dX9_joined_115 rfl (lv_at hl 2 rfl) ?_
    refine fx_imulU hx hb dX9_joined_116 (fun y2 ey2 => ?_)
    exact W.iret (v := y2) hx hb hr (fun t ht hW => ⟨y2, rfl, trivial, ht⟩) (fun _ h => absurd h List.not_mem_nil) dX9_joined_117
  · refine lv_tableOut (tgt := 114) hx hb dX9_joined_1 (Or.inr c1) (by decide) ?_
    refine lv_iload_n hx hb dX9_joined_114 rfl (lv_at hl 1 rfl) ?_
    refine lv_iload_n hx hb dX9_joined_115 rfl (lv_at hl 2 rfl) ?_
    refine fx_imulU hx hb dX9_joined_116 (fun y3 ey3 => ?_)
    exact W.iret (v := y3) hx hb hr (fun t ht hW => ⟨y3, rfl, trivial, ht⟩) (fun _ h => absurd h List.not_mem_nil) dX9_joined_117
  · refine lv_tableIn (off := 109) (tgt := 110) hx hb dX9_joined_1 (by rw [c1]; decide) (by rw [c1]; decide) (by rw [c1]; decide) (by decide) ?_
    have zc1 : p0.toInt = -17 := by rw [c1]; rfl
    refine lv_iload_n hx hb dX9_joined_110 rfl (lv_at hl 1 rfl) ?_
    refine lv_iload_n hx hb dX9_joined_111 rfl (lv_at hl 2 rfl) ?_
    refine fx_isubU hx hb dX9_joined_112 (fun y4 ey4 => ?_)
    exact W.iret (v := y4) hx hb hr (fun t ht hW => ⟨y4, rfl, trivial, ht⟩) (fun _ h => absurd h List.not_mem_nil) dX9_joined_113
  · refine lv_tableIn (off := 105) (tgt := 106) hx hb dX9_joined_1 (by rw [c1]; decide) (by rw [c1]; decide) (by rw [c1]; decide) (by decide) ?_
    have zc1 : p0.toInt = -16 := by rw [c1]; rfl
    refine lv_iload_n hx hb dX9_joined_106 rfl (lv_at hl 1 rfl) ?_
    refine lv_iload_n hx hb dX9_joined_107 rfl (lv_at hl 2 rfl) ?_
    refine fx_iaddU hx hb dX9_joined_108 (fun y5 ey5 => ?_)
    exact W.iret (v := y5) hx hb hr (fun t ht hW => ⟨y5, rfl, trivial, ht⟩) (fun _ h => absurd h List.not_mem_nil) dX9_joined_109
  · refine lv_tableIn (off := 91) (tgt := 92) hx hb dX9_joined_1 (by rw [c1]; decide) (by rw [c1]; decide) (by rw [c1]; decide) (by decide) ?_
    have zc1 : p0.toInt = -15 := by rw [c1]; rfl
    refine lv_iload_n hx hb dX9_joined_92 rfl (lv_at hl 1 rfl) ?_
    refine lv_iload_n hx hb dX9_joined_93 rfl (lv_at hl 2 rfl) ?_
    refine fx_icmp_ne (tgt := 101) hx hb dX9_joined_94 (by decide) rfl rfl (fun c6 => ?_) (fun c6 => ?_)
    · refine lv_iconst (v := 0) hx hb dX9_joined_101 (by decide) ?_
      refine vp_callSi (va_Run.run (va_runS (As := [.int 0]) (rest := []) ⟨hx, hb, hml, hown, hts⟩ (fc_X9_truth l 0) (va_cwS 1 hts gX9_joined_X9_truth rfl rfl rfl (by decide +kernel) ⟨Nat.le_of_ble_eq_true rfl, Nat.le_of_ble_eq_true rfl⟩) ⟨fun a U g mk q => q, fun U hU hW => ⟨rfl, trivial⟩⟩ rfl rfl hl.1 rfl (lv_room (Nat.le_of_ble_eq_true rfl)) dX9_joined_102 ⟨by decide +kernel, by decide +kernel⟩)) (fun r7 hr7 => ?_)
      exact W.iret (v := r7) hx hb hr (fun t ht hW => ⟨r7, rfl, trivial, ht⟩) (fun _ h => absurd h List.not_mem_nil) dX9_joined_105
    · refine lv_iconst (v := 1) hx hb dX9_joined_97 (by decide) ?_
      refine lv_goto (tgt := 102) hx hb dX9_joined_98 (by decide) ?_
      refine vp_callSi (va_Run.run (va_runS (As := [.int 1]) (rest := []) ⟨hx, hb, hml, hown, hts⟩ (fc_X9_truth l 1) (va_cwS 1 hts gX9_joined_X9_truth rfl rfl rfl (by decide +kernel) ⟨Nat.le_of_ble_eq_true rfl, Nat.le_of_ble_eq_true rfl⟩) ⟨fun a U g mk q => q, fun U hU hW => ⟨rfl, trivial⟩⟩ rfl rfl hl.1 rfl (lv_room (Nat.le_of_ble_eq_true rfl)) dX9_joined_102 ⟨by decide +kernel, by decide +kernel⟩)) (fun r8 hr8 => ?_)
      exact W.iret (v := r8) hx hb hr (fun t ht hW => ⟨r8, rfl, trivial, ht⟩) (fun _ h => absurd h List.not_mem_nil) dX9_joined_105
  · refine lv_tableIn (off := 77) (tgt := 78) hx hb dX9_joined_1 (by rw [c1]; decide) (by rw [c1]; decide) (by rw [c1]; decide) (by decide) ?_
    have zc1 : p0.toInt = -14 := by rw [c1]; rfl
    refine lv_iload_n hx hb dX9_joined_78 rfl (lv_at hl 1 rfl) ?_
    refine lv_iload_n hx hb dX9_joined_79 rfl (lv_at hl 2 rfl) ?_
    refine fx_icmp_ge (tgt := 87) hx hb dX9_joined_80 (by decide) rfl rfl (fun c9 => ?_) (fun c9 => ?_)
    · refine lv_iconst (v := 0) hx hb dX9_joined_87 (by decide) ?_
      refine vp_callSi (va_Run.run (va_runS (As := [.int 0]) (rest := []) ⟨hx, hb, hml, hown, hts⟩ (fc_X9_truth l 0) (va_cwS 1 hts gX9_joined_X9_truth rfl rfl rfl (by decide +kernel) ⟨Nat.le_of_ble_eq_true rfl, Nat.le_of_ble_eq_true rfl⟩) ⟨fun a U g mk q => q, fun U hU hW => ⟨rfl, trivial⟩⟩ rfl rfl hl.1 rfl (lv_room (Nat.le_of_ble_eq_true rfl)) dX9_joined_88 ⟨by decide +kernel, by decide +kernel⟩)) (fun r10 hr10 => ?_)
      exact W.iret (v := r10) hx hb hr (fun t ht hW => ⟨r10, rfl, trivial, ht⟩) (fun _ h => absurd h List.not_mem_nil) dX9_joined_91
    · refine lv_iconst (v := 1) hx hb dX9_joined_83 (by decide) ?_
      refine lv_goto (tgt := 88) hx hb dX9_joined_84 (by decide) ?_
      refine vp_callSi (va_Run.run (va_runS (As := [.int 1]) (rest := []) ⟨hx, hb, hml, hown, hts⟩ (fc_X9_truth l 1) (va_cwS 1 hts gX9_joined_X9_truth rfl rfl rfl (by decide +kernel) ⟨Nat.le_of_ble_eq_true rfl, Nat.le_of_ble_eq_true rfl⟩) ⟨fun a U g mk q => q, fun U hU hW => ⟨rfl, trivial⟩⟩ rfl rfl hl.1 rfl (lv_room (Nat.le_of_ble_eq_true rfl)) dX9_joined_88 ⟨by decide +kernel, by decide +kernel⟩)) (fun r11 hr11 => ?_)
      exact W.iret (v := r11) hx hb hr (fun t ht hW => ⟨r11, rfl, trivial, ht⟩) (fun _ h => absurd h List.not_mem_nil) dX9_joined_91
  · refine lv_tableIn (off := 113) (tgt := 114) hx hb dX9_joined_1 (by rw [c1]; decide) (by rw [c1]; decide) (by rw [c1]; decide) (by decide) ?_
    have zc1 : p0.toInt = -13 := by rw [c1]; rfl
    refine lv_iload_n hx hb dX9_joined_114 rfl (lv_at hl 1 rfl) ?_
    refine lv_iload_n hx hb dX9_joined_115 rfl (lv_at hl 2 rfl) ?_
    refine fx_imulU hx hb dX9_joined_116 (fun y12 ey12 => ?_)
    exact W.iret (v := y12) hx hb hr (fun t ht hW => ⟨y12, rfl, trivial, ht⟩) (fun _ h => absurd h List.not_mem_nil) dX9_joined_117
  · refine lv_tableIn (off := 60) (tgt := 61) hx hb dX9_joined_1 (by rw [c1]; decide) (by rw [c1]; decide) (by rw [c1]; decide) (by decide) ?_
    have zc1 : p0.toInt = -12 := by rw [c1]; rfl
    refine lv_iload_n hx hb dX9_joined_61 rfl (lv_at hl 1 rfl) ?_
    refine fx_if_eq (tgt := 73) hx hb dX9_joined_62 (by decide) rfl (fun c13 => ?_) (fun c13 => ?_)
    · refine lv_iconst (v := 0) hx hb dX9_joined_73 (by decide) ?_
      refine vp_callSi (va_Run.run (va_runS (As := [.int 0]) (rest := []) ⟨hx, hb, hml, hown, hts⟩ (fc_X9_truth l 0) (va_cwS 1 hts gX9_joined_X9_truth rfl rfl rfl (by decide +kernel) ⟨Nat.le_of_ble_eq_true rfl, Nat.le_of_ble_eq_true rfl⟩) ⟨fun a U g mk q => q, fun U hU hW => ⟨rfl, trivial⟩⟩ rfl rfl hl.1 rfl (lv_room (Nat.le_of_ble_eq_true rfl)) dX9_joined_74 ⟨by decide +kernel, by decide +kernel⟩)) (fun r14 hr14 => ?_)
      exact W.iret (v := r14) hx hb hr (fun t ht hW => ⟨r14, rfl, trivial, ht⟩) (fun _ h => absurd h List.not_mem_nil) dX9_joined_77
    · refine lv_iload_n hx hb dX9_joined_65 rfl (lv_at hl 2 rfl) ?_
      refine fx_if_eq (tgt := 73) hx hb dX9_joined_66 (by decide) rfl (fun c15 => ?_) (fun c15 => ?_)
      · refine lv_iconst (v := 0) hx hb dX9_joined_73 (by decide) ?_
        refine vp_callSi (va_Run.run (va_runS (As := [.int 0]) (rest := []) ⟨hx, hb, hml, hown, hts⟩ (fc_X9_truth l 0) (va_cwS 1 hts gX9_joined_X9_truth rfl rfl rfl (by decide +kernel) ⟨Nat.le_of_ble_eq_true rfl, Nat.le_of_ble_eq_true rfl⟩) ⟨fun a U g mk q => q, fun U hU hW => ⟨rfl, trivial⟩⟩ rfl rfl hl.1 rfl (lv_room (Nat.le_of_ble_eq_true rfl)) dX9_joined_74 ⟨by decide +kernel, by decide +kernel⟩)) (fun r16 hr16 => ?_)
        exact W.iret (v := r16) hx hb hr (fun t ht hW => ⟨r16, rfl, trivial, ht⟩) (fun _ h => absurd h List.not_mem_nil) dX9_joined_77
      · refine lv_iconst (v := 1) hx hb dX9_joined_69 (by decide) ?_
        refine lv_goto (tgt := 74) hx hb dX9_joined_70 (by decide) ?_
        refine vp_callSi (va_Run.run (va_runS (As := [.int 1]) (rest := []) ⟨hx, hb, hml, hown, hts⟩ (fc_X9_truth l 1) (va_cwS 1 hts gX9_joined_X9_truth rfl rfl rfl (by decide +kernel) ⟨Nat.le_of_ble_eq_true rfl, Nat.le_of_ble_eq_true rfl⟩) ⟨fun a U g mk q => q, fun U hU hW => ⟨rfl, trivial⟩⟩ rfl rfl hl.1 rfl (lv_room (Nat.le_of_ble_eq_true rfl)) dX9_joined_74 ⟨by decide +kernel, by decide +kernel⟩)) (fun r17 hr17 => ?_)
        exact W.iret (v := r17) hx hb hr (fun t ht hW => ⟨r17, rfl, trivial, ht⟩) (fun _ h => absurd h List.not_mem_nil) dX9_joined_77
  · refine lv_tableIn (off := 43) (tgt := 44) hx hb dX9_joined_1 (by rw [c1]; decide) (by rw [c1]; decide) (by rw [c1]; decide) (by decide) ?_
    have zc1 : p0.toInt = -11 := by rw [c1]; rfl
    refine lv_iload_n hx hb dX9_joined_44 rfl (lv_at hl 1 rfl) ?_
    refine fx_if_ne (tgt := 52) hx hb dX9_joined_45 (by decide) rfl (fun c18 => ?_) (fun c18 => ?_)
    · refine lv_iconst (v := 1) hx hb dX9_joined_52 (by decide) ?_
      refine lv_goto (tgt := 57) hx hb dX9_joined_53 (by decide) ?_
      refine vp_callSi (va_Run.run (va_runS (As := [.int 1]) (rest := []) ⟨hx, hb, hml, hown, hts⟩ (fc_X9_truth l 1) (va_cwS 1 hts gX9_joined_X9_truth rfl rfl rfl (by decide +kernel) ⟨Nat.le_of_ble_eq_true rfl, Nat.le_of_ble_eq_true rfl⟩) ⟨fun a U g mk q => q, fun U hU hW => ⟨rfl, trivial⟩⟩ rfl rfl hl.1 rfl (lv_room (Nat.le_of_ble_eq_true rfl)) dX9_joined_57 ⟨by decide +kernel, by decide +kernel⟩)) (fun r19 hr19 => ?_)
      exact W.iret (v := r19) hx hb hr (fun t ht hW => ⟨r19, rfl, trivial, ht⟩) (fun _ h => absurd h List.not_mem_nil) dX9_joined_60
    · refine lv_iload_n hx hb dX9_joined_48 rfl (lv_at hl 2 rfl) ?_
      refine fx_if_eq (tgt := 56) hx hb dX9_joined_49 (by decide) rfl (fun c20 => ?_) (fun c20 => ?_)
      · refine lv_iconst (v := 0) hx hb dX9_joined_56 (by decide) ?_
        refine vp_callSi (va_Run.run (va_runS (As := [.int 0]) (rest := []) ⟨hx, hb, hml, hown, hts⟩ (fc_X9_truth l 0) (va_cwS 1 hts gX9_joined_X9_truth rfl rfl rfl (by decide +kernel) ⟨Nat.le_of_ble_eq_true rfl, Nat.le_of_ble_eq_true rfl⟩) ⟨fun a U g mk q => q, fun U hU hW => ⟨rfl, trivial⟩⟩ rfl rfl hl.1 rfl (lv_room (Nat.le_of_ble_eq_true rfl)) dX9_joined_57 ⟨by decide +kernel, by decide +kernel⟩)) (fun r21 hr21 => ?_)
        exact W.iret (v := r21) hx hb hr (fun t ht hW => ⟨r21, rfl, trivial, ht⟩) (fun _ h => absurd h List.not_mem_nil) dX9_joined_60
      · refine lv_iconst (v := 1) hx hb dX9_joined_52 (by decide) ?_
        refine lv_goto (tgt := 57) hx hb dX9_joined_53 (by decide) ?_
        refine vp_callSi (va_Run.run (va_runS (As := [.int 1]) (rest := []) ⟨hx, hb, hml, hown, hts⟩ (fc_X9_truth l 1) (va_cwS 1 hts gX9_joined_X9_truth rfl rfl rfl (by decide +kernel) ⟨Nat.le_of_ble_eq_true rfl, Nat.le_of_ble_eq_true rfl⟩) ⟨fun a U g mk q => q, fun U hU hW => ⟨rfl, trivial⟩⟩ rfl rfl hl.1 rfl (lv_room (Nat.le_of_ble_eq_true rfl)) dX9_joined_57 ⟨by decide +kernel, by decide +kernel⟩)) (fun r22 hr22 => ?_)
        exact W.iret (v := r22) hx hb hr (fun t ht hW => ⟨r22, rfl, trivial, ht⟩) (fun _ h => absurd h List.not_mem_nil) dX9_joined_60
set_option maxHeartbeats 400000 in
set_option maxRecDepth 20000 in
theorem fc_X5_isBlank (l : Launch) (p0 : Int32) : Met l yX5_isBlank wsX5_isBlank ({ frames := 0, cells := 0, slots := 0, locals := 0 }) (va_Pc [.int p0] (fun _ => True)) (vp_Si (fun r : Int32 => ((r = 1 ∧ (p0.toInt = 32 ∨ p0.toInt = 10)) ∨ (r = 0 ∧ ¬ (p0.toInt = 32 ∨ p0.toInt = 10))))) 0 0 (fun _ => False) := by
  refine Met.ofW (cc := cX5_isBlank) (maxL := 1) (ret := (some .boolean)) (by decide) rfl ?_
  intro p e s m args below meth c s₁ B hml hv
  obtain ⟨rfl, _⟩ := hv
  have hx := B.exec
  have hb := B.bytes
  have hr := B.returns
  have hts := atoms_spec (ws := wsX5_isBlank) B.pre
  have hown : s.vm.findClass RX5 = some m.cls := findClass_of_methodNamed B.named
  have hl := lv_entry ([.int p0]) (n := 1) (Nat.le_of_ble_eq_true rfl)
  rw [lg_entry_eq]
  generalize (lg_sl ([.int p0]) ++ List.replicate (1 - (lg_sl ([.int p0])).length) Slot.unset).toArray = ls at hl ⊢
  have hl : lv_has ls 1 [(0, .int p0)] := hl
  refine lv_iload_n hx hb dX5_isBlank_0 rfl (lv_at hl 0 rfl) ?_
  refine lv_bipush (v := 32) hx hb dX5_isBlank_1 (by decide) ?_
  refine fx_icmp_eq (tgt := 12) hx hb dX5_isBlank_3 (by decide) rfl zk_32 (fun c1 => ?_) (fun c1 => ?_)
  · refine lv_iconst (v := 1) hx hb dX5_isBlank_12 (by decide) ?_
    refine lv_goto (tgt := 17) hx hb dX5_isBlank_13 (by decide) ?_
    exact W.zret (v := 1) hx hb hr rfl (fun t ht hW => ⟨1, rfl, Or.inl ⟨rfl, by omega⟩, ht⟩) (fun _ h => absurd h List.not_mem_nil) dX5_isBlank_17
  · refine lv_iload_n hx hb dX5_isBlank_6 rfl (lv_at hl 0 rfl) ?_
    refine lv_bipush (v := 10) hx hb dX5_isBlank_7 (by decide) ?_
    refine fx_icmp_ne (tgt := 16) hx hb dX5_isBlank_9 (by decide) rfl zk_10 (fun c2 => ?_) (fun c2 => ?_)
    · refine lv_iconst (v := 0) hx hb dX5_isBlank_16 (by decide) ?_
      exact W.zret (v := 0) hx hb hr rfl (fun t ht hW => ⟨0, rfl, Or.inr ⟨rfl, by omega⟩, ht⟩) (fun _ h => absurd h List.not_mem_nil) dX5_isBlank_17
    · refine lv_iconst (v := 1) hx hb dX5_isBlank_12 (by decide) ?_
      refine lv_goto (tgt := 17) hx hb dX5_isBlank_13 (by decide) ?_
      exact W.zret (v := 1) hx hb hr rfl (fun t ht hW => ⟨1, rfl, Or.inl ⟨rfl, by omega⟩, ht⟩) (fun _ h => absurd h List.not_mem_nil) dX5_isBlank_17
set_option maxHeartbeats 400000 in
set_option maxRecDepth 20000 in
theorem fc_X5_isLetter (l : Launch) (p0 : Int32) : Met l yX5_isLetter wsX5_isLetter ({ frames := 0, cells := 0, slots := 0, locals := 0 }) (va_Pc [.int p0] (fun _ => True)) (vp_Si (fun r : Int32 => ((r = 1 ∧ (97 ≤ p0.toInt ∧ p0.toInt ≤ 122)) ∨ (r = 0 ∧ ¬ (97 ≤ p0.toInt ∧ p0.toInt ≤ 122))))) 0 0 (fun _ => False) := by
  refine Met.ofW (cc := cX5_isLetter) (maxL := 1) (ret := (some .boolean)) (by decide) rfl ?_
  intro p e s m args below meth c s₁ B hml hv
  obtain ⟨rfl, _⟩ := hv
  have hx := B.exec
  have hb := B.bytes
  have hr := B.returns
  have hts := atoms_spec (ws := wsX5_isLetter) B.pre
  have hown : s.vm.findClass RX5 = some m.cls := findClass_of_methodNamed B.named
  have hl := lv_entry ([.int p0]) (n := 1) (Nat.le_of_ble_eq_true rfl)
  rw [lg_entry_eq]
  generalize (lg_sl ([.int p0]) ++ List.replicate (1 - (lg_sl ([.int p0])).length) Slot.unset).toArray = ls at hl ⊢
  have hl : lv_has ls 1 [(0, .int p0)] := hl
  refine lv_iload_n hx hb dX5_isLetter_0 rfl (lv_at hl 0 rfl) ?_
  refine lv_bipush (v := 97) hx hb dX5_isLetter_1 (by decide) ?_
  refine fx_icmp_lt (tgt := 16) hx hb dX5_isLetter_3 (by decide) rfl zk_97 (fun c1 => ?_) (fun c1 => ?_)
  · refine lv_iconst (v := 0) hx hb dX5_isLetter_16 (by decide) ?_
    exact W.zret (v := 0) hx hb hr rfl (fun t ht hW => ⟨0, rfl, Or.inr ⟨rfl, by omega⟩, ht⟩) (fun _ h => absurd h List.not_mem_nil) dX5_isLetter_17
  · refine lv_iload_n hx hb dX5_isLetter_6 rfl (lv_at hl 0 rfl) ?_
    refine lv_bipush (v := 122) hx hb dX5_isLetter_7 (by decide) ?_
    refine fx_icmp_gt (tgt := 16) hx hb dX5_isLetter_9 (by decide) rfl zk_122 (fun c2 => ?_) (fun c2 => ?_)
    · refine lv_iconst (v := 0) hx hb dX5_isLetter_16 (by decide) ?_
      exact W.zret (v := 0) hx hb hr rfl (fun t ht hW => ⟨0, rfl, Or.inr ⟨rfl, by omega⟩, ht⟩) (fun _ h => absurd h List.not_mem_nil) dX5_isLetter_17
    · refine lv_iconst (v := 1) hx hb dX5_isLetter_12 (by decide) ?_
      refine lv_goto (tgt := 17) hx hb dX5_isLetter_13 (by decide) ?_
      exact W.zret (v := 1) hx hb hr rfl (fun t ht hW => ⟨1, rfl, Or.inl ⟨rfl, by omega⟩, ht⟩) (fun _ h => absurd h List.not_mem_nil) dX5_isLetter_17
set_option maxHeartbeats 400000 in
set_option maxRecDepth 20000 in
theorem fc_X5_isDigit (l : Launch) (p0 : Int32) : Met l yX5_isDigit wsX5_isDigit ({ frames := 0, cells := 0, slots := 0, locals := 0 }) (va_Pc [.int p0] (fun _ => True)) (vp_Si (fun r : Int32 => ((r = 1 ∧ (48 ≤ p0.toInt ∧ p0.toInt ≤ 57)) ∨ (r = 0 ∧ ¬ (48 ≤ p0.toInt ∧ p0.toInt ≤ 57))))) 0 0 (fun _ => False) := by
  refine Met.ofW (cc := cX5_isDigit) (maxL := 1) (ret := (some .boolean)) (by decide) rfl ?_
  intro p e s m args below meth c s₁ B hml hv
  obtain ⟨rfl, _⟩ := hv
  have hx := B.exec
  have hb := B.bytes
  have hr := B.returns
  have hts := atoms_spec (ws := wsX5_isDigit) B.pre
  have hown : s.vm.findClass RX5 = some m.cls := findClass_of_methodNamed B.named
  have hl := lv_entry ([.int p0]) (n := 1) (Nat.le_of_ble_eq_true rfl)
  rw [lg_entry_eq]
  generalize (lg_sl ([.int p0]) ++ List.replicate (1 - (lg_sl ([.int p0])).length) Slot.unset).toArray = ls at hl ⊢
  have hl : lv_has ls 1 [(0, .int p0)] := hl
  refine lv_iload_n hx hb dX5_isDigit_0 rfl (lv_at hl 0 rfl) ?_
  refine lv_bipush (v := 48) hx hb dX5_isDigit_1 (by decide) ?_
  refine fx_icmp_lt (tgt := 16) hx hb dX5_isDigit_3 (by decide) rfl zk_48 (fun c1 => ?_) (fun c1 => ?_)
  · refine lv_iconst (v := 0) hx hb dX5_isDigit_16 (by decide) ?_
    exact W.zret (v := 0) hx hb hr rfl (fun t ht hW => ⟨0, rfl, Or.inr ⟨rfl, by omega⟩, ht⟩) (fun _ h => absurd h List.not_mem_nil) dX5_isDigit_17
  · refine lv_iload_n hx hb dX5_isDigit_6 rfl (lv_at hl 0 rfl) ?_
    refine lv_bipush (v := 57) hx hb dX5_isDigit_7 (by decide) ?_
    refine fx_icmp_gt (tgt := 16) hx hb dX5_isDigit_9 (by decide) rfl zk_57 (fun c2 => ?_) (fun c2 => ?_)
    · refine lv_iconst (v := 0) hx hb dX5_isDigit_16 (by decide) ?_
      exact W.zret (v := 0) hx hb hr rfl (fun t ht hW => ⟨0, rfl, Or.inr ⟨rfl, by omega⟩, ht⟩) (fun _ h => absurd h List.not_mem_nil) dX5_isDigit_17
    · refine lv_iconst (v := 1) hx hb dX5_isDigit_12 (by decide) ?_
      refine lv_goto (tgt := 17) hx hb dX5_isDigit_13 (by decide) ?_
      exact W.zret (v := 1) hx hb hr rfl (fun t ht hW => ⟨1, rfl, Or.inl ⟨rfl, by omega⟩, ht⟩) (fun _ h => absurd h List.not_mem_nil) dX5_isDigit_17
set_option maxHeartbeats 400000 in
set_option maxRecDepth 20000 in
theorem fc_X5_isSign (l : Launch) (p0 : Int32) : Met l yX5_isSign wsX5_isSign ({ frames := 0, cells := 0, slots := 0, locals := 0 }) (va_Pc [.int p0] (fun _ => True)) (vp_Si (fun r : Int32 => ((r = 1 ∧ ((40 ≤ p0.toInt ∧ p0.toInt ≤ 43) ∨ p0.toInt = 45 ∨ (59 ≤ p0.toInt ∧ p0.toInt ≤ 61))) ∨ (r = 0 ∧ ¬ ((40 ≤ p0.toInt ∧ p0.toInt ≤ 43) ∨ p0.toInt = 45 ∨ (59 ≤ p0.toInt ∧ p0.toInt ≤ 61)))))) 0 0 (fun _ => False) := by
  refine Met.ofW (cc := cX5_isSign) (maxL := 1) (ret := (some .boolean)) (by decide) rfl ?_
  intro p e s m args below meth c s₁ B hml hv
  obtain ⟨rfl, _⟩ := hv
  have hx := B.exec
  have hb := B.bytes
  have hr := B.returns
  have hts := atoms_spec (ws := wsX5_isSign) B.pre
  have hown : s.vm.findClass RX5 = some m.cls := findClass_of_methodNamed B.named
  have hl := lv_entry ([.int p0]) (n := 1) (Nat.le_of_ble_eq_true rfl)
  rw [lg_entry_eq]
  generalize (lg_sl ([.int p0]) ++ List.replicate (1 - (lg_sl ([.int p0])).length) Slot.unset).toArray = ls at hl ⊢
  have hl : lv_has ls 1 [(0, .int p0)] := hl
  refine lv_iload_n hx hb dX5_isSign_0 rfl (lv_at hl 0 rfl) ?_
  refine lv_bipush (v := 40) hx hb dX5_isSign_1 (by decide) ?_
  refine fx_icmp_lt (tgt := 12) hx hb dX5_isSign_3 (by decide) rfl zk_40 (fun c1 => ?_) (fun c1 => ?_)
  · refine lv_iload_n hx hb dX5_isSign_12 rfl (lv_at hl 0 rfl) ?_
    refine lv_bipush (v := 45) hx hb dX5_isSign_13 (by decide) ?_
    refine fx_icmp_eq (tgt := 30) hx hb dX5_isSign_15 (by decide) rfl zk_45 (fun c2 => by exfalso; omega) (fun c2 => ?_)
    refine lv_iload_n hx hb dX5_isSign_18 rfl (lv_at hl 0 rfl) ?_
    refine lv_bipush (v := 59) hx hb dX5_isSign_19 (by decide) ?_
    refine fx_icmp_lt (tgt := 34) hx hb dX5_isSign_21 (by decide) rfl zk_59 (fun c3 => ?_) (fun c3 => by exfalso; omega)
    refine lv_iconst (v := 0) hx hb dX5_isSign_34 (by decide) ?_
    exact W.zret (v := 0) hx hb hr rfl (fun t ht hW => ⟨0, rfl, Or.inr ⟨rfl, by omega⟩, ht⟩) (fun _ h => absurd h List.not_mem_nil) dX5_isSign_35
  · refine lv_iload_n hx hb dX5_isSign_6 rfl (lv_at hl 0 rfl) ?_
    refine lv_bipush (v := 43) hx hb dX5_isSign_7 (by decide) ?_
    refine fx_icmp_le (tgt := 30) hx hb dX5_isSign_9 (by decide) rfl zk_43 (fun c4 => ?_) (fun c4 => ?_)
    · refine lv_iconst (v := 1) hx hb dX5_isSign_30 (by decide) ?_
      refine lv_goto (tgt := 35) hx hb dX5_isSign_31 (by decide) ?_
      exact W.zret (v := 1) hx hb hr rfl (fun t ht hW => ⟨1, rfl, Or.inl ⟨rfl, by omega⟩, ht⟩) (fun _ h => absurd h List.not_mem_nil) dX5_isSign_35
    · refine lv_iload_n hx hb dX5_isSign_12 rfl (lv_at hl 0 rfl) ?_
      refine lv_bipush (v := 45) hx hb dX5_isSign_13 (by decide) ?_
      refine fx_icmp_eq (tgt := 30) hx hb dX5_isSign_15 (by decide) rfl zk_45 (fun c5 => ?_) (fun c5 => ?_)
      · refine lv_iconst (v := 1) hx hb dX5_isSign_30 (by decide) ?_
        refine lv_goto (tgt := 35) hx hb dX5_isSign_31 (by decide) ?_
        exact W.zret (v := 1) hx hb hr rfl (fun t ht hW => ⟨1, rfl, Or.inl ⟨rfl, by omega⟩, ht⟩) (fun _ h => absurd h List.not_mem_nil) dX5_isSign_35
      · refine lv_iload_n hx hb dX5_isSign_18 rfl (lv_at hl 0 rfl) ?_
        refine lv_bipush (v := 59) hx hb dX5_isSign_19 (by decide) ?_
        refine fx_icmp_lt (tgt := 34) hx hb dX5_isSign_21 (by decide) rfl zk_59 (fun c6 => ?_) (fun c6 => ?_)
        · refine lv_iconst (v := 0) hx hb dX5_isSign_34 (by decide) ?_
          exact W.zret (v := 0) hx hb hr rfl (fun t ht hW => ⟨0, rfl, Or.inr ⟨rfl, by omega⟩, ht⟩) (fun _ h => absurd h List.not_mem_nil) dX5_isSign_35
        · refine lv_iload_n hx hb dX5_isSign_24 rfl (lv_at hl 0 rfl) ?_
          refine lv_bipush (v := 61) hx hb dX5_isSign_25 (by decide) ?_
          refine fx_icmp_gt (tgt := 34) hx hb dX5_isSign_27 (by decide) rfl zk_61 (fun c7 => ?_) (fun c7 => ?_)
          · refine lv_iconst (v := 0) hx hb dX5_isSign_34 (by decide) ?_
            exact W.zret (v := 0) hx hb hr rfl (fun t ht hW => ⟨0, rfl, Or.inr ⟨rfl, by omega⟩, ht⟩) (fun _ h => absurd h List.not_mem_nil) dX5_isSign_35
          · refine lv_iconst (v := 1) hx hb dX5_isSign_30 (by decide) ?_
            refine lv_goto (tgt := 35) hx hb dX5_isSign_31 (by decide) ?_
            exact W.zret (v := 1) hx hb hr rfl (fun t ht hW => ⟨1, rfl, Or.inl ⟨rfl, by omega⟩, ht⟩) (fun _ h => absurd h List.not_mem_nil) dX5_isSign_35
set_option maxHeartbeats 400000 in
set_option maxRecDepth 20000 in
theorem fc_X6_commonDivisor (l : Launch) (p0 p1 : Int64) : Met l yX6_commonDivisor wsX6_commonDivisor ({ frames := 0, cells := 0, slots := 0, locals := 0 }) (va_Pc [.long p0, .long p1] (fun _ => True)) (vp_Sl (fun r : Int64 => (¬ r = 0))) 0 0 (fun _ => False) := by
  refine Met.ofW (cc := cX6_commonDivisor) (maxL := 11) (ret := (some .long)) (by decide) rfl ?_
  intro p e s m args below meth c s₁ B hml hv
  obtain ⟨rfl, _⟩ := hv
  have hx := B.exec
  have hb := B.bytes
  have hr := B.returns
  have hts := atoms_spec (ws := wsX6_commonDivisor) B.pre
  have hown : s.vm.findClass RX6 = some m.cls := findClass_of_methodNamed B.named
  have hl := lv_entry ([.long p0, .long p1]) (n := 11) (Nat.le_of_ble_eq_true rfl)
  rw [lg_entry_eq]
  generalize (lg_sl ([.long p0, .long p1]) ++ List.replicate (11 - (lg_sl ([.long p0, .long p1])).length) Slot.unset).toArray = ls at hl ⊢
  have hl : lv_has ls 11 [(0, .long p0), (2, .long p1)] := hl
  refine lv_lload_n hx hb dX6_commonDivisor_0 rfl (lv_at hl 0 rfl) ?_
  refine lv_lstore (lv' := [(4, .long p0), (0, .long p0), (2, .long p1)]) hx hb dX6_commonDivisor_1 hl (by decide) rfl (fun ls hl => ?_)
  refine lv_lload_n hx hb dX6_commonDivisor_3 rfl (lv_at hl 2 rfl) ?_
  refine lv_lstore (lv' := [(6, .long p1), (4, .long p0), (0, .long p0), (2, .long p1)]) hx hb dX6_commonDivisor_4 hl (by decide) rfl (fun ls hl => ?_)
  refine lv_iconst (v := 0) hx hb dX6_commonDivisor_6 (by decide) ?_
  refine lv_istore (lv' := [(8, .int 0), (6, .long p1), (4, .long p0), (0, .long p0), (2, .long p1)]) hx hb dX6_commonDivisor_7 hl (by decide) rfl (fun ls hl => ?_)
  have lp : ∀ (n_lp : Nat) (lp_8 : Int32) (lp_6 : Int64) (lp_4 : Int64), (200 - lp_8.toInt).toNat < n_lp → (0 ≤ lp_8.toInt ∧ lp_8.toInt ≤ 200) → ∀ (ls : Array Slot), lv_has ls 11 [(8, .int lp_8), (6, .long lp_6), (4, .long lp_4), (0, .long p0), (2, .long p1)] → W p l e (headSpec wsX6_commonDivisor ({ frames := 0, cells := 0, slots := 0, locals := 0 })).room s m ([.long p0, .long p1] : List Value).toArray below meth c s.heap [] 0 0 (MQ below (vp_Sl (fun r : Int64 => (¬ r = 0))) ([.long p0, .long p1] : List Value).toArray s 0 0 (fun _ => False)) (F0 m 9 ls []) := by
    intro n_lp
    induction n_lp with
    | zero => intro lp_8 lp_6 lp_4 hm_lp b_lp_8 ls hl; exact absurd hm_lp (Nat.not_lt_zero _)
    | succ n_lp ih_lp =>
      intro lp_8 lp_6 lp_4 hm_lp b_lp_8 ls hl
      refine lv_iload hx hb dX6_commonDivisor_9 (lv_at hl 0 rfl) ?_
      refine lv_sipush (v := 200) hx hb dX6_commonDivisor_11 (by decide) ?_
      refine fx_icmp_ge (tgt := 45) hx hb dX6_commonDivisor_14 (by decide) rfl zk_200 (fun c1 => ?_) (fun c1 => ?_)
      · refine lv_lload hx hb dX6_commonDivisor_45 (lv_at hl 2 rfl) ?_
        refine lv_lconst (v := 0) hx hb dX6_commonDivisor_47 (by decide) ?_
        refine W.lcmp hx hb dX6_commonDivisor_48 ?_
        refine fx_lif_ne (tgt := 56) hx hb dX6_commonDivisor_49 (by decide) (fun c2 => ?_) (fun c2 => ?_)
        · refine lv_lload hx hb dX6_commonDivisor_56 (lv_at hl 2 rfl) ?_
          exact W.lret (v := lp_4) hx hb hr (fun t ht hW => ⟨lp_4, rfl, (by assumption), ht⟩) (fun _ h => absurd h List.not_mem_nil) dX6_commonDivisor_58
        · refine lv_lconst (v := 1) hx hb dX6_commonDivisor_52 (by decide) ?_
          refine lv_goto (tgt := 58) hx hb dX6_commonDivisor_53 (by decide) ?_
          exact W.lret (v := 1) hx hb hr (fun t ht hW => ⟨1, rfl, (by decide), ht⟩) (fun _ h => absurd h List.not_mem_nil) dX6_commonDivisor_58
      · refine lv_lload hx hb dX6_commonDivisor_17 (lv_at hl 1 rfl) ?_
        refine lv_lconst (v := 0) hx hb dX6_commonDivisor_19 (by decide) ?_
        refine W.lcmp hx hb dX6_commonDivisor_20 ?_
        refine fx_lif_eq (tgt := 45) hx hb dX6_commonDivisor_21 (by decide) (fun c3 => ?_) (fun c3 => ?_)
        · refine lv_lload hx hb dX6_commonDivisor_45 (lv_at hl 2 rfl) ?_
          refine lv_lconst (v := 0) hx hb dX6_commonDivisor_47 (by decide) ?_
          refine W.lcmp hx hb dX6_commonDivisor_48 ?_
          refine fx_lif_ne (tgt := 56) hx hb dX6_commonDivisor_49 (by decide) (fun c4 => ?_) (fun c4 => ?_)
          · refine lv_lload hx hb dX6_commonDivisor_56 (lv_at hl 2 rfl) ?_
            exact W.lret (v := lp_4) hx hb hr (fun t ht hW => ⟨lp_4, rfl, (by assumption), ht⟩) (fun _ h => absurd h List.not_mem_nil) dX6_commonDivisor_58
          · refine lv_lconst (v := 1) hx hb dX6_commonDivisor_52 (by decide) ?_
            refine lv_goto (tgt := 58) hx hb dX6_commonDivisor_53 (by decide) ?_
            exact W.lret (v := 1) hx hb hr (fun t ht hW => ⟨1, rfl, (by decide), ht⟩) (fun _ h => absurd h List.not_mem_nil) dX6_commonDivisor_58
        · refine lv_lload hx hb dX6_commonDivisor_24 (lv_at hl 2 rfl) ?_
          refine lv_lload hx hb dX6_commonDivisor_26 (lv_at hl 1 rfl) ?_
          refine lv_lrem hx hb dX6_commonDivisor_28 (by assumption) ?_
          refine lv_topl (fun y5 ey5 => ?_)
          refine lv_lstore (lv' := [(9, .long y5), (8, .int lp_8), (6, .long lp_6), (4, .long lp_4), (0, .long p0), (2, .long p1)]) hx hb dX6_commonDivisor_29 hl (by decide) rfl (fun ls hl => ?_)
          refine lv_lload hx hb dX6_commonDivisor_31 (lv_at hl 2 rfl) ?_
          refine lv_lstore (lv' := [(4, .long lp_6), (9, .long y5), (8, .int lp_8), (6, .long lp_6), (0, .long p0), (2, .long p1)]) hx hb dX6_commonDivisor_33 hl (by decide) rfl (fun ls hl => ?_)
          refine lv_lload hx hb dX6_commonDivisor_35 (lv_at hl 1 rfl) ?_
          refine lv_lstore (lv' := [(6, .long y5), (4, .long lp_6), (9, .long y5), (8, .int lp_8), (0, .long p0), (2, .long p1)]) hx hb dX6_commonDivisor_37 hl (by decide) rfl (fun ls hl => ?_)
          obtain ⟨y6, ey6⟩ : ∃ y : Int32, y = lp_8 + 1 := ⟨_, rfl⟩
          have ty6 : y6.toInt = lp_8.toInt + 1 := by rw [ey6, zi_add _ _ (by rw [zk_1]; omega) (by rw [zk_1]; omega), zk_1]
          refine lv_iinc (v := y6) (lv' := [(8, .int y6), (6, .long y5), (4, .long lp_6), (9, .long y5), (0, .long p0), (2, .long p1)]) hx hb dX6_commonDivisor_39 hl (k := 3) rfl (by rw [ey6]; rfl) (by decide) rfl (fun ls hl => ?_)
          refine lv_goto (tgt := 9) hx hb dX6_commonDivisor_42 (by decide) ?_
          exact ih_lp y6 y5 lp_6 (by omega) (by omega) ls (lv_sub hl [0, 1, 2, 4, 5] rfl)
  exact lp _ 0 p1 p0 (Nat.lt_succ_self _) (by decide) ls (lv_sub hl [0, 1, 2, 3, 4] rfl)

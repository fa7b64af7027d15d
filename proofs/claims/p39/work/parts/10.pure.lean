theorem zb_X11_isCell_0 : (decode cX11_isCell 0 = .ok (.iload_n 0, 1)) ∧ (decode cX11_isCell 1 = .ok (.ifCond .lt 13, 3)) ∧ (decode cX11_isCell 14 = .ok (.iconst 0, 1)) ∧ (decode cX11_isCell 15 = .ok (.ireturn, 1)) ∧ (decode cX11_isCell 4 = .ok (.iload_n 0, 1)) ∧ (decode cX11_isCell 5 = .ok (.bipush 64, 2)) ∧ (decode cX11_isCell 7 = .ok (.if_icmp .ge 7, 3)) ∧ (decode cX11_isCell 10 = .ok (.iconst 1, 1)) ∧ (decode cX11_isCell 11 = .ok (.goto 4, 3)) := by decide +kernel
theorem dX11_isCell_0 : decode cX11_isCell 0 = .ok (.iload_n 0, 1) := zb_X11_isCell_0.1
theorem dX11_isCell_1 : decode cX11_isCell 1 = .ok (.ifCond .lt 13, 3) := zb_X11_isCell_0.2.1
theorem dX11_isCell_14 : decode cX11_isCell 14 = .ok (.iconst 0, 1) := zb_X11_isCell_0.2.2.1
theorem dX11_isCell_15 : decode cX11_isCell 15 = .ok (.ireturn, 1) := zb_X11_isCell_0.2.2.2.1
theorem dX11_isCell_4 : decode cX11_isCell 4 = .ok (.iload_n 0, 1) := zb_X11_isCell_0.2.2.2.2.1
theorem dX11_isCell_5 : decode cX11_isCell 5 = .ok (.bipush 64, 2) := zb_X11_isCell_0.2.2.2.2.2.1
theorem dX11_isCell_7 : decode cX11_isCell 7 = .ok (.if_icmp .ge 7, 3) := zb_X11_isCell_0.2.2.2.2.2.2.1
theorem dX11_isCell_10 : decode cX11_isCell 10 = .ok (.iconst 1, 1) := zb_X11_isCell_0.2.2.2.2.2.2.2.1
theorem dX11_isCell_11 : decode cX11_isCell 11 = .ok (.goto 4, 3) := zb_X11_isCell_0.2.2.2.2.2.2.2.2
theorem zb_X11_isMark_0 : (decode cX11_isMark 0 = .ok (.iload_n 0, 1)) ∧ (decode cX11_isMark 1 = .ok (.ifCond .lt 13, 3)) ∧ (decode cX11_isMark 14 = .ok (.iconst 0, 1)) ∧ (decode cX11_isMark 15 = .ok (.ireturn, 1)) ∧ (decode cX11_isMark 4 = .ok (.iload_n 0, 1)) ∧ (decode cX11_isMark 5 = .ok (.bipush 99, 2)) ∧ (decode cX11_isMark 7 = .ok (.if_icmp .gt 7, 3)) ∧ (decode cX11_isMark 10 = .ok (.iconst 1, 1)) ∧ (decode cX11_isMark 11 = .ok (.goto 4, 3)) := by decide +kernel
theorem dX11_isMark_0 : decode cX11_isMark 0 = .ok (.iload_n 0, 1) := zb_X11_isMark_0.1
theorem dX11_isMark_1 : decode cX11_isMark 1 = .ok (.ifCond .lt 13, 3) := zb_X11_isMark_0.2.1
theorem dX11_isMark_14 : decode cX11_isMark 14 = .ok (.iconst 0, 1) := zb_X11_isMark_0.2.2.1
theorem dX11_isMark_15 : decode cX11_isMark 15 = .ok (.ireturn, 1) := zb_X11_isMark_0.2.2.2.1
theorem dX11_isMark_4 : decode cX11_isMark 4 = .ok (.iload_n 0, 1) := zb_X11_isMark_0.2.2.2.2.1
theorem dX11_isMark_5 : decode cX11_isMark 5 = .ok (.bipush 99, 2) := zb_X11_isMark_0.2.2.2.2.2.1
theorem dX11_isMark_7 : decode cX11_isMark 7 = .ok (.if_icmp .gt 7, 3) := zb_X11_isMark_0.2.2.2.2.2.2.1
theorem dX11_isMark_10 : decode cX11_isMark 10 = .ok (.iconst 1, 1) := zb_X11_isMark_0.2.2.2.2.2.2.2.1
theorem dX11_isMark_11 : decode cX11_isMark 11 = .ok (.goto 4, 3) := zb_X11_isMark_0.2.2.2.2.2.2.2.2
theorem zb_X11_isSpan_0 : (decode cX11_isSpan 0 = .ok (.iload_n 0, 1)) ∧ (decode cX11_isSpan 1 = .ok (.ifCond .lt 19, 3)) ∧ (decode cX11_isSpan 20 = .ok (.iconst 0, 1)) ∧ (decode cX11_isSpan 21 = .ok (.ireturn, 1)) ∧ (decode cX11_isSpan 4 = .ok (.iload_n 1, 1)) ∧ (decode cX11_isSpan 5 = .ok (.iload_n 0, 1)) ∧ (decode cX11_isSpan 6 = .ok (.if_icmp .le 14, 3)) ∧ (decode cX11_isSpan 9 = .ok (.iload_n 1, 1)) ∧ (decode cX11_isSpan 10 = .ok (.sipush 240, 3)) ∧ (decode cX11_isSpan 13 = .ok (.if_icmp .gt 7, 3)) ∧ (decode cX11_isSpan 16 = .ok (.iconst 1, 1)) ∧ (decode cX11_isSpan 17 = .ok (.goto 4, 3)) := by decide +kernel
theorem dX11_isSpan_0 : decode cX11_isSpan 0 = .ok (.iload_n 0, 1) := zb_X11_isSpan_0.1
theorem dX11_isSpan_1 : decode cX11_isSpan 1 = .ok (.ifCond .lt 19, 3) := zb_X11_isSpan_0.2.1
theorem dX11_isSpan_20 : decode cX11_isSpan 20 = .ok (.iconst 0, 1) := zb_X11_isSpan_0.2.2.1
theorem dX11_isSpan_21 : decode cX11_isSpan 21 = .ok (.ireturn, 1) := zb_X11_isSpan_0.2.2.2.1
theorem dX11_isSpan_4 : decode cX11_isSpan 4 = .ok (.iload_n 1, 1) := zb_X11_isSpan_0.2.2.2.2.1
theorem dX11_isSpan_5 : decode cX11_isSpan 5 = .ok (.iload_n 0, 1) := zb_X11_isSpan_0.2.2.2.2.2.1
theorem dX11_isSpan_6 : decode cX11_isSpan 6 = .ok (.if_icmp .le 14, 3) := zb_X11_isSpan_0.2.2.2.2.2.2.1
theorem dX11_isSpan_9 : decode cX11_isSpan 9 = .ok (.iload_n 1, 1) := zb_X11_isSpan_0.2.2.2.2.2.2.2.1
theorem dX11_isSpan_10 : decode cX11_isSpan 10 = .ok (.sipush 240, 3) := zb_X11_isSpan_0.2.2.2.2.2.2.2.2.1
theorem dX11_isSpan_13 : decode cX11_isSpan 13 = .ok (.if_icmp .gt 7, 3) := zb_X11_isSpan_0.2.2.2.2.2.2.2.2.2.1
theorem dX11_isSpan_16 : decode cX11_isSpan 16 = .ok (.iconst 1, 1) := zb_X11_isSpan_0.2.2.2.2.2.2.2.2.2.2.1
theorem dX11_isSpan_17 : decode cX11_isSpan 17 = .ok (.goto 4, 3) := zb_X11_isSpan_0.2.2.2.2.2.2.2.2.2.2.2
theorem zb_X11_isWind_0 : (decode cX11_isWind 0 = .ok (.iload_n 0, 1)) ∧ (decode cX11_isWind 1 = .ok (.ifCond .lt 10, 3)) ∧ (decode cX11_isWind 11 = .ok (.iconst 0, 1)) ∧ (decode cX11_isWind 12 = .ok (.ireturn, 1)) ∧ (decode cX11_isWind 4 = .ok (.iload_n 0, 1)) ∧ (decode cX11_isWind 5 = .ok (.sipush 4444, 3)) ∧ (decode cX11_isWind 8 = .ok (.if_icmp .le 5, 3)) ∧ (decode cX11_isWind 13 = .ok (.iload_n 0, 1)) ∧ (decode cX11_isWind 14 = .ok (.sipush 1000, 3)) ∧ (decode cX11_isWind 17 = .ok (.idiv, 1)) ∧ (decode cX11_isWind 18 = .ok (.istore_n 1, 1)) ∧ (decode cX11_isWind 19 = .ok (.iload_n 0, 1)) := by decide +kernel
theorem dX11_isWind_0 : decode cX11_isWind 0 = .ok (.iload_n 0, 1) := zb_X11_isWind_0.1
theorem dX11_isWind_1 : decode cX11_isWind 1 = .ok (.ifCond .lt 10, 3) := zb_X11_isWind_0.2.1
theorem dX11_isWind_11 : decode cX11_isWind 11 = .ok (.iconst 0, 1) := zb_X11_isWind_0.2.2.1
theorem dX11_isWind_12 : decode cX11_isWind 12 = .ok (.ireturn, 1) := zb_X11_isWind_0.2.2.2.1
theorem dX11_isWind_4 : decode cX11_isWind 4 = .ok (.iload_n 0, 1) := zb_X11_isWind_0.2.2.2.2.1
theorem dX11_isWind_5 : decode cX11_isWind 5 = .ok (.sipush 4444, 3) := zb_X11_isWind_0.2.2.2.2.2.1
theorem dX11_isWind_8 : decode cX11_isWind 8 = .ok (.if_icmp .le 5, 3) := zb_X11_isWind_0.2.2.2.2.2.2.1
theorem dX11_isWind_13 : decode cX11_isWind 13 = .ok (.iload_n 0, 1) := zb_X11_isWind_0.2.2.2.2.2.2.2.1
theorem dX11_isWind_14 : decode cX11_isWind 14 = .ok (.sipush 1000, 3) := zb_X11_isWind_0.2.2.2.2.2.2.2.2.1
theorem dX11_isWind_17 : decode cX11_isWind 17 = .ok (.idiv, 1) := zb_X11_isWind_0.2.2.2.2.2.2.2.2.2.1
theorem dX11_isWind_18 : decode cX11_isWind 18 = .ok (.istore_n 1, 1) := zb_X11_isWind_0.2.2.2.2.2.2.2.2.2.2.1
theorem dX11_isWind_19 : decode cX11_isWind 19 = .ok (.iload_n 0, 1) := zb_X11_isWind_0.2.2.2.2.2.2.2.2.2.2.2
theorem zb_X11_isWind_20 : (decode cX11_isWind 20 = .ok (.bipush 100, 2)) ∧ (decode cX11_isWind 22 = .ok (.idiv, 1)) ∧ (decode cX11_isWind 23 = .ok (.bipush 10, 2)) ∧ (decode cX11_isWind 25 = .ok (.irem, 1)) ∧ (decode cX11_isWind 26 = .ok (.istore_n 2, 1)) ∧ (decode cX11_isWind 27 = .ok (.iload_n 0, 1)) ∧ (decode cX11_isWind 28 = .ok (.bipush 10, 2)) ∧ (decode cX11_isWind 30 = .ok (.idiv, 1)) ∧ (decode cX11_isWind 31 = .ok (.bipush 10, 2)) ∧ (decode cX11_isWind 33 = .ok (.irem, 1)) ∧ (decode cX11_isWind 34 = .ok (.istore_n 3, 1)) ∧ (decode cX11_isWind 35 = .ok (.iload_n 0, 1)) := by decide +kernel
theorem dX11_isWind_20 : decode cX11_isWind 20 = .ok (.bipush 100, 2) := zb_X11_isWind_20.1
theorem dX11_isWind_22 : decode cX11_isWind 22 = .ok (.idiv, 1) := zb_X11_isWind_20.2.1
theorem dX11_isWind_23 : decode cX11_isWind 23 = .ok (.bipush 10, 2) := zb_X11_isWind_20.2.2.1
theorem dX11_isWind_25 : decode cX11_isWind 25 = .ok (.irem, 1) := zb_X11_isWind_20.2.2.2.1
theorem dX11_isWind_26 : decode cX11_isWind 26 = .ok (.istore_n 2, 1) := zb_X11_isWind_20.2.2.2.2.1
theorem dX11_isWind_27 : decode cX11_isWind 27 = .ok (.iload_n 0, 1) := zb_X11_isWind_20.2.2.2.2.2.1
theorem dX11_isWind_28 : decode cX11_isWind 28 = .ok (.bipush 10, 2) := zb_X11_isWind_20.2.2.2.2.2.2.1
theorem dX11_isWind_30 : decode cX11_isWind 30 = .ok (.idiv, 1) := zb_X11_isWind_20.2.2.2.2.2.2.2.1
theorem dX11_isWind_31 : decode cX11_isWind 31 = .ok (.bipush 10, 2) := zb_X11_isWind_20.2.2.2.2.2.2.2.2.1
theorem dX11_isWind_33 : decode cX11_isWind 33 = .ok (.irem, 1) := zb_X11_isWind_20.2.2.2.2.2.2.2.2.2.1
theorem dX11_isWind_34 : decode cX11_isWind 34 = .ok (.istore_n 3, 1) := zb_X11_isWind_20.2.2.2.2.2.2.2.2.2.2.1
theorem dX11_isWind_35 : decode cX11_isWind 35 = .ok (.iload_n 0, 1) := zb_X11_isWind_20.2.2.2.2.2.2.2.2.2.2.2
theorem zb_X11_isWind_36 : (decode cX11_isWind 36 = .ok (.bipush 10, 2)) ∧ (decode cX11_isWind 38 = .ok (.irem, 1)) ∧ (decode cX11_isWind 39 = .ok (.istore 4, 2)) ∧ (decode cX11_isWind 41 = .ok (.iload_n 2, 1)) ∧ (decode cX11_isWind 42 = .ok (.iconst 4, 1)) ∧ (decode cX11_isWind 43 = .ok (.if_icmp .gt 29, 3)) ∧ (decode cX11_isWind 72 = .ok (.iconst 0, 1)) ∧ (decode cX11_isWind 73 = .ok (.ireturn, 1)) ∧ (decode cX11_isWind 46 = .ok (.iload_n 3, 1)) ∧ (decode cX11_isWind 47 = .ok (.iconst 4, 1)) ∧ (decode cX11_isWind 48 = .ok (.if_icmp .gt 24, 3)) ∧ (decode cX11_isWind 51 = .ok (.iload 4, 2)) := by decide +kernel
theorem dX11_isWind_36 : decode cX11_isWind 36 = .ok (.bipush 10, 2) := zb_X11_isWind_36.1
theorem dX11_isWind_38 : decode cX11_isWind 38 = .ok (.irem, 1) := zb_X11_isWind_36.2.1
theorem dX11_isWind_39 : decode cX11_isWind 39 = .ok (.istore 4, 2) := zb_X11_isWind_36.2.2.1
theorem dX11_isWind_41 : decode cX11_isWind 41 = .ok (.iload_n 2, 1) := zb_X11_isWind_36.2.2.2.1
theorem dX11_isWind_42 : decode cX11_isWind 42 = .ok (.iconst 4, 1) := zb_X11_isWind_36.2.2.2.2.1
theorem dX11_isWind_43 : decode cX11_isWind 43 = .ok (.if_icmp .gt 29, 3) := zb_X11_isWind_36.2.2.2.2.2.1
theorem dX11_isWind_72 : decode cX11_isWind 72 = .ok (.iconst 0, 1) := zb_X11_isWind_36.2.2.2.2.2.2.1
theorem dX11_isWind_73 : decode cX11_isWind 73 = .ok (.ireturn, 1) := zb_X11_isWind_36.2.2.2.2.2.2.2.1
theorem dX11_isWind_46 : decode cX11_isWind 46 = .ok (.iload_n 3, 1) := zb_X11_isWind_36.2.2.2.2.2.2.2.2.1
theorem dX11_isWind_47 : decode cX11_isWind 47 = .ok (.iconst 4, 1) := zb_X11_isWind_36.2.2.2.2.2.2.2.2.2.1
theorem dX11_isWind_48 : decode cX11_isWind 48 = .ok (.if_icmp .gt 24, 3) := zb_X11_isWind_36.2.2.2.2.2.2.2.2.2.2.1
theorem dX11_isWind_51 : decode cX11_isWind 51 = .ok (.iload 4, 2) := zb_X11_isWind_36.2.2.2.2.2.2.2.2.2.2.2
theorem zb_X11_isWind_53 : (decode cX11_isWind 53 = .ok (.iconst 4, 1)) ∧ (decode cX11_isWind 54 = .ok (.if_icmp .gt 18, 3)) ∧ (decode cX11_isWind 57 = .ok (.iload_n 1, 1)) ∧ (decode cX11_isWind 58 = .ok (.iload_n 2, 1)) ∧ (decode cX11_isWind 59 = .ok (.if_icmp .gt 13, 3)) ∧ (decode cX11_isWind 62 = .ok (.iload_n 3, 1)) ∧ (decode cX11_isWind 63 = .ok (.iload 4, 2)) ∧ (decode cX11_isWind 65 = .ok (.if_icmp .gt 7, 3)) ∧ (decode cX11_isWind 68 = .ok (.iconst 1, 1)) ∧ (decode cX11_isWind 69 = .ok (.goto 4, 3)) := by decide +kernel
theorem dX11_isWind_53 : decode cX11_isWind 53 = .ok (.iconst 4, 1) := zb_X11_isWind_53.1
theorem dX11_isWind_54 : decode cX11_isWind 54 = .ok (.if_icmp .gt 18, 3) := zb_X11_isWind_53.2.1
theorem dX11_isWind_57 : decode cX11_isWind 57 = .ok (.iload_n 1, 1) := zb_X11_isWind_53.2.2.1
theorem dX11_isWind_58 : decode cX11_isWind 58 = .ok (.iload_n 2, 1) := zb_X11_isWind_53.2.2.2.1
theorem dX11_isWind_59 : decode cX11_isWind 59 = .ok (.if_icmp .gt 13, 3) := zb_X11_isWind_53.2.2.2.2.1
theorem dX11_isWind_62 : decode cX11_isWind 62 = .ok (.iload_n 3, 1) := zb_X11_isWind_53.2.2.2.2.2.1
theorem dX11_isWind_63 : decode cX11_isWind 63 = .ok (.iload 4, 2) := zb_X11_isWind_53.2.2.2.2.2.2.1
theorem dX11_isWind_65 : decode cX11_isWind 65 = .ok (.if_icmp .gt 7, 3) := zb_X11_isWind_53.2.2.2.2.2.2.2.1
theorem dX11_isWind_68 : decode cX11_isWind 68 = .ok (.iconst 1, 1) := zb_X11_isWind_53.2.2.2.2.2.2.2.2.1
theorem dX11_isWind_69 : decode cX11_isWind 69 = .ok (.goto 4, 3) := zb_X11_isWind_53.2.2.2.2.2.2.2.2.2
theorem zb_X11_has_0 : (decode cX11_has 0 = .ok (.lload_n 0, 1)) ∧ (decode cX11_has 1 = .ok (.iload_n 2, 1)) ∧ (decode cX11_has 2 = .ok (.lushr, 1)) ∧ (decode cX11_has 3 = .ok (.lconst 1, 1)) ∧ (decode cX11_has 4 = .ok (.land, 1)) ∧ (decode cX11_has 5 = .ok (.lconst 0, 1)) ∧ (decode cX11_has 6 = .ok (.lcmp, 1)) ∧ (decode cX11_has 7 = .ok (.ifCond .eq 7, 3)) ∧ (decode cX11_has 14 = .ok (.iconst 0, 1)) ∧ (decode cX11_has 15 = .ok (.ireturn, 1)) ∧ (decode cX11_has 10 = .ok (.iconst 1, 1)) ∧ (decode cX11_has 11 = .ok (.goto 4, 3)) := by decide +kernel
theorem dX11_has_0 : decode cX11_has 0 = .ok (.lload_n 0, 1) := zb_X11_has_0.1
theorem dX11_has_1 : decode cX11_has 1 = .ok (.iload_n 2, 1) := zb_X11_has_0.2.1
theorem dX11_has_2 : decode cX11_has 2 = .ok (.lushr, 1) := zb_X11_has_0.2.2.1
theorem dX11_has_3 : decode cX11_has 3 = .ok (.lconst 1, 1) := zb_X11_has_0.2.2.2.1
theorem dX11_has_4 : decode cX11_has 4 = .ok (.land, 1) := zb_X11_has_0.2.2.2.2.1
theorem dX11_has_5 : decode cX11_has 5 = .ok (.lconst 0, 1) := zb_X11_has_0.2.2.2.2.2.1
theorem dX11_has_6 : decode cX11_has 6 = .ok (.lcmp, 1) := zb_X11_has_0.2.2.2.2.2.2.1
theorem dX11_has_7 : decode cX11_has 7 = .ok (.ifCond .eq 7, 3) := zb_X11_has_0.2.2.2.2.2.2.2.1
theorem dX11_has_14 : decode cX11_has 14 = .ok (.iconst 0, 1) := zb_X11_has_0.2.2.2.2.2.2.2.2.1
theorem dX11_has_15 : decode cX11_has 15 = .ok (.ireturn, 1) := zb_X11_has_0.2.2.2.2.2.2.2.2.2.1
theorem dX11_has_10 : decode cX11_has 10 = .ok (.iconst 1, 1) := zb_X11_has_0.2.2.2.2.2.2.2.2.2.2.1
theorem dX11_has_11 : decode cX11_has 11 = .ok (.goto 4, 3) := zb_X11_has_0.2.2.2.2.2.2.2.2.2.2.2
theorem zb_X11_apart_0 : (decode cX11_apart 0 = .ok (.iload_n 0, 1)) ∧ (decode cX11_apart 1 = .ok (.bipush 8, 2)) ∧ (decode cX11_apart 3 = .ok (.irem, 1)) ∧ (decode cX11_apart 4 = .ok (.iload_n 1, 1)) ∧ (decode cX11_apart 5 = .ok (.bipush 8, 2)) ∧ (decode cX11_apart 7 = .ok (.irem, 1)) ∧ (decode cX11_apart 8 = .ok (.isub, 1)) ∧ (decode cX11_apart 9 = .ok (.invokestatic 395, 3)) ∧ (decode cX11_apart 12 = .ok (.istore_n 2, 1)) ∧ (decode cX11_apart 13 = .ok (.iload_n 0, 1)) ∧ (decode cX11_apart 14 = .ok (.bipush 8, 2)) := by decide +kernel
theorem dX11_apart_0 : decode cX11_apart 0 = .ok (.iload_n 0, 1) := zb_X11_apart_0.1
theorem dX11_apart_1 : decode cX11_apart 1 = .ok (.bipush 8, 2) := zb_X11_apart_0.2.1
theorem dX11_apart_3 : decode cX11_apart 3 = .ok (.irem, 1) := zb_X11_apart_0.2.2.1
theorem dX11_apart_4 : decode cX11_apart 4 = .ok (.iload_n 1, 1) := zb_X11_apart_0.2.2.2.1
theorem dX11_apart_5 : decode cX11_apart 5 = .ok (.bipush 8, 2) := zb_X11_apart_0.2.2.2.2.1
theorem dX11_apart_7 : decode cX11_apart 7 = .ok (.irem, 1) := zb_X11_apart_0.2.2.2.2.2.1
theorem dX11_apart_8 : decode cX11_apart 8 = .ok (.isub, 1) := zb_X11_apart_0.2.2.2.2.2.2.1
theorem dX11_apart_9 : decode cX11_apart 9 = .ok (.invokestatic 395, 3) := zb_X11_apart_0.2.2.2.2.2.2.2.1
theorem dX11_apart_12 : decode cX11_apart 12 = .ok (.istore_n 2, 1) := zb_X11_apart_0.2.2.2.2.2.2.2.2.1
theorem dX11_apart_13 : decode cX11_apart 13 = .ok (.iload_n 0, 1) := zb_X11_apart_0.2.2.2.2.2.2.2.2.2.1
theorem dX11_apart_14 : decode cX11_apart 14 = .ok (.bipush 8, 2) := zb_X11_apart_0.2.2.2.2.2.2.2.2.2.2
theorem zb_X11_apart_16 : (decode cX11_apart 16 = .ok (.idiv, 1)) ∧ (decode cX11_apart 17 = .ok (.iload_n 1, 1)) ∧ (decode cX11_apart 18 = .ok (.bipush 8, 2)) ∧ (decode cX11_apart 20 = .ok (.idiv, 1)) ∧ (decode cX11_apart 21 = .ok (.isub, 1)) ∧ (decode cX11_apart 22 = .ok (.invokestatic 395, 3)) ∧ (decode cX11_apart 25 = .ok (.istore_n 3, 1)) ∧ (decode cX11_apart 26 = .ok (.iload_n 2, 1)) ∧ (decode cX11_apart 27 = .ok (.iload_n 3, 1)) ∧ (decode cX11_apart 28 = .ok (.invokestatic 400, 3)) ∧ (decode cX11_apart 31 = .ok (.ireturn, 1)) := by decide +kernel
theorem dX11_apart_16 : decode cX11_apart 16 = .ok (.idiv, 1) := zb_X11_apart_16.1
theorem dX11_apart_17 : decode cX11_apart 17 = .ok (.iload_n 1, 1) := zb_X11_apart_16.2.1
theorem dX11_apart_18 : decode cX11_apart 18 = .ok (.bipush 8, 2) := zb_X11_apart_16.2.2.1
theorem dX11_apart_20 : decode cX11_apart 20 = .ok (.idiv, 1) := zb_X11_apart_16.2.2.2.1
theorem dX11_apart_21 : decode cX11_apart 21 = .ok (.isub, 1) := zb_X11_apart_16.2.2.2.2.1
theorem dX11_apart_22 : decode cX11_apart 22 = .ok (.invokestatic 395, 3) := zb_X11_apart_16.2.2.2.2.2.1
theorem dX11_apart_25 : decode cX11_apart 25 = .ok (.istore_n 3, 1) := zb_X11_apart_16.2.2.2.2.2.2.1
theorem dX11_apart_26 : decode cX11_apart 26 = .ok (.iload_n 2, 1) := zb_X11_apart_16.2.2.2.2.2.2.2.1
theorem dX11_apart_27 : decode cX11_apart 27 = .ok (.iload_n 3, 1) := zb_X11_apart_16.2.2.2.2.2.2.2.2.1
theorem dX11_apart_28 : decode cX11_apart 28 = .ok (.invokestatic 400, 3) := zb_X11_apart_16.2.2.2.2.2.2.2.2.2.1
theorem dX11_apart_31 : decode cX11_apart 31 = .ok (.ireturn, 1) := zb_X11_apart_16.2.2.2.2.2.2.2.2.2.2
theorem zb_X11_byColumns_0 : (decode cX11_byColumns 0 = .ok (.ldc2_w 406, 3)) ∧ (decode cX11_byColumns 3 = .ok (.lstore_n 3, 1)) ∧ (decode cX11_byColumns 4 = .ok (.iload_n 2, 1)) ∧ (decode cX11_byColumns 5 = .ok (.ifCond .lt 16, 3)) ∧ (decode cX11_byColumns 21 = .ok (.lload_n 0, 1)) ∧ (decode cX11_byColumns 22 = .ok (.lload_n 3, 1)) ∧ (decode cX11_byColumns 23 = .ok (.sipush 255, 3)) ∧ (decode cX11_byColumns 26 = .ok (.iload_n 2, 1)) ∧ (decode cX11_byColumns 27 = .ok (.ineg, 1)) ∧ (decode cX11_byColumns 28 = .ok (.ishl, 1)) := by decide +kernel
theorem dX11_byColumns_0 : decode cX11_byColumns 0 = .ok (.ldc2_w 406, 3) := zb_X11_byColumns_0.1
theorem dX11_byColumns_3 : decode cX11_byColumns 3 = .ok (.lstore_n 3, 1) := zb_X11_byColumns_0.2.1
theorem dX11_byColumns_4 : decode cX11_byColumns 4 = .ok (.iload_n 2, 1) := zb_X11_byColumns_0.2.2.1
theorem dX11_byColumns_5 : decode cX11_byColumns 5 = .ok (.ifCond .lt 16, 3) := zb_X11_byColumns_0.2.2.2.1
theorem dX11_byColumns_21 : decode cX11_byColumns 21 = .ok (.lload_n 0, 1) := zb_X11_byColumns_0.2.2.2.2.1
theorem dX11_byColumns_22 : decode cX11_byColumns 22 = .ok (.lload_n 3, 1) := zb_X11_byColumns_0.2.2.2.2.2.1
theorem dX11_byColumns_23 : decode cX11_byColumns 23 = .ok (.sipush 255, 3) := zb_X11_byColumns_0.2.2.2.2.2.2.1
theorem dX11_byColumns_26 : decode cX11_byColumns 26 = .ok (.iload_n 2, 1) := zb_X11_byColumns_0.2.2.2.2.2.2.2.1
theorem dX11_byColumns_27 : decode cX11_byColumns 27 = .ok (.ineg, 1) := zb_X11_byColumns_0.2.2.2.2.2.2.2.2.1
theorem dX11_byColumns_28 : decode cX11_byColumns 28 = .ok (.ishl, 1) := zb_X11_byColumns_0.2.2.2.2.2.2.2.2.2
theorem zb_X11_byColumns_29 : (decode cX11_byColumns 29 = .ok (.sipush 255, 3)) ∧ (decode cX11_byColumns 32 = .ok (.iand, 1)) ∧ (decode cX11_byColumns 33 = .ok (.i2l, 1)) ∧ (decode cX11_byColumns 34 = .ok (.lmul, 1)) ∧ (decode cX11_byColumns 35 = .ok (.land, 1)) ∧ (decode cX11_byColumns 36 = .ok (.iload_n 2, 1)) ∧ (decode cX11_byColumns 37 = .ok (.ineg, 1)) ∧ (decode cX11_byColumns 38 = .ok (.lushr, 1)) ∧ (decode cX11_byColumns 39 = .ok (.lreturn, 1)) ∧ (decode cX11_byColumns 8 = .ok (.lload_n 0, 1)) := by decide +kernel
theorem dX11_byColumns_29 : decode cX11_byColumns 29 = .ok (.sipush 255, 3) := zb_X11_byColumns_29.1
theorem dX11_byColumns_32 : decode cX11_byColumns 32 = .ok (.iand, 1) := zb_X11_byColumns_29.2.1
theorem dX11_byColumns_33 : decode cX11_byColumns 33 = .ok (.i2l, 1) := zb_X11_byColumns_29.2.2.1
theorem dX11_byColumns_34 : decode cX11_byColumns 34 = .ok (.lmul, 1) := zb_X11_byColumns_29.2.2.2.1
theorem dX11_byColumns_35 : decode cX11_byColumns 35 = .ok (.land, 1) := zb_X11_byColumns_29.2.2.2.2.1
theorem dX11_byColumns_36 : decode cX11_byColumns 36 = .ok (.iload_n 2, 1) := zb_X11_byColumns_29.2.2.2.2.2.1
theorem dX11_byColumns_37 : decode cX11_byColumns 37 = .ok (.ineg, 1) := zb_X11_byColumns_29.2.2.2.2.2.2.1
theorem dX11_byColumns_38 : decode cX11_byColumns 38 = .ok (.lushr, 1) := zb_X11_byColumns_29.2.2.2.2.2.2.2.1
theorem dX11_byColumns_39 : decode cX11_byColumns 39 = .ok (.lreturn, 1) := zb_X11_byColumns_29.2.2.2.2.2.2.2.2.1
theorem dX11_byColumns_8 : decode cX11_byColumns 8 = .ok (.lload_n 0, 1) := zb_X11_byColumns_29.2.2.2.2.2.2.2.2.2
theorem zb_X11_byColumns_9 : (decode cX11_byColumns 9 = .ok (.lload_n 3, 1)) ∧ (decode cX11_byColumns 10 = .ok (.sipush 255, 3)) ∧ (decode cX11_byColumns 13 = .ok (.iload_n 2, 1)) ∧ (decode cX11_byColumns 14 = .ok (.ishr, 1)) ∧ (decode cX11_byColumns 15 = .ok (.i2l, 1)) ∧ (decode cX11_byColumns 16 = .ok (.lmul, 1)) ∧ (decode cX11_byColumns 17 = .ok (.land, 1)) ∧ (decode cX11_byColumns 18 = .ok (.iload_n 2, 1)) ∧ (decode cX11_byColumns 19 = .ok (.lshl, 1)) ∧ (decode cX11_byColumns 20 = .ok (.lreturn, 1)) := by decide +kernel
theorem dX11_byColumns_9 : decode cX11_byColumns 9 = .ok (.lload_n 3, 1) := zb_X11_byColumns_9.1
theorem dX11_byColumns_10 : decode cX11_byColumns 10 = .ok (.sipush 255, 3) := zb_X11_byColumns_9.2.1
theorem dX11_byColumns_13 : decode cX11_byColumns 13 = .ok (.iload_n 2, 1) := zb_X11_byColumns_9.2.2.1
theorem dX11_byColumns_14 : decode cX11_byColumns 14 = .ok (.ishr, 1) := zb_X11_byColumns_9.2.2.2.1
theorem dX11_byColumns_15 : decode cX11_byColumns 15 = .ok (.i2l, 1) := zb_X11_byColumns_9.2.2.2.2.1
theorem dX11_byColumns_16 : decode cX11_byColumns 16 = .ok (.lmul, 1) := zb_X11_byColumns_9.2.2.2.2.2.1
theorem dX11_byColumns_17 : decode cX11_byColumns 17 = .ok (.land, 1) := zb_X11_byColumns_9.2.2.2.2.2.2.1
theorem dX11_byColumns_18 : decode cX11_byColumns 18 = .ok (.iload_n 2, 1) := zb_X11_byColumns_9.2.2.2.2.2.2.2.1
theorem dX11_byColumns_19 : decode cX11_byColumns 19 = .ok (.lshl, 1) := zb_X11_byColumns_9.2.2.2.2.2.2.2.2.1
theorem dX11_byColumns_20 : decode cX11_byColumns 20 = .ok (.lreturn, 1) := zb_X11_byColumns_9.2.2.2.2.2.2.2.2.2
theorem zb_X11_byRows_0 : (decode cX11_byRows 0 = .ok (.iload_n 2, 1)) ∧ (decode cX11_byRows 1 = .ok (.ifCond .lt 12, 3)) ∧ (decode cX11_byRows 13 = .ok (.lload_n 0, 1)) ∧ (decode cX11_byRows 14 = .ok (.bipush 8, 2)) ∧ (decode cX11_byRows 16 = .ok (.iload_n 2, 1)) ∧ (decode cX11_byRows 17 = .ok (.ineg, 1)) ∧ (decode cX11_byRows 18 = .ok (.imul, 1)) ∧ (decode cX11_byRows 19 = .ok (.lushr, 1)) := by decide +kernel
theorem dX11_byRows_0 : decode cX11_byRows 0 = .ok (.iload_n 2, 1) := zb_X11_byRows_0.1
theorem dX11_byRows_1 : decode cX11_byRows 1 = .ok (.ifCond .lt 12, 3) := zb_X11_byRows_0.2.1
theorem dX11_byRows_13 : decode cX11_byRows 13 = .ok (.lload_n 0, 1) := zb_X11_byRows_0.2.2.1
theorem dX11_byRows_14 : decode cX11_byRows 14 = .ok (.bipush 8, 2) := zb_X11_byRows_0.2.2.2.1
theorem dX11_byRows_16 : decode cX11_byRows 16 = .ok (.iload_n 2, 1) := zb_X11_byRows_0.2.2.2.2.1
theorem dX11_byRows_17 : decode cX11_byRows 17 = .ok (.ineg, 1) := zb_X11_byRows_0.2.2.2.2.2.1
theorem dX11_byRows_18 : decode cX11_byRows 18 = .ok (.imul, 1) := zb_X11_byRows_0.2.2.2.2.2.2.1
theorem dX11_byRows_19 : decode cX11_byRows 19 = .ok (.lushr, 1) := zb_X11_byRows_0.2.2.2.2.2.2.2
theorem zb_X11_byRows_20 : (decode cX11_byRows 20 = .ok (.lreturn, 1)) ∧ (decode cX11_byRows 4 = .ok (.lload_n 0, 1)) ∧ (decode cX11_byRows 5 = .ok (.bipush 8, 2)) ∧ (decode cX11_byRows 7 = .ok (.iload_n 2, 1)) ∧ (decode cX11_byRows 8 = .ok (.imul, 1)) ∧ (decode cX11_byRows 9 = .ok (.lshl, 1)) ∧ (decode cX11_byRows 10 = .ok (.goto 10, 3)) := by decide +kernel
theorem dX11_byRows_20 : decode cX11_byRows 20 = .ok (.lreturn, 1) := zb_X11_byRows_20.1
theorem dX11_byRows_4 : decode cX11_byRows 4 = .ok (.lload_n 0, 1) := zb_X11_byRows_20.2.1
theorem dX11_byRows_5 : decode cX11_byRows 5 = .ok (.bipush 8, 2) := zb_X11_byRows_20.2.2.1
theorem dX11_byRows_7 : decode cX11_byRows 7 = .ok (.iload_n 2, 1) := zb_X11_byRows_20.2.2.2.1
theorem dX11_byRows_8 : decode cX11_byRows 8 = .ok (.imul, 1) := zb_X11_byRows_20.2.2.2.2.1
theorem dX11_byRows_9 : decode cX11_byRows 9 = .ok (.lshl, 1) := zb_X11_byRows_20.2.2.2.2.2.1
theorem dX11_byRows_10 : decode cX11_byRows 10 = .ok (.goto 10, 3) := zb_X11_byRows_20.2.2.2.2.2.2
theorem zb_X11_nearest_0 : (decode cX11_nearest 0 = .ok (.bipush 99, 2)) ∧ (decode cX11_nearest 2 = .ok (.istore_n 3, 1)) ∧ (decode cX11_nearest 3 = .ok (.iconst 0, 1)) ∧ (decode cX11_nearest 4 = .ok (.istore 4, 2)) ∧ (decode cX11_nearest 6 = .ok (.iload 4, 2)) ∧ (decode cX11_nearest 8 = .ok (.bipush 64, 2)) ∧ (decode cX11_nearest 10 = .ok (.if_icmp .ge 29, 3)) ∧ (decode cX11_nearest 39 = .ok (.iload_n 3, 1)) ∧ (decode cX11_nearest 40 = .ok (.ireturn, 1)) ∧ (decode cX11_nearest 13 = .ok (.lload_n 1, 1)) ∧ (decode cX11_nearest 14 = .ok (.iload 4, 2)) := by decide +kernel
theorem dX11_nearest_0 : decode cX11_nearest 0 = .ok (.bipush 99, 2) := zb_X11_nearest_0.1
theorem dX11_nearest_2 : decode cX11_nearest 2 = .ok (.istore_n 3, 1) := zb_X11_nearest_0.2.1
theorem dX11_nearest_3 : decode cX11_nearest 3 = .ok (.iconst 0, 1) := zb_X11_nearest_0.2.2.1
theorem dX11_nearest_4 : decode cX11_nearest 4 = .ok (.istore 4, 2) := zb_X11_nearest_0.2.2.2.1
theorem dX11_nearest_6 : decode cX11_nearest 6 = .ok (.iload 4, 2) := zb_X11_nearest_0.2.2.2.2.1
theorem dX11_nearest_8 : decode cX11_nearest 8 = .ok (.bipush 64, 2) := zb_X11_nearest_0.2.2.2.2.2.1
theorem dX11_nearest_10 : decode cX11_nearest 10 = .ok (.if_icmp .ge 29, 3) := zb_X11_nearest_0.2.2.2.2.2.2.1
theorem dX11_nearest_39 : decode cX11_nearest 39 = .ok (.iload_n 3, 1) := zb_X11_nearest_0.2.2.2.2.2.2.2.1
theorem dX11_nearest_40 : decode cX11_nearest 40 = .ok (.ireturn, 1) := zb_X11_nearest_0.2.2.2.2.2.2.2.2.1
theorem dX11_nearest_13 : decode cX11_nearest 13 = .ok (.lload_n 1, 1) := zb_X11_nearest_0.2.2.2.2.2.2.2.2.2.1
theorem dX11_nearest_14 : decode cX11_nearest 14 = .ok (.iload 4, 2) := zb_X11_nearest_0.2.2.2.2.2.2.2.2.2.2
theorem zb_X11_nearest_16 : (decode cX11_nearest 16 = .ok (.invokestatic 317, 3)) ∧ (decode cX11_nearest 19 = .ok (.ifCond .eq 14, 3)) ∧ (decode cX11_nearest 22 = .ok (.iload_n 3, 1)) ∧ (decode cX11_nearest 23 = .ok (.iload_n 0, 1)) ∧ (decode cX11_nearest 24 = .ok (.iload 4, 2)) ∧ (decode cX11_nearest 26 = .ok (.invokestatic 256, 3)) ∧ (decode cX11_nearest 29 = .ok (.invokestatic 403, 3)) ∧ (decode cX11_nearest 32 = .ok (.istore_n 3, 1)) ∧ (decode cX11_nearest 33 = .ok (.iinc 4 1, 3)) ∧ (decode cX11_nearest 36 = .ok (.goto (-30), 3)) := by decide +kernel
theorem dX11_nearest_16 : decode cX11_nearest 16 = .ok (.invokestatic 317, 3) := zb_X11_nearest_16.1
theorem dX11_nearest_19 : decode cX11_nearest 19 = .ok (.ifCond .eq 14, 3) := zb_X11_nearest_16.2.1
theorem dX11_nearest_22 : decode cX11_nearest 22 = .ok (.iload_n 3, 1) := zb_X11_nearest_16.2.2.1
theorem dX11_nearest_23 : decode cX11_nearest 23 = .ok (.iload_n 0, 1) := zb_X11_nearest_16.2.2.2.1
theorem dX11_nearest_24 : decode cX11_nearest 24 = .ok (.iload 4, 2) := zb_X11_nearest_16.2.2.2.2.1
theorem dX11_nearest_26 : decode cX11_nearest 26 = .ok (.invokestatic 256, 3) := zb_X11_nearest_16.2.2.2.2.2.1
theorem dX11_nearest_29 : decode cX11_nearest 29 = .ok (.invokestatic 403, 3) := zb_X11_nearest_16.2.2.2.2.2.2.1
theorem dX11_nearest_32 : decode cX11_nearest 32 = .ok (.istore_n 3, 1) := zb_X11_nearest_16.2.2.2.2.2.2.2.1
theorem dX11_nearest_33 : decode cX11_nearest 33 = .ok (.iinc 4 1, 3) := zb_X11_nearest_16.2.2.2.2.2.2.2.2.1
theorem dX11_nearest_36 : decode cX11_nearest 36 = .ok (.goto (-30), 3) := zb_X11_nearest_16.2.2.2.2.2.2.2.2.2
theorem zb_X4_digit_0 : (decode cX4_digit 0 = .ok (.lload_n 0, 1)) ∧ (decode cX4_digit 1 = .ok (.iconst 4, 1)) ∧ (decode cX4_digit 2 = .ok (.iload_n 2, 1)) ∧ (decode cX4_digit 3 = .ok (.imul, 1)) ∧ (decode cX4_digit 4 = .ok (.lushr, 1)) ∧ (decode cX4_digit 5 = .ok (.ldc2_w 69, 3)) ∧ (decode cX4_digit 8 = .ok (.land, 1)) ∧ (decode cX4_digit 9 = .ok (.l2i, 1)) ∧ (decode cX4_digit 10 = .ok (.ireturn, 1)) := by decide +kernel
theorem dX4_digit_0 : decode cX4_digit 0 = .ok (.lload_n 0, 1) := zb_X4_digit_0.1
theorem dX4_digit_1 : decode cX4_digit 1 = .ok (.iconst 4, 1) := zb_X4_digit_0.2.1
theorem dX4_digit_2 : decode cX4_digit 2 = .ok (.iload_n 2, 1) := zb_X4_digit_0.2.2.1
theorem dX4_digit_3 : decode cX4_digit 3 = .ok (.imul, 1) := zb_X4_digit_0.2.2.2.1
theorem dX4_digit_4 : decode cX4_digit 4 = .ok (.lushr, 1) := zb_X4_digit_0.2.2.2.2.1
theorem dX4_digit_5 : decode cX4_digit 5 = .ok (.ldc2_w 69, 3) := zb_X4_digit_0.2.2.2.2.2.1
theorem dX4_digit_8 : decode cX4_digit 8 = .ok (.land, 1) := zb_X4_digit_0.2.2.2.2.2.2.1
theorem dX4_digit_9 : decode cX4_digit 9 = .ok (.l2i, 1) := zb_X4_digit_0.2.2.2.2.2.2.2.1
theorem dX4_digit_10 : decode cX4_digit 10 = .ok (.ireturn, 1) := zb_X4_digit_0.2.2.2.2.2.2.2.2
theorem zb_X9_truth_0 : (decode cX9_truth 0 = .ok (.iload_n 0, 1)) ∧ (decode cX9_truth 1 = .ok (.ifCond .eq 7, 3)) ∧ (decode cX9_truth 8 = .ok (.iconst 0, 1)) ∧ (decode cX9_truth 9 = .ok (.ireturn, 1)) ∧ (decode cX9_truth 4 = .ok (.iconst 1, 1)) ∧ (decode cX9_truth 5 = .ok (.goto 4, 3)) := by decide +kernel
theorem dX9_truth_0 : decode cX9_truth 0 = .ok (.iload_n 0, 1) := zb_X9_truth_0.1
theorem dX9_truth_1 : decode cX9_truth 1 = .ok (.ifCond .eq 7, 3) := zb_X9_truth_0.2.1
theorem dX9_truth_8 : decode cX9_truth 8 = .ok (.iconst 0, 1) := zb_X9_truth_0.2.2.1
theorem dX9_truth_9 : decode cX9_truth 9 = .ok (.ireturn, 1) := zb_X9_truth_0.2.2.2.1
theorem dX9_truth_4 : decode cX9_truth 4 = .ok (.iconst 1, 1) := zb_X9_truth_0.2.2.2.2.1
theorem dX9_truth_5 : decode cX9_truth 5 = .ok (.goto 4, 3) := zb_X9_truth_0.2.2.2.2.2
theorem zb_X9_joined_0 : (decode cX9_joined 0 = .ok (.iload_n 0, 1)) ∧ (decode cX9_joined 1 = .ok (.tableswitch 113 (-17) (-11) #[109, 105, 91, 77, 113, 60, 43], 43)) ∧ (decode cX9_joined 114 = .ok (.iload_n 1, 1)) ∧ (decode cX9_joined 115 = .ok (.iload_n 2, 1)) ∧ (decode cX9_joined 116 = .ok (.imul, 1)) ∧ (decode cX9_joined 117 = .ok (.ireturn, 1)) ∧ (decode cX9_joined 110 = .ok (.iload_n 1, 1)) ∧ (decode cX9_joined 111 = .ok (.iload_n 2, 1)) ∧ (decode cX9_joined 112 = .ok (.isub, 1)) ∧ (decode cX9_joined 113 = .ok (.ireturn, 1)) ∧ (decode cX9_joined 106 = .ok (.iload_n 1, 1)) ∧ (decode cX9_joined 107 = .ok (.iload_n 2, 1)) := by decide +kernel
theorem dX9_joined_0 : decode cX9_joined 0 = .ok (.iload_n 0, 1) := zb_X9_joined_0.1
theorem dX9_joined_1 : decode cX9_joined 1 = .ok (.tableswitch 113 (-17) (-11) #[109, 105, 91, 77, 113, 60, 43], 43) := zb_X9_joined_0.2.1
theorem dX9_joined_114 : decode cX9_joined 114 = .ok (.iload_n 1, 1) := zb_X9_joined_0.2.2.1
theorem dX9_joined_115 : decode cX9_joined 115 = .ok (.iload_n 2, 1) := zb_X9_joined_0.2.2.2.1
theorem dX9_joined_116 : decode cX9_joined 116 = .ok (.imul, 1) := zb_X9_joined_0.2.2.2.2.1
theorem dX9_joined_117 : decode cX9_joined 117 = .ok (.ireturn, 1) := zb_X9_joined_0.2.2.2.2.2.1
theorem dX9_joined_110 : decode cX9_joined 110 = .ok (.iload_n 1, 1) := zb_X9_joined_0.2.2.2.2.2.2.1
theorem dX9_joined_111 : decode cX9_joined 111 = .ok (.iload_n 2, 1) := zb_X9_joined_0.2.2.2.2.2.2.2.1
theorem dX9_joined_112 : decode cX9_joined 112 = .ok (.isub, 1) := zb_X9_joined_0.2.2.2.2.2.2.2.2.1
theorem dX9_joined_113 : decode cX9_joined 113 = .ok (.ireturn, 1) := zb_X9_joined_0.2.2.2.2.2.2.2.2.2.1
theorem dX9_joined_106 : decode cX9_joined 106 = .ok (.iload_n 1, 1) := zb_X9_joined_0.2.2.2.2.2.2.2.2.2.2.1
theorem dX9_joined_107 : decode cX9_joined 107 = .ok (.iload_n 2, 1) := zb_X9_joined_0.2.2.2.2.2.2.2.2.2.2.2
theorem zb_X9_joined_108 : (decode cX9_joined 108 = .ok (.iadd, 1)) ∧ (decode cX9_joined 109 = .ok (.ireturn, 1)) ∧ (decode cX9_joined 92 = .ok (.iload_n 1, 1)) ∧ (decode cX9_joined 93 = .ok (.iload_n 2, 1)) ∧ (decode cX9_joined 94 = .ok (.if_icmp .ne 7, 3)) ∧ (decode cX9_joined 101 = .ok (.iconst 0, 1)) ∧ (decode cX9_joined 102 = .ok (.invokestatic 49, 3)) ∧ (decode cX9_joined 105 = .ok (.ireturn, 1)) ∧ (decode cX9_joined 97 = .ok (.iconst 1, 1)) ∧ (decode cX9_joined 98 = .ok (.goto 4, 3)) ∧ (decode cX9_joined 78 = .ok (.iload_n 1, 1)) ∧ (decode cX9_joined 79 = .ok (.iload_n 2, 1)) := by decide +kernel
theorem dX9_joined_108 : decode cX9_joined 108 = .ok (.iadd, 1) := zb_X9_joined_108.1
theorem dX9_joined_109 : decode cX9_joined 109 = .ok (.ireturn, 1) := zb_X9_joined_108.2.1
theorem dX9_joined_92 : decode cX9_joined 92 = .ok (.iload_n 1, 1) := zb_X9_joined_108.2.2.1
theorem dX9_joined_93 : decode cX9_joined 93 = .ok (.iload_n 2, 1) := zb_X9_joined_108.2.2.2.1
theorem dX9_joined_94 : decode cX9_joined 94 = .ok (.if_icmp .ne 7, 3) := zb_X9_joined_108.2.2.2.2.1
theorem dX9_joined_101 : decode cX9_joined 101 = .ok (.iconst 0, 1) := zb_X9_joined_108.2.2.2.2.2.1
theorem dX9_joined_102 : decode cX9_joined 102 = .ok (.invokestatic 49, 3) := zb_X9_joined_108.2.2.2.2.2.2.1
theorem dX9_joined_105 : decode cX9_joined 105 = .ok (.ireturn, 1) := zb_X9_joined_108.2.2.2.2.2.2.2.1
theorem dX9_joined_97 : decode cX9_joined 97 = .ok (.iconst 1, 1) := zb_X9_joined_108.2.2.2.2.2.2.2.2.1
theorem dX9_joined_98 : decode cX9_joined 98 = .ok (.goto 4, 3) := zb_X9_joined_108.2.2.2.2.2.2.2.2.2.1
theorem dX9_joined_78 : decode cX9_joined 78 = .ok (.iload_n 1, 1) := zb_X9_joined_108.2.2.2.2.2.2.2.2.2.2.1
theorem dX9_joined_79 : decode cX9_joined 79 = .ok (.iload_n 2, 1) := zb_X9_joined_108.2.2.2.2.2.2.2.2.2.2.2
theorem zb_X9_joined_80 : (decode cX9_joined 80 = .ok (.if_icmp .ge 7, 3)) ∧ (decode cX9_joined 87 = .ok (.iconst 0, 1)) ∧ (decode cX9_joined 88 = .ok (.invokestatic 49, 3)) ∧ (decode cX9_joined 91 = .ok (.ireturn, 1)) ∧ (decode cX9_joined 83 = .ok (.iconst 1, 1)) ∧ (decode cX9_joined 84 = .ok (.goto 4, 3)) ∧ (decode cX9_joined 61 = .ok (.iload_n 1, 1)) ∧ (decode cX9_joined 62 = .ok (.ifCond .eq 11, 3)) ∧ (decode cX9_joined 73 = .ok (.iconst 0, 1)) ∧ (decode cX9_joined 74 = .ok (.invokestatic 49, 3)) ∧ (decode cX9_joined 77 = .ok (.ireturn, 1)) ∧ (decode cX9_joined 65 = .ok (.iload_n 2, 1)) := by decide +kernel
theorem dX9_joined_80 : decode cX9_joined 80 = .ok (.if_icmp .ge 7, 3) := zb_X9_joined_80.1
theorem dX9_joined_87 : decode cX9_joined 87 = .ok (.iconst 0, 1) := zb_X9_joined_80.2.1
theorem dX9_joined_88 : decode cX9_joined 88 = .ok (.invokestatic 49, 3) := zb_X9_joined_80.2.2.1
theorem dX9_joined_91 : decode cX9_joined 91 = .ok (.ireturn, 1) := zb_X9_joined_80.2.2.2.1
theorem dX9_joined_83 : decode cX9_joined 83 = .ok (.iconst 1, 1) := zb_X9_joined_80.2.2.2.2.1
theorem dX9_joined_84 : decode cX9_joined 84 = .ok (.goto 4, 3) := zb_X9_joined_80.2.2.2.2.2.1
theorem dX9_joined_61 : decode cX9_joined 61 = .ok (.iload_n 1, 1) := zb_X9_joined_80.2.2.2.2.2.2.1
theorem dX9_joined_62 : decode cX9_joined 62 = .ok (.ifCond .eq 11, 3) := zb_X9_joined_80.2.2.2.2.2.2.2.1
theorem dX9_joined_73 : decode cX9_joined 73 = .ok (.iconst 0, 1) := zb_X9_joined_80.2.2.2.2.2.2.2.2.1
theorem dX9_joined_74 : decode cX9_joined 74 = .ok (.invokestatic 49, 3) := zb_X9_joined_80.2.2.2.2.2.2.2.2.2.1
theorem dX9_joined_77 : decode cX9_joined 77 = .ok (.ireturn, 1) := zb_X9_joined_80.2.2.2.2.2.2.2.2.2.2.1
theorem dX9_joined_65 : decode cX9_joined 65 = .ok (.iload_n 2, 1) := zb_X9_joined_80.2.2.2.2.2.2.2.2.2.2.2
theorem zb_X9_joined_66 : (decode cX9_joined 66 = .ok (.ifCond .eq 7, 3)) ∧ (decode cX9_joined 69 = .ok (.iconst 1, 1)) ∧ (decode cX9_joined 70 = .ok (.goto 4, 3)) ∧ (decode cX9_joined 44 = .ok (.iload_n 1, 1)) ∧ (decode cX9_joined 45 = .ok (.ifCond .ne 7, 3)) ∧ (decode cX9_joined 52 = .ok (.iconst 1, 1)) ∧ (decode cX9_joined 53 = .ok (.goto 4, 3)) ∧ (decode cX9_joined 57 = .ok (.invokestatic 49, 3)) ∧ (decode cX9_joined 60 = .ok (.ireturn, 1)) ∧ (decode cX9_joined 48 = .ok (.iload_n 2, 1)) ∧ (decode cX9_joined 49 = .ok (.ifCond .eq 7, 3)) ∧ (decode cX9_joined 56 = .ok (.iconst 0, 1)) := by decide +kernel
theorem dX9_joined_66 : decode cX9_joined 66 = .ok (.ifCond .eq 7, 3) := zb_X9_joined_66.1
theorem dX9_joined_69 : decode cX9_joined 69 = .ok (.iconst 1, 1) := zb_X9_joined_66.2.1
theorem dX9_joined_70 : decode cX9_joined 70 = .ok (.goto 4, 3) := zb_X9_joined_66.2.2.1
theorem dX9_joined_44 : decode cX9_joined 44 = .ok (.iload_n 1, 1) := zb_X9_joined_66.2.2.2.1
theorem dX9_joined_45 : decode cX9_joined 45 = .ok (.ifCond .ne 7, 3) := zb_X9_joined_66.2.2.2.2.1
theorem dX9_joined_52 : decode cX9_joined 52 = .ok (.iconst 1, 1) := zb_X9_joined_66.2.2.2.2.2.1
theorem dX9_joined_53 : decode cX9_joined 53 = .ok (.goto 4, 3) := zb_X9_joined_66.2.2.2.2.2.2.1
theorem dX9_joined_57 : decode cX9_joined 57 = .ok (.invokestatic 49, 3) := zb_X9_joined_66.2.2.2.2.2.2.2.1
theorem dX9_joined_60 : decode cX9_joined 60 = .ok (.ireturn, 1) := zb_X9_joined_66.2.2.2.2.2.2.2.2.1
theorem dX9_joined_48 : decode cX9_joined 48 = .ok (.iload_n 2, 1) := zb_X9_joined_66.2.2.2.2.2.2.2.2.2.1
theorem dX9_joined_49 : decode cX9_joined 49 = .ok (.ifCond .eq 7, 3) := zb_X9_joined_66.2.2.2.2.2.2.2.2.2.2.1
theorem dX9_joined_56 : decode cX9_joined 56 = .ok (.iconst 0, 1) := zb_X9_joined_66.2.2.2.2.2.2.2.2.2.2.2
theorem zb_X5_isBlank_0 : (decode cX5_isBlank 0 = .ok (.iload_n 0, 1)) ∧ (decode cX5_isBlank 1 = .ok (.bipush 32, 2)) ∧ (decode cX5_isBlank 3 = .ok (.if_icmp .eq 9, 3)) ∧ (decode cX5_isBlank 12 = .ok (.iconst 1, 1)) ∧ (decode cX5_isBlank 13 = .ok (.goto 4, 3)) ∧ (decode cX5_isBlank 17 = .ok (.ireturn, 1)) ∧ (decode cX5_isBlank 6 = .ok (.iload_n 0, 1)) ∧ (decode cX5_isBlank 7 = .ok (.bipush 10, 2)) ∧ (decode cX5_isBlank 9 = .ok (.if_icmp .ne 7, 3)) ∧ (decode cX5_isBlank 16 = .ok (.iconst 0, 1)) := by decide +kernel
theorem dX5_isBlank_0 : decode cX5_isBlank 0 = .ok (.iload_n 0, 1) := zb_X5_isBlank_0.1
theorem dX5_isBlank_1 : decode cX5_isBlank 1 = .ok (.bipush 32, 2) := zb_X5_isBlank_0.2.1
theorem dX5_isBlank_3 : decode cX5_isBlank 3 = .ok (.if_icmp .eq 9, 3) := zb_X5_isBlank_0.2.2.1
theorem dX5_isBlank_12 : decode cX5_isBlank 12 = .ok (.iconst 1, 1) := zb_X5_isBlank_0.2.2.2.1
theorem dX5_isBlank_13 : decode cX5_isBlank 13 = .ok (.goto 4, 3) := zb_X5_isBlank_0.2.2.2.2.1
theorem dX5_isBlank_17 : decode cX5_isBlank 17 = .ok (.ireturn, 1) := zb_X5_isBlank_0.2.2.2.2.2.1
theorem dX5_isBlank_6 : decode cX5_isBlank 6 = .ok (.iload_n 0, 1) := zb_X5_isBlank_0.2.2.2.2.2.2.1
theorem dX5_isBlank_7 : decode cX5_isBlank 7 = .ok (.bipush 10, 2) := zb_X5_isBlank_0.2.2.2.2.2.2.2.1
theorem dX5_isBlank_9 : decode cX5_isBlank 9 = .ok (.if_icmp .ne 7, 3) := zb_X5_isBlank_0.2.2.2.2.2.2.2.2.1
theorem dX5_isBlank_16 : decode cX5_isBlank 16 = .ok (.iconst 0, 1) := zb_X5_isBlank_0.2.2.2.2.2.2.2.2.2
theorem zb_X5_isLetter_0 : (decode cX5_isLetter 0 = .ok (.iload_n 0, 1)) ∧ (decode cX5_isLetter 1 = .ok (.bipush 97, 2)) ∧ (decode cX5_isLetter 3 = .ok (.if_icmp .lt 13, 3)) ∧ (decode cX5_isLetter 16 = .ok (.iconst 0, 1)) ∧ (decode cX5_isLetter 17 = .ok (.ireturn, 1)) ∧ (decode cX5_isLetter 6 = .ok (.iload_n 0, 1)) ∧ (decode cX5_isLetter 7 = .ok (.bipush 122, 2)) ∧ (decode cX5_isLetter 9 = .ok (.if_icmp .gt 7, 3)) ∧ (decode cX5_isLetter 12 = .ok (.iconst 1, 1)) ∧ (decode cX5_isLetter 13 = .ok (.goto 4, 3)) := by decide +kernel
theorem dX5_isLetter_0 : decode cX5_isLetter 0 = .ok (.iload_n 0, 1) := zb_X5_isLetter_0.1
theorem dX5_isLetter_1 : decode cX5_isLetter 1 = .ok (.bipush 97, 2) := zb_X5_isLetter_0.2.1
theorem dX5_isLetter_3 : decode cX5_isLetter 3 = .ok (.if_icmp .lt 13, 3) := zb_X5_isLetter_0.2.2.1
theorem dX5_isLetter_16 : decode cX5_isLetter 16 = .ok (.iconst 0, 1) := zb_X5_isLetter_0.2.2.2.1
theorem dX5_isLetter_17 : decode cX5_isLetter 17 = .ok (.ireturn, 1) := zb_X5_isLetter_0.2.2.2.2.1
theorem dX5_isLetter_6 : decode cX5_isLetter 6 = .ok (.iload_n 0, 1) := zb_X5_isLetter_0.2.2.2.2.2.1
theorem dX5_isLetter_7 : decode cX5_isLetter 7 = .ok (.bipush 122, 2) := zb_X5_isLetter_0.2.2.2.2.2.2.1
theorem dX5_isLetter_9 : decode cX5_isLetter 9 = .ok (.if_icmp .gt 7, 3) := zb_X5_isLetter_0.2.2.2.2.2.2.2.1
theorem dX5_isLetter_12 : decode cX5_isLetter 12 = .ok (.iconst 1, 1) := zb_X5_isLetter_0.2.2.2.2.2.2.2.2.1
theorem dX5_isLetter_13 : decode cX5_isLetter 13 = .ok (.goto 4, 3) := zb_X5_isLetter_0.2.2.2.2.2.2.2.2.2
theorem zb_X5_isDigit_0 : (decode cX5_isDigit 0 = .ok (.iload_n 0, 1)) ∧ (decode cX5_isDigit 1 = .ok (.bipush 48, 2)) ∧ (decode cX5_isDigit 3 = .ok (.if_icmp .lt 13, 3)) ∧ (decode cX5_isDigit 16 = .ok (.iconst 0, 1)) ∧ (decode cX5_isDigit 17 = .ok (.ireturn, 1)) ∧ (decode cX5_isDigit 6 = .ok (.iload_n 0, 1)) ∧ (decode cX5_isDigit 7 = .ok (.bipush 57, 2)) ∧ (decode cX5_isDigit 9 = .ok (.if_icmp .gt 7, 3)) ∧ (decode cX5_isDigit 12 = .ok (.iconst 1, 1)) ∧ (decode cX5_isDigit 13 = .ok (.goto 4, 3)) := by decide +kernel
theorem dX5_isDigit_0 : decode cX5_isDigit 0 = .ok (.iload_n 0, 1) := zb_X5_isDigit_0.1
theorem dX5_isDigit_1 : decode cX5_isDigit 1 = .ok (.bipush 48, 2) := zb_X5_isDigit_0.2.1
theorem dX5_isDigit_3 : decode cX5_isDigit 3 = .ok (.if_icmp .lt 13, 3) := zb_X5_isDigit_0.2.2.1
theorem dX5_isDigit_16 : decode cX5_isDigit 16 = .ok (.iconst 0, 1) := zb_X5_isDigit_0.2.2.2.1
theorem dX5_isDigit_17 : decode cX5_isDigit 17 = .ok (.ireturn, 1) := zb_X5_isDigit_0.2.2.2.2.1
theorem dX5_isDigit_6 : decode cX5_isDigit 6 = .ok (.iload_n 0, 1) := zb_X5_isDigit_0.2.2.2.2.2.1
theorem dX5_isDigit_7 : decode cX5_isDigit 7 = .ok (.bipush 57, 2) := zb_X5_isDigit_0.2.2.2.2.2.2.1
theorem dX5_isDigit_9 : decode cX5_isDigit 9 = .ok (.if_icmp .gt 7, 3) := zb_X5_isDigit_0.2.2.2.2.2.2.2.1
theorem dX5_isDigit_12 : decode cX5_isDigit 12 = .ok (.iconst 1, 1) := zb_X5_isDigit_0.2.2.2.2.2.2.2.2.1
theorem dX5_isDigit_13 : decode cX5_isDigit 13 = .ok (.goto 4, 3) := zb_X5_isDigit_0.2.2.2.2.2.2.2.2.2
theorem zb_X5_isSign_0 : (decode cX5_isSign 0 = .ok (.iload_n 0, 1)) ∧ (decode cX5_isSign 1 = .ok (.bipush 40, 2)) ∧ (decode cX5_isSign 3 = .ok (.if_icmp .lt 9, 3)) ∧ (decode cX5_isSign 12 = .ok (.iload_n 0, 1)) ∧ (decode cX5_isSign 13 = .ok (.bipush 45, 2)) ∧ (decode cX5_isSign 15 = .ok (.if_icmp .eq 15, 3)) ∧ (decode cX5_isSign 18 = .ok (.iload_n 0, 1)) ∧ (decode cX5_isSign 19 = .ok (.bipush 59, 2)) ∧ (decode cX5_isSign 21 = .ok (.if_icmp .lt 13, 3)) ∧ (decode cX5_isSign 34 = .ok (.iconst 0, 1)) := by decide +kernel
theorem dX5_isSign_0 : decode cX5_isSign 0 = .ok (.iload_n 0, 1) := zb_X5_isSign_0.1
theorem dX5_isSign_1 : decode cX5_isSign 1 = .ok (.bipush 40, 2) := zb_X5_isSign_0.2.1
theorem dX5_isSign_3 : decode cX5_isSign 3 = .ok (.if_icmp .lt 9, 3) := zb_X5_isSign_0.2.2.1
theorem dX5_isSign_12 : decode cX5_isSign 12 = .ok (.iload_n 0, 1) := zb_X5_isSign_0.2.2.2.1
theorem dX5_isSign_13 : decode cX5_isSign 13 = .ok (.bipush 45, 2) := zb_X5_isSign_0.2.2.2.2.1
theorem dX5_isSign_15 : decode cX5_isSign 15 = .ok (.if_icmp .eq 15, 3) := zb_X5_isSign_0.2.2.2.2.2.1
theorem dX5_isSign_18 : decode cX5_isSign 18 = .ok (.iload_n 0, 1) := zb_X5_isSign_0.2.2.2.2.2.2.1
theorem dX5_isSign_19 : decode cX5_isSign 19 = .ok (.bipush 59, 2) := zb_X5_isSign_0.2.2.2.2.2.2.2.1
theorem dX5_isSign_21 : decode cX5_isSign 21 = .ok (.if_icmp .lt 13, 3) := zb_X5_isSign_0.2.2.2.2.2.2.2.2.1
theorem dX5_isSign_34 : decode cX5_isSign 34 = .ok (.iconst 0, 1) := zb_X5_isSign_0.2.2.2.2.2.2.2.2.2
theorem zb_X5_isSign_35 : (decode cX5_isSign 35 = .ok (.ireturn, 1)) ∧ (decode cX5_isSign 6 = .ok (.iload_n 0, 1)) ∧ (decode cX5_isSign 7 = .ok (.bipush 43, 2)) ∧ (decode cX5_isSign 9 = .ok (.if_icmp .le 21, 3)) ∧ (decode cX5_isSign 30 = .ok (.iconst 1, 1)) ∧ (decode cX5_isSign 31 = .ok (.goto 4, 3)) ∧ (decode cX5_isSign 24 = .ok (.iload_n 0, 1)) ∧ (decode cX5_isSign 25 = .ok (.bipush 61, 2)) ∧ (decode cX5_isSign 27 = .ok (.if_icmp .gt 7, 3)) := by decide +kernel
theorem dX5_isSign_35 : decode cX5_isSign 35 = .ok (.ireturn, 1) := zb_X5_isSign_35.1
theorem dX5_isSign_6 : decode cX5_isSign 6 = .ok (.iload_n 0, 1) := zb_X5_isSign_35.2.1
theorem dX5_isSign_7 : decode cX5_isSign 7 = .ok (.bipush 43, 2) := zb_X5_isSign_35.2.2.1
theorem dX5_isSign_9 : decode cX5_isSign 9 = .ok (.if_icmp .le 21, 3) := zb_X5_isSign_35.2.2.2.1
theorem dX5_isSign_30 : decode cX5_isSign 30 = .ok (.iconst 1, 1) := zb_X5_isSign_35.2.2.2.2.1
theorem dX5_isSign_31 : decode cX5_isSign 31 = .ok (.goto 4, 3) := zb_X5_isSign_35.2.2.2.2.2.1
theorem dX5_isSign_24 : decode cX5_isSign 24 = .ok (.iload_n 0, 1) := zb_X5_isSign_35.2.2.2.2.2.2.1
theorem dX5_isSign_25 : decode cX5_isSign 25 = .ok (.bipush 61, 2) := zb_X5_isSign_35.2.2.2.2.2.2.2.1
theorem dX5_isSign_27 : decode cX5_isSign 27 = .ok (.if_icmp .gt 7, 3) := zb_X5_isSign_35.2.2.2.2.2.2.2.2
theorem zb_X6_commonDivisor_0 : (decode cX6_commonDivisor 0 = .ok (.lload_n 0, 1)) ∧ (decode cX6_commonDivisor 1 = .ok (.lstore 4, 2)) ∧ (decode cX6_commonDivisor 3 = .ok (.lload_n 2, 1)) ∧ (decode cX6_commonDivisor 4 = .ok (.lstore 6, 2)) ∧ (decode cX6_commonDivisor 6 = .ok (.iconst 0, 1)) ∧ (decode cX6_commonDivisor 7 = .ok (.istore 8, 2)) ∧ (decode cX6_commonDivisor 9 = .ok (.iload 8, 2)) ∧ (decode cX6_commonDivisor 11 = .ok (.sipush 200, 3)) ∧ (decode cX6_commonDivisor 14 = .ok (.if_icmp .ge 31, 3)) ∧ (decode cX6_commonDivisor 45 = .ok (.lload 4, 2)) ∧ (decode cX6_commonDivisor 47 = .ok (.lconst 0, 1)) := by decide +kernel
theorem dX6_commonDivisor_0 : decode cX6_commonDivisor 0 = .ok (.lload_n 0, 1) := zb_X6_commonDivisor_0.1
theorem dX6_commonDivisor_1 : decode cX6_commonDivisor 1 = .ok (.lstore 4, 2) := zb_X6_commonDivisor_0.2.1
theorem dX6_commonDivisor_3 : decode cX6_commonDivisor 3 = .ok (.lload_n 2, 1) := zb_X6_commonDivisor_0.2.2.1
theorem dX6_commonDivisor_4 : decode cX6_commonDivisor 4 = .ok (.lstore 6, 2) := zb_X6_commonDivisor_0.2.2.2.1
theorem dX6_commonDivisor_6 : decode cX6_commonDivisor 6 = .ok (.iconst 0, 1) := zb_X6_commonDivisor_0.2.2.2.2.1
theorem dX6_commonDivisor_7 : decode cX6_commonDivisor 7 = .ok (.istore 8, 2) := zb_X6_commonDivisor_0.2.2.2.2.2.1
theorem dX6_commonDivisor_9 : decode cX6_commonDivisor 9 = .ok (.iload 8, 2) := zb_X6_commonDivisor_0.2.2.2.2.2.2.1
theorem dX6_commonDivisor_11 : decode cX6_commonDivisor 11 = .ok (.sipush 200, 3) := zb_X6_commonDivisor_0.2.2.2.2.2.2.2.1
theorem dX6_commonDivisor_14 : decode cX6_commonDivisor 14 = .ok (.if_icmp .ge 31, 3) := zb_X6_commonDivisor_0.2.2.2.2.2.2.2.2.1
theorem dX6_commonDivisor_45 : decode cX6_commonDivisor 45 = .ok (.lload 4, 2) := zb_X6_commonDivisor_0.2.2.2.2.2.2.2.2.2.1
theorem dX6_commonDivisor_47 : decode cX6_commonDivisor 47 = .ok (.lconst 0, 1) := zb_X6_commonDivisor_0.2.2.2.2.2.2.2.2.2.2
theorem zb_X6_commonDivisor_48 : (decode cX6_commonDivisor 48 = .ok (.lcmp, 1)) ∧ (decode cX6_commonDivisor 49 = .ok (.ifCond .ne 7, 3)) ∧ (decode cX6_commonDivisor 56 = .ok (.lload 4, 2)) ∧ (decode cX6_commonDivisor 58 = .ok (.lreturn, 1)) ∧ (decode cX6_commonDivisor 52 = .ok (.lconst 1, 1)) ∧ (decode cX6_commonDivisor 53 = .ok (.goto 5, 3)) ∧ (decode cX6_commonDivisor 17 = .ok (.lload 6, 2)) ∧ (decode cX6_commonDivisor 19 = .ok (.lconst 0, 1)) ∧ (decode cX6_commonDivisor 20 = .ok (.lcmp, 1)) ∧ (decode cX6_commonDivisor 21 = .ok (.ifCond .eq 24, 3)) ∧ (decode cX6_commonDivisor 24 = .ok (.lload 4, 2)) := by decide +kernel
theorem dX6_commonDivisor_48 : decode cX6_commonDivisor 48 = .ok (.lcmp, 1) := zb_X6_commonDivisor_48.1
theorem dX6_commonDivisor_49 : decode cX6_commonDivisor 49 = .ok (.ifCond .ne 7, 3) := zb_X6_commonDivisor_48.2.1
theorem dX6_commonDivisor_56 : decode cX6_commonDivisor 56 = .ok (.lload 4, 2) := zb_X6_commonDivisor_48.2.2.1
theorem dX6_commonDivisor_58 : decode cX6_commonDivisor 58 = .ok (.lreturn, 1) := zb_X6_commonDivisor_48.2.2.2.1
theorem dX6_commonDivisor_52 : decode cX6_commonDivisor 52 = .ok (.lconst 1, 1) := zb_X6_commonDivisor_48.2.2.2.2.1
theorem dX6_commonDivisor_53 : decode cX6_commonDivisor 53 = .ok (.goto 5, 3) := zb_X6_commonDivisor_48.2.2.2.2.2.1
theorem dX6_commonDivisor_17 : decode cX6_commonDivisor 17 = .ok (.lload 6, 2) := zb_X6_commonDivisor_48.2.2.2.2.2.2.1
theorem dX6_commonDivisor_19 : decode cX6_commonDivisor 19 = .ok (.lconst 0, 1) := zb_X6_commonDivisor_48.2.2.2.2.2.2.2.1
theorem dX6_commonDivisor_20 : decode cX6_commonDivisor 20 = .ok (.lcmp, 1) := zb_X6_commonDivisor_48.2.2.2.2.2.2.2.2.1
theorem dX6_commonDivisor_21 : decode cX6_commonDivisor 21 = .ok (.ifCond .eq 24, 3) := zb_X6_commonDivisor_48.2.2.2.2.2.2.2.2.2.1
theorem dX6_commonDivisor_24 : decode cX6_commonDivisor 24 = .ok (.lload 4, 2) := zb_X6_commonDivisor_48.2.2.2.2.2.2.2.2.2.2
theorem zb_X6_commonDivisor_26 : (decode cX6_commonDivisor 26 = .ok (.lload 6, 2)) ∧ (decode cX6_commonDivisor 28 = .ok (.lrem, 1)) ∧ (decode cX6_commonDivisor 29 = .ok (.lstore 9, 2)) ∧ (decode cX6_commonDivisor 31 = .ok (.lload 6, 2)) ∧ (decode cX6_commonDivisor 33 = .ok (.lstore 4, 2)) ∧ (decode cX6_commonDivisor 35 = .ok (.lload 9, 2)) ∧ (decode cX6_commonDivisor 37 = .ok (.lstore 6, 2)) ∧ (decode cX6_commonDivisor 39 = .ok (.iinc 8 1, 3)) ∧ (decode cX6_commonDivisor 42 = .ok (.goto (-33), 3)) := by decide +kernel
theorem dX6_commonDivisor_26 : decode cX6_commonDivisor 26 = .ok (.lload 6, 2) := zb_X6_commonDivisor_26.1
theorem dX6_commonDivisor_28 : decode cX6_commonDivisor 28 = .ok (.lrem, 1) := zb_X6_commonDivisor_26.2.1
theorem dX6_commonDivisor_29 : decode cX6_commonDivisor 29 = .ok (.lstore 9, 2) := zb_X6_commonDivisor_26.2.2.1
theorem dX6_commonDivisor_31 : decode cX6_commonDivisor 31 = .ok (.lload 6, 2) := zb_X6_commonDivisor_26.2.2.2.1
theorem dX6_commonDivisor_33 : decode cX6_commonDivisor 33 = .ok (.lstore 4, 2) := zb_X6_commonDivisor_26.2.2.2.2.1
theorem dX6_commonDivisor_35 : decode cX6_commonDivisor 35 = .ok (.lload 9, 2) := zb_X6_commonDivisor_26.2.2.2.2.2.1
theorem dX6_commonDivisor_37 : decode cX6_commonDivisor 37 = .ok (.lstore 6, 2) := zb_X6_commonDivisor_26.2.2.2.2.2.2.1
theorem dX6_commonDivisor_39 : decode cX6_commonDivisor 39 = .ok (.iinc 8 1, 3) := zb_X6_commonDivisor_26.2.2.2.2.2.2.2.1
theorem dX6_commonDivisor_42 : decode cX6_commonDivisor 42 = .ok (.goto (-33), 3) := zb_X6_commonDivisor_26.2.2.2.2.2.2.2.2
theorem gX11_nearest_X11_has : GoodIn wsX11_nearest (va_wsS RX11 317 yX11_has wsX11_has) := ru_gG (ru_gS tw_4_236 tw_3_126 tw_1_1 mT_X11_has)
theorem gX11_nearest_X11_apart : GoodIn wsX11_nearest (va_wsS RX11 256 yX11_apart wsX11_apart) := ru_gG (ru_gS tw_4_12 tw_3_119 tw_1_1 mT_X11_apart)
theorem gX9_joined_X9_truth : GoodIn wsX9_joined (va_wsS RX9 49 yX9_truth wsX9_truth) := ru_gG (ru_gS tw_4_227 tw_4_228 tw_1_8 mT_X9_truth)
/-- whether a set of cells has one -/
def rt_has (q : Int64) (k : Int32) : Prop := ¬ (q.toUInt64 >>> (k.toInt64.toUInt64 &&& Int64.toUInt64 63)).toInt64 &&& 1 = 0
def rt_dg (q : Int64) (k : Int32) : Int32 := ((q.toUInt64 >>> ((4 * k).toInt64.toUInt64 &&& Int64.toUInt64 63)).toInt64 &&& 15).toInt32
theorem fm_cq {p : Program} {l : Launch} {e : Env} {R : Room} {s : State} {m : MethodId} {args : Array Value} {below : List Frame} {meth : Method} {c : Code} {H : Heap} {locs : List Loc} {cells slots : Nat} {Q : State → Prop} {pc : Nat} {ls : Array Slot} {rest st0 : List Value} {D : va_G} {ad : Nat → Nat → Nat} {C : Nat → Nat → ClassId} {nb : Nat} {A : Nat → Prop} {H0 : Heap} {a : Array Value} {post : Option Nat → fm_M → Prop} (hr : va_Run p l e R s m args below meth c H locs cells slots 0 0 (F0 m pc ls st0) rest (va_Qq post (fun u t => fm_at D ad C nb u t.heap) (fm_A nb ad) a) (fm_A nb ad)) (hS : va_S A H0 H locs) (hc : fm_Cx D ad C nb A s)
    (kk : ∀ (r : Option Nat) (M1 : fm_M) (H1 : Heap) (locs1 : List Loc), post r M1 → fm_at D ad C nb M1 H1 → va_S A H0 H1 locs1 → W p l e R s m args below meth c H1 locs1 cells slots Q (F0 m (pc + 3) ls (va_rf r :: rest))) : W p l e R s m args below meth c H locs cells slots Q (F0 m pc ls st0) :=
  va_callq hr hS (fun q _ h => hc.2.2.2.2.2 q h) (fun q h => hc.2.2.2.2.2 q h) (fun r u t H1 locs1 ht _ hp hB _ _ hS1 => kk r u H1 locs1 hp (by rw [← ht]; exact hB) hS1)
theorem fm_wI_ar {M : fm_M} {q k i j : Nat} {x : Int32} : (fm_wI M q k i x).1 q k j = if j = i then x else M.1 q k j := by
  by_cases h : j = i
  · subst h
    rw [fm_wI_at, if_pos rfl]
  · rw [fm_wI_nj (fun z => h z.2.2), if_neg h]
theorem fm_wI_ob {M : fm_M} {q k f j : Nat} {x : Int32} : (fm_wI M q k f x).1 q j f = if j = k then x else M.1 q j f := by
  by_cases h : j = k
  · subst h
    rw [fm_wI_at, if_pos rfl]
  · rw [fm_wI_nj (fun z => h z.2.1), if_neg h]
theorem rt_under {i : Int32} (h : 0 ≤ i.toInt ∧ i.toInt < 6) : (i.toInt = 0 ∧ (([-1, 0, 0, 1, 1, 2] : List Int32).getD i.toNatClampNeg 0).toInt = -1) ∨ (i.toInt = 1 ∧ (([-1, 0, 0, 1, 1, 2] : List Int32).getD i.toNatClampNeg 0).toInt = 0) ∨ (i.toInt = 2 ∧ (([-1, 0, 0, 1, 1, 2] : List Int32).getD i.toNatClampNeg 0).toInt = 0) ∨ (i.toInt = 3 ∧ (([-1, 0, 0, 1, 1, 2] : List Int32).getD i.toNatClampNeg 0).toInt = 1) ∨ (i.toInt = 4 ∧ (([-1, 0, 0, 1, 1, 2] : List Int32).getD i.toNatClampNeg 0).toInt = 1) ∨ (i.toInt = 5 ∧ (([-1, 0, 0, 1, 1, 2] : List Int32).getD i.toNatClampNeg 0).toInt = 2) := by
  rcases (show i = 0 ∨ i = 1 ∨ i = 2 ∨ i = 3 ∨ i = 4 ∨ i = 5 by simp only [fa_eq, Int32.reduceToInt]; omega) with rfl | rfl | rfl | rfl | rfl | rfl <;> decide
theorem rt_und {i : Int32} {w : Int} (h : 0 < i.toInt ∧ i.toInt < 6) (hn : ¬ i.toInt = w) : (w = 0 ∨ (([-1, 0, 0, 1, 1, 2] : List Int32).getD i.toNatClampNeg 0).toInt = w ∨ ((([-1, 0, 0, 1, 1, 2] : List Int32).getD i.toNatClampNeg 0).toInt = 5 ∧ w = 2) ∨ (((([-1, 0, 0, 1, 1, 2] : List Int32).getD i.toNatClampNeg 0).toInt = 3 ∨ (([-1, 0, 0, 1, 1, 2] : List Int32).getD i.toNatClampNeg 0).toInt = 4) ∧ w = 1)) ↔ (w = 0 ∨ i.toInt = w ∨ (i.toInt = 5 ∧ w = 2) ∨ ((i.toInt = 3 ∨ i.toInt = 4) ∧ w = 1)) := by
  rcases rt_under (i := i) (by omega) with ⟨h1, h2⟩ | ⟨h1, h2⟩ | ⟨h1, h2⟩ | ⟨h1, h2⟩ | ⟨h1, h2⟩ | ⟨h1, h2⟩ <;> rw [h1, h2] <;> rw [h1] at hn <;> omega
set_option maxHeartbeats 400000 in
set_option maxRecDepth 20000 in
theorem fc_X11_isCell (l : Launch) (p0 : Int32) : Met l yX11_isCell wsX11_isCell ({ frames := 0, cells := 0, slots := 0, locals := 0 }) (va_Pc [.int p0] (fun _ => True)) (vp_Si (fun r : Int32 => ((r = 1 ∧ (0 ≤ p0.toInt ∧ p0.toInt ≤ 63)) ∨ (r = 0 ∧ ¬ (0 ≤ p0.toInt ∧ p0.toInt ≤ 63))))) 0 0 (fun _ => False) := by
  refine Met.ofW (cc := cX11_isCell) (maxL := 1) (ret := (some .boolean)) (by decide) rfl ?_
  intro p e s m args below meth c s₁ B hml hv
  obtain ⟨rfl, _⟩ := hv
  have hx := B.exec
  have hb := B.bytes
  have hr := B.returns
  have hts := atoms_spec (ws := wsX11_isCell) B.pre
  have hown : s.vm.findClass RX11 = some m.cls := findClass_of_methodNamed B.named
  have hl := lv_entry ([.int p0]) (n := 1) (Nat.le_of_ble_eq_true rfl)
  rw [lg_entry_eq]
  generalize (lg_sl ([.int p0]) ++ List.replicate (1 - (lg_sl ([.int p0])).length) Slot.unset).toArray = ls at hl ⊢
  have hl : lv_has ls 1 [(0, .int p0)] := hl
  refine lv_iload_n hx hb dX11_isCell_0 rfl (lv_at hl 0 rfl) ?_
  refine fx_if_lt (tgt := 14) hx hb dX11_isCell_1 (by decide) rfl (fun c1 => ?_) (fun c1 => ?_)
  · refine lv_iconst (v := 0) hx hb dX11_isCell_14 (by decide) ?_
    exact W.zret (v := 0) hx hb hr rfl (fun t ht hW => ⟨0, rfl, Or.inr ⟨rfl, by omega⟩, ht⟩) (fun _ h => absurd h List.not_mem_nil) dX11_isCell_15
  · refine lv_iload_n hx hb dX11_isCell_4 rfl (lv_at hl 0 rfl) ?_
    refine lv_bipush (v := 64) hx hb dX11_isCell_5 (by decide) ?_
    refine fx_icmp_ge (tgt := 14) hx hb dX11_isCell_7 (by decide) rfl zk_64 (fun c2 => ?_) (fun c2 => ?_)
    · refine lv_iconst (v := 0) hx hb dX11_isCell_14 (by decide) ?_
      exact W.zret (v := 0) hx hb hr rfl (fun t ht hW => ⟨0, rfl, Or.inr ⟨rfl, by omega⟩, ht⟩) (fun _ h => absurd h List.not_mem_nil) dX11_isCell_15
    · refine lv_iconst (v := 1) hx hb dX11_isCell_10 (by decide) ?_
      refine lv_goto (tgt := 15) hx hb dX11_isCell_11 (by decide) ?_
      exact W.zret (v := 1) hx hb hr rfl (fun t ht hW => ⟨1, rfl, Or.inl ⟨rfl, by omega⟩, ht⟩) (fun _ h => absurd h List.not_mem_nil) dX11_isCell_15
set_option maxHeartbeats 400000 in
set_option maxRecDepth 20000 in
theorem fc_X11_isMark (l : Launch) (p0 : Int32) : Met l yX11_isMark wsX11_isMark ({ frames := 0, cells := 0, slots := 0, locals := 0 }) (va_Pc [.int p0] (fun _ => True)) (vp_Si (fun r : Int32 => ((r = 1 ∧ (0 ≤ p0.toInt ∧ p0.toInt ≤ 99)) ∨ (r = 0 ∧ ¬ (0 ≤ p0.toInt ∧ p0.toInt ≤ 99))))) 0 0 (fun _ => False) := by
  refine Met.ofW (cc := cX11_isMark) (maxL := 1) (ret := (some .boolean)) (by decide) rfl ?_
  intro p e s m args below meth c s₁ B hml hv
  obtain ⟨rfl, _⟩ := hv
  have hx := B.exec
  have hb := B.bytes
  have hr := B.returns
  have hts := atoms_spec (ws := wsX11_isMark) B.pre
  have hown : s.vm.findClass RX11 = some m.cls := findClass_of_methodNamed B.named
  have hl := lv_entry ([.int p0]) (n := 1) (Nat.le_of_ble_eq_true rfl)
  rw [lg_entry_eq]
  generalize (lg_sl ([.int p0]) ++ List.replicate (1 - (lg_sl ([.int p0])).length) Slot.unset).toArray = ls at hl ⊢
  have hl : lv_has ls 1 [(0, .int p0)] := hl
  refine lv_iload_n hx hb dX11_isMark_0 rfl (lv_at hl 0 rfl) ?_
  refine fx_if_lt (tgt := 14) hx hb dX11_isMark_1 (by decide) rfl (fun c1 => ?_) (fun c1 => ?_)
  · refine lv_iconst (v := 0) hx hb dX11_isMark_14 (by decide) ?_
    exact W.zret (v := 0) hx hb hr rfl (fun t ht hW => ⟨0, rfl, Or.inr ⟨rfl, by omega⟩, ht⟩) (fun _ h => absurd h List.not_mem_nil) dX11_isMark_15
  · refine lv_iload_n hx hb dX11_isMark_4 rfl (lv_at hl 0 rfl) ?_
    refine lv_bipush (v := 99) hx hb dX11_isMark_5 (by decide) ?_
    refine fx_icmp_gt (tgt := 14) hx hb dX11_isMark_7 (by decide) rfl zk_99 (fun c2 => ?_) (fun c2 => ?_)
    · refine lv_iconst (v := 0) hx hb dX11_isMark_14 (by decide) ?_
      exact W.zret (v := 0) hx hb hr rfl (fun t ht hW => ⟨0, rfl, Or.inr ⟨rfl, by omega⟩, ht⟩) (fun _ h => absurd h List.not_mem_nil) dX11_isMark_15
    · refine lv_iconst (v := 1) hx hb dX11_isMark_10 (by decide) ?_
      refine lv_goto (tgt := 15) hx hb dX11_isMark_11 (by decide) ?_
      exact W.zret (v := 1) hx hb hr rfl (fun t ht hW => ⟨1, rfl, Or.inl ⟨rfl, by omega⟩, ht⟩) (fun _ h => absurd h List.not_mem_nil) dX11_isMark_15
set_option maxHeartbeats 400000 in
set_option maxRecDepth 20000 in
theorem fc_X11_isSpan (l : Launch) (p0 p1 : Int32) : Met l yX11_isSpan wsX11_isSpan ({ frames := 0, cells := 0, slots := 0, locals := 0 }) (va_Pc [.int p0, .int p1] (fun _ => True)) (vp_Si (fun r : Int32 => ((r = 1 ∧ (0 ≤ p0.toInt ∧ p0.toInt < p1.toInt ∧ p1.toInt ≤ 240)) ∨ (r = 0 ∧ ¬ (0 ≤ p0.toInt ∧ p0.toInt < p1.toInt ∧ p1.toInt ≤ 240))))) 0 0 (fun _ => False) := by
  refine Met.ofW (cc := cX11_isSpan) (maxL := 2) (ret := (some .boolean)) (by decide) rfl ?_
  intro p e s m args below meth c s₁ B hml hv
  obtain ⟨rfl, _⟩ := hv
  have hx := B.exec
  have hb := B.bytes
  have hr := B.returns
  have hts := atoms_spec (ws := wsX11_isSpan) B.pre
  have hown : s.vm.findClass RX11 = some m.cls := findClass_of_methodNamed B.named
  have hl := lv_entry ([.int p0, .int p1]) (n := 2) (Nat.le_of_ble_eq_true rfl)
  rw [lg_entry_eq]
  generalize (lg_sl ([.int p0, .int p1]) ++ List.replicate (2 - (lg_sl ([.int p0, .int p1])).length) Slot.unset).toArray = ls at hl ⊢
  have hl : lv_has ls 2 [(0, .int p0), (1, .int p1)] := hl
  refine lv_iload_n hx hb dX11_isSpan_0 rfl (lv_at hl 0 rfl) ?_
  refine fx_if_lt (tgt := 20) hx hb dX11_isSpan_1 (by decide) rfl (fun c1 => ?_) (fun c1 => ?_)
  · refine lv_iconst (v := 0) hx hb dX11_isSpan_20 (by decide) ?_
    exact W.zret (v := 0) hx hb hr rfl (fun t ht hW => ⟨0, rfl, Or.inr ⟨rfl, by omega⟩, ht⟩) (fun _ h => absurd h List.not_mem_nil) dX11_isSpan_21
  · refine lv_iload_n hx hb dX11_isSpan_4 rfl (lv_at hl 1 rfl) ?_
    refine lv_iload_n hx hb dX11_isSpan_5 rfl (lv_at hl 0 rfl) ?_
    refine fx_icmp_le (tgt := 20) hx hb dX11_isSpan_6 (by decide) rfl rfl (fun c2 => ?_) (fun c2 => ?_)
    · refine lv_iconst (v := 0) hx hb dX11_isSpan_20 (by decide) ?_
      exact W.zret (v := 0) hx hb hr rfl (fun t ht hW => ⟨0, rfl, Or.inr ⟨rfl, by omega⟩, ht⟩) (fun _ h => absurd h List.not_mem_nil) dX11_isSpan_21
    · refine lv_iload_n hx hb dX11_isSpan_9 rfl (lv_at hl 1 rfl) ?_
      refine lv_sipush (v := 240) hx hb dX11_isSpan_10 (by decide) ?_
      refine fx_icmp_gt (tgt := 20) hx hb dX11_isSpan_13 (by decide) rfl zk_240 (fun c3 => ?_) (fun c3 => ?_)
      · refine lv_iconst (v := 0) hx hb dX11_isSpan_20 (by decide) ?_
        exact W.zret (v := 0) hx hb hr rfl (fun t ht hW => ⟨0, rfl, Or.inr ⟨rfl, by omega⟩, ht⟩) (fun _ h => absurd h List.not_mem_nil) dX11_isSpan_21
      · refine lv_iconst (v := 1) hx hb dX11_isSpan_16 (by decide) ?_
        refine lv_goto (tgt := 21) hx hb dX11_isSpan_17 (by decide) ?_
        exact W.zret (v := 1) hx hb hr rfl (fun t ht hW => ⟨1, rfl, Or.inl ⟨rfl, by omega⟩, ht⟩) (fun _ h => absurd h List.not_mem_nil) dX11_isSpan_21
set_option maxHeartbeats 400000 in
set_option maxRecDepth 20000 in
theorem fc_X11_isWind (l : Launch) (p0 : Int32) : Met l yX11_isWind wsX11_isWind ({ frames := 0, cells := 0, slots := 0, locals := 0 }) (va_Pc [.int p0] (fun _ => True)) (vp_Si (fun r : Int32 => ((r = 1 ∧ (0 ≤ p0.toInt ∧ p0.toInt ≤ 4444 ∧ p0.toInt / 100 % 10 ≤ 4 ∧ p0.toInt / 10 % 10 ≤ 4 ∧ p0.toInt % 10 ≤ 4 ∧ p0.toInt / 1000 ≤ p0.toInt / 100 % 10 ∧ p0.toInt / 10 % 10 ≤ p0.toInt % 10)) ∨ (r = 0 ∧ ¬ (0 ≤ p0.toInt ∧ p0.toInt ≤ 4444 ∧ p0.toInt / 100 % 10 ≤ 4 ∧ p0.toInt / 10 % 10 ≤ 4 ∧ p0.toInt % 10 ≤ 4 ∧ p0.toInt / 1000 ≤ p0.toInt / 100 % 10 ∧ p0.toInt / 10 % 10 ≤ p0.toInt % 10))))) 0 0 (fun _ => False) := by
  refine Met.ofW (cc := cX11_isWind) (maxL := 5) (ret := (some .boolean)) (by decide) rfl ?_
  intro p e s m args below meth c s₁ B hml hv
  obtain ⟨rfl, _⟩ := hv
  have hx := B.exec
  have hb := B.bytes
  have hr := B.returns
  have hts := atoms_spec (ws := wsX11_isWind) B.pre
  have hown : s.vm.findClass RX11 = some m.cls := findClass_of_methodNamed B.named
  have hl := lv_entry ([.int p0]) (n := 5) (Nat.le_of_ble_eq_true rfl)
  rw [lg_entry_eq]
  generalize (lg_sl ([.int p0]) ++ List.replicate (5 - (lg_sl ([.int p0])).length) Slot.unset).toArray = ls at hl ⊢
  have hl : lv_has ls 5 [(0, .int p0)] := hl
  refine lv_iload_n hx hb dX11_isWind_0 rfl (lv_at hl 0 rfl) ?_
  refine fx_if_lt (tgt := 11) hx hb dX11_isWind_1 (by decide) rfl (fun c1 => ?_) (fun c1 => ?_)
  · refine lv_iconst (v := 0) hx hb dX11_isWind_11 (by decide) ?_
    exact W.zret (v := 0) hx hb hr rfl (fun t ht hW => ⟨0, rfl, Or.inr ⟨rfl, by omega⟩, ht⟩) (fun _ h => absurd h List.not_mem_nil) dX11_isWind_12
  · refine lv_iload_n hx hb dX11_isWind_4 rfl (lv_at hl 0 rfl) ?_
    refine lv_sipush (v := 4444) hx hb dX11_isWind_5 (by decide) ?_
    refine fx_icmp_le (tgt := 13) hx hb dX11_isWind_8 (by decide) rfl zk_4444 (fun c2 => ?_) (fun c2 => ?_)
    · refine lv_iload_n hx hb dX11_isWind_13 rfl (lv_at hl 0 rfl) ?_
      refine lv_sipush (v := 1000) hx hb dX11_isWind_14 (by decide) ?_
      refine fx_idiv hx hb dX11_isWind_17 rfl zk_1000 (by omega) (by omega) (fun y3 ey3 ty3 => ?_)
      refine lv_istore_n (lv' := [(1, .int y3), (0, .int p0)]) hx hb dX11_isWind_18 rfl hl (by decide) rfl (fun ls hl => ?_)
      refine lv_iload_n hx hb dX11_isWind_19 rfl (lv_at hl 1 rfl) ?_
      refine lv_bipush (v := 100) hx hb dX11_isWind_20 (by decide) ?_
      refine fx_idiv hx hb dX11_isWind_22 rfl zk_100 (by omega) (by omega) (fun y4 ey4 ty4 => ?_)
      refine lv_bipush (v := 10) hx hb dX11_isWind_23 (by decide) ?_
      refine fx_irem hx hb dX11_isWind_25 rfl zk_10 (by omega) (by omega) (fun y5 ey5 ty5 => ?_)
      refine lv_istore_n (lv' := [(2, .int y5), (1, .int y3), (0, .int p0)]) hx hb dX11_isWind_26 rfl hl (by decide) rfl (fun ls hl => ?_)
      refine lv_iload_n hx hb dX11_isWind_27 rfl (lv_at hl 2 rfl) ?_
      refine lv_bipush (v := 10) hx hb dX11_isWind_28 (by decide) ?_
      refine fx_idiv hx hb dX11_isWind_30 rfl zk_10 (by omega) (by omega) (fun y6 ey6 ty6 => ?_)
      refine lv_bipush (v := 10) hx hb dX11_isWind_31 (by decide) ?_
      refine fx_irem hx hb dX11_isWind_33 rfl zk_10 (by omega) (by omega) (fun y7 ey7 ty7 => ?_)
      refine lv_istore_n (lv' := [(3, .int y7), (2, .int y5), (1, .int y3), (0, .int p0)]) hx hb dX11_isWind_34 rfl hl (by decide) rfl (fun ls hl => ?_)
      refine lv_iload_n hx hb dX11_isWind_35 rfl (lv_at hl 3 rfl) ?_
      refine lv_bipush (v := 10) hx hb dX11_isWind_36 (by decide) ?_
      refine fx_irem hx hb dX11_isWind_38 rfl zk_10 (by omega) (by omega) (fun y8 ey8 ty8 => ?_)
      refine lv_istore (lv' := [(4, .int y8), (3, .int y7), (2, .int y5), (1, .int y3), (0, .int p0)]) hx hb dX11_isWind_39 hl (by decide) rfl (fun ls hl => ?_)
      refine lv_iload_n hx hb dX11_isWind_41 rfl (lv_at hl 2 rfl) ?_
      refine lv_iconst (v := 4) hx hb dX11_isWind_42 (by decide) ?_
      refine fx_icmp_gt (tgt := 72) hx hb dX11_isWind_43 (by decide) rfl zk_4 (fun c9 => ?_) (fun c9 => ?_)
      · refine lv_iconst (v := 0) hx hb dX11_isWind_72 (by decide) ?_
        exact W.zret (v := 0) hx hb hr rfl (fun t ht hW => ⟨0, rfl, Or.inr ⟨rfl, by omega⟩, ht⟩) (fun _ h => absurd h List.not_mem_nil) dX11_isWind_73
      · refine lv_iload_n hx hb dX11_isWind_46 rfl (lv_at hl 1 rfl) ?_
        refine lv_iconst (v := 4) hx hb dX11_isWind_47 (by decide) ?_
        refine fx_icmp_gt (tgt := 72) hx hb dX11_isWind_48 (by decide) rfl zk_4 (fun c10 => ?_) (fun c10 => ?_)
        · refine lv_iconst (v := 0) hx hb dX11_isWind_72 (by decide) ?_
          exact W.zret (v := 0) hx hb hr rfl (fun t ht hW => ⟨0, rfl, Or.inr ⟨rfl, by omega⟩, ht⟩) (fun _ h => absurd h List.not_mem_nil) dX11_isWind_73
        · refine lv_iload hx hb dX11_isWind_51 (lv_at hl 0 rfl) ?_
          refine lv_iconst (v := 4) hx hb dX11_isWind_53 (by decide) ?_
          refine fx_icmp_gt (tgt := 72) hx hb dX11_isWind_54 (by decide) rfl zk_4 (fun c11 => ?_) (fun c11 => ?_)
          · refine lv_iconst (v := 0) hx hb dX11_isWind_72 (by decide) ?_
            exact W.zret (v := 0) hx hb hr rfl (fun t ht hW => ⟨0, rfl, Or.inr ⟨rfl, by omega⟩, ht⟩) (fun _ h => absurd h List.not_mem_nil) dX11_isWind_73
          · refine lv_iload_n hx hb dX11_isWind_57 rfl (lv_at hl 3 rfl) ?_
            refine lv_iload_n hx hb dX11_isWind_58 rfl (lv_at hl 2 rfl) ?_
            refine fx_icmp_gt (tgt := 72) hx hb dX11_isWind_59 (by decide) rfl rfl (fun c12 => ?_) (fun c12 => ?_)
            · refine lv_iconst (v := 0) hx hb dX11_isWind_72 (by decide) ?_
              exact W.zret (v := 0) hx hb hr rfl (fun t ht hW => ⟨0, rfl, Or.inr ⟨rfl, by omega⟩, ht⟩) (fun _ h => absurd h List.not_mem_nil) dX11_isWind_73
            · refine lv_iload_n hx hb dX11_isWind_62 rfl (lv_at hl 1 rfl) ?_
              refine lv_iload hx hb dX11_isWind_63 (lv_at hl 0 rfl) ?_
              refine fx_icmp_gt (tgt := 72) hx hb dX11_isWind_65 (by decide) rfl rfl (fun c13 => ?_) (fun c13 => ?_)
              · refine lv_iconst (v := 0) hx hb dX11_isWind_72 (by decide) ?_
                exact W.zret (v := 0) hx hb hr rfl (fun t ht hW => ⟨0, rfl, Or.inr ⟨rfl, by omega⟩, ht⟩) (fun _ h => absurd h List.not_mem_nil) dX11_isWind_73
              · refine lv_iconst (v := 1) hx hb dX11_isWind_68 (by decide) ?_
                refine lv_goto (tgt := 73) hx hb dX11_isWind_69 (by decide) ?_
                exact W.zret (v := 1) hx hb hr rfl (fun t ht hW => ⟨1, rfl, Or.inl ⟨rfl, by omega⟩, ht⟩) (fun _ h => absurd h List.not_mem_nil) dX11_isWind_73
    · refine lv_iconst (v := 0) hx hb dX11_isWind_11 (by decide) ?_
      exact W.zret (v := 0) hx hb hr rfl (fun t ht hW => ⟨0, rfl, Or.inr ⟨rfl, by omega⟩, ht⟩) (fun _ h => absurd h List.not_mem_nil) dX11_isWind_12
set_option maxHeartbeats 400000 in
set_option maxRecDepth 20000 in
theorem fc_X11_has (l : Launch) (p0 : Int64) (p1 : Int32) : Met l yX11_has wsX11_has ({ frames := 0, cells := 0, slots := 0, locals := 0 }) (va_Pc [.long p0, .int p1] (fun _ => True)) (vp_Si (fun r : Int32 => ((r = 1 ∧ (rt_has p0 p1)) ∨ (r = 0 ∧ ¬ (rt_has p0 p1))))) 0 0 (fun _ => False) := by
  refine Met.ofW (cc := cX11_has) (maxL := 3) (ret := (some .boolean)) (by decide) rfl ?_
  intro p e s m args below meth c s₁ B hml hv
  obtain ⟨rfl, _⟩ := hv
  have hx := B.exec
  have hb := B.bytes
  have hr := B.returns
  have hts := atoms_spec (ws := wsX11_has) B.pre
  have hown : s.vm.findClass RX11 = some m.cls := findClass_of_methodNamed B.named
  have hl := lv_entry ([.long p0, .int p1]) (n := 3) (Nat.le_of_ble_eq_true rfl)
  rw [lg_entry_eq]
  generalize (lg_sl ([.long p0, .int p1]) ++ List.replicate (3 - (lg_sl ([.long p0, .int p1])).length) Slot.unset).toArray = ls at hl ⊢
  have hl : lv_has ls 3 [(0, .long p0), (2, .int p1)] := hl
  refine lv_lload_n hx hb dX11_has_0 rfl (lv_at hl 0 rfl) ?_
  refine lv_iload_n hx hb dX11_has_1 rfl (lv_at hl 1 rfl) ?_
  refine lv_lushr (v := (p0.toUInt64 >>> (p1.toInt64.toUInt64 &&& Int64.toUInt64 63)).toInt64) hx hb dX11_has_2 rfl ?_
  refine lv_topl (fun y1 ey1 => ?_)
  refine lv_lconst (v := 1) hx hb dX11_has_3 (by decide) ?_
  refine lv_land hx hb dX11_has_4 ?_
  refine lv_topl (fun y2 ey2 => ?_)
  refine lv_lconst (v := 0) hx hb dX11_has_5 (by decide) ?_
  refine W.lcmp hx hb dX11_has_6 ?_
  refine fx_lif_eq (tgt := 14) hx hb dX11_has_7 (by decide) (fun c3 => ?_) (fun c3 => ?_)
  · refine lv_iconst (v := 0) hx hb dX11_has_14 (by decide) ?_
    exact W.zret (v := 0) hx hb hr rfl (fun t ht hW => ⟨0, rfl, Or.inr ⟨rfl, by subst_vars; exact fun z => z (by first | assumption | (apply Eq.symm; assumption))⟩, ht⟩) (fun _ h => absurd h List.not_mem_nil) dX11_has_15
  · refine lv_iconst (v := 1) hx hb dX11_has_10 (by decide) ?_
    refine lv_goto (tgt := 15) hx hb dX11_has_11 (by decide) ?_
    exact W.zret (v := 1) hx hb hr rfl (fun t ht hW => ⟨1, rfl, Or.inl ⟨rfl, by subst_vars; assumption⟩, ht⟩) (fun _ h => absurd h List.not_mem_nil) dX11_has_15
set_option maxHeartbeats 400000 in
set_option maxRecDepth 20000 in
theorem fc_X11_apart (l : Launch) (p0 p1 : Int32) (b_p0 : 0 ≤ p0.toInt ∧ p0.toInt ≤ 63) (b_p1 : 0 ≤ p1.toInt ∧ p1.toInt ≤ 63) : Met l yX11_apart wsX11_apart ({ frames := 1, cells := 0, slots := 0, locals := 13 }) (va_Pc [.int p0, .int p1] (fun _ => True)) (vp_Si (fun r : Int32 => (0 ≤ r.toInt ∧ r.toInt ≤ 7))) 0 0 (fun _ => False) := by
  refine Met.ofW (cc := cX11_apart) (maxL := 4) (ret := (some .int)) (by decide) rfl ?_
  intro p e s m args below meth c s₁ B hml hv
  obtain ⟨rfl, _⟩ := hv
  have hx := B.exec
  have hb := B.bytes
  have hr := B.returns
  have hts := atoms_spec (ws := wsX11_apart) B.pre
  have hown : s.vm.findClass RX11 = some m.cls := findClass_of_methodNamed B.named
  have hl := lv_entry ([.int p0, .int p1]) (n := 4) (Nat.le_of_ble_eq_true rfl)
  rw [lg_entry_eq]
  generalize (lg_sl ([.int p0, .int p1]) ++ List.replicate (4 - (lg_sl ([.int p0, .int p1])).length) Slot.unset).toArray = ls at hl ⊢
  have hl : lv_has ls 4 [(0, .int p0), (1, .int p1)] := hl
  refine lv_iload_n hx hb dX11_apart_0 rfl (lv_at hl 0 rfl) ?_
  refine lv_bipush (v := 8) hx hb dX11_apart_1 (by decide) ?_
  refine fx_irem hx hb dX11_apart_3 rfl zk_8 (by omega) (by omega) (fun y1 ey1 ty1 => ?_)
  refine lv_iload_n hx hb dX11_apart_4 rfl (lv_at hl 1 rfl) ?_
  refine lv_bipush (v := 8) hx hb dX11_apart_5 (by decide) ?_
  refine fx_irem hx hb dX11_apart_7 rfl zk_8 (by omega) (by omega) (fun y2 ey2 ty2 => ?_)
  refine fx_isub hx hb dX11_apart_8 rfl rfl (by omega) (fun y3 ey3 ty3 => ?_)
  refine va_mabs hx hb (by rw [hml]; exact hl.1.symm) hown (hts (.methodLink RX11 395 Lib.Math.abs.name) (List.mem_cons_of_mem _ tw_3_121)) (hts (.static Lib.Math.abs.name) (List.mem_cons_of_mem _ tw_3_122)) (hts (.initialized "java/lang/Math") (List.mem_cons_of_mem _ tw_1_17)) (hts (.code Lib.Math.abs.name Lib.Math.abs.code 1 (some .int)) (List.mem_cons_of_mem _ tw_3_123)) (Nat.le_of_ble_eq_true rfl) (Nat.le_of_ble_eq_true rfl) (Nat.le_of_ble_eq_true rfl) (Nat.le_of_ble_eq_true rfl) dX11_apart_9 ?_
  refine lv_topi (fun y4 ey4 => ?_)
  have ty4 : y4.toInt = if 0 ≤ y3.toInt then y3.toInt else -y3.toInt := by rw [ey4]; exact zi_abs rfl (by omega)
  refine lv_istore_n (lv' := [(2, .int y4), (0, .int p0), (1, .int p1)]) hx hb dX11_apart_12 rfl hl (by decide) rfl (fun ls hl => ?_)
  refine lv_iload_n hx hb dX11_apart_13 rfl (lv_at hl 1 rfl) ?_
  refine lv_bipush (v := 8) hx hb dX11_apart_14 (by decide) ?_
  refine fx_idiv hx hb dX11_apart_16 rfl zk_8 (by omega) (by omega) (fun y5 ey5 ty5 => ?_)
  refine lv_iload_n hx hb dX11_apart_17 rfl (lv_at hl 2 rfl) ?_
  refine lv_bipush (v := 8) hx hb dX11_apart_18 (by decide) ?_
  refine fx_idiv hx hb dX11_apart_20 rfl zk_8 (by omega) (by omega) (fun y6 ey6 ty6 => ?_)
  refine fx_isub hx hb dX11_apart_21 rfl rfl (by omega) (fun y7 ey7 ty7 => ?_)
  refine va_mabs hx hb (by rw [hml]; exact hl.1.symm) hown (hts (.methodLink RX11 395 Lib.Math.abs.name) (List.mem_cons_of_mem _ tw_3_121)) (hts (.static Lib.Math.abs.name) (List.mem_cons_of_mem _ tw_3_122)) (hts (.initialized "java/lang/Math") (List.mem_cons_of_mem _ tw_1_17)) (hts (.code Lib.Math.abs.name Lib.Math.abs.code 1 (some .int)) (List.mem_cons_of_mem _ tw_3_123)) (Nat.le_of_ble_eq_true rfl) (Nat.le_of_ble_eq_true rfl) (Nat.le_of_ble_eq_true rfl) (Nat.le_of_ble_eq_true rfl) dX11_apart_22 ?_
  refine lv_topi (fun y8 ey8 => ?_)
  have ty8 : y8.toInt = if 0 ≤ y7.toInt then y7.toInt else -y7.toInt := by rw [ey8]; exact zi_abs rfl (by omega)
  refine lv_istore_n (lv' := [(3, .int y8), (2, .int y4), (0, .int p0), (1, .int p1)]) hx hb dX11_apart_25 rfl hl (by decide) rfl (fun ls hl => ?_)
  refine lv_iload_n hx hb dX11_apart_26 rfl (lv_at hl 1 rfl) ?_
  refine lv_iload_n hx hb dX11_apart_27 rfl (lv_at hl 0 rfl) ?_
  refine va_mmax hx hb (by rw [hml]; exact hl.1.symm) hown (hts (.methodLink RX11 400 Lib.Math.max.name) (List.mem_cons_of_mem _ tw_3_124)) (hts (.static Lib.Math.max.name) (List.mem_cons_of_mem _ tw_2_156)) (hts (.initialized "java/lang/Math") (List.mem_cons_of_mem _ tw_1_17)) (hts (.code Lib.Math.max.name Lib.Math.max.code 2 (some .int)) (List.mem_cons_of_mem _ tw_2_157)) (Nat.le_of_ble_eq_true rfl) (Nat.le_of_ble_eq_true rfl) (Nat.le_of_ble_eq_true rfl) (Nat.le_of_ble_eq_true rfl) dX11_apart_28 ?_
  refine lv_topi (fun y9 ey9 => ?_)
  have ty9 : y9.toInt = if y4.toInt < y8.toInt then y8.toInt else y4.toInt := by rw [ey9]; exact zi_max rfl rfl
  exact W.iret (v := y9) hx hb hr (fun t ht hW => ⟨y9, rfl, (by omega), ht⟩) (fun _ h => absurd h List.not_mem_nil) dX11_apart_31
set_option maxHeartbeats 400000 in
set_option maxRecDepth 20000 in
theorem fc_X11_byColumns (l : Launch) (p0 : Int64) (p1 : Int32) : Met l yX11_byColumns wsX11_byColumns ({ frames := 0, cells := 0, slots := 0, locals := 0 }) (va_Pc [.long p0, .int p1] (fun _ => True)) (vp_Sl (fun r : Int64 => True)) 0 0 (fun _ => False) := by
  refine Met.ofW (cc := cX11_byColumns) (maxL := 5) (ret := (some .long)) (by decide) rfl ?_
  intro p e s m args below meth c s₁ B hml hv
  obtain ⟨rfl, _⟩ := hv
  have hx := B.exec
  have hb := B.bytes
  have hr := B.returns
  have hts := atoms_spec (ws := wsX11_byColumns) B.pre
  have hown : s.vm.findClass RX11 = some m.cls := findClass_of_methodNamed B.named
  have hl := lv_entry ([.long p0, .int p1]) (n := 5) (Nat.le_of_ble_eq_true rfl)
  rw [lg_entry_eq]
  generalize (lg_sl ([.long p0, .int p1]) ++ List.replicate (5 - (lg_sl ([.long p0, .int p1])).length) Slot.unset).toArray = ls at hl ⊢
  have hl : lv_has ls 5 [(0, .long p0), (2, .int p1)] := hl
  refine lv_ldc2 (v := 72340172838076673) hx hb hown (hts (.constantLong RX11 406 (72340172838076673)) (List.mem_cons_of_mem _ tw_3_62)) dX11_byColumns_0 ?_
  refine lv_lstore_n (lv' := [(3, .long 72340172838076673), (0, .long p0), (2, .int p1)]) hx hb dX11_byColumns_3 rfl hl (by decide) rfl (fun ls hl => ?_)
  refine lv_iload_n hx hb dX11_byColumns_4 rfl (lv_at hl 2 rfl) ?_
  refine fx_if_lt (tgt := 21) hx hb dX11_byColumns_5 (by decide) rfl (fun c1 => ?_) (fun c1 => ?_)
  · refine lv_lload_n hx hb dX11_byColumns_21 rfl (lv_at hl 1 rfl) ?_
    refine lv_lload_n hx hb dX11_byColumns_22 rfl (lv_at hl 0 rfl) ?_
    refine lv_sipush (v := 255) hx hb dX11_byColumns_23 (by decide) ?_
    refine lv_iload_n hx hb dX11_byColumns_26 rfl (lv_at hl 2 rfl) ?_
    refine lv_ineg hx hb dX11_byColumns_27 ?_
    refine lv_topi (fun y2 ey2 => ?_)
    refine lv_ishl hx hb dX11_byColumns_28 ?_
    refine lv_topi (fun y3 ey3 => ?_)
    refine lv_sipush (v := 255) hx hb dX11_byColumns_29 (by decide) ?_
    refine lv_iand hx hb dX11_byColumns_32 ?_
    refine lv_topi (fun y4 ey4 => ?_)
    refine fx_i2l hx hb dX11_byColumns_33 rfl (fun y5 ey5 ty5 => ?_)
    refine lv_lmul hx hb dX11_byColumns_34 ?_
    refine lv_topl (fun y6 ey6 => ?_)
    refine lv_land hx hb dX11_byColumns_35 ?_
    refine lv_topl (fun y7 ey7 => ?_)
    refine lv_iload_n hx hb dX11_byColumns_36 rfl (lv_at hl 2 rfl) ?_
    refine lv_ineg hx hb dX11_byColumns_37 ?_
    refine lv_topi (fun y8 ey8 => ?_)
    refine lv_lushr (v := (y7.toUInt64 >>> (y8.toInt64.toUInt64 &&& Int64.toUInt64 63)).toInt64) hx hb dX11_byColumns_38 rfl ?_
    refine lv_topl (fun y9 ey9 => ?_)
    exact W.lret (v := y9) hx hb hr (fun t ht hW => ⟨y9, rfl, trivial, ht⟩) (fun _ h => absurd h List.not_mem_nil) dX11_byColumns_39
  · refine lv_lload_n hx hb dX11_byColumns_8 rfl (lv_at hl 1 rfl) ?_
    refine lv_lload_n hx hb dX11_byColumns_9 rfl (lv_at hl 0 rfl) ?_
    refine lv_sipush (v := 255) hx hb dX11_byColumns_10 (by decide) ?_
    refine lv_iload_n hx hb dX11_byColumns_13 rfl (lv_at hl 2 rfl) ?_
    refine lv_ishr hx hb dX11_byColumns_14 ?_
    refine lv_topi (fun y10 ey10 => ?_)
    refine fx_i2l hx hb dX11_byColumns_15 rfl (fun y11 ey11 ty11 => ?_)
    refine lv_lmul hx hb dX11_byColumns_16 ?_
    refine lv_topl (fun y12 ey12 => ?_)
    refine lv_land hx hb dX11_byColumns_17 ?_
    refine lv_topl (fun y13 ey13 => ?_)
    refine lv_iload_n hx hb dX11_byColumns_18 rfl (lv_at hl 2 rfl) ?_
    refine lv_lshl (v := y13 <<< (p1.toInt64 &&& 63)) hx hb dX11_byColumns_19 rfl ?_
    refine lv_topl (fun y14 ey14 => ?_)
    exact W.lret (v := y14) hx hb hr (fun t ht hW => ⟨y14, rfl, trivial, ht⟩) (fun _ h => absurd h List.not_mem_nil) dX11_byColumns_20
set_option maxHeartbeats 400000 in
set_option maxRecDepth 20000 in
theorem fc_X11_byRows (l : Launch) (p0 : Int64) (p1 : Int32) : Met l yX11_byRows wsX11_byRows ({ frames := 0, cells := 0, slots := 0, locals := 0 }) (va_Pc [.long p0, .int p1] (fun _ => True)) (vp_Sl (fun r : Int64 => True)) 0 0 (fun _ => False) := by
  refine Met.ofW (cc := cX11_byRows) (maxL := 3) (ret := (some .long)) (by decide) rfl ?_
  intro p e s m args below meth c s₁ B hml hv
  obtain ⟨rfl, _⟩ := hv
  have hx := B.exec
  have hb := B.bytes
  have hr := B.returns
  have hts := atoms_spec (ws := wsX11_byRows) B.pre
  have hown : s.vm.findClass RX11 = some m.cls := findClass_of_methodNamed B.named
  have hl := lv_entry ([.long p0, .int p1]) (n := 3) (Nat.le_of_ble_eq_true rfl)
  rw [lg_entry_eq]
  generalize (lg_sl ([.long p0, .int p1]) ++ List.replicate (3 - (lg_sl ([.long p0, .int p1])).length) Slot.unset).toArray = ls at hl ⊢
  have hl : lv_has ls 3 [(0, .long p0), (2, .int p1)] := hl
  refine lv_iload_n hx hb dX11_byRows_0 rfl (lv_at hl 1 rfl) ?_
  refine fx_if_lt (tgt := 13) hx hb dX11_byRows_1 (by decide) rfl (fun c1 => ?_) (fun c1 => ?_)
  · refine lv_lload_n hx hb dX11_byRows_13 rfl (lv_at hl 0 rfl) ?_
    refine lv_bipush (v := 8) hx hb dX11_byRows_14 (by decide) ?_
    refine lv_iload_n hx hb dX11_byRows_16 rfl (lv_at hl 1 rfl) ?_
    refine lv_ineg hx hb dX11_byRows_17 ?_
    refine lv_topi (fun y2 ey2 => ?_)
    refine fx_imulU hx hb dX11_byRows_18 (fun y3 ey3 => ?_)
    refine lv_lushr (v := (p0.toUInt64 >>> (y3.toInt64.toUInt64 &&& Int64.toUInt64 63)).toInt64) hx hb dX11_byRows_19 rfl ?_
    refine lv_topl (fun y4 ey4 => ?_)
    exact W.lret (v := y4) hx hb hr (fun t ht hW => ⟨y4, rfl, trivial, ht⟩) (fun _ h => absurd h List.not_mem_nil) dX11_byRows_20
  · refine lv_lload_n hx hb dX11_byRows_4 rfl (lv_at hl 0 rfl) ?_
    refine lv_bipush (v := 8) hx hb dX11_byRows_5 (by decide) ?_
    refine lv_iload_n hx hb dX11_byRows_7 rfl (lv_at hl 1 rfl) ?_
    refine fx_imulU hx hb dX11_byRows_8 (fun y5 ey5 => ?_)
    refine lv_lshl (v := p0 <<< (y5.toInt64 &&& 63)) hx hb dX11_byRows_9 rfl ?_
    refine lv_topl (fun y6 ey6 => ?_)
    refine lv_goto (tgt := 20) hx hb dX11_byRows_10 (by decide) ?_
    exact W.lret (v := y6) hx hb hr (fun t ht hW => ⟨y6, rfl, trivial, ht⟩) (fun _ h => absurd h List.not_mem_nil) dX11_byRows_20
set_option maxHeartbeats 400000 in
set_option maxRecDepth 20000 in
theorem fc_X11_nearest (l : Launch) (p0 : Int32) (p1 : Int64) (b_p0 : 0 ≤ p0.toInt ∧ p0.toInt ≤ 63) : Met l yX11_nearest wsX11_nearest ({ frames := 2, cells := 0, slots := 0, locals := 36 }) (va_Pc [.int p0, .long p1] (fun _ => True)) (vp_Si (fun r : Int32 => (0 ≤ r.toInt ∧ r.toInt ≤ 99))) 0 0 (fun _ => False) := by
  refine Met.ofW (cc := cX11_nearest) (maxL := 5) (ret := (some .int)) (by decide) rfl ?_
  intro p e s m args below meth c s₁ B hml hv
  obtain ⟨rfl, _⟩ := hv
  have hx := B.exec
  have hb := B.bytes
  have hr := B.returns
  have hts := atoms_spec (ws := wsX11_nearest) B.pre
  have hown : s.vm.findClass RX11 = some m.cls := findClass_of_methodNamed B.named
  have hl := lv_entry ([.int p0, .long p1]) (n := 5) (Nat.le_of_ble_eq_true rfl)
  rw [lg_entry_eq]
  generalize (lg_sl ([.int p0, .long p1]) ++ List.replicate (5 - (lg_sl ([.int p0, .long p1])).length) Slot.unset).toArray = ls at hl ⊢
  have hl : lv_has ls 5 [(0, .int p0), (1, .long p1)] := hl
  refine lv_bipush (v := 99) hx hb dX11_nearest_0 (by decide) ?_
  refine lv_istore_n (lv' := [(3, .int 99), (0, .int p0), (1, .long p1)]) hx hb dX11_nearest_2 rfl hl (by decide) rfl (fun ls hl => ?_)
  refine lv_iconst (v := 0) hx hb dX11_nearest_3 (by decide) ?_
  refine lv_istore (lv' := [(4, .int 0), (3, .int 99), (0, .int p0), (1, .long p1)]) hx hb dX11_nearest_4 hl (by decide) rfl (fun ls hl => ?_)
  have lp : ∀ (n_lp : Nat) (lp_4 : Int32) (lp_3 : Int32), (64 - lp_4.toInt).toNat < n_lp → (0 ≤ lp_4.toInt ∧ lp_4.toInt ≤ 64) → (0 ≤ lp_3.toInt ∧ lp_3.toInt ≤ 99) → ∀ (ls : Array Slot), lv_has ls 5 [(4, .int lp_4), (3, .int lp_3), (0, .int p0), (1, .long p1)] → W p l e (headSpec wsX11_nearest ({ frames := 2, cells := 0, slots := 0, locals := 36 })).room s m ([.int p0, .long p1] : List Value).toArray below meth c s.heap [] 0 0 (MQ below (vp_Si (fun r : Int32 => (0 ≤ r.toInt ∧ r.toInt ≤ 99))) ([.int p0, .long p1] : List Value).toArray s 0 0 (fun _ => False)) (F0 m 6 ls []) := by
    intro n_lp
    induction n_lp with
    | zero => intro lp_4 lp_3 hm_lp b_lp_4 b_lp_3 ls hl; exact absurd hm_lp (Nat.not_lt_zero _)
    | succ n_lp ih_lp =>
      intro lp_4 lp_3 hm_lp b_lp_4 b_lp_3 ls hl
      refine lv_iload hx hb dX11_nearest_6 (lv_at hl 0 rfl) ?_
      refine lv_bipush (v := 64) hx hb dX11_nearest_8 (by decide) ?_
      refine fx_icmp_ge (tgt := 39) hx hb dX11_nearest_10 (by decide) rfl zk_64 (fun c1 => ?_) (fun c1 => ?_)
      · refine lv_iload_n hx hb dX11_nearest_39 rfl (lv_at hl 1 rfl) ?_
        exact W.iret (v := lp_3) hx hb hr (fun t ht hW => ⟨lp_3, rfl, (by omega), ht⟩) (fun _ h => absurd h List.not_mem_nil) dX11_nearest_40
      · refine lv_lload_n hx hb dX11_nearest_13 rfl (lv_at hl 3 rfl) ?_
        refine lv_iload hx hb dX11_nearest_14 (lv_at hl 0 rfl) ?_
        refine vp_callSi (va_Run.run (va_runS (As := [.long p1, .int lp_4]) (rest := []) ⟨hx, hb, hml, hown, hts⟩ (fc_X11_has l p1 lp_4) (va_cwS 2 hts gX11_nearest_X11_has rfl rfl rfl (by decide +kernel) ⟨Nat.le_of_ble_eq_true rfl, Nat.le_of_ble_eq_true rfl⟩) ⟨fun a U g mk q => q, fun U hU hW => ⟨rfl, trivial⟩⟩ rfl rfl hl.1 rfl (lv_room (Nat.le_of_ble_eq_true rfl)) dX11_nearest_16 ⟨by decide +kernel, by decide +kernel⟩)) (fun r2 hr2 => ?_)
        rcases hr2 with ⟨rfl, c3⟩ | ⟨rfl, c3⟩
        · refine fx_if_eq (tgt := 33) hx hb dX11_nearest_19 (by decide) zk_1 (fun c4 => by exfalso; omega) (fun c4 => ?_)
          refine lv_iload_n hx hb dX11_nearest_22 rfl (lv_at hl 1 rfl) ?_
          refine lv_iload_n hx hb dX11_nearest_23 rfl (lv_at hl 2 rfl) ?_
          refine lv_iload hx hb dX11_nearest_24 (lv_at hl 0 rfl) ?_
          refine vp_callSi (va_Run.run (va_runS (As := [.int p0, .int lp_4]) (rest := [.int lp_3]) ⟨hx, hb, hml, hown, hts⟩ (fc_X11_apart l p0 lp_4 (by omega) (by omega)) (va_cwS 2 hts gX11_nearest_X11_apart rfl rfl rfl (by decide +kernel) ⟨Nat.le_of_ble_eq_true rfl, Nat.le_of_ble_eq_true rfl⟩) ⟨fun a U g mk q => q, fun U hU hW => ⟨rfl, trivial⟩⟩ rfl rfl hl.1 rfl (lv_room (Nat.le_of_ble_eq_true rfl)) dX11_nearest_26 ⟨by decide +kernel, by decide +kernel⟩)) (fun r5 hr5 => ?_)
          refine va_mmin hx hb (by rw [hml]; exact hl.1.symm) hown (hts (.methodLink RX11 403 Lib.Math.min.name) (List.mem_cons_of_mem _ tw_4_237)) (hts (.static Lib.Math.min.name) (List.mem_cons_of_mem _ tw_2_181)) (hts (.initialized "java/lang/Math") (List.mem_cons_of_mem _ tw_1_17)) (hts (.code Lib.Math.min.name Lib.Math.min.code 2 (some .int)) (List.mem_cons_of_mem _ tw_2_182)) (Nat.le_of_ble_eq_true rfl) (Nat.le_of_ble_eq_true rfl) (Nat.le_of_ble_eq_true rfl) (Nat.le_of_ble_eq_true rfl) dX11_nearest_29 ?_
          refine lv_topi (fun y6 ey6 => ?_)
          have ty6 : y6.toInt = if r5.toInt < lp_3.toInt then r5.toInt else lp_3.toInt := by rw [ey6]; exact zi_min rfl rfl
          refine lv_istore_n (lv' := [(3, .int y6), (4, .int lp_4), (0, .int p0), (1, .long p1)]) hx hb dX11_nearest_32 rfl hl (by decide) rfl (fun ls hl => ?_)
          obtain ⟨y7, ey7⟩ : ∃ y : Int32, y = lp_4 + 1 := ⟨_, rfl⟩
          have ty7 : y7.toInt = lp_4.toInt + 1 := by rw [ey7, zi_add _ _ (by rw [zk_1]; omega) (by rw [zk_1]; omega), zk_1]
          refine lv_iinc (v := y7) (lv' := [(4, .int y7), (3, .int y6), (0, .int p0), (1, .long p1)]) hx hb dX11_nearest_33 hl (k := 1) rfl (by rw [ey7]; rfl) (by decide) rfl (fun ls hl => ?_)
          refine lv_goto (tgt := 6) hx hb dX11_nearest_36 (by decide) ?_
          exact ih_lp y7 y6 (by omega) (by omega) (by omega) ls (lv_sub hl [0, 1, 2, 3] rfl)
        · refine fx_if_eq (tgt := 33) hx hb dX11_nearest_19 (by decide) zk_0 (fun c8 => ?_) (fun c8 => by exfalso; omega)
          obtain ⟨y9, ey9⟩ : ∃ y : Int32, y = lp_4 + 1 := ⟨_, rfl⟩
          have ty9 : y9.toInt = lp_4.toInt + 1 := by rw [ey9, zi_add _ _ (by rw [zk_1]; omega) (by rw [zk_1]; omega), zk_1]
          refine lv_iinc (v := y9) (lv' := [(4, .int y9), (3, .int lp_3), (0, .int p0), (1, .long p1)]) hx hb dX11_nearest_33 hl (k := 0) rfl (by rw [ey9]; rfl) (by decide) rfl (fun ls hl => ?_)
          refine lv_goto (tgt := 6) hx hb dX11_nearest_36 (by decide) ?_
          exact ih_lp y9 lp_3 (by omega) (by omega) (by omega) ls (lv_sub hl [0, 1, 2, 3] rfl)
  exact lp _ 0 99 (Nat.lt_succ_self _) (by decide) (by decide) ls (lv_sub hl [0, 1, 2, 3] rfl)
set_option maxHeartbeats 400000 in
set_option maxRecDepth 20000 in
theorem fc_X4_digit (l : Launch) (p0 : Int64) (p1 : Int32) : Met l yX4_digit wsX4_digit ({ frames := 0, cells := 0, slots := 0, locals := 0 }) (va_Pc [.long p0, .int p1] (fun _ => True)) (vp_Si (fun r : Int32 => (r = rt_dg p0 p1))) 0 0 (fun _ => False) := by
  refine Met.ofW (cc := cX4_digit) (maxL := 3) (ret := (some .int)) (by decide) rfl ?_
  intro p e s m args below meth c s₁ B hml hv
  obtain ⟨rfl, _⟩ := hv
  have hx := B.exec
  have hb := B.bytes
  have hr := B.returns
  have hts := atoms_spec (ws := wsX4_digit) B.pre
  have hown : s.vm.findClass RX4 = some m.cls := findClass_of_methodNamed B.named
  have hl := lv_entry ([.long p0, .int p1]) (n := 3) (Nat.le_of_ble_eq_true rfl)
  rw [lg_entry_eq]
  generalize (lg_sl ([.long p0, .int p1]) ++ List.replicate (3 - (lg_sl ([.long p0, .int p1])).length) Slot.unset).toArray = ls at hl ⊢
  have hl : lv_has ls 3 [(0, .long p0), (2, .int p1)] := hl
  refine lv_lload_n hx hb dX4_digit_0 rfl (lv_at hl 0 rfl) ?_
  refine lv_iconst (v := 4) hx hb dX4_digit_1 (by decide) ?_
  refine lv_iload_n hx hb dX4_digit_2 rfl (lv_at hl 1 rfl) ?_
  refine fx_imulU hx hb dX4_digit_3 (fun y1 ey1 => ?_)
  refine lv_lushr (v := (p0.toUInt64 >>> (y1.toInt64.toUInt64 &&& Int64.toUInt64 63)).toInt64) hx hb dX4_digit_4 rfl ?_
  refine lv_topl (fun y2 ey2 => ?_)
  refine lv_ldc2 (v := 15) hx hb hown (hts (.constantLong RX4 69 (15)) (List.mem_cons_of_mem _ tw_3_148)) dX4_digit_5 ?_
  refine lv_land hx hb dX4_digit_8 ?_
  refine lv_topl (fun y3 ey3 => ?_)
  refine lv_l2i (v := y3.toInt32) hx hb dX4_digit_9 rfl ?_
  refine lv_topi (fun y4 ey4 => ?_)
  exact W.iret (v := y4) hx hb hr (fun t ht hW => ⟨y4, rfl, (by subst_vars; rfl), ht⟩) (fun _ h => absurd h List.not_mem_nil) dX4_digit_10
set_option maxHeartbeats 400000 in
set_option maxRecDepth 20000 in
theorem fc_X9_truth (l : Launch) (p0 : Int32) : Met l yX9_truth wsX9_truth ({ frames := 0, cells := 0, slots := 0, locals := 0 }) (va_Pc [.int p0] (fun _ => True)) (vp_Si (fun r : Int32 => (0 ≤ r.toInt ∧ r.toInt ≤ 1))) 0 0 (fun _ => False) := by
  refine Met.ofW (cc := cX9_truth) (maxL := 1) (ret := (some .int)) (by decide) rfl ?_
  intro p e s m args below meth c s₁ B hml hv
  obtain ⟨rfl, _⟩ := hv
  have hx := B.exec
  have hb := B.bytes
  have hr := B.returns
  have hts := atoms_spec (ws := wsX9_truth) B.pre
  have hown : s.vm.findClass RX9 = some m.cls := findClass_of_methodNamed B.named
  have hl := lv_entry ([.int p0]) (n := 1) (Nat.le_of_ble_eq_true rfl)
  rw [lg_entry_eq]
  generalize (lg_sl ([.int p0]) ++ List.replicate (1 - (lg_sl ([.int p0])).length) Slot.unset).toArray = ls at hl ⊢
  have hl : lv_has ls 1 [(0, .int p0)] := hl
  refine lv_iload_n hx hb dX9_truth_0 rfl (lv_at hl 0 rfl) ?_
  refine fx_if_eq (tgt := 8) hx hb dX9_truth_1 (by decide) rfl (fun c1 => ?_) (fun c1 => ?_)
  · refine lv_iconst (v := 0) hx hb dX9_truth_8 (by decide) ?_
    exact W.iret (v := 0) hx hb hr (fun t ht hW => ⟨0, rfl, (by decide), ht⟩) (fun _ h => absurd h List.not_mem_nil) dX9_truth_9
  · refine lv_iconst (v := 1) hx hb dX9_truth_4 (by decide) ?_
    refine lv_goto (tgt := 9) hx hb dX9_truth_5 (by decide) ?_
    exact W.iret (v := 1) hx hb hr (fun t ht hW => ⟨1, rfl, (by decide), ht⟩) (fun _ h => absurd h List.not_mem_nil) dX9_truth_9
set_option maxHeartbeats 400000 in
set_option maxRecDepth 20000 in
theorem fc_X9_joined (l : Launch) (p0 p1 p2 : Int32) : Met l yX9_joined wsX9_joined ({ frames := 1, cells := 0, slots := 0, locals := 20 }) (va_Pc [.int p0, .int p1, .int p2] (fun _ => True)) (vp_Si (fun r : Int32 => True)) 0 0 (fun _ => False) := by
  refine Met.ofW (cc := cX9_joined) (maxL := 3) (ret := (some .int)) (by decide) rfl ?_
  intro p e s m args below meth c s₁ B hml hv
  obtain ⟨rfl, _⟩ := hv
  have hx := B.exec
  have hb := B.bytes
  have hr := B.returns
  have hts := atoms_spec (ws := wsX9_joined) B.pre
  have hown : s.vm.findClass RX9 = some m.cls := findClass_of_methodNamed B.named
  have hl := lv_entry ([.int p0, .int p1, .int p2]) (n := 3) (Nat.le_of_ble_eq_true rfl)
  rw [lg_entry_eq]
  generalize (lg_sl ([.int p0, .int p1, .int p2]) ++ List.replicate (3 - (lg_sl ([.int p0, .int p1, .int p2])).length) Slot.unset).toArray = ls at hl ⊢
  have hl : lv_has ls 3 [(0, .int p0), (1, .int p1), (2, .int p2)] := hl
  refine lv_iload_n hx hb dX9_joined_0 rfl (lv_at hl 0 rfl) ?_
  rcases (show p0.toInt < -17 ∨ -11 < p0.toInt ∨ p0 = (-17) ∨ p0 = (-16) ∨ p0 = (-15) ∨ p0 = (-14) ∨ p0 = (-13) ∨ p0 = (-12) ∨ p0 = (-11) by simp only [fa_eq, Int32.reduceToInt]; omega) with c1 | c1 | c1 | c1 | c1 | c1 | c1 | c1 | c1
  · refine lv_tableOut (tgt := 114) hx hb dX9_joined_1 (Or.inl c1) (by decide) ?_
    refine lv_iload_n hx hb dX9_joined_114 rfl (lv_at hl 1 rfl) ?_
    refine lv_iload_n hx hb dX9_joined_115 rfl (lv_at hl 2 rfl) ?_
    refine fx_imulU hx hb dX9_joined_116 (fun y2 ey2 => ?_)
    exact W.iret (v := y2) hx hb hr (fun t ht hW => ⟨y2, rfl, trivial, ht⟩) (fun _ h => absurd h List.not_mem_nil) dX9_joined_117
  · refine lv_tableOut (tgt := 114) hx hb dX9_joined_1 (Or.inr c1) (by decide) ?_
    refine lv_iload_n hx hb dX9_joined_114 rfl (lv_at hl 1 rfl) ?_
    refine lv_iload_n hx hb dX9_joined_115 rfl (lv_at hl 2 rfl) ?_
    refine fx_imulU hx hb dX9_joined_116 (fun y3 ey3 => ?_)
    exact W.iret (v := y3) hx hb hr (fun t ht hW => ⟨y3, rfl, trivial, ht⟩) (fun _ h => absurd h List.not_mem_nil) dX9_joined_117
  · refine lv_tableIn (off := 109) (tgt := 110) hx hb dX9_joined_1 (by rw [c1]; decide) (by rw [c1]; decide) (by rw [c1]; decide) (by decide) ?_
    have zc1 : p0.toInt = -17 := by rw [c1]; rfl
    refine lv_iload_n hx hb dX9_joined_110 rfl (lv_at hl 1 rfl) ?_
    refine lv_iload_n hx hb dX9_joined_111 rfl (lv_at hl 2 rfl) ?_
    refine fx_isubU hx hb dX9_joined_112 (fun y4 ey4 => ?_)
    exact W.iret (v := y4) hx hb hr (fun t ht hW => ⟨y4, rfl, trivial, ht⟩) (fun _ h => absurd h List.not_mem_nil) dX9_joined_113
  · refine lv_tableIn (off := 105) (tgt := 106) hx hb dX9_joined_1 (by rw [c1]; decide) (by rw [c1]; decide) (by rw [c1]; decide) (by decide) ?_
    have zc1 : p0.toInt = -16 := by rw [c1]; rfl
    refine lv_iload_n hx hb dX9_joined_106 rfl (lv_at hl 1 rfl) ?_
    refine lv_iload_n hx hb dX9_joined_107 rfl (lv_at hl 2 rfl) ?_
    refine fx_iaddU hx hb dX9_joined_108 (fun y5 ey5 => ?_)
    exact W.iret (v := y5) hx hb hr (fun t ht hW => ⟨y5, rfl, trivial, ht⟩) (fun _ h => absurd h List.not_mem_nil) dX9_joined_109
  · refine lv_tableIn (off := 91) (tgt := 92) hx hb dX9_joined_1 (by rw [c1]; decide) (by rw [c1]; decide) (by rw [c1]; decide) (by decide) ?_
    have zc1 : p0.toInt = -15 := by rw [c1]; rfl
    refine lv_iload_n hx hb dX9_joined_92 rfl (lv_at hl 1 rfl) ?_
    refine lv_iload_n hx hb dX9_joined_93 rfl (lv_at hl 2 rfl) ?_
    refine fx_icmp_ne (tgt := 101) hx hb dX9_joined_94 (by decide) rfl rfl (fun c6 => ?_) (fun c6 => ?_)
    · refine lv_iconst (v := 0) hx hb dX9_joined_101 (by decide) ?_
      refine vp_callSi (va_Run.run (va_runS (As := [.int 0]) (rest := []) ⟨hx, hb, hml, hown, hts⟩ (fc_X9_truth l 0) (va_cwS 1 hts gX9_joined_X9_truth rfl rfl rfl (by decide +kernel) ⟨Nat.le_of_ble_eq_true rfl, Nat.le_of_ble_eq_true rfl⟩) ⟨fun a U g mk q => q, fun U hU hW => ⟨rfl, trivial⟩⟩ rfl rfl hl.1 rfl (lv_room (Nat.le_of_ble_eq_true rfl)) dX9_joined_102 ⟨by decide +kernel, by decide +kernel⟩)) (fun r7 hr7 => ?_)
      exact W.iret (v := r7) hx hb hr (fun t ht hW => ⟨r7, rfl, trivial, ht⟩) (fun _ h => absurd h List.not_mem_nil) dX9_joined_105
    · refine lv_iconst (v := 1) hx hb dX9_joined_97 (by decide) ?_
      refine lv_goto (tgt := 102) hx hb dX9_joined_98 (by decide) ?_
      refine vp_callSi (va_Run.run (va_runS (As := [.int 1]) (rest := []) ⟨hx, hb, hml, hown, hts⟩ (fc_X9_truth l 1) (va_cwS 1 hts gX9_joined_X9_truth rfl rfl rfl (by decide +kernel) ⟨Nat.le_of_ble_eq_true rfl, Nat.le_of_ble_eq_true rfl⟩) ⟨fun a U g mk q => q, fun U hU hW => ⟨rfl, trivial⟩⟩ rfl rfl hl.1 rfl (lv_room (Nat.le_of_ble_eq_true rfl)) dX9_joined_102 ⟨by decide +kernel, by decide +kernel⟩)) (fun r8 hr8 => ?_)
      exact W.iret (v := r8) hx hb hr (fun t ht hW => ⟨r8, rfl, trivial, ht⟩) (fun _ h => absurd h List.not_mem_nil) dX9_joined_105
  · refine lv_tableIn (off := 77) (tgt := 78) hx hb dX9_joined_1 (by rw [c1]; decide) (by rw [c1]; decide) (by rw [c1]; decide) (by decide) ?_
    have zc1 : p0.toInt = -14 := by rw [c1]; rfl
    refine lv_iload_n hx hb dX9_joined_78 rfl (lv_at hl 1 rfl) ?_
    refine lv_iload_n hx hb dX9_joined_79 rfl (lv_at hl 2 rfl) ?_
    refine fx_icmp_ge (tgt := 87) hx hb dX9_joined_80 (by decide) rfl rfl (fun c9 => ?_) (fun c9 => ?_)
    · refine lv_iconst (v := 0) hx hb dX9_joined_87 (by decide) ?_
      refine vp_callSi (va_Run.run (va_runS (As := [.int 0]) (rest := []) ⟨hx, hb, hml, hown, hts⟩ (fc_X9_truth l 0) (va_cwS 1 hts gX9_joined_X9_truth rfl rfl rfl (by decide +kernel) ⟨Nat.le_of_ble_eq_true rfl, Nat.le_of_ble_eq_true rfl⟩) ⟨fun a U g mk q => q, fun U hU hW => ⟨rfl, trivial⟩⟩ rfl rfl hl.1 rfl (lv_room (Nat.le_of_ble_eq_true rfl)) dX9_joined_88 ⟨by decide +kernel, by decide +kernel⟩)) (fun r10 hr10 => ?_)
      exact W.iret (v := r10) hx hb hr (fun t ht hW => ⟨r10, rfl, trivial, ht⟩) (fun _ h => absurd h List.not_mem_nil) dX9_joined_91
    · refine lv_iconst (v := 1) hx hb dX9_joined_83 (by decide) ?_
      refine lv_goto (tgt := 88) hx hb dX9_joined_84 (by decide) ?_
      refine vp_callSi (va_Run.run (va_runS (As := [.int 1]) (rest := []) ⟨hx, hb, hml, hown, hts⟩ (fc_X9_truth l 1) (va_cwS 1 hts gX9_joined_X9_truth rfl rfl rfl (by decide +kernel) ⟨Nat.le_of_ble_eq_true rfl, Nat.le_of_ble_eq_true rfl⟩) ⟨fun a U g mk q => q, fun U hU hW => ⟨rfl, trivial⟩⟩ rfl rfl hl.1 rfl (lv_room (Nat.le_of_ble_eq_true rfl)) dX9_joined_88 ⟨by decide +kernel, by decide +kernel⟩)) (fun r11 hr11 => ?_)
      exact W.iret (v := r11) hx hb hr (fun t ht hW => ⟨r11, rfl, trivial, ht⟩) (fun _ h => absurd h List.not_mem_nil) dX9_joined_91
  · refine lv_tableIn (off := 113) (tgt := 114) hx hb dX9_joined_1 (by rw [c1]; decide) (by rw [c1]; decide) (by rw [c1]; decide) (by decide) ?_
    have zc1 : p0.toInt = -13 := by rw [c1]; rfl
    refine lv_iload_n hx hb dX9_joined_114 rfl (lv_at hl 1 rfl) ?_
    refine lv_iload_n hx hb dX9_joined_115 rfl (lv_at hl 2 rfl) ?_
    refine fx_imulU hx hb dX9_joined_116 (fun y12 ey12 => ?_)
    exact W.iret (v := y12) hx hb hr (fun t ht hW => ⟨y12, rfl, trivial, ht⟩) (fun _ h => absurd h List.not_mem_nil) dX9_joined_117
  · refine lv_tableIn (off := 60) (tgt := 61) hx hb dX9_joined_1 (by rw [c1]; decide) (by rw [c1]; decide) (by rw [c1]; decide) (by decide) ?_
    have zc1 : p0.toInt = -12 := by rw [c1]; rfl
    refine lv_iload_n hx hb dX9_joined_61 rfl (lv_at hl 1 rfl) ?_
    refine fx_if_eq (tgt := 73) hx hb dX9_joined_62 (by decide) rfl (fun c13 => ?_) (fun c13 => ?_)
    · refine lv_iconst (v := 0) hx hb dX9_joined_73 (by decide) ?_
      refine vp_callSi (va_Run.run (va_runS (As := [.int 0]) (rest := []) ⟨hx, hb, hml, hown, hts⟩ (fc_X9_truth l 0) (va_cwS 1 hts gX9_joined_X9_truth rfl rfl rfl (by decide +kernel) ⟨Nat.le_of_ble_eq_true rfl, Nat.le_of_ble_eq_true rfl⟩) ⟨fun a U g mk q => q, fun U hU hW => ⟨rfl, trivial⟩⟩ rfl rfl hl.1 rfl (lv_room (Nat.le_of_ble_eq_true rfl)) dX9_joined_74 ⟨by decide +kernel, by decide +kernel⟩)) (fun r14 hr14 => ?_)
      exact W.iret (v := r14) hx hb hr (fun t ht hW => ⟨r14, rfl, trivial, ht⟩) (fun _ h => absurd h List.not_mem_nil) dX9_joined_77
    · refine lv_iload_n hx hb dX9_joined_65 rfl (lv_at hl 2 rfl) ?_
      refine fx_if_eq (tgt := 73) hx hb dX9_joined_66 (by decide) rfl (fun c15 => ?_) (fun c15 => ?_)
      · refine lv_iconst (v := 0) hx hb dX9_joined_73 (by decide) ?_
        refine vp_callSi (va_Run.run (va_runS (As := [.int 0]) (rest := []) ⟨hx, hb, hml, hown, hts⟩ (fc_X9_truth l 0) (va_cwS 1 hts gX9_joined_X9_truth rfl rfl rfl (by decide +kernel) ⟨Nat.le_of_ble_eq_true rfl, Nat.le_of_ble_eq_true rfl⟩) ⟨fun a U g mk q => q, fun U hU hW => ⟨rfl, trivial⟩⟩ rfl rfl hl.1 rfl (lv_room (Nat.le_of_ble_eq_true rfl)) dX9_joined_74 ⟨by decide +kernel, by decide +kernel⟩)) (fun r16 hr16 => ?_)
        exact W.iret (v := r16) hx hb hr (fun t ht hW => ⟨r16, rfl, trivial, ht⟩) (fun _ h => absurd h List.not_mem_nil) dX9_joined_77
      · refine lv_iconst (v := 1) hx hb dX9_joined_69 (by decide) ?_
        refine lv_goto (tgt := 74) hx hb dX9_joined_70 (by decide) ?_
        refine vp_callSi (va_Run.run (va_runS (As := [.int 1]) (rest := []) ⟨hx, hb, hml, hown, hts⟩ (fc_X9_truth l 1) (va_cwS 1 hts gX9_joined_X9_truth rfl rfl rfl (by decide +kernel) ⟨Nat.le_of_ble_eq_true rfl, Nat.le_of_ble_eq_true rfl⟩) ⟨fun a U g mk q => q, fun U hU hW => ⟨rfl, trivial⟩⟩ rfl rfl hl.1 rfl (lv_room (Nat.le_of_ble_eq_true rfl)) dX9_joined_74 ⟨by decide +kernel, by decide +kernel⟩)) (fun r17 hr17 => ?_)
        exact W.iret (v := r17) hx hb hr (fun t ht hW => ⟨r17, rfl, trivial, ht⟩) (fun _ h => absurd h List.not_mem_nil) dX9_joined_77
  · refine lv_tableIn (off := 43) (tgt := 44) hx hb dX9_joined_1 (by rw [c1]; decide) (by rw [c1]; decide) (by rw [c1]; decide) (by decide) ?_
    have zc1 : p0.toInt = -11 := by rw [c1]; rfl
    refine lv_iload_n hx hb dX9_joined_44 rfl (lv_at hl 1 rfl) ?_
    refine fx_if_ne (tgt := 52) hx hb dX9_joined_45 (by decide) rfl (fun c18 => ?_) (fun c18 => ?_)
    · refine lv_iconst (v := 1) hx hb dX9_joined_52 (by decide) ?_
      refine lv_goto (tgt := 57) hx hb dX9_joined_53 (by decide) ?_
      refine vp_callSi (va_Run.run (va_runS (As := [.int 1]) (rest := []) ⟨hx, hb, hml, hown, hts⟩ (fc_X9_truth l 1) (va_cwS 1 hts gX9_joined_X9_truth rfl rfl rfl (by decide +kernel) ⟨Nat.le_of_ble_eq_true rfl, Nat.le_of_ble_eq_true rfl⟩) ⟨fun a U g mk q => q, fun U hU hW => ⟨rfl, trivial⟩⟩ rfl rfl hl.1 rfl (lv_room (Nat.le_of_ble_eq_true rfl)) dX9_joined_57 ⟨by decide +kernel, by decide +kernel⟩)) (fun r19 hr19 => ?_)
      exact W.iret (v := r19) hx hb hr (fun t ht hW => ⟨r19, rfl, trivial, ht⟩) (fun _ h => absurd h List.not_mem_nil) dX9_joined_60
    · refine lv_iload_n hx hb dX9_joined_48 rfl (lv_at hl 2 rfl) ?_
      refine fx_if_eq (tgt := 56) hx hb dX9_joined_49 (by decide) rfl (fun c20 => ?_) (fun c20 => ?_)
      · refine lv_iconst (v := 0) hx hb dX9_joined_56 (by decide) ?_
        refine vp_callSi (va_Run.run (va_runS (As := [.int 0]) (rest := []) ⟨hx, hb, hml, hown, hts⟩ (fc_X9_truth l 0) (va_cwS 1 hts gX9_joined_X9_truth rfl rfl rfl (by decide +kernel) ⟨Nat.le_of_ble_eq_true rfl, Nat.le_of_ble_eq_true rfl⟩) ⟨fun a U g mk q => q, fun U hU hW => ⟨rfl, trivial⟩⟩ rfl rfl hl.1 rfl (lv_room (Nat.le_of_ble_eq_true rfl)) dX9_joined_57 ⟨by decide +kernel, by decide +kernel⟩)) (fun r21 hr21 => ?_)
        exact W.iret (v := r21) hx hb hr (fun t ht hW => ⟨r21, rfl, trivial, ht⟩) (fun _ h => absurd h List.not_mem_nil) dX9_joined_60
      · refine lv_iconst (v := 1) hx hb dX9_joined_52 (by decide) ?_
        refine lv_goto (tgt := 57) hx hb dX9_joined_53 (by decide) ?_
        refine vp_callSi (va_Run.run (va_runS (As := [.int 1]) (rest := []) ⟨hx, hb, hml, hown, hts⟩ (fc_X9_truth l 1) (va_cwS 1 hts gX9_joined_X9_truth rfl rfl rfl (by decide +kernel) ⟨Nat.le_of_ble_eq_true rfl, Nat.le_of_ble_eq_true rfl⟩) ⟨fun a U g mk q => q, fun U hU hW => ⟨rfl, trivial⟩⟩ rfl rfl hl.1 rfl (lv_room (Nat.le_of_ble_eq_true rfl)) dX9_joined_57 ⟨by decide +kernel, by decide +kernel⟩)) (fun r22 hr22 => ?_)
        exact W.iret (v := r22) hx hb hr (fun t ht hW => ⟨r22, rfl, trivial, ht⟩) (fun _ h => absurd h List.not_mem_nil) dX9_joined_60
set_option maxHeartbeats 400000 in
set_option maxRecDepth 20000 in
theorem fc_X5_isBlank (l : Launch) (p0 : Int32) : Met l yX5_isBlank wsX5_isBlank ({ frames := 0, cells := 0, slots := 0, locals := 0 }) (va_Pc [.int p0] (fun _ => True)) (vp_Si (fun r : Int32 => ((r = 1 ∧ (p0.toInt = 32 ∨ p0.toInt = 10)) ∨ (r = 0 ∧ ¬ (p0.toInt = 32 ∨ p0.toInt = 10))))) 0 0 (fun _ => False) := by
  refine Met.ofW (cc := cX5_isBlank) (maxL := 1) (ret := (some .boolean)) (by decide) rfl ?_
  intro p e s m args below meth c s₁ B hml hv
  obtain ⟨rfl, _⟩ := hv
  have hx := B.exec
  have hb := B.bytes
  have hr := B.returns
  have hts := atoms_spec (ws := wsX5_isBlank) B.pre
  have hown : s.vm.findClass RX5 = some m.cls := findClass_of_methodNamed B.named
  have hl := lv_entry ([.int p0]) (n := 1) (Nat.le_of_ble_eq_true rfl)
  rw [lg_entry_eq]
  generalize (lg_sl ([.int p0]) ++ List.replicate (1 - (lg_sl ([.int p0])).length) Slot.unset).toArray = ls at hl ⊢
  have hl : lv_has ls 1 [(0, .int p0)] := hl
  refine lv_iload_n hx hb dX5_isBlank_0 rfl (lv_at hl 0 rfl) ?_
  refine lv_bipush (v := 32) hx hb dX5_isBlank_1 (by decide) ?_
  refine fx_icmp_eq (tgt := 12) hx hb dX5_isBlank_3 (by decide) rfl zk_32 (fun c1 => ?_) (fun c1 => ?_)
  · refine lv_iconst (v := 1) hx hb dX5_isBlank_12 (by decide) ?_
    refine lv_goto (tgt := 17) hx hb dX5_isBlank_13 (by decide) ?_
    exact W.zret (v := 1) hx hb hr rfl (fun t ht hW => ⟨1, rfl, Or.inl ⟨rfl, by omega⟩, ht⟩) (fun _ h => absurd h List.not_mem_nil) dX5_isBlank_17
  · refine lv_iload_n hx hb dX5_isBlank_6 rfl (lv_at hl 0 rfl) ?_
    refine lv_bipush (v := 10) hx hb dX5_isBlank_7 (by decide) ?_
    refine fx_icmp_ne (tgt := 16) hx hb dX5_isBlank_9 (by decide) rfl zk_10 (fun c2 => ?_) (fun c2 => ?_)
    · refine lv_iconst (v := 0) hx hb dX5_isBlank_16 (by decide) ?_
      exact W.zret (v := 0) hx hb hr rfl (fun t ht hW => ⟨0, rfl, Or.inr ⟨rfl, by omega⟩, ht⟩) (fun _ h => absurd h List.not_mem_nil) dX5_isBlank_17
    · refine lv_iconst (v := 1) hx hb dX5_isBlank_12 (by decide) ?_
      refine lv_goto (tgt := 17) hx hb dX5_isBlank_13 (by decide) ?_
      exact W.zret (v := 1) hx hb hr rfl (fun t ht hW => ⟨1, rfl, Or.inl ⟨rfl, by omega⟩, ht⟩) (fun _ h => absurd h List.not_mem_nil) dX5_isBlank_17
set_option maxHeartbeats 400000 in
set_option maxRecDepth 20000 in
theorem fc_X5_isLetter (l : Launch) (p0 : Int32) : Met l yX5_isLetter wsX5_isLetter ({ frames := 0, cells := 0, slots := 0, locals := 0 }) (va_Pc [.int p0] (fun _ => True)) (vp_Si (fun r : Int32 => ((r = 1 ∧ (97 ≤ p0.toInt ∧ p0.toInt ≤ 122)) ∨ (r = 0 ∧ ¬ (97 ≤ p0.toInt ∧ p0.toInt ≤ 122))))) 0 0 (fun _ => False) := by
  refine Met.ofW (cc := cX5_isLetter) (maxL := 1) (ret := (some .boolean)) (by decide) rfl ?_
  intro p e s m args below meth c s₁ B hml hv
  obtain ⟨rfl, _⟩ := hv
  have hx := B.exec
  have hb := B.bytes
  have hr := B.returns
  have hts := atoms_spec (ws := wsX5_isLetter) B.pre
  have hown : s.vm.findClass RX5 = some m.cls := findClass_of_methodNamed B.named
  have hl := lv_entry ([.int p0]) (n := 1) (Nat.le_of_ble_eq_true rfl)
  rw [lg_entry_eq]
  generalize (lg_sl ([.int p0]) ++ List.replicate (1 - (lg_sl ([.int p0])).length) Slot.unset).toArray = ls at hl ⊢
  have hl : lv_has ls 1 [(0, .int p0)] := hl
  refine lv_iload_n hx hb dX5_isLetter_0 rfl (lv_at hl 0 rfl) ?_
  refine lv_bipush (v := 97) hx hb dX5_isLetter_1 (by decide) ?_
  refine fx_icmp_lt (tgt := 16) hx hb dX5_isLetter_3 (by decide) rfl zk_97 (fun c1 => ?_) (fun c1 => ?_)
  · refine lv_iconst (v := 0) hx hb dX5_isLetter_16 (by decide) ?_
    exact W.zret (v := 0) hx hb hr rfl (fun t ht hW => ⟨0, rfl, Or.inr ⟨rfl, by omega⟩, ht⟩) (fun _ h => absurd h List.not_mem_nil) dX5_isLetter_17
  · refine lv_iload_n hx hb dX5_isLetter_6 rfl (lv_at hl 0 rfl) ?_
    refine lv_bipush (v := 122) hx hb dX5_isLetter_7 (by decide) ?_
    refine fx_icmp_gt (tgt := 16) hx hb dX5_isLetter_9 (by decide) rfl zk_122 (fun c2 => ?_) (fun c2 => ?_)
    · refine lv_iconst (v := 0) hx hb dX5_isLetter_16 (by decide) ?_
      exact W.zret (v := 0) hx hb hr rfl (fun t ht hW => ⟨0, rfl, Or.inr ⟨rfl, by omega⟩, ht⟩) (fun _ h => absurd h List.not_mem_nil) dX5_isLetter_17
    · refine lv_iconst (v := 1) hx hb dX5_isLetter_12 (by decide) ?_
      refine lv_goto (tgt := 17) hx hb dX5_isLetter_13 (by decide) ?_
      exact W.zret (v := 1) hx hb hr rfl (fun t ht hW => ⟨1, rfl, Or.inl ⟨rfl, by omega⟩, ht⟩) (fun _ h => absurd h List.not_mem_nil) dX5_isLetter_17
set_option maxHeartbeats 400000 in
set_option maxRecDepth 20000 in
theorem fc_X5_isDigit (l : Launch) (p0 : Int32) : Met l yX5_isDigit wsX5_isDigit ({ frames := 0, cells := 0, slots := 0, locals := 0 }) (va_Pc [.int p0] (fun _ => True)) (vp_Si (fun r : Int32 => ((r = 1 ∧ (48 ≤ p0.toInt ∧ p0.toInt ≤ 57)) ∨ (r = 0 ∧ ¬ (48 ≤ p0.toInt ∧ p0.toInt ≤ 57))))) 0 0 (fun _ => False) := by
  refine Met.ofW (cc := cX5_isDigit) (maxL := 1) (ret := (some .boolean)) (by decide) rfl ?_
  intro p e s m args below meth c s₁ B hml hv
  obtain ⟨rfl, _⟩ := hv
  have hx := B.exec
  have hb := B.bytes
  have hr := B.returns
  have hts := atoms_spec (ws := wsX5_isDigit) B.pre
  have hown : s.vm.findClass RX5 = some m.cls := findClass_of_methodNamed B.named
  have hl := lv_entry ([.int p0]) (n := 1) (Nat.le_of_ble_eq_true rfl)
  rw [lg_entry_eq]
  generalize (lg_sl ([.int p0]) ++ List.replicate (1 - (lg_sl ([.int p0])).length) Slot.unset).toArray = ls at hl ⊢
  have hl : lv_has ls 1 [(0, .int p0)] := hl
  refine lv_iload_n hx hb dX5_isDigit_0 rfl (lv_at hl 0 rfl) ?_
  refine lv_bipush (v := 48) hx hb dX5_isDigit_1 (by decide) ?_
  refine fx_icmp_lt (tgt := 16) hx hb dX5_isDigit_3 (by decide) rfl zk_48 (fun c1 => ?_) (fun c1 => ?_)
  · refine lv_iconst (v := 0) hx hb dX5_isDigit_16 (by decide) ?_
    exact W.zret (v := 0) hx hb hr rfl (fun t ht hW => ⟨0, rfl, Or.inr ⟨rfl, by omega⟩, ht⟩) (fun _ h => absurd h List.not_mem_nil) dX5_isDigit_17
  · refine lv_iload_n hx hb dX5_isDigit_6 rfl (lv_at hl 0 rfl) ?_
    refine lv_bipush (v := 57) hx hb dX5_isDigit_7 (by decide) ?_
    refine fx_icmp_gt (tgt := 16) hx hb dX5_isDigit_9 (by decide) rfl zk_57 (fun c2 => ?_) (fun c2 => ?_)
    · refine lv_iconst (v := 0) hx hb dX5_isDigit_16 (by decide) ?_
      exact W.zret (v := 0) hx hb hr rfl (fun t ht hW => ⟨0, rfl, Or.inr ⟨rfl, by omega⟩, ht⟩) (fun _ h => absurd h List.not_mem_nil) dX5_isDigit_17
    · refine lv_iconst (v := 1) hx hb dX5_isDigit_12 (by decide) ?_
      refine lv_goto (tgt := 17) hx hb dX5_isDigit_13 (by decide) ?_
      exact W.zret (v := 1) hx hb hr rfl (fun t ht hW => ⟨1, rfl, Or.inl ⟨rfl, by omega⟩, ht⟩) (fun _ h => absurd h List.not_mem_nil) dX5_isDigit_17
set_option maxHeartbeats 400000 in
set_option maxRecDepth 20000 in
theorem fc_X5_isSign (l : Launch) (p0 : Int32) : Met l yX5_isSign wsX5_isSign ({ frames := 0, cells := 0, slots := 0, locals := 0 }) (va_Pc [.int p0] (fun _ => True)) (vp_Si (fun r : Int32 => ((r = 1 ∧ ((40 ≤ p0.toInt ∧ p0.toInt ≤ 43) ∨ p0.toInt = 45 ∨ (59 ≤ p0.toInt ∧ p0.toInt ≤ 61))) ∨ (r = 0 ∧ ¬ ((40 ≤ p0.toInt ∧ p0.toInt ≤ 43) ∨ p0.toInt = 45 ∨ (59 ≤ p0.toInt ∧ p0.toInt ≤ 61)))))) 0 0 (fun _ => False) := by
  refine Met.ofW (cc := cX5_isSign) (maxL := 1) (ret := (some .boolean)) (by decide) rfl ?_
  intro p e s m args below meth c s₁ B hml hv
  obtain ⟨rfl, _⟩ := hv
  have hx := B.exec
  have hb := B.bytes
  have hr := B.returns
  have hts := atoms_spec (ws := wsX5_isSign) B.pre
  have hown : s.vm.findClass RX5 = some m.cls := findClass_of_methodNamed B.named
  have hl := lv_entry ([.int p0]) (n := 1) (Nat.le_of_ble_eq_true rfl)
  rw [lg_entry_eq]
  generalize (lg_sl ([.int p0]) ++ List.replicate (1 - (lg_sl ([.int p0])).length) Slot.unset).toArray = ls at hl ⊢
  have hl : lv_has ls 1 [(0, .int p0)] := hl
  refine lv_iload_n hx hb dX5_isSign_0 rfl (lv_at hl 0 rfl) ?_
  refine lv_bipush (v := 40) hx hb dX5_isSign_1 (by decide) ?_
  refine fx_icmp_lt (tgt := 12) hx hb dX5_isSign_3 (by decide) rfl zk_40 (fun c1 => ?_) (fun c1 => ?_)
  · refine lv_iload_n hx hb dX5_isSign_12 rfl (lv_at hl 0 rfl) ?_
    refine lv_bipush (v := 45) hx hb dX5_isSign_13 (by decide) ?_
    refine fx_icmp_eq (tgt := 30) hx hb dX5_isSign_15 (by decide) rfl zk_45 (fun c2 => by exfalso; omega) (fun c2 => ?_)
    refine lv_iload_n hx hb dX5_isSign_18 rfl (lv_at hl 0 rfl) ?_
    refine lv_bipush (v := 59) hx hb dX5_isSign_19 (by decide) ?_
    refine fx_icmp_lt (tgt := 34) hx hb dX5_isSign_21 (by decide) rfl zk_59 (fun c3 => ?_) (fun c3 => by exfalso; omega)
    refine lv_iconst (v := 0) hx hb dX5_isSign_34 (by decide) ?_
    exact W.zret (v := 0) hx hb hr rfl (fun t ht hW => ⟨0, rfl, Or.inr ⟨rfl, by omega⟩, ht⟩) (fun _ h => absurd h List.not_mem_nil) dX5_isSign_35
  · refine lv_iload_n hx hb dX5_isSign_6 rfl (lv_at hl 0 rfl) ?_
    refine lv_bipush (v := 43) hx hb dX5_isSign_7 (by decide) ?_
    refine fx_icmp_le (tgt := 30) hx hb dX5_isSign_9 (by decide) rfl zk_43 (fun c4 => ?_) (fun c4 => ?_)
    · refine lv_iconst (v := 1) hx hb dX5_isSign_30 (by decide) ?_
      refine lv_goto (tgt := 35) hx hb dX5_isSign_31 (by decide) ?_
      exact W.zret (v := 1) hx hb hr rfl (fun t ht hW => ⟨1, rfl, Or.inl ⟨rfl, by omega⟩, ht⟩) (fun _ h => absurd h List.not_mem_nil) dX5_isSign_35
    · refine lv_iload_n hx hb dX5_isSign_12 rfl (lv_at hl 0 rfl) ?_
      refine lv_bipush (v := 45) hx hb dX5_isSign_13 (by decide) ?_
      refine fx_icmp_eq (tgt := 30) hx hb dX5_isSign_15 (by decide) rfl zk_45 (fun c5 => ?_) (fun c5 => ?_)
      · refine lv_iconst (v := 1) hx hb dX5_isSign_30 (by decide) ?_
        refine lv_goto (tgt := 35) hx hb dX5_isSign_31 (by decide) ?_
        exact W.zret (v := 1) hx hb hr rfl (fun t ht hW => ⟨1, rfl, Or.inl ⟨rfl, by omega⟩, ht⟩) (fun _ h => absurd h List.not_mem_nil) dX5_isSign_35
      · refine lv_iload_n hx hb dX5_isSign_18 rfl (lv_at hl 0 rfl) ?_
        refine lv_bipush (v := 59) hx hb dX5_isSign_19 (by decide) ?_
        refine fx_icmp_lt (tgt := 34) hx hb dX5_isSign_21 (by decide) rfl zk_59 (fun c6 => ?_) (fun c6 => ?_)
        · refine lv_iconst (v := 0) hx hb dX5_isSign_34 (by decide) ?_
          exact W.zret (v := 0) hx hb hr rfl (fun t ht hW => ⟨0, rfl, Or.inr ⟨rfl, by omega⟩, ht⟩) (fun _ h => absurd h List.not_mem_nil) dX5_isSign_35
        · refine lv_iload_n hx hb dX5_isSign_24 rfl (lv_at hl 0 rfl) ?_
          refine lv_bipush (v := 61) hx hb dX5_isSign_25 (by decide) ?_
          refine fx_icmp_gt (tgt := 34) hx hb dX5_isSign_27 (by decide) rfl zk_61 (fun c7 => ?_) (fun c7 => ?_)
          · refine lv_iconst (v := 0) hx hb dX5_isSign_34 (by decide) ?_
            exact W.zret (v := 0) hx hb hr rfl (fun t ht hW => ⟨0, rfl, Or.inr ⟨rfl, by omega⟩, ht⟩) (fun _ h => absurd h List.not_mem_nil) dX5_isSign_35
          · refine lv_iconst (v := 1) hx hb dX5_isSign_30 (by decide) ?_
            refine lv_goto (tgt := 35) hx hb dX5_isSign_31 (by decide) ?_
            exact W.zret (v := 1) hx hb hr rfl (fun t ht hW => ⟨1, rfl, Or.inl ⟨rfl, by omega⟩, ht⟩) (fun _ h => absurd h List.not_mem_nil) dX5_isSign_35
set_option maxHeartbeats 400000 in
set_option maxRecDepth 20000 in
theorem fc_X6_commonDivisor (l : Launch) (p0 p1 : Int64) : Met l yX6_commonDivisor wsX6_commonDivisor ({ frames := 0, cells := 0, slots := 0, locals := 0 }) (va_Pc [.long p0, .long p1] (fun _ => True)) (vp_Sl (fun r : Int64 => (¬ r = 0))) 0 0 (fun _ => False) := by
  refine Met.ofW (cc := cX6_commonDivisor) (maxL := 11) (ret := (some .long)) (by decide) rfl ?_
  intro p e s m args below meth c s₁ B hml hv
  obtain ⟨rfl, _⟩ := hv
  have hx := B.exec
  have hb := B.bytes
  have hr := B.returns
  have hts := atoms_spec (ws := wsX6_commonDivisor) B.pre
  have hown : s.vm.findClass RX6 = some m.cls := findClass_of_methodNamed B.named
  have hl := lv_entry ([.long p0, .long p1]) (n := 11) (Nat.le_of_ble_eq_true rfl)
  rw [lg_entry_eq]
  generalize (lg_sl ([.long p0, .long p1]) ++ List.replicate (11 - (lg_sl ([.long p0, .long p1])).length) Slot.unset).toArray = ls at hl ⊢
  have hl : lv_has ls 11 [(0, .long p0), (2, .long p1)] := hl
  refine lv_lload_n hx hb dX6_commonDivisor_0 rfl (lv_at hl 0 rfl) ?_
  refine lv_lstore (lv' := [(4, .long p0), (0, .long p0), (2, .long p1)]) hx hb dX6_commonDivisor_1 hl (by decide) rfl (fun ls hl => ?_)
  refine lv_lload_n hx hb dX6_commonDivisor_3 rfl (lv_at hl 2 rfl) ?_
  refine lv_lstore (lv' := [(6, .long p1), (4, .long p0), (0, .long p0), (2, .long p1)]) hx hb dX6_commonDivisor_4 hl (by decide) rfl (fun ls hl => ?_)
  refine lv_iconst (v := 0) hx hb dX6_commonDivisor_6 (by decide) ?_
  refine lv_istore (lv' := [(8, .int 0), (6, .long p1), (4, .long p0), (0, .long p0), (2, .long p1)]) hx hb dX6_commonDivisor_7 hl (by decide) rfl (fun ls hl => ?_)
  have lp : ∀ (n_lp : Nat) (lp_8 : Int32) (lp_6 : Int64) (lp_4 : Int64), (200 - lp_8.toInt).toNat < n_lp → (0 ≤ lp_8.toInt ∧ lp_8.toInt ≤ 200) → ∀ (ls : Array Slot), lv_has ls 11 [(8, .int lp_8), (6, .long lp_6), (4, .long lp_4), (0, .long p0), (2, .long p1)] → W p l e (headSpec wsX6_commonDivisor ({ frames := 0, cells := 0, slots := 0, locals := 0 })).room s m ([.long p0, .long p1] : List Value).toArray below meth c s.heap [] 0 0 (MQ below (vp_Sl (fun r : Int64 => (¬ r = 0))) ([.long p0, .long p1] : List Value).toArray s 0 0 (fun _ => False)) (F0 m 9 ls []) := by
    intro n_lp
    induction n_lp with
    | zero => intro lp_8 lp_6 lp_4 hm_lp b_lp_8 ls hl; exact absurd hm_lp (Nat.not_lt_zero _)
    | succ n_lp ih_lp =>
      intro lp_8 lp_6 lp_4 hm_lp b_lp_8 ls hl
      refine lv_iload hx hb dX6_commonDivisor_9 (lv_at hl 0 rfl) ?_
      refine lv_sipush (v := 200) hx hb dX6_commonDivisor_11 (by decide) ?_
      refine fx_icmp_ge (tgt := 45) hx hb dX6_commonDivisor_14 (by decide) rfl zk_200 (fun c1 => ?_) (fun c1 => ?_)
      · refine lv_lload hx hb dX6_commonDivisor_45 (lv_at hl 2 rfl) ?_
        refine lv_lconst (v := 0) hx hb dX6_commonDivisor_47 (by decide) ?_
        refine W.lcmp hx hb dX6_commonDivisor_48 ?_
        refine fx_lif_ne (tgt := 56) hx hb dX6_commonDivisor_49 (by decide) (fun c2 => ?_) (fun c2 => ?_)
        · refine lv_lload hx hb dX6_commonDivisor_56 (lv_at hl 2 rfl) ?_
          exact W.lret (v := lp_4) hx hb hr (fun t ht hW => ⟨lp_4, rfl, (by assumption), ht⟩) (fun _ h => absurd h List.not_mem_nil) dX6_commonDivisor_58
        · refine lv_lconst (v := 1) hx hb dX6_commonDivisor_52 (by decide) ?_
          refine lv_goto (tgt := 58) hx hb dX6_commonDivisor_53 (by decide) ?_
          exact W.lret (v := 1) hx hb hr (fun t ht hW => ⟨1, rfl, (by decide), ht⟩) (fun _ h => absurd h List.not_mem_nil) dX6_commonDivisor_58
      · refine lv_lload hx hb dX6_commonDivisor_17 (lv_at hl 1 rfl) ?_
        refine lv_lconst (v := 0) hx hb dX6_commonDivisor_19 (by decide) ?_
        refine W.lcmp hx hb dX6_commonDivisor_20 ?_
        refine fx_lif_eq (tgt := 45) hx hb dX6_commonDivisor_21 (by decide) (fun c3 => ?_) (fun c3 => ?_)
        · refine lv_lload hx hb dX6_commonDivisor_45 (lv_at hl 2 rfl) ?_
          refine lv_lconst (v := 0) hx hb dX6_commonDivisor_47 (by decide) ?_
          refine W.lcmp hx hb dX6_commonDivisor_48 ?_
          refine fx_lif_ne (tgt := 56) hx hb dX6_commonDivisor_49 (by decide) (fun c4 => ?_) (fun c4 => ?_)
          · refine lv_lload hx hb dX6_commonDivisor_56 (lv_at hl 2 rfl) ?_
            exact W.lret (v := lp_4) hx hb hr (fun t ht hW => ⟨lp_4, rfl, (by assumption), ht⟩) (fun _ h => absurd h List.not_mem_nil) dX6_commonDivisor_58
          · refine lv_lconst (v := 1) hx hb dX6_commonDivisor_52 (by decide) ?_
            refine lv_goto (tgt := 58) hx hb dX6_commonDivisor_53 (by decide) ?_
            exact W.lret (v := 1) hx hb hr (fun t ht hW => ⟨1, rfl, (by decide), ht⟩) (fun _ h => absurd h List.not_mem_nil) dX6_commonDivisor_58
        · refine lv_lload hx hb dX6_commonDivisor_24 (lv_at hl 2 rfl) ?_
          refine lv_lload hx hb dX6_commonDivisor_26 (lv_at hl 1 rfl) ?_
          refine lv_lrem hx hb dX6_commonDivisor_28 (by assumption) ?_
          refine lv_topl (fun y5 ey5 => ?_)
          refine lv_lstore (lv' := [(9, .long y5), (8, .int lp_8), (6, .long lp_6), (4, .long lp_4), (0, .long p0), (2, .long p1)]) hx hb dX6_commonDivisor_29 hl (by decide) rfl (fun ls hl => ?_)
          refine lv_lload hx hb dX6_commonDivisor_31 (lv_at hl 2 rfl) ?_
          refine lv_lstore (lv' := [(4, .long lp_6), (9, .long y5), (8, .int lp_8), (6, .long lp_6), (0, .long p0), (2, .long p1)]) hx hb dX6_commonDivisor_33 hl (by decide) rfl (fun ls hl => ?_)
          refine lv_lload hx hb dX6_commonDivisor_35 (lv_at hl 1 rfl) ?_
          refine lv_lstore (lv' := [(6, .long y5), (4, .long lp_6), (9, .long y5), (8, .int lp_8), (0, .long p0), (2, .long p1)]) hx hb dX6_commonDivisor_37 hl (by decide) rfl (fun ls hl => ?_)
          obtain ⟨y6, ey6⟩ : ∃ y : Int32, y = lp_8 + 1 := ⟨_, rfl⟩
          have ty6 : y6.toInt = lp_8.toInt + 1 := by rw [ey6, zi_add _ _ (by rw [zk_1]; omega) (by rw [zk_1]; omega), zk_1]
          refine lv_iinc (v := y6) (lv' := [(8, .int y6), (6, .long y5), (4, .long lp_6), (9, .long y5), (0, .long p0), (2, .long p1)]) hx hb dX6_commonDivisor_39 hl (k := 3) rfl (by rw [ey6]; rfl) (by decide) rfl (fun ls hl => ?_)
          refine lv_goto (tgt := 9) hx hb dX6_commonDivisor_42 (by decide) ?_
          exact ih_lp y6 y5 lp_6 (by omega) (by omega) ls (lv_sub hl [0, 1, 2, 4, 5] rfl)
  exact lp _ 0 p1 p0 (Nat.lt_succ_self _) (by decide) ls (lv_sub hl [0, 1, 2, 3, 4] rfl)

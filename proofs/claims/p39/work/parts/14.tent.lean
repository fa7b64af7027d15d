theorem zb_J6_bitCount_0f7a4_0 : (decode cJ6_bitCount_0f7a4 0 = .ok (.iload_n 0, 1)) ∧ (decode cJ6_bitCount_0f7a4 1 = .ok (.iload_n 0, 1)) ∧ (decode cJ6_bitCount_0f7a4 2 = .ok (.iconst 1, 1)) ∧ (decode cJ6_bitCount_0f7a4 3 = .ok (.iushr, 1)) ∧ (decode cJ6_bitCount_0f7a4 4 = .ok (.ldc_w 265, 3)) ∧ (decode cJ6_bitCount_0f7a4 7 = .ok (.iand, 1)) ∧ (decode cJ6_bitCount_0f7a4 8 = .ok (.isub, 1)) ∧ (decode cJ6_bitCount_0f7a4 9 = .ok (.istore_n 0, 1)) ∧ (decode cJ6_bitCount_0f7a4 10 = .ok (.iload_n 0, 1)) ∧ (decode cJ6_bitCount_0f7a4 11 = .ok (.ldc_w 266, 3)) ∧ (decode cJ6_bitCount_0f7a4 14 = .ok (.iand, 1)) := by decide +kernel
theorem dJ6_bitCount_0f7a4_0 : decode cJ6_bitCount_0f7a4 0 = .ok (.iload_n 0, 1) := zb_J6_bitCount_0f7a4_0.1
theorem dJ6_bitCount_0f7a4_1 : decode cJ6_bitCount_0f7a4 1 = .ok (.iload_n 0, 1) := zb_J6_bitCount_0f7a4_0.2.1
theorem dJ6_bitCount_0f7a4_2 : decode cJ6_bitCount_0f7a4 2 = .ok (.iconst 1, 1) := zb_J6_bitCount_0f7a4_0.2.2.1
theorem dJ6_bitCount_0f7a4_3 : decode cJ6_bitCount_0f7a4 3 = .ok (.iushr, 1) := zb_J6_bitCount_0f7a4_0.2.2.2.1
theorem dJ6_bitCount_0f7a4_4 : decode cJ6_bitCount_0f7a4 4 = .ok (.ldc_w 265, 3) := zb_J6_bitCount_0f7a4_0.2.2.2.2.1
theorem dJ6_bitCount_0f7a4_7 : decode cJ6_bitCount_0f7a4 7 = .ok (.iand, 1) := zb_J6_bitCount_0f7a4_0.2.2.2.2.2.1
theorem dJ6_bitCount_0f7a4_8 : decode cJ6_bitCount_0f7a4 8 = .ok (.isub, 1) := zb_J6_bitCount_0f7a4_0.2.2.2.2.2.2.1
theorem dJ6_bitCount_0f7a4_9 : decode cJ6_bitCount_0f7a4 9 = .ok (.istore_n 0, 1) := zb_J6_bitCount_0f7a4_0.2.2.2.2.2.2.2.1
theorem dJ6_bitCount_0f7a4_10 : decode cJ6_bitCount_0f7a4 10 = .ok (.iload_n 0, 1) := zb_J6_bitCount_0f7a4_0.2.2.2.2.2.2.2.2.1
theorem dJ6_bitCount_0f7a4_11 : decode cJ6_bitCount_0f7a4 11 = .ok (.ldc_w 266, 3) := zb_J6_bitCount_0f7a4_0.2.2.2.2.2.2.2.2.2.1
theorem dJ6_bitCount_0f7a4_14 : decode cJ6_bitCount_0f7a4 14 = .ok (.iand, 1) := zb_J6_bitCount_0f7a4_0.2.2.2.2.2.2.2.2.2.2
theorem zb_J6_bitCount_0f7a4_15 : (decode cJ6_bitCount_0f7a4 15 = .ok (.iload_n 0, 1)) ∧ (decode cJ6_bitCount_0f7a4 16 = .ok (.iconst 2, 1)) ∧ (decode cJ6_bitCount_0f7a4 17 = .ok (.iushr, 1)) ∧ (decode cJ6_bitCount_0f7a4 18 = .ok (.ldc_w 266, 3)) ∧ (decode cJ6_bitCount_0f7a4 21 = .ok (.iand, 1)) ∧ (decode cJ6_bitCount_0f7a4 22 = .ok (.iadd, 1)) ∧ (decode cJ6_bitCount_0f7a4 23 = .ok (.istore_n 0, 1)) ∧ (decode cJ6_bitCount_0f7a4 24 = .ok (.iload_n 0, 1)) ∧ (decode cJ6_bitCount_0f7a4 25 = .ok (.iload_n 0, 1)) ∧ (decode cJ6_bitCount_0f7a4 26 = .ok (.iconst 4, 1)) ∧ (decode cJ6_bitCount_0f7a4 27 = .ok (.iushr, 1)) := by decide +kernel
theorem dJ6_bitCount_0f7a4_15 : decode cJ6_bitCount_0f7a4 15 = .ok (.iload_n 0, 1) := zb_J6_bitCount_0f7a4_15.1
theorem dJ6_bitCount_0f7a4_16 : decode cJ6_bitCount_0f7a4 16 = .ok (.iconst 2, 1) := zb_J6_bitCount_0f7a4_15.2.1
theorem dJ6_bitCount_0f7a4_17 : decode cJ6_bitCount_0f7a4 17 = .ok (.iushr, 1) := zb_J6_bitCount_0f7a4_15.2.2.1
theorem dJ6_bitCount_0f7a4_18 : decode cJ6_bitCount_0f7a4 18 = .ok (.ldc_w 266, 3) := zb_J6_bitCount_0f7a4_15.2.2.2.1
theorem dJ6_bitCount_0f7a4_21 : decode cJ6_bitCount_0f7a4 21 = .ok (.iand, 1) := zb_J6_bitCount_0f7a4_15.2.2.2.2.1
theorem dJ6_bitCount_0f7a4_22 : decode cJ6_bitCount_0f7a4 22 = .ok (.iadd, 1) := zb_J6_bitCount_0f7a4_15.2.2.2.2.2.1
theorem dJ6_bitCount_0f7a4_23 : decode cJ6_bitCount_0f7a4 23 = .ok (.istore_n 0, 1) := zb_J6_bitCount_0f7a4_15.2.2.2.2.2.2.1
theorem dJ6_bitCount_0f7a4_24 : decode cJ6_bitCount_0f7a4 24 = .ok (.iload_n 0, 1) := zb_J6_bitCount_0f7a4_15.2.2.2.2.2.2.2.1
theorem dJ6_bitCount_0f7a4_25 : decode cJ6_bitCount_0f7a4 25 = .ok (.iload_n 0, 1) := zb_J6_bitCount_0f7a4_15.2.2.2.2.2.2.2.2.1
theorem dJ6_bitCount_0f7a4_26 : decode cJ6_bitCount_0f7a4 26 = .ok (.iconst 4, 1) := zb_J6_bitCount_0f7a4_15.2.2.2.2.2.2.2.2.2.1
theorem dJ6_bitCount_0f7a4_27 : decode cJ6_bitCount_0f7a4 27 = .ok (.iushr, 1) := zb_J6_bitCount_0f7a4_15.2.2.2.2.2.2.2.2.2.2
theorem zb_J6_bitCount_0f7a4_28 : (decode cJ6_bitCount_0f7a4 28 = .ok (.iadd, 1)) ∧ (decode cJ6_bitCount_0f7a4 29 = .ok (.ldc_w 267, 3)) ∧ (decode cJ6_bitCount_0f7a4 32 = .ok (.iand, 1)) ∧ (decode cJ6_bitCount_0f7a4 33 = .ok (.istore_n 0, 1)) ∧ (decode cJ6_bitCount_0f7a4 34 = .ok (.iload_n 0, 1)) ∧ (decode cJ6_bitCount_0f7a4 35 = .ok (.iload_n 0, 1)) ∧ (decode cJ6_bitCount_0f7a4 36 = .ok (.bipush 8, 2)) ∧ (decode cJ6_bitCount_0f7a4 38 = .ok (.iushr, 1)) ∧ (decode cJ6_bitCount_0f7a4 39 = .ok (.iadd, 1)) ∧ (decode cJ6_bitCount_0f7a4 40 = .ok (.istore_n 0, 1)) ∧ (decode cJ6_bitCount_0f7a4 41 = .ok (.iload_n 0, 1)) := by decide +kernel
theorem dJ6_bitCount_0f7a4_28 : decode cJ6_bitCount_0f7a4 28 = .ok (.iadd, 1) := zb_J6_bitCount_0f7a4_28.1
theorem dJ6_bitCount_0f7a4_29 : decode cJ6_bitCount_0f7a4 29 = .ok (.ldc_w 267, 3) := zb_J6_bitCount_0f7a4_28.2.1
theorem dJ6_bitCount_0f7a4_32 : decode cJ6_bitCount_0f7a4 32 = .ok (.iand, 1) := zb_J6_bitCount_0f7a4_28.2.2.1
theorem dJ6_bitCount_0f7a4_33 : decode cJ6_bitCount_0f7a4 33 = .ok (.istore_n 0, 1) := zb_J6_bitCount_0f7a4_28.2.2.2.1
theorem dJ6_bitCount_0f7a4_34 : decode cJ6_bitCount_0f7a4 34 = .ok (.iload_n 0, 1) := zb_J6_bitCount_0f7a4_28.2.2.2.2.1
theorem dJ6_bitCount_0f7a4_35 : decode cJ6_bitCount_0f7a4 35 = .ok (.iload_n 0, 1) := zb_J6_bitCount_0f7a4_28.2.2.2.2.2.1
theorem dJ6_bitCount_0f7a4_36 : decode cJ6_bitCount_0f7a4 36 = .ok (.bipush 8, 2) := zb_J6_bitCount_0f7a4_28.2.2.2.2.2.2.1
theorem dJ6_bitCount_0f7a4_38 : decode cJ6_bitCount_0f7a4 38 = .ok (.iushr, 1) := zb_J6_bitCount_0f7a4_28.2.2.2.2.2.2.2.1
theorem dJ6_bitCount_0f7a4_39 : decode cJ6_bitCount_0f7a4 39 = .ok (.iadd, 1) := zb_J6_bitCount_0f7a4_28.2.2.2.2.2.2.2.2.1
theorem dJ6_bitCount_0f7a4_40 : decode cJ6_bitCount_0f7a4 40 = .ok (.istore_n 0, 1) := zb_J6_bitCount_0f7a4_28.2.2.2.2.2.2.2.2.2.1
theorem dJ6_bitCount_0f7a4_41 : decode cJ6_bitCount_0f7a4 41 = .ok (.iload_n 0, 1) := zb_J6_bitCount_0f7a4_28.2.2.2.2.2.2.2.2.2.2
theorem zb_J6_bitCount_0f7a4_42 : (decode cJ6_bitCount_0f7a4 42 = .ok (.iload_n 0, 1)) ∧ (decode cJ6_bitCount_0f7a4 43 = .ok (.bipush 16, 2)) ∧ (decode cJ6_bitCount_0f7a4 45 = .ok (.iushr, 1)) ∧ (decode cJ6_bitCount_0f7a4 46 = .ok (.iadd, 1)) ∧ (decode cJ6_bitCount_0f7a4 47 = .ok (.istore_n 0, 1)) ∧ (decode cJ6_bitCount_0f7a4 48 = .ok (.iload_n 0, 1)) ∧ (decode cJ6_bitCount_0f7a4 49 = .ok (.bipush 63, 2)) ∧ (decode cJ6_bitCount_0f7a4 51 = .ok (.iand, 1)) ∧ (decode cJ6_bitCount_0f7a4 52 = .ok (.ireturn, 1)) := by decide +kernel
theorem dJ6_bitCount_0f7a4_42 : decode cJ6_bitCount_0f7a4 42 = .ok (.iload_n 0, 1) := zb_J6_bitCount_0f7a4_42.1
theorem dJ6_bitCount_0f7a4_43 : decode cJ6_bitCount_0f7a4 43 = .ok (.bipush 16, 2) := zb_J6_bitCount_0f7a4_42.2.1
theorem dJ6_bitCount_0f7a4_45 : decode cJ6_bitCount_0f7a4 45 = .ok (.iushr, 1) := zb_J6_bitCount_0f7a4_42.2.2.1
theorem dJ6_bitCount_0f7a4_46 : decode cJ6_bitCount_0f7a4 46 = .ok (.iadd, 1) := zb_J6_bitCount_0f7a4_42.2.2.2.1
theorem dJ6_bitCount_0f7a4_47 : decode cJ6_bitCount_0f7a4 47 = .ok (.istore_n 0, 1) := zb_J6_bitCount_0f7a4_42.2.2.2.2.1
theorem dJ6_bitCount_0f7a4_48 : decode cJ6_bitCount_0f7a4 48 = .ok (.iload_n 0, 1) := zb_J6_bitCount_0f7a4_42.2.2.2.2.2.1
theorem dJ6_bitCount_0f7a4_49 : decode cJ6_bitCount_0f7a4 49 = .ok (.bipush 63, 2) := zb_J6_bitCount_0f7a4_42.2.2.2.2.2.2.1
theorem dJ6_bitCount_0f7a4_51 : decode cJ6_bitCount_0f7a4 51 = .ok (.iand, 1) := zb_J6_bitCount_0f7a4_42.2.2.2.2.2.2.2.1
theorem dJ6_bitCount_0f7a4_52 : decode cJ6_bitCount_0f7a4 52 = .ok (.ireturn, 1) := zb_J6_bitCount_0f7a4_42.2.2.2.2.2.2.2.2
theorem zb_X11_bodyAt_0 : (decode cX11_bodyAt 0 = .ok (.iload_n 1, 1)) ∧ (decode cX11_bodyAt 1 = .ok (.ifCond .lt 29, 3)) ∧ (decode cX11_bodyAt 30 = .ok (.aconst_null, 1)) ∧ (decode cX11_bodyAt 31 = .ok (.areturn, 1)) ∧ (decode cX11_bodyAt 4 = .ok (.iload_n 1, 1)) ∧ (decode cX11_bodyAt 5 = .ok (.aload_n 0, 1)) ∧ (decode cX11_bodyAt 6 = .ok (.getfield 75, 3)) ∧ (decode cX11_bodyAt 9 = .ok (.if_icmp .ge 21, 3)) ∧ (decode cX11_bodyAt 12 = .ok (.iload_n 1, 1)) := by decide +kernel
theorem dX11_bodyAt_0 : decode cX11_bodyAt 0 = .ok (.iload_n 1, 1) := zb_X11_bodyAt_0.1
theorem dX11_bodyAt_1 : decode cX11_bodyAt 1 = .ok (.ifCond .lt 29, 3) := zb_X11_bodyAt_0.2.1
theorem dX11_bodyAt_30 : decode cX11_bodyAt 30 = .ok (.aconst_null, 1) := zb_X11_bodyAt_0.2.2.1
theorem dX11_bodyAt_31 : decode cX11_bodyAt 31 = .ok (.areturn, 1) := zb_X11_bodyAt_0.2.2.2.1
theorem dX11_bodyAt_4 : decode cX11_bodyAt 4 = .ok (.iload_n 1, 1) := zb_X11_bodyAt_0.2.2.2.2.1
theorem dX11_bodyAt_5 : decode cX11_bodyAt 5 = .ok (.aload_n 0, 1) := zb_X11_bodyAt_0.2.2.2.2.2.1
theorem dX11_bodyAt_6 : decode cX11_bodyAt 6 = .ok (.getfield 75, 3) := zb_X11_bodyAt_0.2.2.2.2.2.2.1
theorem dX11_bodyAt_9 : decode cX11_bodyAt 9 = .ok (.if_icmp .ge 21, 3) := zb_X11_bodyAt_0.2.2.2.2.2.2.2.1
theorem dX11_bodyAt_12 : decode cX11_bodyAt 12 = .ok (.iload_n 1, 1) := zb_X11_bodyAt_0.2.2.2.2.2.2.2.2
theorem zb_X11_bodyAt_13 : (decode cX11_bodyAt 13 = .ok (.aload_n 0, 1)) ∧ (decode cX11_bodyAt 14 = .ok (.getfield 18, 3)) ∧ (decode cX11_bodyAt 17 = .ok (.arraylength, 1)) ∧ (decode cX11_bodyAt 18 = .ok (.if_icmp .ge 12, 3)) ∧ (decode cX11_bodyAt 21 = .ok (.aload_n 0, 1)) ∧ (decode cX11_bodyAt 22 = .ok (.getfield 18, 3)) ∧ (decode cX11_bodyAt 25 = .ok (.iload_n 1, 1)) ∧ (decode cX11_bodyAt 26 = .ok (.aaload, 1)) ∧ (decode cX11_bodyAt 27 = .ok (.goto 4, 3)) := by decide +kernel
theorem dX11_bodyAt_13 : decode cX11_bodyAt 13 = .ok (.aload_n 0, 1) := zb_X11_bodyAt_13.1
theorem dX11_bodyAt_14 : decode cX11_bodyAt 14 = .ok (.getfield 18, 3) := zb_X11_bodyAt_13.2.1
theorem dX11_bodyAt_17 : decode cX11_bodyAt 17 = .ok (.arraylength, 1) := zb_X11_bodyAt_13.2.2.1
theorem dX11_bodyAt_18 : decode cX11_bodyAt 18 = .ok (.if_icmp .ge 12, 3) := zb_X11_bodyAt_13.2.2.2.1
theorem dX11_bodyAt_21 : decode cX11_bodyAt 21 = .ok (.aload_n 0, 1) := zb_X11_bodyAt_13.2.2.2.2.1
theorem dX11_bodyAt_22 : decode cX11_bodyAt 22 = .ok (.getfield 18, 3) := zb_X11_bodyAt_13.2.2.2.2.2.1
theorem dX11_bodyAt_25 : decode cX11_bodyAt 25 = .ok (.iload_n 1, 1) := zb_X11_bodyAt_13.2.2.2.2.2.2.1
theorem dX11_bodyAt_26 : decode cX11_bodyAt 26 = .ok (.aaload, 1) := zb_X11_bodyAt_13.2.2.2.2.2.2.2.1
theorem dX11_bodyAt_27 : decode cX11_bodyAt 27 = .ok (.goto 4, 3) := zb_X11_bodyAt_13.2.2.2.2.2.2.2.2
theorem zb_X11_seekerAt_0 : (decode cX11_seekerAt 0 = .ok (.aload_n 0, 1)) ∧ (decode cX11_seekerAt 1 = .ok (.iload_n 1, 1)) ∧ (decode cX11_seekerAt 2 = .ok (.invokevirtual 78, 3)) ∧ (decode cX11_seekerAt 5 = .ok (.astore_n 2, 1)) ∧ (decode cX11_seekerAt 6 = .ok (.aload_n 2, 1)) ∧ (decode cX11_seekerAt 7 = .ok (.ifnull 15, 3)) ∧ (decode cX11_seekerAt 22 = .ok (.aconst_null, 1)) := by decide +kernel
theorem dX11_seekerAt_0 : decode cX11_seekerAt 0 = .ok (.aload_n 0, 1) := zb_X11_seekerAt_0.1
theorem dX11_seekerAt_1 : decode cX11_seekerAt 1 = .ok (.iload_n 1, 1) := zb_X11_seekerAt_0.2.1
theorem dX11_seekerAt_2 : decode cX11_seekerAt 2 = .ok (.invokevirtual 78, 3) := zb_X11_seekerAt_0.2.2.1
theorem dX11_seekerAt_5 : decode cX11_seekerAt 5 = .ok (.astore_n 2, 1) := zb_X11_seekerAt_0.2.2.2.1
theorem dX11_seekerAt_6 : decode cX11_seekerAt 6 = .ok (.aload_n 2, 1) := zb_X11_seekerAt_0.2.2.2.2.1
theorem dX11_seekerAt_7 : decode cX11_seekerAt 7 = .ok (.ifnull 15, 3) := zb_X11_seekerAt_0.2.2.2.2.2.1
theorem dX11_seekerAt_22 : decode cX11_seekerAt 22 = .ok (.aconst_null, 1) := zb_X11_seekerAt_0.2.2.2.2.2.2
theorem zb_X11_seekerAt_23 : (decode cX11_seekerAt 23 = .ok (.areturn, 1)) ∧ (decode cX11_seekerAt 10 = .ok (.aload_n 2, 1)) ∧ (decode cX11_seekerAt 11 = .ok (.iconst 2, 1)) ∧ (decode cX11_seekerAt 12 = .ok (.invokevirtual 379, 3)) ∧ (decode cX11_seekerAt 15 = .ok (.ifCond .eq 7, 3)) ∧ (decode cX11_seekerAt 18 = .ok (.aload_n 2, 1)) ∧ (decode cX11_seekerAt 19 = .ok (.goto 4, 3)) := by decide +kernel
theorem dX11_seekerAt_23 : decode cX11_seekerAt 23 = .ok (.areturn, 1) := zb_X11_seekerAt_23.1
theorem dX11_seekerAt_10 : decode cX11_seekerAt 10 = .ok (.aload_n 2, 1) := zb_X11_seekerAt_23.2.1
theorem dX11_seekerAt_11 : decode cX11_seekerAt 11 = .ok (.iconst 2, 1) := zb_X11_seekerAt_23.2.2.1
theorem dX11_seekerAt_12 : decode cX11_seekerAt 12 = .ok (.invokevirtual 379, 3) := zb_X11_seekerAt_23.2.2.2.1
theorem dX11_seekerAt_15 : decode cX11_seekerAt 15 = .ok (.ifCond .eq 7, 3) := zb_X11_seekerAt_23.2.2.2.2.1
theorem dX11_seekerAt_18 : decode cX11_seekerAt 18 = .ok (.aload_n 2, 1) := zb_X11_seekerAt_23.2.2.2.2.2.1
theorem dX11_seekerAt_19 : decode cX11_seekerAt 19 = .ok (.goto 4, 3) := zb_X11_seekerAt_23.2.2.2.2.2.2
theorem zb_X11_sheetAt_0 : (decode cX11_sheetAt 0 = .ok (.iload_n 1, 1)) ∧ (decode cX11_sheetAt 1 = .ok (.ifCond .lt 21, 3)) ∧ (decode cX11_sheetAt 22 = .ok (.aconst_null, 1)) ∧ (decode cX11_sheetAt 23 = .ok (.areturn, 1)) ∧ (decode cX11_sheetAt 4 = .ok (.iload_n 1, 1)) ∧ (decode cX11_sheetAt 5 = .ok (.aload_n 0, 1)) ∧ (decode cX11_sheetAt 6 = .ok (.getfield 66, 3)) := by decide +kernel
theorem dX11_sheetAt_0 : decode cX11_sheetAt 0 = .ok (.iload_n 1, 1) := zb_X11_sheetAt_0.1
theorem dX11_sheetAt_1 : decode cX11_sheetAt 1 = .ok (.ifCond .lt 21, 3) := zb_X11_sheetAt_0.2.1
theorem dX11_sheetAt_22 : decode cX11_sheetAt 22 = .ok (.aconst_null, 1) := zb_X11_sheetAt_0.2.2.1
theorem dX11_sheetAt_23 : decode cX11_sheetAt 23 = .ok (.areturn, 1) := zb_X11_sheetAt_0.2.2.2.1
theorem dX11_sheetAt_4 : decode cX11_sheetAt 4 = .ok (.iload_n 1, 1) := zb_X11_sheetAt_0.2.2.2.2.1
theorem dX11_sheetAt_5 : decode cX11_sheetAt 5 = .ok (.aload_n 0, 1) := zb_X11_sheetAt_0.2.2.2.2.2.1
theorem dX11_sheetAt_6 : decode cX11_sheetAt 6 = .ok (.getfield 66, 3) := zb_X11_sheetAt_0.2.2.2.2.2.2
theorem zb_X11_sheetAt_9 : (decode cX11_sheetAt 9 = .ok (.arraylength, 1)) ∧ (decode cX11_sheetAt 10 = .ok (.if_icmp .ge 12, 3)) ∧ (decode cX11_sheetAt 13 = .ok (.aload_n 0, 1)) ∧ (decode cX11_sheetAt 14 = .ok (.getfield 66, 3)) ∧ (decode cX11_sheetAt 17 = .ok (.iload_n 1, 1)) ∧ (decode cX11_sheetAt 18 = .ok (.aaload, 1)) ∧ (decode cX11_sheetAt 19 = .ok (.goto 4, 3)) := by decide +kernel
theorem dX11_sheetAt_9 : decode cX11_sheetAt 9 = .ok (.arraylength, 1) := zb_X11_sheetAt_9.1
theorem dX11_sheetAt_10 : decode cX11_sheetAt 10 = .ok (.if_icmp .ge 12, 3) := zb_X11_sheetAt_9.2.1
theorem dX11_sheetAt_13 : decode cX11_sheetAt 13 = .ok (.aload_n 0, 1) := zb_X11_sheetAt_9.2.2.1
theorem dX11_sheetAt_14 : decode cX11_sheetAt 14 = .ok (.getfield 66, 3) := zb_X11_sheetAt_9.2.2.2.1
theorem dX11_sheetAt_17 : decode cX11_sheetAt 17 = .ok (.iload_n 1, 1) := zb_X11_sheetAt_9.2.2.2.2.1
theorem dX11_sheetAt_18 : decode cX11_sheetAt 18 = .ok (.aaload, 1) := zb_X11_sheetAt_9.2.2.2.2.2.1
theorem dX11_sheetAt_19 : decode cX11_sheetAt 19 = .ok (.goto 4, 3) := zb_X11_sheetAt_9.2.2.2.2.2.2
theorem zb_X11_isPast_0 : (decode cX11_isPast 0 = .ok (.iload_n 1, 1)) ∧ (decode cX11_isPast 1 = .ok (.ifCond .lt 15, 3)) ∧ (decode cX11_isPast 16 = .ok (.iconst 0, 1)) ∧ (decode cX11_isPast 17 = .ok (.ireturn, 1)) ∧ (decode cX11_isPast 4 = .ok (.iload_n 1, 1)) ∧ (decode cX11_isPast 5 = .ok (.aload_n 0, 1)) ∧ (decode cX11_isPast 6 = .ok (.getfield 71, 3)) ∧ (decode cX11_isPast 9 = .ok (.if_icmp .gt 7, 3)) ∧ (decode cX11_isPast 12 = .ok (.iconst 1, 1)) ∧ (decode cX11_isPast 13 = .ok (.goto 4, 3)) := by decide +kernel
theorem dX11_isPast_0 : decode cX11_isPast 0 = .ok (.iload_n 1, 1) := zb_X11_isPast_0.1
theorem dX11_isPast_1 : decode cX11_isPast 1 = .ok (.ifCond .lt 15, 3) := zb_X11_isPast_0.2.1
theorem dX11_isPast_16 : decode cX11_isPast 16 = .ok (.iconst 0, 1) := zb_X11_isPast_0.2.2.1
theorem dX11_isPast_17 : decode cX11_isPast 17 = .ok (.ireturn, 1) := zb_X11_isPast_0.2.2.2.1
theorem dX11_isPast_4 : decode cX11_isPast 4 = .ok (.iload_n 1, 1) := zb_X11_isPast_0.2.2.2.2.1
theorem dX11_isPast_5 : decode cX11_isPast 5 = .ok (.aload_n 0, 1) := zb_X11_isPast_0.2.2.2.2.2.1
theorem dX11_isPast_6 : decode cX11_isPast 6 = .ok (.getfield 71, 3) := zb_X11_isPast_0.2.2.2.2.2.2.1
theorem dX11_isPast_9 : decode cX11_isPast 9 = .ok (.if_icmp .gt 7, 3) := zb_X11_isPast_0.2.2.2.2.2.2.2.1
theorem dX11_isPast_12 : decode cX11_isPast 12 = .ok (.iconst 1, 1) := zb_X11_isPast_0.2.2.2.2.2.2.2.2.1
theorem dX11_isPast_13 : decode cX11_isPast 13 = .ok (.goto 4, 3) := zb_X11_isPast_0.2.2.2.2.2.2.2.2.2
theorem zb_X11_areSeekers_0 : (decode cX11_areSeekers 0 = .ok (.iload_n 1, 1)) ∧ (decode cX11_areSeekers 1 = .ok (.ifCond .lt 21, 3)) ∧ (decode cX11_areSeekers 22 = .ok (.iconst 0, 1)) ∧ (decode cX11_areSeekers 23 = .ok (.ireturn, 1)) ∧ (decode cX11_areSeekers 4 = .ok (.iload_n 1, 1)) ∧ (decode cX11_areSeekers 5 = .ok (.iconst 1, 1)) ∧ (decode cX11_areSeekers 6 = .ok (.aload_n 0, 1)) ∧ (decode cX11_areSeekers 7 = .ok (.getfield 75, 3)) ∧ (decode cX11_areSeekers 10 = .ok (.ishl, 1)) ∧ (decode cX11_areSeekers 11 = .ok (.if_icmp .ge 11, 3)) ∧ (decode cX11_areSeekers 14 = .ok (.iload_n 1, 1)) ∧ (decode cX11_areSeekers 15 = .ok (.invokestatic 238, 3)) := by decide +kernel
theorem dX11_areSeekers_0 : decode cX11_areSeekers 0 = .ok (.iload_n 1, 1) := zb_X11_areSeekers_0.1
theorem dX11_areSeekers_1 : decode cX11_areSeekers 1 = .ok (.ifCond .lt 21, 3) := zb_X11_areSeekers_0.2.1
theorem dX11_areSeekers_22 : decode cX11_areSeekers 22 = .ok (.iconst 0, 1) := zb_X11_areSeekers_0.2.2.1
theorem dX11_areSeekers_23 : decode cX11_areSeekers 23 = .ok (.ireturn, 1) := zb_X11_areSeekers_0.2.2.2.1
theorem dX11_areSeekers_4 : decode cX11_areSeekers 4 = .ok (.iload_n 1, 1) := zb_X11_areSeekers_0.2.2.2.2.1
theorem dX11_areSeekers_5 : decode cX11_areSeekers 5 = .ok (.iconst 1, 1) := zb_X11_areSeekers_0.2.2.2.2.2.1
theorem dX11_areSeekers_6 : decode cX11_areSeekers 6 = .ok (.aload_n 0, 1) := zb_X11_areSeekers_0.2.2.2.2.2.2.1
theorem dX11_areSeekers_7 : decode cX11_areSeekers 7 = .ok (.getfield 75, 3) := zb_X11_areSeekers_0.2.2.2.2.2.2.2.1
theorem dX11_areSeekers_10 : decode cX11_areSeekers 10 = .ok (.ishl, 1) := zb_X11_areSeekers_0.2.2.2.2.2.2.2.2.1
theorem dX11_areSeekers_11 : decode cX11_areSeekers 11 = .ok (.if_icmp .ge 11, 3) := zb_X11_areSeekers_0.2.2.2.2.2.2.2.2.2.1
theorem dX11_areSeekers_14 : decode cX11_areSeekers 14 = .ok (.iload_n 1, 1) := zb_X11_areSeekers_0.2.2.2.2.2.2.2.2.2.2.1
theorem dX11_areSeekers_15 : decode cX11_areSeekers 15 = .ok (.invokestatic 238, 3) := zb_X11_areSeekers_0.2.2.2.2.2.2.2.2.2.2.2
theorem zb_X11_areSeekers_18 : (decode cX11_areSeekers 18 = .ok (.iconst 3, 1)) ∧ (decode cX11_areSeekers 19 = .ok (.if_icmp .le 5, 3)) ∧ (decode cX11_areSeekers 24 = .ok (.iconst 0, 1)) ∧ (decode cX11_areSeekers 25 = .ok (.istore_n 2, 1)) ∧ (decode cX11_areSeekers 26 = .ok (.iload_n 2, 1)) ∧ (decode cX11_areSeekers 27 = .ok (.aload_n 0, 1)) ∧ (decode cX11_areSeekers 28 = .ok (.getfield 75, 3)) ∧ (decode cX11_areSeekers 31 = .ok (.if_icmp .ge 27, 3)) ∧ (decode cX11_areSeekers 58 = .ok (.iconst 1, 1)) ∧ (decode cX11_areSeekers 59 = .ok (.ireturn, 1)) ∧ (decode cX11_areSeekers 34 = .ok (.iload_n 1, 1)) ∧ (decode cX11_areSeekers 35 = .ok (.iload_n 2, 1)) := by decide +kernel
theorem dX11_areSeekers_18 : decode cX11_areSeekers 18 = .ok (.iconst 3, 1) := zb_X11_areSeekers_18.1
theorem dX11_areSeekers_19 : decode cX11_areSeekers 19 = .ok (.if_icmp .le 5, 3) := zb_X11_areSeekers_18.2.1
theorem dX11_areSeekers_24 : decode cX11_areSeekers 24 = .ok (.iconst 0, 1) := zb_X11_areSeekers_18.2.2.1
theorem dX11_areSeekers_25 : decode cX11_areSeekers 25 = .ok (.istore_n 2, 1) := zb_X11_areSeekers_18.2.2.2.1
theorem dX11_areSeekers_26 : decode cX11_areSeekers 26 = .ok (.iload_n 2, 1) := zb_X11_areSeekers_18.2.2.2.2.1
theorem dX11_areSeekers_27 : decode cX11_areSeekers 27 = .ok (.aload_n 0, 1) := zb_X11_areSeekers_18.2.2.2.2.2.1
theorem dX11_areSeekers_28 : decode cX11_areSeekers 28 = .ok (.getfield 75, 3) := zb_X11_areSeekers_18.2.2.2.2.2.2.1
theorem dX11_areSeekers_31 : decode cX11_areSeekers 31 = .ok (.if_icmp .ge 27, 3) := zb_X11_areSeekers_18.2.2.2.2.2.2.2.1
theorem dX11_areSeekers_58 : decode cX11_areSeekers 58 = .ok (.iconst 1, 1) := zb_X11_areSeekers_18.2.2.2.2.2.2.2.2.1
theorem dX11_areSeekers_59 : decode cX11_areSeekers 59 = .ok (.ireturn, 1) := zb_X11_areSeekers_18.2.2.2.2.2.2.2.2.2.1
theorem dX11_areSeekers_34 : decode cX11_areSeekers 34 = .ok (.iload_n 1, 1) := zb_X11_areSeekers_18.2.2.2.2.2.2.2.2.2.2.1
theorem dX11_areSeekers_35 : decode cX11_areSeekers 35 = .ok (.iload_n 2, 1) := zb_X11_areSeekers_18.2.2.2.2.2.2.2.2.2.2.2
theorem zb_X11_areSeekers_36 : (decode cX11_areSeekers 36 = .ok (.ishr, 1)) ∧ (decode cX11_areSeekers 37 = .ok (.iconst 1, 1)) ∧ (decode cX11_areSeekers 38 = .ok (.iand, 1)) ∧ (decode cX11_areSeekers 39 = .ok (.ifCond .eq 13, 3)) ∧ (decode cX11_areSeekers 52 = .ok (.iinc 2 1, 3)) ∧ (decode cX11_areSeekers 55 = .ok (.goto (-29), 3)) ∧ (decode cX11_areSeekers 42 = .ok (.aload_n 0, 1)) ∧ (decode cX11_areSeekers 43 = .ok (.iload_n 2, 1)) ∧ (decode cX11_areSeekers 44 = .ok (.invokevirtual 214, 3)) ∧ (decode cX11_areSeekers 47 = .ok (.ifnonnull 5, 3)) ∧ (decode cX11_areSeekers 50 = .ok (.iconst 0, 1)) ∧ (decode cX11_areSeekers 51 = .ok (.ireturn, 1)) := by decide +kernel
theorem dX11_areSeekers_36 : decode cX11_areSeekers 36 = .ok (.ishr, 1) := zb_X11_areSeekers_36.1
theorem dX11_areSeekers_37 : decode cX11_areSeekers 37 = .ok (.iconst 1, 1) := zb_X11_areSeekers_36.2.1
theorem dX11_areSeekers_38 : decode cX11_areSeekers 38 = .ok (.iand, 1) := zb_X11_areSeekers_36.2.2.1
theorem dX11_areSeekers_39 : decode cX11_areSeekers 39 = .ok (.ifCond .eq 13, 3) := zb_X11_areSeekers_36.2.2.2.1
theorem dX11_areSeekers_52 : decode cX11_areSeekers 52 = .ok (.iinc 2 1, 3) := zb_X11_areSeekers_36.2.2.2.2.1
theorem dX11_areSeekers_55 : decode cX11_areSeekers 55 = .ok (.goto (-29), 3) := zb_X11_areSeekers_36.2.2.2.2.2.1
theorem dX11_areSeekers_42 : decode cX11_areSeekers 42 = .ok (.aload_n 0, 1) := zb_X11_areSeekers_36.2.2.2.2.2.2.1
theorem dX11_areSeekers_43 : decode cX11_areSeekers 43 = .ok (.iload_n 2, 1) := zb_X11_areSeekers_36.2.2.2.2.2.2.2.1
theorem dX11_areSeekers_44 : decode cX11_areSeekers 44 = .ok (.invokevirtual 214, 3) := zb_X11_areSeekers_36.2.2.2.2.2.2.2.2.1
theorem dX11_areSeekers_47 : decode cX11_areSeekers 47 = .ok (.ifnonnull 5, 3) := zb_X11_areSeekers_36.2.2.2.2.2.2.2.2.2.1
theorem dX11_areSeekers_50 : decode cX11_areSeekers 50 = .ok (.iconst 0, 1) := zb_X11_areSeekers_36.2.2.2.2.2.2.2.2.2.2.1
theorem dX11_areSeekers_51 : decode cX11_areSeekers 51 = .ok (.ireturn, 1) := zb_X11_areSeekers_36.2.2.2.2.2.2.2.2.2.2.2
theorem zb_X11_backFrom_0 : (decode cX11_backFrom 0 = .ok (.aload_n 1, 1)) ∧ (decode cX11_backFrom 1 = .ok (.invokevirtual 138, 3)) ∧ (decode cX11_backFrom 4 = .ok (.iconst 2, 1)) ∧ (decode cX11_backFrom 5 = .ok (.imul, 1)) ∧ (decode cX11_backFrom 6 = .ok (.iload_n 2, 1)) ∧ (decode cX11_backFrom 7 = .ok (.imul, 1)) ∧ (decode cX11_backFrom 8 = .ok (.aload_n 1, 1)) ∧ (decode cX11_backFrom 9 = .ok (.getfield 131, 3)) ∧ (decode cX11_backFrom 12 = .ok (.if_icmp .gt 15, 3)) ∧ (decode cX11_backFrom 27 = .ok (.iconst (-1), 1)) := by decide +kernel
theorem dX11_backFrom_0 : decode cX11_backFrom 0 = .ok (.aload_n 1, 1) := zb_X11_backFrom_0.1
theorem dX11_backFrom_1 : decode cX11_backFrom 1 = .ok (.invokevirtual 138, 3) := zb_X11_backFrom_0.2.1
theorem dX11_backFrom_4 : decode cX11_backFrom 4 = .ok (.iconst 2, 1) := zb_X11_backFrom_0.2.2.1
theorem dX11_backFrom_5 : decode cX11_backFrom 5 = .ok (.imul, 1) := zb_X11_backFrom_0.2.2.2.1
theorem dX11_backFrom_6 : decode cX11_backFrom 6 = .ok (.iload_n 2, 1) := zb_X11_backFrom_0.2.2.2.2.1
theorem dX11_backFrom_7 : decode cX11_backFrom 7 = .ok (.imul, 1) := zb_X11_backFrom_0.2.2.2.2.2.1
theorem dX11_backFrom_8 : decode cX11_backFrom 8 = .ok (.aload_n 1, 1) := zb_X11_backFrom_0.2.2.2.2.2.2.1
theorem dX11_backFrom_9 : decode cX11_backFrom 9 = .ok (.getfield 131, 3) := zb_X11_backFrom_0.2.2.2.2.2.2.2.1
theorem dX11_backFrom_12 : decode cX11_backFrom 12 = .ok (.if_icmp .gt 15, 3) := zb_X11_backFrom_0.2.2.2.2.2.2.2.2.1
theorem dX11_backFrom_27 : decode cX11_backFrom 27 = .ok (.iconst (-1), 1) := zb_X11_backFrom_0.2.2.2.2.2.2.2.2.2
theorem zb_X11_backFrom_28 : (decode cX11_backFrom 28 = .ok (.ireturn, 1)) ∧ (decode cX11_backFrom 15 = .ok (.aload_n 0, 1)) ∧ (decode cX11_backFrom 16 = .ok (.getfield 10, 3)) ∧ (decode cX11_backFrom 19 = .ok (.iload_n 3, 1)) ∧ (decode cX11_backFrom 20 = .ok (.iload_n 2, 1)) ∧ (decode cX11_backFrom 21 = .ok (.invokevirtual 382, 3)) ∧ (decode cX11_backFrom 24 = .ok (.ifCond .ne 5, 3)) ∧ (decode cX11_backFrom 29 = .ok (.iconst 0, 1)) ∧ (decode cX11_backFrom 30 = .ok (.istore 4, 2)) ∧ (decode cX11_backFrom 32 = .ok (.iload 4, 2)) := by decide +kernel
theorem dX11_backFrom_28 : decode cX11_backFrom 28 = .ok (.ireturn, 1) := zb_X11_backFrom_28.1
theorem dX11_backFrom_15 : decode cX11_backFrom 15 = .ok (.aload_n 0, 1) := zb_X11_backFrom_28.2.1
theorem dX11_backFrom_16 : decode cX11_backFrom 16 = .ok (.getfield 10, 3) := zb_X11_backFrom_28.2.2.1
theorem dX11_backFrom_19 : decode cX11_backFrom 19 = .ok (.iload_n 3, 1) := zb_X11_backFrom_28.2.2.2.1
theorem dX11_backFrom_20 : decode cX11_backFrom 20 = .ok (.iload_n 2, 1) := zb_X11_backFrom_28.2.2.2.2.1
theorem dX11_backFrom_21 : decode cX11_backFrom 21 = .ok (.invokevirtual 382, 3) := zb_X11_backFrom_28.2.2.2.2.2.1
theorem dX11_backFrom_24 : decode cX11_backFrom 24 = .ok (.ifCond .ne 5, 3) := zb_X11_backFrom_28.2.2.2.2.2.2.1
theorem dX11_backFrom_29 : decode cX11_backFrom 29 = .ok (.iconst 0, 1) := zb_X11_backFrom_28.2.2.2.2.2.2.2.1
theorem dX11_backFrom_30 : decode cX11_backFrom 30 = .ok (.istore 4, 2) := zb_X11_backFrom_28.2.2.2.2.2.2.2.2.1
theorem dX11_backFrom_32 : decode cX11_backFrom 32 = .ok (.iload 4, 2) := zb_X11_backFrom_28.2.2.2.2.2.2.2.2.2
theorem zb_X11_backFrom_34 : (decode cX11_backFrom 34 = .ok (.aload_n 0, 1)) ∧ (decode cX11_backFrom 35 = .ok (.getfield 253, 3)) ∧ (decode cX11_backFrom 38 = .ok (.if_icmp .gt 49, 3)) ∧ (decode cX11_backFrom 87 = .ok (.iconst (-1), 1)) ∧ (decode cX11_backFrom 88 = .ok (.ireturn, 1)) ∧ (decode cX11_backFrom 41 = .ok (.iload_n 3, 1)) ∧ (decode cX11_backFrom 42 = .ok (.iload_n 2, 1)) ∧ (decode cX11_backFrom 43 = .ok (.iadd, 1)) ∧ (decode cX11_backFrom 44 = .ok (.iload 4, 2)) ∧ (decode cX11_backFrom 46 = .ok (.iadd, 1)) := by decide +kernel
theorem dX11_backFrom_34 : decode cX11_backFrom 34 = .ok (.aload_n 0, 1) := zb_X11_backFrom_34.1
theorem dX11_backFrom_35 : decode cX11_backFrom 35 = .ok (.getfield 253, 3) := zb_X11_backFrom_34.2.1
theorem dX11_backFrom_38 : decode cX11_backFrom 38 = .ok (.if_icmp .gt 49, 3) := zb_X11_backFrom_34.2.2.1
theorem dX11_backFrom_87 : decode cX11_backFrom 87 = .ok (.iconst (-1), 1) := zb_X11_backFrom_34.2.2.2.1
theorem dX11_backFrom_88 : decode cX11_backFrom 88 = .ok (.ireturn, 1) := zb_X11_backFrom_34.2.2.2.2.1
theorem dX11_backFrom_41 : decode cX11_backFrom 41 = .ok (.iload_n 3, 1) := zb_X11_backFrom_34.2.2.2.2.2.1
theorem dX11_backFrom_42 : decode cX11_backFrom 42 = .ok (.iload_n 2, 1) := zb_X11_backFrom_34.2.2.2.2.2.2.1
theorem dX11_backFrom_43 : decode cX11_backFrom 43 = .ok (.iadd, 1) := zb_X11_backFrom_34.2.2.2.2.2.2.2.1
theorem dX11_backFrom_44 : decode cX11_backFrom 44 = .ok (.iload 4, 2) := zb_X11_backFrom_34.2.2.2.2.2.2.2.2.1
theorem dX11_backFrom_46 : decode cX11_backFrom 46 = .ok (.iadd, 1) := zb_X11_backFrom_34.2.2.2.2.2.2.2.2.2
theorem zb_X11_backFrom_47 : (decode cX11_backFrom 47 = .ok (.istore 5, 2)) ∧ (decode cX11_backFrom 49 = .ok (.aload_n 0, 1)) ∧ (decode cX11_backFrom 50 = .ok (.getfield 10, 3)) ∧ (decode cX11_backFrom 53 = .ok (.iload 5, 2)) ∧ (decode cX11_backFrom 55 = .ok (.iload_n 2, 1)) ∧ (decode cX11_backFrom 56 = .ok (.invokevirtual 382, 3)) ∧ (decode cX11_backFrom 59 = .ok (.ifCond .eq 22, 3)) ∧ (decode cX11_backFrom 81 = .ok (.iinc 4 1, 3)) ∧ (decode cX11_backFrom 84 = .ok (.goto (-52), 3)) ∧ (decode cX11_backFrom 62 = .ok (.iload 5, 2)) := by decide +kernel
theorem dX11_backFrom_47 : decode cX11_backFrom 47 = .ok (.istore 5, 2) := zb_X11_backFrom_47.1
theorem dX11_backFrom_49 : decode cX11_backFrom 49 = .ok (.aload_n 0, 1) := zb_X11_backFrom_47.2.1
theorem dX11_backFrom_50 : decode cX11_backFrom 50 = .ok (.getfield 10, 3) := zb_X11_backFrom_47.2.2.1
theorem dX11_backFrom_53 : decode cX11_backFrom 53 = .ok (.iload 5, 2) := zb_X11_backFrom_47.2.2.2.1
theorem dX11_backFrom_55 : decode cX11_backFrom 55 = .ok (.iload_n 2, 1) := zb_X11_backFrom_47.2.2.2.2.1
theorem dX11_backFrom_56 : decode cX11_backFrom 56 = .ok (.invokevirtual 382, 3) := zb_X11_backFrom_47.2.2.2.2.2.1
theorem dX11_backFrom_59 : decode cX11_backFrom 59 = .ok (.ifCond .eq 22, 3) := zb_X11_backFrom_47.2.2.2.2.2.2.1
theorem dX11_backFrom_81 : decode cX11_backFrom 81 = .ok (.iinc 4 1, 3) := zb_X11_backFrom_47.2.2.2.2.2.2.2.1
theorem dX11_backFrom_84 : decode cX11_backFrom 84 = .ok (.goto (-52), 3) := zb_X11_backFrom_47.2.2.2.2.2.2.2.2.1
theorem dX11_backFrom_62 : decode cX11_backFrom 62 = .ok (.iload 5, 2) := zb_X11_backFrom_47.2.2.2.2.2.2.2.2.2
theorem zb_X11_backFrom_64 : (decode cX11_backFrom 64 = .ok (.iload_n 2, 1)) ∧ (decode cX11_backFrom 65 = .ok (.iadd, 1)) ∧ (decode cX11_backFrom 66 = .ok (.sipush 240, 3)) ∧ (decode cX11_backFrom 69 = .ok (.if_icmp .ge 10, 3)) ∧ (decode cX11_backFrom 79 = .ok (.iconst (-1), 1)) ∧ (decode cX11_backFrom 80 = .ok (.ireturn, 1)) ∧ (decode cX11_backFrom 72 = .ok (.iload 5, 2)) ∧ (decode cX11_backFrom 74 = .ok (.iload_n 2, 1)) ∧ (decode cX11_backFrom 75 = .ok (.iadd, 1)) ∧ (decode cX11_backFrom 76 = .ok (.goto 4, 3)) := by decide +kernel
theorem dX11_backFrom_64 : decode cX11_backFrom 64 = .ok (.iload_n 2, 1) := zb_X11_backFrom_64.1
theorem dX11_backFrom_65 : decode cX11_backFrom 65 = .ok (.iadd, 1) := zb_X11_backFrom_64.2.1
theorem dX11_backFrom_66 : decode cX11_backFrom 66 = .ok (.sipush 240, 3) := zb_X11_backFrom_64.2.2.1
theorem dX11_backFrom_69 : decode cX11_backFrom 69 = .ok (.if_icmp .ge 10, 3) := zb_X11_backFrom_64.2.2.2.1
theorem dX11_backFrom_79 : decode cX11_backFrom 79 = .ok (.iconst (-1), 1) := zb_X11_backFrom_64.2.2.2.2.1
theorem dX11_backFrom_80 : decode cX11_backFrom 80 = .ok (.ireturn, 1) := zb_X11_backFrom_64.2.2.2.2.2.1
theorem dX11_backFrom_72 : decode cX11_backFrom 72 = .ok (.iload 5, 2) := zb_X11_backFrom_64.2.2.2.2.2.2.1
theorem dX11_backFrom_74 : decode cX11_backFrom 74 = .ok (.iload_n 2, 1) := zb_X11_backFrom_64.2.2.2.2.2.2.2.1
theorem dX11_backFrom_75 : decode cX11_backFrom 75 = .ok (.iadd, 1) := zb_X11_backFrom_64.2.2.2.2.2.2.2.2.1
theorem dX11_backFrom_76 : decode cX11_backFrom 76 = .ok (.goto 4, 3) := zb_X11_backFrom_64.2.2.2.2.2.2.2.2.2
theorem zb_X11_takeOf_0 : (decode cX11_takeOf 0 = .ok (.iload_n 1, 1)) ∧ (decode cX11_takeOf 1 = .ok (.ifCond .lt 14, 3)) ∧ (decode cX11_takeOf 15 = .ok (.iconst 0, 1)) ∧ (decode cX11_takeOf 16 = .ok (.ireturn, 1)) ∧ (decode cX11_takeOf 4 = .ok (.iload_n 1, 1)) ∧ (decode cX11_takeOf 5 = .ok (.aload_n 0, 1)) ∧ (decode cX11_takeOf 6 = .ok (.getfield 39, 3)) ∧ (decode cX11_takeOf 9 = .ok (.getfield 266, 3)) ∧ (decode cX11_takeOf 12 = .ok (.if_icmp .lt 5, 3)) ∧ (decode cX11_takeOf 44 = .ok (.aload_n 0, 1)) ∧ (decode cX11_takeOf 45 = .ok (.getfield 46, 3)) ∧ (decode cX11_takeOf 48 = .ok (.iconst 0, 1)) := by decide +kernel
theorem dX11_takeOf_0 : decode cX11_takeOf 0 = .ok (.iload_n 1, 1) := zb_X11_takeOf_0.1
theorem dX11_takeOf_1 : decode cX11_takeOf 1 = .ok (.ifCond .lt 14, 3) := zb_X11_takeOf_0.2.1
theorem dX11_takeOf_15 : decode cX11_takeOf 15 = .ok (.iconst 0, 1) := zb_X11_takeOf_0.2.2.1
theorem dX11_takeOf_16 : decode cX11_takeOf 16 = .ok (.ireturn, 1) := zb_X11_takeOf_0.2.2.2.1
theorem dX11_takeOf_4 : decode cX11_takeOf 4 = .ok (.iload_n 1, 1) := zb_X11_takeOf_0.2.2.2.2.1
theorem dX11_takeOf_5 : decode cX11_takeOf 5 = .ok (.aload_n 0, 1) := zb_X11_takeOf_0.2.2.2.2.2.1
theorem dX11_takeOf_6 : decode cX11_takeOf 6 = .ok (.getfield 39, 3) := zb_X11_takeOf_0.2.2.2.2.2.2.1
theorem dX11_takeOf_9 : decode cX11_takeOf 9 = .ok (.getfield 266, 3) := zb_X11_takeOf_0.2.2.2.2.2.2.2.1
theorem dX11_takeOf_12 : decode cX11_takeOf 12 = .ok (.if_icmp .lt 5, 3) := zb_X11_takeOf_0.2.2.2.2.2.2.2.2.1
theorem dX11_takeOf_44 : decode cX11_takeOf 44 = .ok (.aload_n 0, 1) := zb_X11_takeOf_0.2.2.2.2.2.2.2.2.2.1
theorem dX11_takeOf_45 : decode cX11_takeOf 45 = .ok (.getfield 46, 3) := zb_X11_takeOf_0.2.2.2.2.2.2.2.2.2.2.1
theorem dX11_takeOf_48 : decode cX11_takeOf 48 = .ok (.iconst 0, 1) := zb_X11_takeOf_0.2.2.2.2.2.2.2.2.2.2.2
theorem zb_X11_takeOf_49 : (decode cX11_takeOf 49 = .ok (.aload_n 0, 1)) ∧ (decode cX11_takeOf 50 = .ok (.getfield 39, 3)) ∧ (decode cX11_takeOf 53 = .ok (.getfield 386, 3)) ∧ (decode cX11_takeOf 56 = .ok (.iload_n 1, 1)) ∧ (decode cX11_takeOf 57 = .ok (.iaload, 1)) ∧ (decode cX11_takeOf 58 = .ok (.aload_n 0, 1)) ∧ (decode cX11_takeOf 59 = .ok (.getfield 39, 3)) ∧ (decode cX11_takeOf 62 = .ok (.getfield 389, 3)) ∧ (decode cX11_takeOf 65 = .ok (.iload_n 1, 1)) ∧ (decode cX11_takeOf 66 = .ok (.iaload, 1)) ∧ (decode cX11_takeOf 67 = .ok (.aload_n 0, 1)) ∧ (decode cX11_takeOf 68 = .ok (.getfield 39, 3)) := by decide +kernel
theorem dX11_takeOf_49 : decode cX11_takeOf 49 = .ok (.aload_n 0, 1) := zb_X11_takeOf_49.1
theorem dX11_takeOf_50 : decode cX11_takeOf 50 = .ok (.getfield 39, 3) := zb_X11_takeOf_49.2.1
theorem dX11_takeOf_53 : decode cX11_takeOf 53 = .ok (.getfield 386, 3) := zb_X11_takeOf_49.2.2.1
theorem dX11_takeOf_56 : decode cX11_takeOf 56 = .ok (.iload_n 1, 1) := zb_X11_takeOf_49.2.2.2.1
theorem dX11_takeOf_57 : decode cX11_takeOf 57 = .ok (.iaload, 1) := zb_X11_takeOf_49.2.2.2.2.1
theorem dX11_takeOf_58 : decode cX11_takeOf 58 = .ok (.aload_n 0, 1) := zb_X11_takeOf_49.2.2.2.2.2.1
theorem dX11_takeOf_59 : decode cX11_takeOf 59 = .ok (.getfield 39, 3) := zb_X11_takeOf_49.2.2.2.2.2.2.1
theorem dX11_takeOf_62 : decode cX11_takeOf 62 = .ok (.getfield 389, 3) := zb_X11_takeOf_49.2.2.2.2.2.2.2.1
theorem dX11_takeOf_65 : decode cX11_takeOf 65 = .ok (.iload_n 1, 1) := zb_X11_takeOf_49.2.2.2.2.2.2.2.2.1
theorem dX11_takeOf_66 : decode cX11_takeOf 66 = .ok (.iaload, 1) := zb_X11_takeOf_49.2.2.2.2.2.2.2.2.2.1
theorem dX11_takeOf_67 : decode cX11_takeOf 67 = .ok (.aload_n 0, 1) := zb_X11_takeOf_49.2.2.2.2.2.2.2.2.2.2.1
theorem dX11_takeOf_68 : decode cX11_takeOf 68 = .ok (.getfield 39, 3) := zb_X11_takeOf_49.2.2.2.2.2.2.2.2.2.2.2
theorem zb_X11_takeOf_71 : (decode cX11_takeOf 71 = .ok (.getfield 392, 3)) ∧ (decode cX11_takeOf 74 = .ok (.iload_n 1, 1)) ∧ (decode cX11_takeOf 75 = .ok (.iaload, 1)) ∧ (decode cX11_takeOf 76 = .ok (.aload_n 0, 1)) ∧ (decode cX11_takeOf 77 = .ok (.getfield 71, 3)) ∧ (decode cX11_takeOf 80 = .ok (.iload_n 3, 1)) ∧ (decode cX11_takeOf 81 = .ok (.iconst 0, 1)) ∧ (decode cX11_takeOf 82 = .ok (.invokevirtual 292, 3)) ∧ (decode cX11_takeOf 85 = .ok (.ireturn, 1)) ∧ (decode cX11_takeOf 17 = .ok (.aload_n 0, 1)) ∧ (decode cX11_takeOf 18 = .ok (.aload_n 0, 1)) ∧ (decode cX11_takeOf 19 = .ok (.getfield 39, 3)) := by decide +kernel
theorem dX11_takeOf_71 : decode cX11_takeOf 71 = .ok (.getfield 392, 3) := zb_X11_takeOf_71.1
theorem dX11_takeOf_74 : decode cX11_takeOf 74 = .ok (.iload_n 1, 1) := zb_X11_takeOf_71.2.1
theorem dX11_takeOf_75 : decode cX11_takeOf 75 = .ok (.iaload, 1) := zb_X11_takeOf_71.2.2.1
theorem dX11_takeOf_76 : decode cX11_takeOf 76 = .ok (.aload_n 0, 1) := zb_X11_takeOf_71.2.2.2.1
theorem dX11_takeOf_77 : decode cX11_takeOf 77 = .ok (.getfield 71, 3) := zb_X11_takeOf_71.2.2.2.2.1
theorem dX11_takeOf_80 : decode cX11_takeOf 80 = .ok (.iload_n 3, 1) := zb_X11_takeOf_71.2.2.2.2.2.1
theorem dX11_takeOf_81 : decode cX11_takeOf 81 = .ok (.iconst 0, 1) := zb_X11_takeOf_71.2.2.2.2.2.2.1
theorem dX11_takeOf_82 : decode cX11_takeOf 82 = .ok (.invokevirtual 292, 3) := zb_X11_takeOf_71.2.2.2.2.2.2.2.1
theorem dX11_takeOf_85 : decode cX11_takeOf 85 = .ok (.ireturn, 1) := zb_X11_takeOf_71.2.2.2.2.2.2.2.2.1
theorem dX11_takeOf_17 : decode cX11_takeOf 17 = .ok (.aload_n 0, 1) := zb_X11_takeOf_71.2.2.2.2.2.2.2.2.2.1
theorem dX11_takeOf_18 : decode cX11_takeOf 18 = .ok (.aload_n 0, 1) := zb_X11_takeOf_71.2.2.2.2.2.2.2.2.2.2.1
theorem dX11_takeOf_19 : decode cX11_takeOf 19 = .ok (.getfield 39, 3) := zb_X11_takeOf_71.2.2.2.2.2.2.2.2.2.2.2
theorem zb_X11_takeOf_22 : (decode cX11_takeOf 22 = .ok (.getfield 385, 3)) ∧ (decode cX11_takeOf 25 = .ok (.iload_n 1, 1)) ∧ (decode cX11_takeOf 26 = .ok (.iaload, 1)) ∧ (decode cX11_takeOf 27 = .ok (.invokevirtual 78, 3)) ∧ (decode cX11_takeOf 30 = .ok (.astore_n 2, 1)) ∧ (decode cX11_takeOf 31 = .ok (.aload_n 2, 1)) ∧ (decode cX11_takeOf 32 = .ok (.ifnonnull 7, 3)) ∧ (decode cX11_takeOf 35 = .ok (.iconst 0, 1)) ∧ (decode cX11_takeOf 36 = .ok (.goto 7, 3)) ∧ (decode cX11_takeOf 43 = .ok (.istore_n 3, 1)) ∧ (decode cX11_takeOf 39 = .ok (.aload_n 2, 1)) ∧ (decode cX11_takeOf 40 = .ok (.getfield 131, 3)) := by decide +kernel
theorem dX11_takeOf_22 : decode cX11_takeOf 22 = .ok (.getfield 385, 3) := zb_X11_takeOf_22.1
theorem dX11_takeOf_25 : decode cX11_takeOf 25 = .ok (.iload_n 1, 1) := zb_X11_takeOf_22.2.1
theorem dX11_takeOf_26 : decode cX11_takeOf 26 = .ok (.iaload, 1) := zb_X11_takeOf_22.2.2.1
theorem dX11_takeOf_27 : decode cX11_takeOf 27 = .ok (.invokevirtual 78, 3) := zb_X11_takeOf_22.2.2.2.1
theorem dX11_takeOf_30 : decode cX11_takeOf 30 = .ok (.astore_n 2, 1) := zb_X11_takeOf_22.2.2.2.2.1
theorem dX11_takeOf_31 : decode cX11_takeOf 31 = .ok (.aload_n 2, 1) := zb_X11_takeOf_22.2.2.2.2.2.1
theorem dX11_takeOf_32 : decode cX11_takeOf 32 = .ok (.ifnonnull 7, 3) := zb_X11_takeOf_22.2.2.2.2.2.2.1
theorem dX11_takeOf_35 : decode cX11_takeOf 35 = .ok (.iconst 0, 1) := zb_X11_takeOf_22.2.2.2.2.2.2.2.1
theorem dX11_takeOf_36 : decode cX11_takeOf 36 = .ok (.goto 7, 3) := zb_X11_takeOf_22.2.2.2.2.2.2.2.2.1
theorem dX11_takeOf_43 : decode cX11_takeOf 43 = .ok (.istore_n 3, 1) := zb_X11_takeOf_22.2.2.2.2.2.2.2.2.2.1
theorem dX11_takeOf_39 : decode cX11_takeOf 39 = .ok (.aload_n 2, 1) := zb_X11_takeOf_22.2.2.2.2.2.2.2.2.2.2.1
theorem dX11_takeOf_40 : decode cX11_takeOf 40 = .ok (.getfield 131, 3) := zb_X11_takeOf_22.2.2.2.2.2.2.2.2.2.2.2
theorem zb_X11_pass_0 : (decode cX11_pass 0 = .ok (.iload_n 1, 1)) ∧ (decode cX11_pass 1 = .ok (.iconst 1, 1)) ∧ (decode cX11_pass 2 = .ok (.if_icmp .lt 9, 3)) ∧ (decode cX11_pass 11 = .ok (.bipush (-2), 2)) ∧ (decode cX11_pass 13 = .ok (.ireturn, 1)) ∧ (decode cX11_pass 5 = .ok (.iload_n 1, 1)) ∧ (decode cX11_pass 6 = .ok (.bipush 48, 2)) ∧ (decode cX11_pass 8 = .ok (.if_icmp .le 6, 3)) ∧ (decode cX11_pass 14 = .ok (.aload_n 0, 1)) ∧ (decode cX11_pass 15 = .ok (.getfield 71, 3)) ∧ (decode cX11_pass 18 = .ok (.iload_n 1, 1)) := by decide +kernel
theorem dX11_pass_0 : decode cX11_pass 0 = .ok (.iload_n 1, 1) := zb_X11_pass_0.1
theorem dX11_pass_1 : decode cX11_pass 1 = .ok (.iconst 1, 1) := zb_X11_pass_0.2.1
theorem dX11_pass_2 : decode cX11_pass 2 = .ok (.if_icmp .lt 9, 3) := zb_X11_pass_0.2.2.1
theorem dX11_pass_11 : decode cX11_pass 11 = .ok (.bipush (-2), 2) := zb_X11_pass_0.2.2.2.1
theorem dX11_pass_13 : decode cX11_pass 13 = .ok (.ireturn, 1) := zb_X11_pass_0.2.2.2.2.1
theorem dX11_pass_5 : decode cX11_pass 5 = .ok (.iload_n 1, 1) := zb_X11_pass_0.2.2.2.2.2.1
theorem dX11_pass_6 : decode cX11_pass 6 = .ok (.bipush 48, 2) := zb_X11_pass_0.2.2.2.2.2.2.1
theorem dX11_pass_8 : decode cX11_pass 8 = .ok (.if_icmp .le 6, 3) := zb_X11_pass_0.2.2.2.2.2.2.2.1
theorem dX11_pass_14 : decode cX11_pass 14 = .ok (.aload_n 0, 1) := zb_X11_pass_0.2.2.2.2.2.2.2.2.1
theorem dX11_pass_15 : decode cX11_pass 15 = .ok (.getfield 71, 3) := zb_X11_pass_0.2.2.2.2.2.2.2.2.2.1
theorem dX11_pass_18 : decode cX11_pass 18 = .ok (.iload_n 1, 1) := zb_X11_pass_0.2.2.2.2.2.2.2.2.2.2
theorem zb_X11_pass_19 : (decode cX11_pass 19 = .ok (.iadd, 1)) ∧ (decode cX11_pass 20 = .ok (.sipush 240, 3)) ∧ (decode cX11_pass 23 = .ok (.if_icmp .lt 6, 3)) ∧ (decode cX11_pass 29 = .ok (.iconst 0, 1)) ∧ (decode cX11_pass 30 = .ok (.istore_n 2, 1)) ∧ (decode cX11_pass 31 = .ok (.iload_n 2, 1)) ∧ (decode cX11_pass 32 = .ok (.aload_n 0, 1)) ∧ (decode cX11_pass 33 = .ok (.getfield 75, 3)) ∧ (decode cX11_pass 36 = .ok (.if_icmp .ge 24, 3)) ∧ (decode cX11_pass 60 = .ok (.aload_n 0, 1)) ∧ (decode cX11_pass 61 = .ok (.dup, 1)) := by decide +kernel
theorem dX11_pass_19 : decode cX11_pass 19 = .ok (.iadd, 1) := zb_X11_pass_19.1
theorem dX11_pass_20 : decode cX11_pass 20 = .ok (.sipush 240, 3) := zb_X11_pass_19.2.1
theorem dX11_pass_23 : decode cX11_pass 23 = .ok (.if_icmp .lt 6, 3) := zb_X11_pass_19.2.2.1
theorem dX11_pass_29 : decode cX11_pass 29 = .ok (.iconst 0, 1) := zb_X11_pass_19.2.2.2.1
theorem dX11_pass_30 : decode cX11_pass 30 = .ok (.istore_n 2, 1) := zb_X11_pass_19.2.2.2.2.1
theorem dX11_pass_31 : decode cX11_pass 31 = .ok (.iload_n 2, 1) := zb_X11_pass_19.2.2.2.2.2.1
theorem dX11_pass_32 : decode cX11_pass 32 = .ok (.aload_n 0, 1) := zb_X11_pass_19.2.2.2.2.2.2.1
theorem dX11_pass_33 : decode cX11_pass 33 = .ok (.getfield 75, 3) := zb_X11_pass_19.2.2.2.2.2.2.2.1
theorem dX11_pass_36 : decode cX11_pass 36 = .ok (.if_icmp .ge 24, 3) := zb_X11_pass_19.2.2.2.2.2.2.2.2.1
theorem dX11_pass_60 : decode cX11_pass 60 = .ok (.aload_n 0, 1) := zb_X11_pass_19.2.2.2.2.2.2.2.2.2.1
theorem dX11_pass_61 : decode cX11_pass 61 = .ok (.dup, 1) := zb_X11_pass_19.2.2.2.2.2.2.2.2.2.2
theorem zb_X11_pass_62 : (decode cX11_pass 62 = .ok (.getfield 71, 3)) ∧ (decode cX11_pass 65 = .ok (.iload_n 1, 1)) ∧ (decode cX11_pass 66 = .ok (.iadd, 1)) ∧ (decode cX11_pass 67 = .ok (.putfield 71, 3)) ∧ (decode cX11_pass 70 = .ok (.aload_n 0, 1)) ∧ (decode cX11_pass 71 = .ok (.getfield 71, 3)) ∧ (decode cX11_pass 74 = .ok (.ireturn, 1)) ∧ (decode cX11_pass 39 = .ok (.aload_n 0, 1)) ∧ (decode cX11_pass 40 = .ok (.iload_n 2, 1)) ∧ (decode cX11_pass 41 = .ok (.invokevirtual 78, 3)) ∧ (decode cX11_pass 44 = .ok (.astore_n 3, 1)) := by decide +kernel
theorem dX11_pass_62 : decode cX11_pass 62 = .ok (.getfield 71, 3) := zb_X11_pass_62.1
theorem dX11_pass_65 : decode cX11_pass 65 = .ok (.iload_n 1, 1) := zb_X11_pass_62.2.1
theorem dX11_pass_66 : decode cX11_pass 66 = .ok (.iadd, 1) := zb_X11_pass_62.2.2.1
theorem dX11_pass_67 : decode cX11_pass 67 = .ok (.putfield 71, 3) := zb_X11_pass_62.2.2.2.1
theorem dX11_pass_70 : decode cX11_pass 70 = .ok (.aload_n 0, 1) := zb_X11_pass_62.2.2.2.2.1
theorem dX11_pass_71 : decode cX11_pass 71 = .ok (.getfield 71, 3) := zb_X11_pass_62.2.2.2.2.2.1
theorem dX11_pass_74 : decode cX11_pass 74 = .ok (.ireturn, 1) := zb_X11_pass_62.2.2.2.2.2.2.1
theorem dX11_pass_39 : decode cX11_pass 39 = .ok (.aload_n 0, 1) := zb_X11_pass_62.2.2.2.2.2.2.2.1
theorem dX11_pass_40 : decode cX11_pass 40 = .ok (.iload_n 2, 1) := zb_X11_pass_62.2.2.2.2.2.2.2.2.1
theorem dX11_pass_41 : decode cX11_pass 41 = .ok (.invokevirtual 78, 3) := zb_X11_pass_62.2.2.2.2.2.2.2.2.2.1
theorem dX11_pass_44 : decode cX11_pass 44 = .ok (.astore_n 3, 1) := zb_X11_pass_62.2.2.2.2.2.2.2.2.2.2
theorem zb_X11_pass_45 : (decode cX11_pass 45 = .ok (.aload_n 3, 1)) ∧ (decode cX11_pass 46 = .ok (.ifnull 8, 3)) ∧ (decode cX11_pass 54 = .ok (.iinc 2 1, 3)) ∧ (decode cX11_pass 57 = .ok (.goto (-26), 3)) ∧ (decode cX11_pass 49 = .ok (.aload_n 3, 1)) ∧ (decode cX11_pass 50 = .ok (.iload_n 1, 1)) ∧ (decode cX11_pass 51 = .ok (.invokevirtual 82, 3)) ∧ (decode cX11_pass 26 = .ok (.bipush (-4), 2)) ∧ (decode cX11_pass 28 = .ok (.ireturn, 1)) := by decide +kernel
theorem dX11_pass_45 : decode cX11_pass 45 = .ok (.aload_n 3, 1) := zb_X11_pass_45.1
theorem dX11_pass_46 : decode cX11_pass 46 = .ok (.ifnull 8, 3) := zb_X11_pass_45.2.1
theorem dX11_pass_54 : decode cX11_pass 54 = .ok (.iinc 2 1, 3) := zb_X11_pass_45.2.2.1
theorem dX11_pass_57 : decode cX11_pass 57 = .ok (.goto (-26), 3) := zb_X11_pass_45.2.2.2.1
theorem dX11_pass_49 : decode cX11_pass 49 = .ok (.aload_n 3, 1) := zb_X11_pass_45.2.2.2.2.1
theorem dX11_pass_50 : decode cX11_pass 50 = .ok (.iload_n 1, 1) := zb_X11_pass_45.2.2.2.2.2.1
theorem dX11_pass_51 : decode cX11_pass 51 = .ok (.invokevirtual 82, 3) := zb_X11_pass_45.2.2.2.2.2.2.1
theorem dX11_pass_26 : decode cX11_pass 26 = .ok (.bipush (-4), 2) := zb_X11_pass_45.2.2.2.2.2.2.2.1
theorem dX11_pass_28 : decode cX11_pass 28 = .ok (.ireturn, 1) := zb_X11_pass_45.2.2.2.2.2.2.2.2
theorem zb_X11_wind_0 : (decode cX11_wind 0 = .ok (.iload_n 1, 1)) ∧ (decode cX11_wind 1 = .ok (.iload_n 2, 1)) ∧ (decode cX11_wind 2 = .ok (.invokestatic 86, 3)) ∧ (decode cX11_wind 5 = .ok (.ifCond .eq 10, 3)) ∧ (decode cX11_wind 8 = .ok (.iload_n 3, 1)) ∧ (decode cX11_wind 9 = .ok (.invokestatic 90, 3)) ∧ (decode cX11_wind 12 = .ok (.ifCond .ne 6, 3)) ∧ (decode cX11_wind 18 = .ok (.aload_n 0, 1)) ∧ (decode cX11_wind 19 = .ok (.getfield 10, 3)) ∧ (decode cX11_wind 22 = .ok (.getfield 94, 3)) ∧ (decode cX11_wind 25 = .ok (.bipush 30, 2)) := by decide +kernel
theorem dX11_wind_0 : decode cX11_wind 0 = .ok (.iload_n 1, 1) := zb_X11_wind_0.1
theorem dX11_wind_1 : decode cX11_wind 1 = .ok (.iload_n 2, 1) := zb_X11_wind_0.2.1
theorem dX11_wind_2 : decode cX11_wind 2 = .ok (.invokestatic 86, 3) := zb_X11_wind_0.2.2.1
theorem dX11_wind_5 : decode cX11_wind 5 = .ok (.ifCond .eq 10, 3) := zb_X11_wind_0.2.2.2.1
theorem dX11_wind_8 : decode cX11_wind 8 = .ok (.iload_n 3, 1) := zb_X11_wind_0.2.2.2.2.1
theorem dX11_wind_9 : decode cX11_wind 9 = .ok (.invokestatic 90, 3) := zb_X11_wind_0.2.2.2.2.2.1
theorem dX11_wind_12 : decode cX11_wind 12 = .ok (.ifCond .ne 6, 3) := zb_X11_wind_0.2.2.2.2.2.2.1
theorem dX11_wind_18 : decode cX11_wind 18 = .ok (.aload_n 0, 1) := zb_X11_wind_0.2.2.2.2.2.2.2.1
theorem dX11_wind_19 : decode cX11_wind 19 = .ok (.getfield 10, 3) := zb_X11_wind_0.2.2.2.2.2.2.2.2.1
theorem dX11_wind_22 : decode cX11_wind 22 = .ok (.getfield 94, 3) := zb_X11_wind_0.2.2.2.2.2.2.2.2.2.1
theorem dX11_wind_25 : decode cX11_wind 25 = .ok (.bipush 30, 2) := zb_X11_wind_0.2.2.2.2.2.2.2.2.2.2
theorem zb_X11_wind_27 : (decode cX11_wind 27 = .ok (.if_icmp .lt 6, 3)) ∧ (decode cX11_wind 33 = .ok (.aload_n 0, 1)) ∧ (decode cX11_wind 34 = .ok (.getfield 10, 3)) ∧ (decode cX11_wind 37 = .ok (.iload_n 1, 1)) ∧ (decode cX11_wind 38 = .ok (.iload_n 2, 1)) ∧ (decode cX11_wind 39 = .ok (.iload_n 3, 1)) ∧ (decode cX11_wind 40 = .ok (.invokevirtual 97, 3)) ∧ (decode cX11_wind 43 = .ok (.iconst 0, 1)) ∧ (decode cX11_wind 44 = .ok (.istore 4, 2)) ∧ (decode cX11_wind 46 = .ok (.iload 4, 2)) ∧ (decode cX11_wind 48 = .ok (.aload_n 0, 1)) := by decide +kernel
theorem dX11_wind_27 : decode cX11_wind 27 = .ok (.if_icmp .lt 6, 3) := zb_X11_wind_27.1
theorem dX11_wind_33 : decode cX11_wind 33 = .ok (.aload_n 0, 1) := zb_X11_wind_27.2.1
theorem dX11_wind_34 : decode cX11_wind 34 = .ok (.getfield 10, 3) := zb_X11_wind_27.2.2.1
theorem dX11_wind_37 : decode cX11_wind 37 = .ok (.iload_n 1, 1) := zb_X11_wind_27.2.2.2.1
theorem dX11_wind_38 : decode cX11_wind 38 = .ok (.iload_n 2, 1) := zb_X11_wind_27.2.2.2.2.1
theorem dX11_wind_39 : decode cX11_wind 39 = .ok (.iload_n 3, 1) := zb_X11_wind_27.2.2.2.2.2.1
theorem dX11_wind_40 : decode cX11_wind 40 = .ok (.invokevirtual 97, 3) := zb_X11_wind_27.2.2.2.2.2.2.1
theorem dX11_wind_43 : decode cX11_wind 43 = .ok (.iconst 0, 1) := zb_X11_wind_27.2.2.2.2.2.2.2.1
theorem dX11_wind_44 : decode cX11_wind 44 = .ok (.istore 4, 2) := zb_X11_wind_27.2.2.2.2.2.2.2.2.1
theorem dX11_wind_46 : decode cX11_wind 46 = .ok (.iload 4, 2) := zb_X11_wind_27.2.2.2.2.2.2.2.2.2.1
theorem dX11_wind_48 : decode cX11_wind 48 = .ok (.aload_n 0, 1) := zb_X11_wind_27.2.2.2.2.2.2.2.2.2.2
theorem zb_X11_wind_49 : (decode cX11_wind 49 = .ok (.getfield 75, 3)) ∧ (decode cX11_wind 52 = .ok (.if_icmp .ge 28, 3)) ∧ (decode cX11_wind 80 = .ok (.aload_n 0, 1)) ∧ (decode cX11_wind 81 = .ok (.getfield 10, 3)) ∧ (decode cX11_wind 84 = .ok (.getfield 94, 3)) ∧ (decode cX11_wind 87 = .ok (.ireturn, 1)) ∧ (decode cX11_wind 55 = .ok (.aload_n 0, 1)) ∧ (decode cX11_wind 56 = .ok (.iload 4, 2)) ∧ (decode cX11_wind 58 = .ok (.invokevirtual 78, 3)) ∧ (decode cX11_wind 61 = .ok (.astore 5, 2)) ∧ (decode cX11_wind 63 = .ok (.aload 5, 2)) := by decide +kernel
theorem dX11_wind_49 : decode cX11_wind 49 = .ok (.getfield 75, 3) := zb_X11_wind_49.1
theorem dX11_wind_52 : decode cX11_wind 52 = .ok (.if_icmp .ge 28, 3) := zb_X11_wind_49.2.1
theorem dX11_wind_80 : decode cX11_wind 80 = .ok (.aload_n 0, 1) := zb_X11_wind_49.2.2.1
theorem dX11_wind_81 : decode cX11_wind 81 = .ok (.getfield 10, 3) := zb_X11_wind_49.2.2.2.1
theorem dX11_wind_84 : decode cX11_wind 84 = .ok (.getfield 94, 3) := zb_X11_wind_49.2.2.2.2.1
theorem dX11_wind_87 : decode cX11_wind 87 = .ok (.ireturn, 1) := zb_X11_wind_49.2.2.2.2.2.1
theorem dX11_wind_55 : decode cX11_wind 55 = .ok (.aload_n 0, 1) := zb_X11_wind_49.2.2.2.2.2.2.1
theorem dX11_wind_56 : decode cX11_wind 56 = .ok (.iload 4, 2) := zb_X11_wind_49.2.2.2.2.2.2.2.1
theorem dX11_wind_58 : decode cX11_wind 58 = .ok (.invokevirtual 78, 3) := zb_X11_wind_49.2.2.2.2.2.2.2.2.1
theorem dX11_wind_61 : decode cX11_wind 61 = .ok (.astore 5, 2) := zb_X11_wind_49.2.2.2.2.2.2.2.2.2.1
theorem dX11_wind_63 : decode cX11_wind 63 = .ok (.aload 5, 2) := zb_X11_wind_49.2.2.2.2.2.2.2.2.2.2
theorem zb_X11_wind_65 : (decode cX11_wind 65 = .ok (.ifnull 9, 3)) ∧ (decode cX11_wind 74 = .ok (.iinc 4 1, 3)) ∧ (decode cX11_wind 77 = .ok (.goto (-31), 3)) ∧ (decode cX11_wind 68 = .ok (.aload 5, 2)) ∧ (decode cX11_wind 70 = .ok (.iload_n 1, 1)) ∧ (decode cX11_wind 71 = .ok (.invokevirtual 101, 3)) ∧ (decode cX11_wind 30 = .ok (.bipush (-4), 2)) ∧ (decode cX11_wind 32 = .ok (.ireturn, 1)) ∧ (decode cX11_wind 15 = .ok (.bipush (-2), 2)) ∧ (decode cX11_wind 17 = .ok (.ireturn, 1)) := by decide +kernel
theorem dX11_wind_65 : decode cX11_wind 65 = .ok (.ifnull 9, 3) := zb_X11_wind_65.1
theorem dX11_wind_74 : decode cX11_wind 74 = .ok (.iinc 4 1, 3) := zb_X11_wind_65.2.1
theorem dX11_wind_77 : decode cX11_wind 77 = .ok (.goto (-31), 3) := zb_X11_wind_65.2.2.1
theorem dX11_wind_68 : decode cX11_wind 68 = .ok (.aload 5, 2) := zb_X11_wind_65.2.2.2.1
theorem dX11_wind_70 : decode cX11_wind 70 = .ok (.iload_n 1, 1) := zb_X11_wind_65.2.2.2.2.1
theorem dX11_wind_71 : decode cX11_wind 71 = .ok (.invokevirtual 101, 3) := zb_X11_wind_65.2.2.2.2.2.1
theorem dX11_wind_30 : decode cX11_wind 30 = .ok (.bipush (-4), 2) := zb_X11_wind_65.2.2.2.2.2.2.1
theorem dX11_wind_32 : decode cX11_wind 32 = .ok (.ireturn, 1) := zb_X11_wind_65.2.2.2.2.2.2.2.1
theorem dX11_wind_15 : decode cX11_wind 15 = .ok (.bipush (-2), 2) := zb_X11_wind_65.2.2.2.2.2.2.2.2.1
theorem dX11_wind_17 : decode cX11_wind 17 = .ok (.ireturn, 1) := zb_X11_wind_65.2.2.2.2.2.2.2.2.2
theorem zb_X11_fog_0 : (decode cX11_fog 0 = .ok (.iload_n 1, 1)) ∧ (decode cX11_fog 1 = .ok (.iload_n 2, 1)) ∧ (decode cX11_fog 2 = .ok (.invokestatic 86, 3)) ∧ (decode cX11_fog 5 = .ok (.ifCond .eq 13, 3)) ∧ (decode cX11_fog 8 = .ok (.iload_n 3, 1)) ∧ (decode cX11_fog 9 = .ok (.ifCond .lt 9, 3)) ∧ (decode cX11_fog 18 = .ok (.bipush (-2), 2)) ∧ (decode cX11_fog 20 = .ok (.ireturn, 1)) ∧ (decode cX11_fog 12 = .ok (.iload_n 3, 1)) ∧ (decode cX11_fog 13 = .ok (.bipush 16, 2)) := by decide +kernel
theorem dX11_fog_0 : decode cX11_fog 0 = .ok (.iload_n 1, 1) := zb_X11_fog_0.1
theorem dX11_fog_1 : decode cX11_fog 1 = .ok (.iload_n 2, 1) := zb_X11_fog_0.2.1
theorem dX11_fog_2 : decode cX11_fog 2 = .ok (.invokestatic 86, 3) := zb_X11_fog_0.2.2.1
theorem dX11_fog_5 : decode cX11_fog 5 = .ok (.ifCond .eq 13, 3) := zb_X11_fog_0.2.2.2.1
theorem dX11_fog_8 : decode cX11_fog 8 = .ok (.iload_n 3, 1) := zb_X11_fog_0.2.2.2.2.1
theorem dX11_fog_9 : decode cX11_fog 9 = .ok (.ifCond .lt 9, 3) := zb_X11_fog_0.2.2.2.2.2.1
theorem dX11_fog_18 : decode cX11_fog 18 = .ok (.bipush (-2), 2) := zb_X11_fog_0.2.2.2.2.2.2.1
theorem dX11_fog_20 : decode cX11_fog 20 = .ok (.ireturn, 1) := zb_X11_fog_0.2.2.2.2.2.2.2.1
theorem dX11_fog_12 : decode cX11_fog 12 = .ok (.iload_n 3, 1) := zb_X11_fog_0.2.2.2.2.2.2.2.2.1
theorem dX11_fog_13 : decode cX11_fog 13 = .ok (.bipush 16, 2) := zb_X11_fog_0.2.2.2.2.2.2.2.2.2
theorem zb_X11_fog_15 : (decode cX11_fog 15 = .ok (.if_icmp .le 6, 3)) ∧ (decode cX11_fog 21 = .ok (.aload_n 0, 1)) ∧ (decode cX11_fog 22 = .ok (.getfield 10, 3)) ∧ (decode cX11_fog 25 = .ok (.getfield 104, 3)) ∧ (decode cX11_fog 28 = .ok (.bipush 30, 2)) ∧ (decode cX11_fog 30 = .ok (.if_icmp .lt 6, 3)) ∧ (decode cX11_fog 36 = .ok (.aload_n 0, 1)) ∧ (decode cX11_fog 37 = .ok (.getfield 10, 3)) ∧ (decode cX11_fog 40 = .ok (.iload_n 1, 1)) ∧ (decode cX11_fog 41 = .ok (.iload_n 2, 1)) := by decide +kernel
theorem dX11_fog_15 : decode cX11_fog 15 = .ok (.if_icmp .le 6, 3) := zb_X11_fog_15.1
theorem dX11_fog_21 : decode cX11_fog 21 = .ok (.aload_n 0, 1) := zb_X11_fog_15.2.1
theorem dX11_fog_22 : decode cX11_fog 22 = .ok (.getfield 10, 3) := zb_X11_fog_15.2.2.1
theorem dX11_fog_25 : decode cX11_fog 25 = .ok (.getfield 104, 3) := zb_X11_fog_15.2.2.2.1
theorem dX11_fog_28 : decode cX11_fog 28 = .ok (.bipush 30, 2) := zb_X11_fog_15.2.2.2.2.1
theorem dX11_fog_30 : decode cX11_fog 30 = .ok (.if_icmp .lt 6, 3) := zb_X11_fog_15.2.2.2.2.2.1
theorem dX11_fog_36 : decode cX11_fog 36 = .ok (.aload_n 0, 1) := zb_X11_fog_15.2.2.2.2.2.2.1
theorem dX11_fog_37 : decode cX11_fog 37 = .ok (.getfield 10, 3) := zb_X11_fog_15.2.2.2.2.2.2.2.1
theorem dX11_fog_40 : decode cX11_fog 40 = .ok (.iload_n 1, 1) := zb_X11_fog_15.2.2.2.2.2.2.2.2.1
theorem dX11_fog_41 : decode cX11_fog 41 = .ok (.iload_n 2, 1) := zb_X11_fog_15.2.2.2.2.2.2.2.2.2
theorem zb_X11_fog_42 : (decode cX11_fog 42 = .ok (.iload_n 3, 1)) ∧ (decode cX11_fog 43 = .ok (.invokevirtual 107, 3)) ∧ (decode cX11_fog 46 = .ok (.aload_n 0, 1)) ∧ (decode cX11_fog 47 = .ok (.getfield 10, 3)) ∧ (decode cX11_fog 50 = .ok (.getfield 104, 3)) ∧ (decode cX11_fog 53 = .ok (.ireturn, 1)) ∧ (decode cX11_fog 33 = .ok (.bipush (-4), 2)) ∧ (decode cX11_fog 35 = .ok (.ireturn, 1)) := by decide +kernel
theorem dX11_fog_42 : decode cX11_fog 42 = .ok (.iload_n 3, 1) := zb_X11_fog_42.1
theorem dX11_fog_43 : decode cX11_fog 43 = .ok (.invokevirtual 107, 3) := zb_X11_fog_42.2.1
theorem dX11_fog_46 : decode cX11_fog 46 = .ok (.aload_n 0, 1) := zb_X11_fog_42.2.2.1
theorem dX11_fog_47 : decode cX11_fog 47 = .ok (.getfield 10, 3) := zb_X11_fog_42.2.2.2.1
theorem dX11_fog_50 : decode cX11_fog 50 = .ok (.getfield 104, 3) := zb_X11_fog_42.2.2.2.2.1
theorem dX11_fog_53 : decode cX11_fog 53 = .ok (.ireturn, 1) := zb_X11_fog_42.2.2.2.2.2.1
theorem dX11_fog_33 : decode cX11_fog 33 = .ok (.bipush (-4), 2) := zb_X11_fog_42.2.2.2.2.2.2.1
theorem dX11_fog_35 : decode cX11_fog 35 = .ok (.ireturn, 1) := zb_X11_fog_42.2.2.2.2.2.2.2
theorem zb_X11_bodyTold_0 : (decode cX11_bodyTold 0 = .ok (.aload_n 0, 1)) ∧ (decode cX11_bodyTold 1 = .ok (.iload_n 1, 1)) ∧ (decode cX11_bodyTold 2 = .ok (.invokevirtual 78, 3)) ∧ (decode cX11_bodyTold 5 = .ok (.astore_n 3, 1)) ∧ (decode cX11_bodyTold 6 = .ok (.aload_n 3, 1)) ∧ (decode cX11_bodyTold 7 = .ok (.ifnonnull 6, 3)) ∧ (decode cX11_bodyTold 10 = .ok (.bipush (-2), 2)) ∧ (decode cX11_bodyTold 12 = .ok (.ireturn, 1)) ∧ (decode cX11_bodyTold 13 = .ok (.iload_n 2, 1)) ∧ (decode cX11_bodyTold 14 = .ok (.tableswitch 99 0 8 #[50, 55, 60, 65, 70, 75, 80, 85, 90], 50)) ∧ (decode cX11_bodyTold 113 = .ok (.bipush (-2), 2)) := by decide +kernel
theorem dX11_bodyTold_0 : decode cX11_bodyTold 0 = .ok (.aload_n 0, 1) := zb_X11_bodyTold_0.1
theorem dX11_bodyTold_1 : decode cX11_bodyTold 1 = .ok (.iload_n 1, 1) := zb_X11_bodyTold_0.2.1
theorem dX11_bodyTold_2 : decode cX11_bodyTold 2 = .ok (.invokevirtual 78, 3) := zb_X11_bodyTold_0.2.2.1
theorem dX11_bodyTold_5 : decode cX11_bodyTold 5 = .ok (.astore_n 3, 1) := zb_X11_bodyTold_0.2.2.2.1
theorem dX11_bodyTold_6 : decode cX11_bodyTold 6 = .ok (.aload_n 3, 1) := zb_X11_bodyTold_0.2.2.2.2.1
theorem dX11_bodyTold_7 : decode cX11_bodyTold 7 = .ok (.ifnonnull 6, 3) := zb_X11_bodyTold_0.2.2.2.2.2.1
theorem dX11_bodyTold_10 : decode cX11_bodyTold 10 = .ok (.bipush (-2), 2) := zb_X11_bodyTold_0.2.2.2.2.2.2.1
theorem dX11_bodyTold_12 : decode cX11_bodyTold 12 = .ok (.ireturn, 1) := zb_X11_bodyTold_0.2.2.2.2.2.2.2.1
theorem dX11_bodyTold_13 : decode cX11_bodyTold 13 = .ok (.iload_n 2, 1) := zb_X11_bodyTold_0.2.2.2.2.2.2.2.2.1
theorem dX11_bodyTold_14 : decode cX11_bodyTold 14 = .ok (.tableswitch 99 0 8 #[50, 55, 60, 65, 70, 75, 80, 85, 90], 50) := zb_X11_bodyTold_0.2.2.2.2.2.2.2.2.2.1
theorem dX11_bodyTold_113 : decode cX11_bodyTold 113 = .ok (.bipush (-2), 2) := zb_X11_bodyTold_0.2.2.2.2.2.2.2.2.2.2
theorem zb_X11_bodyTold_115 : (decode cX11_bodyTold 115 = .ok (.ireturn, 1)) ∧ (decode cX11_bodyTold 64 = .ok (.aload_n 3, 1)) ∧ (decode cX11_bodyTold 65 = .ok (.getfield 116, 3)) ∧ (decode cX11_bodyTold 68 = .ok (.ireturn, 1)) ∧ (decode cX11_bodyTold 69 = .ok (.aload_n 3, 1)) ∧ (decode cX11_bodyTold 70 = .ok (.getfield 119, 3)) ∧ (decode cX11_bodyTold 73 = .ok (.ireturn, 1)) ∧ (decode cX11_bodyTold 74 = .ok (.aload_n 3, 1)) ∧ (decode cX11_bodyTold 75 = .ok (.getfield 122, 3)) ∧ (decode cX11_bodyTold 78 = .ok (.ireturn, 1)) ∧ (decode cX11_bodyTold 79 = .ok (.aload_n 3, 1)) := by decide +kernel
theorem dX11_bodyTold_115 : decode cX11_bodyTold 115 = .ok (.ireturn, 1) := zb_X11_bodyTold_115.1
theorem dX11_bodyTold_64 : decode cX11_bodyTold 64 = .ok (.aload_n 3, 1) := zb_X11_bodyTold_115.2.1
theorem dX11_bodyTold_65 : decode cX11_bodyTold 65 = .ok (.getfield 116, 3) := zb_X11_bodyTold_115.2.2.1
theorem dX11_bodyTold_68 : decode cX11_bodyTold 68 = .ok (.ireturn, 1) := zb_X11_bodyTold_115.2.2.2.1
theorem dX11_bodyTold_69 : decode cX11_bodyTold 69 = .ok (.aload_n 3, 1) := zb_X11_bodyTold_115.2.2.2.2.1
theorem dX11_bodyTold_70 : decode cX11_bodyTold 70 = .ok (.getfield 119, 3) := zb_X11_bodyTold_115.2.2.2.2.2.1
theorem dX11_bodyTold_73 : decode cX11_bodyTold 73 = .ok (.ireturn, 1) := zb_X11_bodyTold_115.2.2.2.2.2.2.1
theorem dX11_bodyTold_74 : decode cX11_bodyTold 74 = .ok (.aload_n 3, 1) := zb_X11_bodyTold_115.2.2.2.2.2.2.2.1
theorem dX11_bodyTold_75 : decode cX11_bodyTold 75 = .ok (.getfield 122, 3) := zb_X11_bodyTold_115.2.2.2.2.2.2.2.2.1
theorem dX11_bodyTold_78 : decode cX11_bodyTold 78 = .ok (.ireturn, 1) := zb_X11_bodyTold_115.2.2.2.2.2.2.2.2.2.1
theorem dX11_bodyTold_79 : decode cX11_bodyTold 79 = .ok (.aload_n 3, 1) := zb_X11_bodyTold_115.2.2.2.2.2.2.2.2.2.2
theorem zb_X11_bodyTold_80 : (decode cX11_bodyTold 80 = .ok (.getfield 125, 3)) ∧ (decode cX11_bodyTold 83 = .ok (.ireturn, 1)) ∧ (decode cX11_bodyTold 84 = .ok (.aload_n 3, 1)) ∧ (decode cX11_bodyTold 85 = .ok (.getfield 128, 3)) ∧ (decode cX11_bodyTold 88 = .ok (.ireturn, 1)) ∧ (decode cX11_bodyTold 89 = .ok (.aload_n 3, 1)) ∧ (decode cX11_bodyTold 90 = .ok (.getfield 131, 3)) ∧ (decode cX11_bodyTold 93 = .ok (.ireturn, 1)) ∧ (decode cX11_bodyTold 94 = .ok (.aload_n 3, 1)) ∧ (decode cX11_bodyTold 95 = .ok (.invokevirtual 134, 3)) ∧ (decode cX11_bodyTold 98 = .ok (.ireturn, 1)) := by decide +kernel
theorem dX11_bodyTold_80 : decode cX11_bodyTold 80 = .ok (.getfield 125, 3) := zb_X11_bodyTold_80.1
theorem dX11_bodyTold_83 : decode cX11_bodyTold 83 = .ok (.ireturn, 1) := zb_X11_bodyTold_80.2.1
theorem dX11_bodyTold_84 : decode cX11_bodyTold 84 = .ok (.aload_n 3, 1) := zb_X11_bodyTold_80.2.2.1
theorem dX11_bodyTold_85 : decode cX11_bodyTold 85 = .ok (.getfield 128, 3) := zb_X11_bodyTold_80.2.2.2.1
theorem dX11_bodyTold_88 : decode cX11_bodyTold 88 = .ok (.ireturn, 1) := zb_X11_bodyTold_80.2.2.2.2.1
theorem dX11_bodyTold_89 : decode cX11_bodyTold 89 = .ok (.aload_n 3, 1) := zb_X11_bodyTold_80.2.2.2.2.2.1
theorem dX11_bodyTold_90 : decode cX11_bodyTold 90 = .ok (.getfield 131, 3) := zb_X11_bodyTold_80.2.2.2.2.2.2.1
theorem dX11_bodyTold_93 : decode cX11_bodyTold 93 = .ok (.ireturn, 1) := zb_X11_bodyTold_80.2.2.2.2.2.2.2.1
theorem dX11_bodyTold_94 : decode cX11_bodyTold 94 = .ok (.aload_n 3, 1) := zb_X11_bodyTold_80.2.2.2.2.2.2.2.2.1
theorem dX11_bodyTold_95 : decode cX11_bodyTold 95 = .ok (.invokevirtual 134, 3) := zb_X11_bodyTold_80.2.2.2.2.2.2.2.2.2.1
theorem dX11_bodyTold_98 : decode cX11_bodyTold 98 = .ok (.ireturn, 1) := zb_X11_bodyTold_80.2.2.2.2.2.2.2.2.2.2
theorem zb_X11_bodyTold_99 : (decode cX11_bodyTold 99 = .ok (.aload_n 3, 1)) ∧ (decode cX11_bodyTold 100 = .ok (.invokevirtual 138, 3)) ∧ (decode cX11_bodyTold 103 = .ok (.ireturn, 1)) ∧ (decode cX11_bodyTold 104 = .ok (.aload_n 3, 1)) ∧ (decode cX11_bodyTold 105 = .ok (.aload_n 0, 1)) ∧ (decode cX11_bodyTold 106 = .ok (.getfield 71, 3)) ∧ (decode cX11_bodyTold 109 = .ok (.invokevirtual 141, 3)) ∧ (decode cX11_bodyTold 112 = .ok (.ireturn, 1)) := by decide +kernel
theorem dX11_bodyTold_99 : decode cX11_bodyTold 99 = .ok (.aload_n 3, 1) := zb_X11_bodyTold_99.1
theorem dX11_bodyTold_100 : decode cX11_bodyTold 100 = .ok (.invokevirtual 138, 3) := zb_X11_bodyTold_99.2.1
theorem dX11_bodyTold_103 : decode cX11_bodyTold 103 = .ok (.ireturn, 1) := zb_X11_bodyTold_99.2.2.1
theorem dX11_bodyTold_104 : decode cX11_bodyTold 104 = .ok (.aload_n 3, 1) := zb_X11_bodyTold_99.2.2.2.1
theorem dX11_bodyTold_105 : decode cX11_bodyTold 105 = .ok (.aload_n 0, 1) := zb_X11_bodyTold_99.2.2.2.2.1
theorem dX11_bodyTold_106 : decode cX11_bodyTold 106 = .ok (.getfield 71, 3) := zb_X11_bodyTold_99.2.2.2.2.2.1
theorem dX11_bodyTold_109 : decode cX11_bodyTold 109 = .ok (.invokevirtual 141, 3) := zb_X11_bodyTold_99.2.2.2.2.2.2.1
theorem dX11_bodyTold_112 : decode cX11_bodyTold 112 = .ok (.ireturn, 1) := zb_X11_bodyTold_99.2.2.2.2.2.2.2
theorem zb_X11_patch_0 : (decode cX11_patch 0 = .ok (.aload_n 0, 1)) ∧ (decode cX11_patch 1 = .ok (.iload_n 1, 1)) ∧ (decode cX11_patch 2 = .ok (.invokevirtual 78, 3)) ∧ (decode cX11_patch 5 = .ok (.astore 4, 2)) ∧ (decode cX11_patch 7 = .ok (.aload 4, 2)) ∧ (decode cX11_patch 9 = .ok (.ifnull 27, 3)) ∧ (decode cX11_patch 36 = .ok (.ldc2_w 148, 3)) ∧ (decode cX11_patch 39 = .ok (.lreturn, 1)) ∧ (decode cX11_patch 12 = .ok (.iload_n 2, 1)) := by decide +kernel
theorem dX11_patch_0 : decode cX11_patch 0 = .ok (.aload_n 0, 1) := zb_X11_patch_0.1
theorem dX11_patch_1 : decode cX11_patch 1 = .ok (.iload_n 1, 1) := zb_X11_patch_0.2.1
theorem dX11_patch_2 : decode cX11_patch 2 = .ok (.invokevirtual 78, 3) := zb_X11_patch_0.2.2.1
theorem dX11_patch_5 : decode cX11_patch 5 = .ok (.astore 4, 2) := zb_X11_patch_0.2.2.2.1
theorem dX11_patch_7 : decode cX11_patch 7 = .ok (.aload 4, 2) := zb_X11_patch_0.2.2.2.2.1
theorem dX11_patch_9 : decode cX11_patch 9 = .ok (.ifnull 27, 3) := zb_X11_patch_0.2.2.2.2.2.1
theorem dX11_patch_36 : decode cX11_patch 36 = .ok (.ldc2_w 148, 3) := zb_X11_patch_0.2.2.2.2.2.2.1
theorem dX11_patch_39 : decode cX11_patch 39 = .ok (.lreturn, 1) := zb_X11_patch_0.2.2.2.2.2.2.2.1
theorem dX11_patch_12 : decode cX11_patch 12 = .ok (.iload_n 2, 1) := zb_X11_patch_0.2.2.2.2.2.2.2.2
theorem zb_X11_patch_13 : (decode cX11_patch 13 = .ok (.aload 4, 2)) ∧ (decode cX11_patch 15 = .ok (.getfield 122, 3)) ∧ (decode cX11_patch 18 = .ok (.if_icmp .lt 18, 3)) ∧ (decode cX11_patch 21 = .ok (.iload_n 2, 1)) ∧ (decode cX11_patch 22 = .ok (.sipush 240, 3)) ∧ (decode cX11_patch 25 = .ok (.if_icmp .ge 11, 3)) ∧ (decode cX11_patch 28 = .ok (.aload_n 0, 1)) ∧ (decode cX11_patch 29 = .ok (.iload_n 3, 1)) ∧ (decode cX11_patch 30 = .ok (.invokevirtual 145, 3)) := by decide +kernel
theorem dX11_patch_13 : decode cX11_patch 13 = .ok (.aload 4, 2) := zb_X11_patch_13.1
theorem dX11_patch_15 : decode cX11_patch 15 = .ok (.getfield 122, 3) := zb_X11_patch_13.2.1
theorem dX11_patch_18 : decode cX11_patch 18 = .ok (.if_icmp .lt 18, 3) := zb_X11_patch_13.2.2.1
theorem dX11_patch_21 : decode cX11_patch 21 = .ok (.iload_n 2, 1) := zb_X11_patch_13.2.2.2.1
theorem dX11_patch_22 : decode cX11_patch 22 = .ok (.sipush 240, 3) := zb_X11_patch_13.2.2.2.2.1
theorem dX11_patch_25 : decode cX11_patch 25 = .ok (.if_icmp .ge 11, 3) := zb_X11_patch_13.2.2.2.2.2.1
theorem dX11_patch_28 : decode cX11_patch 28 = .ok (.aload_n 0, 1) := zb_X11_patch_13.2.2.2.2.2.2.1
theorem dX11_patch_29 : decode cX11_patch 29 = .ok (.iload_n 3, 1) := zb_X11_patch_13.2.2.2.2.2.2.2.1
theorem dX11_patch_30 : decode cX11_patch 30 = .ok (.invokevirtual 145, 3) := zb_X11_patch_13.2.2.2.2.2.2.2.2
theorem zb_X11_patch_33 : (decode cX11_patch 33 = .ok (.ifCond .ne 7, 3)) ∧ (decode cX11_patch 40 = .ok (.aload 4, 2)) ∧ (decode cX11_patch 42 = .ok (.aload_n 0, 1)) ∧ (decode cX11_patch 43 = .ok (.getfield 10, 3)) ∧ (decode cX11_patch 46 = .ok (.iload_n 2, 1)) ∧ (decode cX11_patch 47 = .ok (.iload_n 3, 1)) ∧ (decode cX11_patch 48 = .ok (.invokevirtual 150, 3)) ∧ (decode cX11_patch 51 = .ok (.lreturn, 1)) := by decide +kernel
theorem dX11_patch_33 : decode cX11_patch 33 = .ok (.ifCond .ne 7, 3) := zb_X11_patch_33.1
theorem dX11_patch_40 : decode cX11_patch 40 = .ok (.aload 4, 2) := zb_X11_patch_33.2.1
theorem dX11_patch_42 : decode cX11_patch 42 = .ok (.aload_n 0, 1) := zb_X11_patch_33.2.2.1
theorem dX11_patch_43 : decode cX11_patch 43 = .ok (.getfield 10, 3) := zb_X11_patch_33.2.2.2.1
theorem dX11_patch_46 : decode cX11_patch 46 = .ok (.iload_n 2, 1) := zb_X11_patch_33.2.2.2.2.1
theorem dX11_patch_47 : decode cX11_patch 47 = .ok (.iload_n 3, 1) := zb_X11_patch_33.2.2.2.2.2.1
theorem dX11_patch_48 : decode cX11_patch 48 = .ok (.invokevirtual 150, 3) := zb_X11_patch_33.2.2.2.2.2.2.1
theorem dX11_patch_51 : decode cX11_patch 51 = .ok (.lreturn, 1) := zb_X11_patch_33.2.2.2.2.2.2.2
theorem zb_X11_fix_0 : (decode cX11_fix 0 = .ok (.aload_n 0, 1)) ∧ (decode cX11_fix 1 = .ok (.iload_n 1, 1)) ∧ (decode cX11_fix 2 = .ok (.invokevirtual 78, 3)) ∧ (decode cX11_fix 5 = .ok (.astore 5, 2)) ∧ (decode cX11_fix 7 = .ok (.aload 5, 2)) ∧ (decode cX11_fix 9 = .ok (.ifnull 20, 3)) ∧ (decode cX11_fix 29 = .ok (.bipush (-2), 2)) ∧ (decode cX11_fix 31 = .ok (.ireturn, 1)) ∧ (decode cX11_fix 12 = .ok (.iload_n 2, 1)) ∧ (decode cX11_fix 13 = .ok (.aload 5, 2)) ∧ (decode cX11_fix 15 = .ok (.getfield 122, 3)) ∧ (decode cX11_fix 18 = .ok (.if_icmp .lt 11, 3)) := by decide +kernel
theorem dX11_fix_0 : decode cX11_fix 0 = .ok (.aload_n 0, 1) := zb_X11_fix_0.1
theorem dX11_fix_1 : decode cX11_fix 1 = .ok (.iload_n 1, 1) := zb_X11_fix_0.2.1
theorem dX11_fix_2 : decode cX11_fix 2 = .ok (.invokevirtual 78, 3) := zb_X11_fix_0.2.2.1
theorem dX11_fix_5 : decode cX11_fix 5 = .ok (.astore 5, 2) := zb_X11_fix_0.2.2.2.1
theorem dX11_fix_7 : decode cX11_fix 7 = .ok (.aload 5, 2) := zb_X11_fix_0.2.2.2.2.1
theorem dX11_fix_9 : decode cX11_fix 9 = .ok (.ifnull 20, 3) := zb_X11_fix_0.2.2.2.2.2.1
theorem dX11_fix_29 : decode cX11_fix 29 = .ok (.bipush (-2), 2) := zb_X11_fix_0.2.2.2.2.2.2.1
theorem dX11_fix_31 : decode cX11_fix 31 = .ok (.ireturn, 1) := zb_X11_fix_0.2.2.2.2.2.2.2.1
theorem dX11_fix_12 : decode cX11_fix 12 = .ok (.iload_n 2, 1) := zb_X11_fix_0.2.2.2.2.2.2.2.2.1
theorem dX11_fix_13 : decode cX11_fix 13 = .ok (.aload 5, 2) := zb_X11_fix_0.2.2.2.2.2.2.2.2.2.1
theorem dX11_fix_15 : decode cX11_fix 15 = .ok (.getfield 122, 3) := zb_X11_fix_0.2.2.2.2.2.2.2.2.2.2.1
theorem dX11_fix_18 : decode cX11_fix 18 = .ok (.if_icmp .lt 11, 3) := zb_X11_fix_0.2.2.2.2.2.2.2.2.2.2.2
theorem zb_X11_fix_21 : (decode cX11_fix 21 = .ok (.iload_n 2, 1)) ∧ (decode cX11_fix 22 = .ok (.aload_n 0, 1)) ∧ (decode cX11_fix 23 = .ok (.getfield 71, 3)) ∧ (decode cX11_fix 26 = .ok (.if_icmp .le 6, 3)) ∧ (decode cX11_fix 32 = .ok (.aload_n 0, 1)) ∧ (decode cX11_fix 33 = .ok (.getfield 154, 3)) ∧ (decode cX11_fix 36 = .ok (.bipush 40, 2)) ∧ (decode cX11_fix 38 = .ok (.if_icmp .lt 6, 3)) ∧ (decode cX11_fix 44 = .ok (.aload 5, 2)) ∧ (decode cX11_fix 46 = .ok (.iload_n 2, 1)) ∧ (decode cX11_fix 47 = .ok (.aload_n 0, 1)) ∧ (decode cX11_fix 48 = .ok (.getfield 71, 3)) := by decide +kernel
theorem dX11_fix_21 : decode cX11_fix 21 = .ok (.iload_n 2, 1) := zb_X11_fix_21.1
theorem dX11_fix_22 : decode cX11_fix 22 = .ok (.aload_n 0, 1) := zb_X11_fix_21.2.1
theorem dX11_fix_23 : decode cX11_fix 23 = .ok (.getfield 71, 3) := zb_X11_fix_21.2.2.1
theorem dX11_fix_26 : decode cX11_fix 26 = .ok (.if_icmp .le 6, 3) := zb_X11_fix_21.2.2.2.1
theorem dX11_fix_32 : decode cX11_fix 32 = .ok (.aload_n 0, 1) := zb_X11_fix_21.2.2.2.2.1
theorem dX11_fix_33 : decode cX11_fix 33 = .ok (.getfield 154, 3) := zb_X11_fix_21.2.2.2.2.2.1
theorem dX11_fix_36 : decode cX11_fix 36 = .ok (.bipush 40, 2) := zb_X11_fix_21.2.2.2.2.2.2.1
theorem dX11_fix_38 : decode cX11_fix 38 = .ok (.if_icmp .lt 6, 3) := zb_X11_fix_21.2.2.2.2.2.2.2.1
theorem dX11_fix_44 : decode cX11_fix 44 = .ok (.aload 5, 2) := zb_X11_fix_21.2.2.2.2.2.2.2.2.1
theorem dX11_fix_46 : decode cX11_fix 46 = .ok (.iload_n 2, 1) := zb_X11_fix_21.2.2.2.2.2.2.2.2.2.1
theorem dX11_fix_47 : decode cX11_fix 47 = .ok (.aload_n 0, 1) := zb_X11_fix_21.2.2.2.2.2.2.2.2.2.2.1
theorem dX11_fix_48 : decode cX11_fix 48 = .ok (.getfield 71, 3) := zb_X11_fix_21.2.2.2.2.2.2.2.2.2.2.2
theorem zb_X11_fix_51 : (decode cX11_fix 51 = .ok (.lload_n 3, 1)) ∧ (decode cX11_fix 52 = .ok (.invokevirtual 157, 3)) ∧ (decode cX11_fix 55 = .ok (.aload_n 0, 1)) ∧ (decode cX11_fix 56 = .ok (.dup, 1)) ∧ (decode cX11_fix 57 = .ok (.getfield 154, 3)) ∧ (decode cX11_fix 60 = .ok (.iconst 1, 1)) ∧ (decode cX11_fix 61 = .ok (.iadd, 1)) ∧ (decode cX11_fix 62 = .ok (.dup_x1, 1)) ∧ (decode cX11_fix 63 = .ok (.putfield 154, 3)) ∧ (decode cX11_fix 66 = .ok (.ireturn, 1)) ∧ (decode cX11_fix 41 = .ok (.bipush (-4), 2)) ∧ (decode cX11_fix 43 = .ok (.ireturn, 1)) := by decide +kernel
theorem dX11_fix_51 : decode cX11_fix 51 = .ok (.lload_n 3, 1) := zb_X11_fix_51.1
theorem dX11_fix_52 : decode cX11_fix 52 = .ok (.invokevirtual 157, 3) := zb_X11_fix_51.2.1
theorem dX11_fix_55 : decode cX11_fix 55 = .ok (.aload_n 0, 1) := zb_X11_fix_51.2.2.1
theorem dX11_fix_56 : decode cX11_fix 56 = .ok (.dup, 1) := zb_X11_fix_51.2.2.2.1
theorem dX11_fix_57 : decode cX11_fix 57 = .ok (.getfield 154, 3) := zb_X11_fix_51.2.2.2.2.1
theorem dX11_fix_60 : decode cX11_fix 60 = .ok (.iconst 1, 1) := zb_X11_fix_51.2.2.2.2.2.1
theorem dX11_fix_61 : decode cX11_fix 61 = .ok (.iadd, 1) := zb_X11_fix_51.2.2.2.2.2.2.1
theorem dX11_fix_62 : decode cX11_fix 62 = .ok (.dup_x1, 1) := zb_X11_fix_51.2.2.2.2.2.2.2.1
theorem dX11_fix_63 : decode cX11_fix 63 = .ok (.putfield 154, 3) := zb_X11_fix_51.2.2.2.2.2.2.2.2.1
theorem dX11_fix_66 : decode cX11_fix 66 = .ok (.ireturn, 1) := zb_X11_fix_51.2.2.2.2.2.2.2.2.2.1
theorem dX11_fix_41 : decode cX11_fix 41 = .ok (.bipush (-4), 2) := zb_X11_fix_51.2.2.2.2.2.2.2.2.2.2.1
theorem dX11_fix_43 : decode cX11_fix 43 = .ok (.ireturn, 1) := zb_X11_fix_51.2.2.2.2.2.2.2.2.2.2.2
theorem zb_X11_hearer_0 : (decode cX11_hearer 0 = .ok (.iload_n 1, 1)) ∧ (decode cX11_hearer 1 = .ok (.invokestatic 110, 3)) ∧ (decode cX11_hearer 4 = .ok (.ifCond .ne 6, 3)) ∧ (decode cX11_hearer 10 = .ok (.aload_n 0, 1)) ∧ (decode cX11_hearer 11 = .ok (.getfield 25, 3)) ∧ (decode cX11_hearer 14 = .ok (.getfield 161, 3)) ∧ (decode cX11_hearer 17 = .ok (.bipush 6, 2)) ∧ (decode cX11_hearer 19 = .ok (.if_icmp .lt 6, 3)) ∧ (decode cX11_hearer 25 = .ok (.aload_n 0, 1)) := by decide +kernel
theorem dX11_hearer_0 : decode cX11_hearer 0 = .ok (.iload_n 1, 1) := zb_X11_hearer_0.1
theorem dX11_hearer_1 : decode cX11_hearer 1 = .ok (.invokestatic 110, 3) := zb_X11_hearer_0.2.1
theorem dX11_hearer_4 : decode cX11_hearer 4 = .ok (.ifCond .ne 6, 3) := zb_X11_hearer_0.2.2.1
theorem dX11_hearer_10 : decode cX11_hearer 10 = .ok (.aload_n 0, 1) := zb_X11_hearer_0.2.2.2.1
theorem dX11_hearer_11 : decode cX11_hearer 11 = .ok (.getfield 25, 3) := zb_X11_hearer_0.2.2.2.2.1
theorem dX11_hearer_14 : decode cX11_hearer 14 = .ok (.getfield 161, 3) := zb_X11_hearer_0.2.2.2.2.2.1
theorem dX11_hearer_17 : decode cX11_hearer 17 = .ok (.bipush 6, 2) := zb_X11_hearer_0.2.2.2.2.2.2.1
theorem dX11_hearer_19 : decode cX11_hearer 19 = .ok (.if_icmp .lt 6, 3) := zb_X11_hearer_0.2.2.2.2.2.2.2.1
theorem dX11_hearer_25 : decode cX11_hearer 25 = .ok (.aload_n 0, 1) := zb_X11_hearer_0.2.2.2.2.2.2.2.2
theorem zb_X11_hearer_26 : (decode cX11_hearer 26 = .ok (.getfield 25, 3)) ∧ (decode cX11_hearer 29 = .ok (.iload_n 1, 1)) ∧ (decode cX11_hearer 30 = .ok (.invokevirtual 164, 3)) ∧ (decode cX11_hearer 33 = .ok (.ireturn, 1)) ∧ (decode cX11_hearer 22 = .ok (.bipush (-4), 2)) ∧ (decode cX11_hearer 24 = .ok (.ireturn, 1)) ∧ (decode cX11_hearer 7 = .ok (.bipush (-2), 2)) ∧ (decode cX11_hearer 9 = .ok (.ireturn, 1)) := by decide +kernel
theorem dX11_hearer_26 : decode cX11_hearer 26 = .ok (.getfield 25, 3) := zb_X11_hearer_26.1
theorem dX11_hearer_29 : decode cX11_hearer 29 = .ok (.iload_n 1, 1) := zb_X11_hearer_26.2.1
theorem dX11_hearer_30 : decode cX11_hearer 30 = .ok (.invokevirtual 164, 3) := zb_X11_hearer_26.2.2.1
theorem dX11_hearer_33 : decode cX11_hearer 33 = .ok (.ireturn, 1) := zb_X11_hearer_26.2.2.2.1
theorem dX11_hearer_22 : decode cX11_hearer 22 = .ok (.bipush (-4), 2) := zb_X11_hearer_26.2.2.2.2.1
theorem dX11_hearer_24 : decode cX11_hearer 24 = .ok (.ireturn, 1) := zb_X11_hearer_26.2.2.2.2.2.1
theorem dX11_hearer_7 : decode cX11_hearer 7 = .ok (.bipush (-2), 2) := zb_X11_hearer_26.2.2.2.2.2.2.1
theorem dX11_hearer_9 : decode cX11_hearer 9 = .ok (.ireturn, 1) := zb_X11_hearer_26.2.2.2.2.2.2.2
theorem zb_X11_wave_0 : (decode cX11_wave 0 = .ok (.iload_n 1, 1)) ∧ (decode cX11_wave 1 = .ok (.ifCond .lt 40, 3)) ∧ (decode cX11_wave 41 = .ok (.bipush (-2), 2)) ∧ (decode cX11_wave 43 = .ok (.ireturn, 1)) ∧ (decode cX11_wave 4 = .ok (.iload_n 1, 1)) ∧ (decode cX11_wave 5 = .ok (.iconst 4, 1)) ∧ (decode cX11_wave 6 = .ok (.if_icmp .ge 35, 3)) ∧ (decode cX11_wave 9 = .ok (.iload_n 2, 1)) ∧ (decode cX11_wave 10 = .ok (.ifCond .lt 31, 3)) ∧ (decode cX11_wave 13 = .ok (.iload_n 2, 1)) ∧ (decode cX11_wave 14 = .ok (.iconst 1, 1)) ∧ (decode cX11_wave 15 = .ok (.if_icmp .gt 26, 3)) := by decide +kernel
theorem dX11_wave_0 : decode cX11_wave 0 = .ok (.iload_n 1, 1) := zb_X11_wave_0.1
theorem dX11_wave_1 : decode cX11_wave 1 = .ok (.ifCond .lt 40, 3) := zb_X11_wave_0.2.1
theorem dX11_wave_41 : decode cX11_wave 41 = .ok (.bipush (-2), 2) := zb_X11_wave_0.2.2.1
theorem dX11_wave_43 : decode cX11_wave 43 = .ok (.ireturn, 1) := zb_X11_wave_0.2.2.2.1
theorem dX11_wave_4 : decode cX11_wave 4 = .ok (.iload_n 1, 1) := zb_X11_wave_0.2.2.2.2.1
theorem dX11_wave_5 : decode cX11_wave 5 = .ok (.iconst 4, 1) := zb_X11_wave_0.2.2.2.2.2.1
theorem dX11_wave_6 : decode cX11_wave 6 = .ok (.if_icmp .ge 35, 3) := zb_X11_wave_0.2.2.2.2.2.2.1
theorem dX11_wave_9 : decode cX11_wave 9 = .ok (.iload_n 2, 1) := zb_X11_wave_0.2.2.2.2.2.2.2.1
theorem dX11_wave_10 : decode cX11_wave 10 = .ok (.ifCond .lt 31, 3) := zb_X11_wave_0.2.2.2.2.2.2.2.2.1
theorem dX11_wave_13 : decode cX11_wave 13 = .ok (.iload_n 2, 1) := zb_X11_wave_0.2.2.2.2.2.2.2.2.2.1
theorem dX11_wave_14 : decode cX11_wave 14 = .ok (.iconst 1, 1) := zb_X11_wave_0.2.2.2.2.2.2.2.2.2.2.1
theorem dX11_wave_15 : decode cX11_wave 15 = .ok (.if_icmp .gt 26, 3) := zb_X11_wave_0.2.2.2.2.2.2.2.2.2.2.2
theorem zb_X11_wave_18 : (decode cX11_wave 18 = .ok (.iload_n 3, 1)) ∧ (decode cX11_wave 19 = .ok (.ifCond .lt 22, 3)) ∧ (decode cX11_wave 22 = .ok (.iload_n 3, 1)) ∧ (decode cX11_wave 23 = .ok (.bipush 9, 2)) ∧ (decode cX11_wave 25 = .ok (.if_icmp .gt 16, 3)) ∧ (decode cX11_wave 28 = .ok (.iload 4, 2)) ∧ (decode cX11_wave 30 = .ok (.iload_n 3, 1)) ∧ (decode cX11_wave 31 = .ok (.if_icmp .lt 10, 3)) ∧ (decode cX11_wave 34 = .ok (.iload 4, 2)) ∧ (decode cX11_wave 36 = .ok (.bipush 9, 2)) ∧ (decode cX11_wave 38 = .ok (.if_icmp .le 6, 3)) ∧ (decode cX11_wave 44 = .ok (.aload_n 0, 1)) := by decide +kernel
theorem dX11_wave_18 : decode cX11_wave 18 = .ok (.iload_n 3, 1) := zb_X11_wave_18.1
theorem dX11_wave_19 : decode cX11_wave 19 = .ok (.ifCond .lt 22, 3) := zb_X11_wave_18.2.1
theorem dX11_wave_22 : decode cX11_wave 22 = .ok (.iload_n 3, 1) := zb_X11_wave_18.2.2.1
theorem dX11_wave_23 : decode cX11_wave 23 = .ok (.bipush 9, 2) := zb_X11_wave_18.2.2.2.1
theorem dX11_wave_25 : decode cX11_wave 25 = .ok (.if_icmp .gt 16, 3) := zb_X11_wave_18.2.2.2.2.1
theorem dX11_wave_28 : decode cX11_wave 28 = .ok (.iload 4, 2) := zb_X11_wave_18.2.2.2.2.2.1
theorem dX11_wave_30 : decode cX11_wave 30 = .ok (.iload_n 3, 1) := zb_X11_wave_18.2.2.2.2.2.2.1
theorem dX11_wave_31 : decode cX11_wave 31 = .ok (.if_icmp .lt 10, 3) := zb_X11_wave_18.2.2.2.2.2.2.2.1
theorem dX11_wave_34 : decode cX11_wave 34 = .ok (.iload 4, 2) := zb_X11_wave_18.2.2.2.2.2.2.2.2.1
theorem dX11_wave_36 : decode cX11_wave 36 = .ok (.bipush 9, 2) := zb_X11_wave_18.2.2.2.2.2.2.2.2.2.1
theorem dX11_wave_38 : decode cX11_wave 38 = .ok (.if_icmp .le 6, 3) := zb_X11_wave_18.2.2.2.2.2.2.2.2.2.2.1
theorem dX11_wave_44 : decode cX11_wave 44 = .ok (.aload_n 0, 1) := zb_X11_wave_18.2.2.2.2.2.2.2.2.2.2.2
theorem zb_X11_wave_45 : (decode cX11_wave 45 = .ok (.getfield 25, 3)) ∧ (decode cX11_wave 48 = .ok (.iconst 2, 1)) ∧ (decode cX11_wave 49 = .ok (.iload_n 1, 1)) ∧ (decode cX11_wave 50 = .ok (.imul, 1)) ∧ (decode cX11_wave 51 = .ok (.iload_n 2, 1)) ∧ (decode cX11_wave 52 = .ok (.iadd, 1)) ∧ (decode cX11_wave 53 = .ok (.iload_n 3, 1)) ∧ (decode cX11_wave 54 = .ok (.iload 4, 2)) ∧ (decode cX11_wave 56 = .ok (.invokevirtual 167, 3)) ∧ (decode cX11_wave 59 = .ok (.ireturn, 1)) := by decide +kernel
theorem dX11_wave_45 : decode cX11_wave 45 = .ok (.getfield 25, 3) := zb_X11_wave_45.1
theorem dX11_wave_48 : decode cX11_wave 48 = .ok (.iconst 2, 1) := zb_X11_wave_45.2.1
theorem dX11_wave_49 : decode cX11_wave 49 = .ok (.iload_n 1, 1) := zb_X11_wave_45.2.2.1
theorem dX11_wave_50 : decode cX11_wave 50 = .ok (.imul, 1) := zb_X11_wave_45.2.2.2.1
theorem dX11_wave_51 : decode cX11_wave 51 = .ok (.iload_n 2, 1) := zb_X11_wave_45.2.2.2.2.1
theorem dX11_wave_52 : decode cX11_wave 52 = .ok (.iadd, 1) := zb_X11_wave_45.2.2.2.2.2.1
theorem dX11_wave_53 : decode cX11_wave 53 = .ok (.iload_n 3, 1) := zb_X11_wave_45.2.2.2.2.2.2.1
theorem dX11_wave_54 : decode cX11_wave 54 = .ok (.iload 4, 2) := zb_X11_wave_45.2.2.2.2.2.2.2.1
theorem dX11_wave_56 : decode cX11_wave 56 = .ok (.invokevirtual 167, 3) := zb_X11_wave_45.2.2.2.2.2.2.2.2.1
theorem dX11_wave_59 : decode cX11_wave 59 = .ok (.ireturn, 1) := zb_X11_wave_45.2.2.2.2.2.2.2.2.2
theorem zb_X11_call_0 : (decode cX11_call 0 = .ok (.aload_n 0, 1)) ∧ (decode cX11_call 1 = .ok (.iload_n 1, 1)) ∧ (decode cX11_call 2 = .ok (.invokevirtual 78, 3)) ∧ (decode cX11_call 5 = .ok (.ifnull 12, 3)) ∧ (decode cX11_call 17 = .ok (.bipush (-2), 2)) ∧ (decode cX11_call 19 = .ok (.ireturn, 1)) ∧ (decode cX11_call 8 = .ok (.iload_n 2, 1)) ∧ (decode cX11_call 9 = .ok (.ifCond .lt 8, 3)) ∧ (decode cX11_call 12 = .ok (.iload_n 2, 1)) := by decide +kernel
theorem dX11_call_0 : decode cX11_call 0 = .ok (.aload_n 0, 1) := zb_X11_call_0.1
theorem dX11_call_1 : decode cX11_call 1 = .ok (.iload_n 1, 1) := zb_X11_call_0.2.1
theorem dX11_call_2 : decode cX11_call 2 = .ok (.invokevirtual 78, 3) := zb_X11_call_0.2.2.1
theorem dX11_call_5 : decode cX11_call 5 = .ok (.ifnull 12, 3) := zb_X11_call_0.2.2.2.1
theorem dX11_call_17 : decode cX11_call 17 = .ok (.bipush (-2), 2) := zb_X11_call_0.2.2.2.2.1
theorem dX11_call_19 : decode cX11_call 19 = .ok (.ireturn, 1) := zb_X11_call_0.2.2.2.2.2.1
theorem dX11_call_8 : decode cX11_call 8 = .ok (.iload_n 2, 1) := zb_X11_call_0.2.2.2.2.2.2.1
theorem dX11_call_9 : decode cX11_call 9 = .ok (.ifCond .lt 8, 3) := zb_X11_call_0.2.2.2.2.2.2.2.1
theorem dX11_call_12 : decode cX11_call 12 = .ok (.iload_n 2, 1) := zb_X11_call_0.2.2.2.2.2.2.2.2
theorem zb_X11_call_13 : (decode cX11_call 13 = .ok (.iconst 4, 1)) ∧ (decode cX11_call 14 = .ok (.if_icmp .lt 6, 3)) ∧ (decode cX11_call 20 = .ok (.aload_n 0, 1)) ∧ (decode cX11_call 21 = .ok (.getfield 25, 3)) ∧ (decode cX11_call 24 = .ok (.getfield 171, 3)) ∧ (decode cX11_call 27 = .ok (.bipush 20, 2)) ∧ (decode cX11_call 29 = .ok (.if_icmp .lt 6, 3)) ∧ (decode cX11_call 35 = .ok (.aload_n 0, 1)) ∧ (decode cX11_call 36 = .ok (.getfield 25, 3)) := by decide +kernel
theorem dX11_call_13 : decode cX11_call 13 = .ok (.iconst 4, 1) := zb_X11_call_13.1
theorem dX11_call_14 : decode cX11_call 14 = .ok (.if_icmp .lt 6, 3) := zb_X11_call_13.2.1
theorem dX11_call_20 : decode cX11_call 20 = .ok (.aload_n 0, 1) := zb_X11_call_13.2.2.1
theorem dX11_call_21 : decode cX11_call 21 = .ok (.getfield 25, 3) := zb_X11_call_13.2.2.2.1
theorem dX11_call_24 : decode cX11_call 24 = .ok (.getfield 171, 3) := zb_X11_call_13.2.2.2.2.1
theorem dX11_call_27 : decode cX11_call 27 = .ok (.bipush 20, 2) := zb_X11_call_13.2.2.2.2.2.1
theorem dX11_call_29 : decode cX11_call 29 = .ok (.if_icmp .lt 6, 3) := zb_X11_call_13.2.2.2.2.2.2.1
theorem dX11_call_35 : decode cX11_call 35 = .ok (.aload_n 0, 1) := zb_X11_call_13.2.2.2.2.2.2.2.1
theorem dX11_call_36 : decode cX11_call 36 = .ok (.getfield 25, 3) := zb_X11_call_13.2.2.2.2.2.2.2.2
theorem zb_X11_call_39 : (decode cX11_call 39 = .ok (.iload_n 1, 1)) ∧ (decode cX11_call 40 = .ok (.iload_n 2, 1)) ∧ (decode cX11_call 41 = .ok (.aload_n 0, 1)) ∧ (decode cX11_call 42 = .ok (.getfield 71, 3)) ∧ (decode cX11_call 45 = .ok (.lload_n 3, 1)) ∧ (decode cX11_call 46 = .ok (.invokevirtual 174, 3)) ∧ (decode cX11_call 49 = .ok (.ireturn, 1)) ∧ (decode cX11_call 32 = .ok (.bipush (-4), 2)) ∧ (decode cX11_call 34 = .ok (.ireturn, 1)) := by decide +kernel
theorem dX11_call_39 : decode cX11_call 39 = .ok (.iload_n 1, 1) := zb_X11_call_39.1
theorem dX11_call_40 : decode cX11_call 40 = .ok (.iload_n 2, 1) := zb_X11_call_39.2.1
theorem dX11_call_41 : decode cX11_call 41 = .ok (.aload_n 0, 1) := zb_X11_call_39.2.2.1
theorem dX11_call_42 : decode cX11_call 42 = .ok (.getfield 71, 3) := zb_X11_call_39.2.2.2.1
theorem dX11_call_45 : decode cX11_call 45 = .ok (.lload_n 3, 1) := zb_X11_call_39.2.2.2.2.1
theorem dX11_call_46 : decode cX11_call 46 = .ok (.invokevirtual 174, 3) := zb_X11_call_39.2.2.2.2.2.1
theorem dX11_call_49 : decode cX11_call 49 = .ok (.ireturn, 1) := zb_X11_call_39.2.2.2.2.2.2.1
theorem dX11_call_32 : decode cX11_call 32 = .ok (.bipush (-4), 2) := zb_X11_call_39.2.2.2.2.2.2.2.1
theorem dX11_call_34 : decode cX11_call 34 = .ok (.ireturn, 1) := zb_X11_call_39.2.2.2.2.2.2.2.2
theorem zb_X11_canHear_0 : (decode cX11_canHear 0 = .ok (.aload_n 0, 1)) ∧ (decode cX11_canHear 1 = .ok (.getfield 25, 3)) ∧ (decode cX11_canHear 4 = .ok (.iload_n 1, 1)) ∧ (decode cX11_canHear 5 = .ok (.invokevirtual 178, 3)) ∧ (decode cX11_canHear 8 = .ok (.ifCond .eq 11, 3)) ∧ (decode cX11_canHear 11 = .ok (.aload_n 0, 1)) ∧ (decode cX11_canHear 12 = .ok (.iload_n 2, 1)) ∧ (decode cX11_canHear 13 = .ok (.invokevirtual 145, 3)) ∧ (decode cX11_canHear 16 = .ok (.ifCond .ne 6, 3)) ∧ (decode cX11_canHear 22 = .ok (.aload_n 0, 1)) := by decide +kernel
theorem dX11_canHear_0 : decode cX11_canHear 0 = .ok (.aload_n 0, 1) := zb_X11_canHear_0.1
theorem dX11_canHear_1 : decode cX11_canHear 1 = .ok (.getfield 25, 3) := zb_X11_canHear_0.2.1
theorem dX11_canHear_4 : decode cX11_canHear 4 = .ok (.iload_n 1, 1) := zb_X11_canHear_0.2.2.1
theorem dX11_canHear_5 : decode cX11_canHear 5 = .ok (.invokevirtual 178, 3) := zb_X11_canHear_0.2.2.2.1
theorem dX11_canHear_8 : decode cX11_canHear 8 = .ok (.ifCond .eq 11, 3) := zb_X11_canHear_0.2.2.2.2.1
theorem dX11_canHear_11 : decode cX11_canHear 11 = .ok (.aload_n 0, 1) := zb_X11_canHear_0.2.2.2.2.2.1
theorem dX11_canHear_12 : decode cX11_canHear 12 = .ok (.iload_n 2, 1) := zb_X11_canHear_0.2.2.2.2.2.2.1
theorem dX11_canHear_13 : decode cX11_canHear 13 = .ok (.invokevirtual 145, 3) := zb_X11_canHear_0.2.2.2.2.2.2.2.1
theorem dX11_canHear_16 : decode cX11_canHear 16 = .ok (.ifCond .ne 6, 3) := zb_X11_canHear_0.2.2.2.2.2.2.2.2.1
theorem dX11_canHear_22 : decode cX11_canHear 22 = .ok (.aload_n 0, 1) := zb_X11_canHear_0.2.2.2.2.2.2.2.2.2
theorem zb_X11_canHear_23 : (decode cX11_canHear 23 = .ok (.aload_n 0, 1)) ∧ (decode cX11_canHear 24 = .ok (.getfield 25, 3)) ∧ (decode cX11_canHear 27 = .ok (.getfield 181, 3)) ∧ (decode cX11_canHear 30 = .ok (.iload_n 1, 1)) ∧ (decode cX11_canHear 31 = .ok (.iaload, 1)) ∧ (decode cX11_canHear 32 = .ok (.invokevirtual 78, 3)) ∧ (decode cX11_canHear 35 = .ok (.astore_n 3, 1)) ∧ (decode cX11_canHear 36 = .ok (.aload_n 3, 1)) ∧ (decode cX11_canHear 37 = .ok (.ifnonnull 6, 3)) ∧ (decode cX11_canHear 40 = .ok (.bipush (-2), 2)) := by decide +kernel
theorem dX11_canHear_23 : decode cX11_canHear 23 = .ok (.aload_n 0, 1) := zb_X11_canHear_23.1
theorem dX11_canHear_24 : decode cX11_canHear 24 = .ok (.getfield 25, 3) := zb_X11_canHear_23.2.1
theorem dX11_canHear_27 : decode cX11_canHear 27 = .ok (.getfield 181, 3) := zb_X11_canHear_23.2.2.1
theorem dX11_canHear_30 : decode cX11_canHear 30 = .ok (.iload_n 1, 1) := zb_X11_canHear_23.2.2.2.1
theorem dX11_canHear_31 : decode cX11_canHear 31 = .ok (.iaload, 1) := zb_X11_canHear_23.2.2.2.2.1
theorem dX11_canHear_32 : decode cX11_canHear 32 = .ok (.invokevirtual 78, 3) := zb_X11_canHear_23.2.2.2.2.2.1
theorem dX11_canHear_35 : decode cX11_canHear 35 = .ok (.astore_n 3, 1) := zb_X11_canHear_23.2.2.2.2.2.2.1
theorem dX11_canHear_36 : decode cX11_canHear 36 = .ok (.aload_n 3, 1) := zb_X11_canHear_23.2.2.2.2.2.2.2.1
theorem dX11_canHear_37 : decode cX11_canHear 37 = .ok (.ifnonnull 6, 3) := zb_X11_canHear_23.2.2.2.2.2.2.2.2.1
theorem dX11_canHear_40 : decode cX11_canHear 40 = .ok (.bipush (-2), 2) := zb_X11_canHear_23.2.2.2.2.2.2.2.2.2
theorem zb_X11_canHear_42 : (decode cX11_canHear 42 = .ok (.ireturn, 1)) ∧ (decode cX11_canHear 43 = .ok (.aload_n 0, 1)) ∧ (decode cX11_canHear 44 = .ok (.getfield 25, 3)) ∧ (decode cX11_canHear 47 = .ok (.iload_n 1, 1)) ∧ (decode cX11_canHear 48 = .ok (.aload_n 3, 1)) ∧ (decode cX11_canHear 49 = .ok (.aload_n 0, 1)) ∧ (decode cX11_canHear 50 = .ok (.getfield 10, 3)) ∧ (decode cX11_canHear 53 = .ok (.aload_n 0, 1)) ∧ (decode cX11_canHear 54 = .ok (.getfield 25, 3)) ∧ (decode cX11_canHear 57 = .ok (.getfield 185, 3)) := by decide +kernel
theorem dX11_canHear_42 : decode cX11_canHear 42 = .ok (.ireturn, 1) := zb_X11_canHear_42.1
theorem dX11_canHear_43 : decode cX11_canHear 43 = .ok (.aload_n 0, 1) := zb_X11_canHear_42.2.1
theorem dX11_canHear_44 : decode cX11_canHear 44 = .ok (.getfield 25, 3) := zb_X11_canHear_42.2.2.1
theorem dX11_canHear_47 : decode cX11_canHear 47 = .ok (.iload_n 1, 1) := zb_X11_canHear_42.2.2.2.1
theorem dX11_canHear_48 : decode cX11_canHear 48 = .ok (.aload_n 3, 1) := zb_X11_canHear_42.2.2.2.2.1
theorem dX11_canHear_49 : decode cX11_canHear 49 = .ok (.aload_n 0, 1) := zb_X11_canHear_42.2.2.2.2.2.1
theorem dX11_canHear_50 : decode cX11_canHear 50 = .ok (.getfield 10, 3) := zb_X11_canHear_42.2.2.2.2.2.2.1
theorem dX11_canHear_53 : decode cX11_canHear 53 = .ok (.aload_n 0, 1) := zb_X11_canHear_42.2.2.2.2.2.2.2.1
theorem dX11_canHear_54 : decode cX11_canHear 54 = .ok (.getfield 25, 3) := zb_X11_canHear_42.2.2.2.2.2.2.2.2.1
theorem dX11_canHear_57 : decode cX11_canHear 57 = .ok (.getfield 185, 3) := zb_X11_canHear_42.2.2.2.2.2.2.2.2.2
theorem zb_X11_canHear_60 : (decode cX11_canHear 60 = .ok (.iload_n 1, 1)) ∧ (decode cX11_canHear 61 = .ok (.iaload, 1)) ∧ (decode cX11_canHear 62 = .ok (.iload_n 2, 1)) ∧ (decode cX11_canHear 63 = .ok (.invokevirtual 150, 3)) ∧ (decode cX11_canHear 66 = .ok (.invokevirtual 188, 3)) ∧ (decode cX11_canHear 69 = .ok (.ireturn, 1)) ∧ (decode cX11_canHear 19 = .ok (.bipush (-2), 2)) ∧ (decode cX11_canHear 21 = .ok (.ireturn, 1)) := by decide +kernel
theorem dX11_canHear_60 : decode cX11_canHear 60 = .ok (.iload_n 1, 1) := zb_X11_canHear_60.1
theorem dX11_canHear_61 : decode cX11_canHear 61 = .ok (.iaload, 1) := zb_X11_canHear_60.2.1
theorem dX11_canHear_62 : decode cX11_canHear 62 = .ok (.iload_n 2, 1) := zb_X11_canHear_60.2.2.1
theorem dX11_canHear_63 : decode cX11_canHear 63 = .ok (.invokevirtual 150, 3) := zb_X11_canHear_60.2.2.2.1
theorem dX11_canHear_66 : decode cX11_canHear 66 = .ok (.invokevirtual 188, 3) := zb_X11_canHear_60.2.2.2.2.1
theorem dX11_canHear_69 : decode cX11_canHear 69 = .ok (.ireturn, 1) := zb_X11_canHear_60.2.2.2.2.2.1
theorem dX11_canHear_19 : decode cX11_canHear 19 = .ok (.bipush (-2), 2) := zb_X11_canHear_60.2.2.2.2.2.2.1
theorem dX11_canHear_21 : decode cX11_canHear 21 = .ok (.ireturn, 1) := zb_X11_canHear_60.2.2.2.2.2.2.2
theorem zb_X11_part_0 : (decode cX11_part 0 = .ok (.iload_n 1, 1)) ∧ (decode cX11_part 1 = .ok (.ifCond .lt 35, 3)) ∧ (decode cX11_part 36 = .ok (.bipush (-2), 2)) ∧ (decode cX11_part 38 = .ok (.ireturn, 1)) ∧ (decode cX11_part 4 = .ok (.iload_n 1, 1)) ∧ (decode cX11_part 5 = .ok (.aload_n 0, 1)) ∧ (decode cX11_part 6 = .ok (.getfield 25, 3)) ∧ (decode cX11_part 9 = .ok (.getfield 161, 3)) ∧ (decode cX11_part 12 = .ok (.if_icmp .ge 24, 3)) ∧ (decode cX11_part 15 = .ok (.aload_n 0, 1)) ∧ (decode cX11_part 16 = .ok (.getfield 25, 3)) := by decide +kernel
theorem dX11_part_0 : decode cX11_part 0 = .ok (.iload_n 1, 1) := zb_X11_part_0.1
theorem dX11_part_1 : decode cX11_part 1 = .ok (.ifCond .lt 35, 3) := zb_X11_part_0.2.1
theorem dX11_part_36 : decode cX11_part 36 = .ok (.bipush (-2), 2) := zb_X11_part_0.2.2.1
theorem dX11_part_38 : decode cX11_part 38 = .ok (.ireturn, 1) := zb_X11_part_0.2.2.2.1
theorem dX11_part_4 : decode cX11_part 4 = .ok (.iload_n 1, 1) := zb_X11_part_0.2.2.2.2.1
theorem dX11_part_5 : decode cX11_part 5 = .ok (.aload_n 0, 1) := zb_X11_part_0.2.2.2.2.2.1
theorem dX11_part_6 : decode cX11_part 6 = .ok (.getfield 25, 3) := zb_X11_part_0.2.2.2.2.2.2.1
theorem dX11_part_9 : decode cX11_part 9 = .ok (.getfield 161, 3) := zb_X11_part_0.2.2.2.2.2.2.2.1
theorem dX11_part_12 : decode cX11_part 12 = .ok (.if_icmp .ge 24, 3) := zb_X11_part_0.2.2.2.2.2.2.2.2.1
theorem dX11_part_15 : decode cX11_part 15 = .ok (.aload_n 0, 1) := zb_X11_part_0.2.2.2.2.2.2.2.2.2.1
theorem dX11_part_16 : decode cX11_part 16 = .ok (.getfield 25, 3) := zb_X11_part_0.2.2.2.2.2.2.2.2.2.2
theorem zb_X11_part_19 : (decode cX11_part 19 = .ok (.iload_n 2, 1)) ∧ (decode cX11_part 20 = .ok (.invokevirtual 178, 3)) ∧ (decode cX11_part 23 = .ok (.ifCond .eq 13, 3)) ∧ (decode cX11_part 26 = .ok (.iload_n 3, 1)) ∧ (decode cX11_part 27 = .ok (.ifCond .lt 9, 3)) ∧ (decode cX11_part 30 = .ok (.iload_n 3, 1)) ∧ (decode cX11_part 31 = .ok (.ldc 192, 2)) ∧ (decode cX11_part 33 = .ok (.if_icmp .lt 6, 3)) ∧ (decode cX11_part 39 = .ok (.aload_n 0, 1)) ∧ (decode cX11_part 40 = .ok (.getfield 25, 3)) ∧ (decode cX11_part 43 = .ok (.getfield 193, 3)) := by decide +kernel
theorem dX11_part_19 : decode cX11_part 19 = .ok (.iload_n 2, 1) := zb_X11_part_19.1
theorem dX11_part_20 : decode cX11_part 20 = .ok (.invokevirtual 178, 3) := zb_X11_part_19.2.1
theorem dX11_part_23 : decode cX11_part 23 = .ok (.ifCond .eq 13, 3) := zb_X11_part_19.2.2.1
theorem dX11_part_26 : decode cX11_part 26 = .ok (.iload_n 3, 1) := zb_X11_part_19.2.2.2.1
theorem dX11_part_27 : decode cX11_part 27 = .ok (.ifCond .lt 9, 3) := zb_X11_part_19.2.2.2.2.1
theorem dX11_part_30 : decode cX11_part 30 = .ok (.iload_n 3, 1) := zb_X11_part_19.2.2.2.2.2.1
theorem dX11_part_31 : decode cX11_part 31 = .ok (.ldc 192, 2) := zb_X11_part_19.2.2.2.2.2.2.1
theorem dX11_part_33 : decode cX11_part 33 = .ok (.if_icmp .lt 6, 3) := zb_X11_part_19.2.2.2.2.2.2.2.1
theorem dX11_part_39 : decode cX11_part 39 = .ok (.aload_n 0, 1) := zb_X11_part_19.2.2.2.2.2.2.2.2.1
theorem dX11_part_40 : decode cX11_part 40 = .ok (.getfield 25, 3) := zb_X11_part_19.2.2.2.2.2.2.2.2.2.1
theorem dX11_part_43 : decode cX11_part 43 = .ok (.getfield 193, 3) := zb_X11_part_19.2.2.2.2.2.2.2.2.2.2
theorem zb_X11_part_46 : (decode cX11_part 46 = .ok (.bipush 40, 2)) ∧ (decode cX11_part 48 = .ok (.if_icmp .lt 6, 3)) ∧ (decode cX11_part 54 = .ok (.aload_n 0, 1)) ∧ (decode cX11_part 55 = .ok (.getfield 25, 3)) ∧ (decode cX11_part 58 = .ok (.iload_n 2, 1)) ∧ (decode cX11_part 59 = .ok (.iload_n 3, 1)) ∧ (decode cX11_part 60 = .ok (.lload 4, 2)) ∧ (decode cX11_part 62 = .ok (.invokevirtual 196, 3)) ∧ (decode cX11_part 65 = .ok (.ireturn, 1)) ∧ (decode cX11_part 51 = .ok (.bipush (-4), 2)) ∧ (decode cX11_part 53 = .ok (.ireturn, 1)) := by decide +kernel
theorem dX11_part_46 : decode cX11_part 46 = .ok (.bipush 40, 2) := zb_X11_part_46.1
theorem dX11_part_48 : decode cX11_part 48 = .ok (.if_icmp .lt 6, 3) := zb_X11_part_46.2.1
theorem dX11_part_54 : decode cX11_part 54 = .ok (.aload_n 0, 1) := zb_X11_part_46.2.2.1
theorem dX11_part_55 : decode cX11_part 55 = .ok (.getfield 25, 3) := zb_X11_part_46.2.2.2.1
theorem dX11_part_58 : decode cX11_part 58 = .ok (.iload_n 2, 1) := zb_X11_part_46.2.2.2.2.1
theorem dX11_part_59 : decode cX11_part 59 = .ok (.iload_n 3, 1) := zb_X11_part_46.2.2.2.2.2.1
theorem dX11_part_60 : decode cX11_part 60 = .ok (.lload 4, 2) := zb_X11_part_46.2.2.2.2.2.2.1
theorem dX11_part_62 : decode cX11_part 62 = .ok (.invokevirtual 196, 3) := zb_X11_part_46.2.2.2.2.2.2.2.1
theorem dX11_part_65 : decode cX11_part 65 = .ok (.ireturn, 1) := zb_X11_part_46.2.2.2.2.2.2.2.2.1
theorem dX11_part_51 : decode cX11_part 51 = .ok (.bipush (-4), 2) := zb_X11_part_46.2.2.2.2.2.2.2.2.2.1
theorem dX11_part_53 : decode cX11_part 53 = .ok (.ireturn, 1) := zb_X11_part_46.2.2.2.2.2.2.2.2.2.2
theorem zb_X11_word_0 : (decode cX11_word 0 = .ok (.aload_n 0, 1)) ∧ (decode cX11_word 1 = .ok (.getfield 25, 3)) ∧ (decode cX11_word 4 = .ok (.iload_n 1, 1)) ∧ (decode cX11_word 5 = .ok (.invokevirtual 178, 3)) ∧ (decode cX11_word 8 = .ok (.ifCond .eq 13, 3)) ∧ (decode cX11_word 11 = .ok (.iload_n 2, 1)) ∧ (decode cX11_word 12 = .ok (.ifCond .lt 9, 3)) ∧ (decode cX11_word 21 = .ok (.bipush (-3), 2)) ∧ (decode cX11_word 23 = .ok (.ireturn, 1)) := by decide +kernel
theorem dX11_word_0 : decode cX11_word 0 = .ok (.aload_n 0, 1) := zb_X11_word_0.1
theorem dX11_word_1 : decode cX11_word 1 = .ok (.getfield 25, 3) := zb_X11_word_0.2.1
theorem dX11_word_4 : decode cX11_word 4 = .ok (.iload_n 1, 1) := zb_X11_word_0.2.2.1
theorem dX11_word_5 : decode cX11_word 5 = .ok (.invokevirtual 178, 3) := zb_X11_word_0.2.2.2.1
theorem dX11_word_8 : decode cX11_word 8 = .ok (.ifCond .eq 13, 3) := zb_X11_word_0.2.2.2.2.1
theorem dX11_word_11 : decode cX11_word 11 = .ok (.iload_n 2, 1) := zb_X11_word_0.2.2.2.2.2.1
theorem dX11_word_12 : decode cX11_word 12 = .ok (.ifCond .lt 9, 3) := zb_X11_word_0.2.2.2.2.2.2.1
theorem dX11_word_21 : decode cX11_word 21 = .ok (.bipush (-3), 2) := zb_X11_word_0.2.2.2.2.2.2.2.1
theorem dX11_word_23 : decode cX11_word 23 = .ok (.ireturn, 1) := zb_X11_word_0.2.2.2.2.2.2.2.2
theorem zb_X11_word_15 : (decode cX11_word 15 = .ok (.iload_n 2, 1)) ∧ (decode cX11_word 16 = .ok (.bipush 16, 2)) ∧ (decode cX11_word 18 = .ok (.if_icmp .lt 6, 3)) ∧ (decode cX11_word 24 = .ok (.aload_n 0, 1)) ∧ (decode cX11_word 25 = .ok (.getfield 25, 3)) ∧ (decode cX11_word 28 = .ok (.iload_n 1, 1)) ∧ (decode cX11_word 29 = .ok (.iload_n 2, 1)) ∧ (decode cX11_word 30 = .ok (.invokevirtual 200, 3)) ∧ (decode cX11_word 33 = .ok (.ireturn, 1)) := by decide +kernel
theorem dX11_word_15 : decode cX11_word 15 = .ok (.iload_n 2, 1) := zb_X11_word_15.1
theorem dX11_word_16 : decode cX11_word 16 = .ok (.bipush 16, 2) := zb_X11_word_15.2.1
theorem dX11_word_18 : decode cX11_word 18 = .ok (.if_icmp .lt 6, 3) := zb_X11_word_15.2.2.1
theorem dX11_word_24 : decode cX11_word 24 = .ok (.aload_n 0, 1) := zb_X11_word_15.2.2.2.1
theorem dX11_word_25 : decode cX11_word 25 = .ok (.getfield 25, 3) := zb_X11_word_15.2.2.2.2.1
theorem dX11_word_28 : decode cX11_word 28 = .ok (.iload_n 1, 1) := zb_X11_word_15.2.2.2.2.2.1
theorem dX11_word_29 : decode cX11_word 29 = .ok (.iload_n 2, 1) := zb_X11_word_15.2.2.2.2.2.2.1
theorem dX11_word_30 : decode cX11_word 30 = .ok (.invokevirtual 200, 3) := zb_X11_word_15.2.2.2.2.2.2.2.1
theorem dX11_word_33 : decode cX11_word 33 = .ok (.ireturn, 1) := zb_X11_word_15.2.2.2.2.2.2.2.2
theorem zb_X11_isTrue_0 : (decode cX11_isTrue 0 = .ok (.iload_n 1, 1)) ∧ (decode cX11_isTrue 1 = .ok (.ifCond .lt 14, 3)) ∧ (decode cX11_isTrue 15 = .ok (.bipush (-2), 2)) ∧ (decode cX11_isTrue 17 = .ok (.ireturn, 1)) ∧ (decode cX11_isTrue 4 = .ok (.iload_n 1, 1)) ∧ (decode cX11_isTrue 5 = .ok (.aload_n 0, 1)) ∧ (decode cX11_isTrue 6 = .ok (.getfield 25, 3)) ∧ (decode cX11_isTrue 9 = .ok (.getfield 193, 3)) ∧ (decode cX11_isTrue 12 = .ok (.if_icmp .lt 6, 3)) := by decide +kernel
theorem dX11_isTrue_0 : decode cX11_isTrue 0 = .ok (.iload_n 1, 1) := zb_X11_isTrue_0.1
theorem dX11_isTrue_1 : decode cX11_isTrue 1 = .ok (.ifCond .lt 14, 3) := zb_X11_isTrue_0.2.1
theorem dX11_isTrue_15 : decode cX11_isTrue 15 = .ok (.bipush (-2), 2) := zb_X11_isTrue_0.2.2.1
theorem dX11_isTrue_17 : decode cX11_isTrue 17 = .ok (.ireturn, 1) := zb_X11_isTrue_0.2.2.2.1
theorem dX11_isTrue_4 : decode cX11_isTrue 4 = .ok (.iload_n 1, 1) := zb_X11_isTrue_0.2.2.2.2.1
theorem dX11_isTrue_5 : decode cX11_isTrue 5 = .ok (.aload_n 0, 1) := zb_X11_isTrue_0.2.2.2.2.2.1
theorem dX11_isTrue_6 : decode cX11_isTrue 6 = .ok (.getfield 25, 3) := zb_X11_isTrue_0.2.2.2.2.2.2.1
theorem dX11_isTrue_9 : decode cX11_isTrue 9 = .ok (.getfield 193, 3) := zb_X11_isTrue_0.2.2.2.2.2.2.2.1
theorem dX11_isTrue_12 : decode cX11_isTrue 12 = .ok (.if_icmp .lt 6, 3) := zb_X11_isTrue_0.2.2.2.2.2.2.2.2
theorem zb_X11_isTrue_18 : (decode cX11_isTrue 18 = .ok (.aload_n 0, 1)) ∧ (decode cX11_isTrue 19 = .ok (.getfield 25, 3)) ∧ (decode cX11_isTrue 22 = .ok (.iload_n 1, 1)) ∧ (decode cX11_isTrue 23 = .ok (.invokevirtual 204, 3)) ∧ (decode cX11_isTrue 26 = .ok (.ifCond .eq 7, 3)) ∧ (decode cX11_isTrue 33 = .ok (.iconst 0, 1)) ∧ (decode cX11_isTrue 34 = .ok (.ireturn, 1)) ∧ (decode cX11_isTrue 29 = .ok (.iconst 1, 1)) ∧ (decode cX11_isTrue 30 = .ok (.goto 4, 3)) := by decide +kernel
theorem dX11_isTrue_18 : decode cX11_isTrue 18 = .ok (.aload_n 0, 1) := zb_X11_isTrue_18.1
theorem dX11_isTrue_19 : decode cX11_isTrue 19 = .ok (.getfield 25, 3) := zb_X11_isTrue_18.2.1
theorem dX11_isTrue_22 : decode cX11_isTrue 22 = .ok (.iload_n 1, 1) := zb_X11_isTrue_18.2.2.1
theorem dX11_isTrue_23 : decode cX11_isTrue 23 = .ok (.invokevirtual 204, 3) := zb_X11_isTrue_18.2.2.2.1
theorem dX11_isTrue_26 : decode cX11_isTrue 26 = .ok (.ifCond .eq 7, 3) := zb_X11_isTrue_18.2.2.2.2.1
theorem dX11_isTrue_33 : decode cX11_isTrue 33 = .ok (.iconst 0, 1) := zb_X11_isTrue_18.2.2.2.2.2.1
theorem dX11_isTrue_34 : decode cX11_isTrue 34 = .ok (.ireturn, 1) := zb_X11_isTrue_18.2.2.2.2.2.2.1
theorem dX11_isTrue_29 : decode cX11_isTrue 29 = .ok (.iconst 1, 1) := zb_X11_isTrue_18.2.2.2.2.2.2.2.1
theorem dX11_isTrue_30 : decode cX11_isTrue 30 = .ok (.goto 4, 3) := zb_X11_isTrue_18.2.2.2.2.2.2.2.2
theorem zb_X11_lane_0 : (decode cX11_lane 0 = .ok (.lload_n 1, 1)) ∧ (decode cX11_lane 1 = .ok (.lconst 0, 1)) ∧ (decode cX11_lane 2 = .ok (.lcmp, 1)) ∧ (decode cX11_lane 3 = .ok (.ifCond .ne 6, 3)) ∧ (decode cX11_lane 9 = .ok (.aload_n 0, 1)) ∧ (decode cX11_lane 10 = .ok (.getfield 32, 3)) ∧ (decode cX11_lane 13 = .ok (.getfield 207, 3)) ∧ (decode cX11_lane 16 = .ok (.bipush 16, 2)) ∧ (decode cX11_lane 18 = .ok (.if_icmp .lt 6, 3)) := by decide +kernel
theorem dX11_lane_0 : decode cX11_lane 0 = .ok (.lload_n 1, 1) := zb_X11_lane_0.1
theorem dX11_lane_1 : decode cX11_lane 1 = .ok (.lconst 0, 1) := zb_X11_lane_0.2.1
theorem dX11_lane_2 : decode cX11_lane 2 = .ok (.lcmp, 1) := zb_X11_lane_0.2.2.1
theorem dX11_lane_3 : decode cX11_lane 3 = .ok (.ifCond .ne 6, 3) := zb_X11_lane_0.2.2.2.1
theorem dX11_lane_9 : decode cX11_lane 9 = .ok (.aload_n 0, 1) := zb_X11_lane_0.2.2.2.2.1
theorem dX11_lane_10 : decode cX11_lane 10 = .ok (.getfield 32, 3) := zb_X11_lane_0.2.2.2.2.2.1
theorem dX11_lane_13 : decode cX11_lane 13 = .ok (.getfield 207, 3) := zb_X11_lane_0.2.2.2.2.2.2.1
theorem dX11_lane_16 : decode cX11_lane 16 = .ok (.bipush 16, 2) := zb_X11_lane_0.2.2.2.2.2.2.2.1
theorem dX11_lane_18 : decode cX11_lane 18 = .ok (.if_icmp .lt 6, 3) := zb_X11_lane_0.2.2.2.2.2.2.2.2
theorem zb_X11_lane_24 : (decode cX11_lane 24 = .ok (.aload_n 0, 1)) ∧ (decode cX11_lane 25 = .ok (.getfield 32, 3)) ∧ (decode cX11_lane 28 = .ok (.lload_n 1, 1)) ∧ (decode cX11_lane 29 = .ok (.invokevirtual 210, 3)) ∧ (decode cX11_lane 32 = .ok (.ireturn, 1)) ∧ (decode cX11_lane 21 = .ok (.bipush (-4), 2)) ∧ (decode cX11_lane 23 = .ok (.ireturn, 1)) ∧ (decode cX11_lane 6 = .ok (.bipush (-2), 2)) ∧ (decode cX11_lane 8 = .ok (.ireturn, 1)) := by decide +kernel
theorem dX11_lane_24 : decode cX11_lane 24 = .ok (.aload_n 0, 1) := zb_X11_lane_24.1
theorem dX11_lane_25 : decode cX11_lane 25 = .ok (.getfield 32, 3) := zb_X11_lane_24.2.1
theorem dX11_lane_28 : decode cX11_lane 28 = .ok (.lload_n 1, 1) := zb_X11_lane_24.2.2.1
theorem dX11_lane_29 : decode cX11_lane 29 = .ok (.invokevirtual 210, 3) := zb_X11_lane_24.2.2.2.1
theorem dX11_lane_32 : decode cX11_lane 32 = .ok (.ireturn, 1) := zb_X11_lane_24.2.2.2.2.1
theorem dX11_lane_21 : decode cX11_lane 21 = .ok (.bipush (-4), 2) := zb_X11_lane_24.2.2.2.2.2.1
theorem dX11_lane_23 : decode cX11_lane 23 = .ok (.ireturn, 1) := zb_X11_lane_24.2.2.2.2.2.2.1
theorem dX11_lane_6 : decode cX11_lane 6 = .ok (.bipush (-2), 2) := zb_X11_lane_24.2.2.2.2.2.2.2.1
theorem dX11_lane_8 : decode cX11_lane 8 = .ok (.ireturn, 1) := zb_X11_lane_24.2.2.2.2.2.2.2.2
theorem zb_X11_flown_0 : (decode cX11_flown 0 = .ok (.aload_n 0, 1)) ∧ (decode cX11_flown 1 = .ok (.iload_n 2, 1)) ∧ (decode cX11_flown 2 = .ok (.invokevirtual 78, 3)) ∧ (decode cX11_flown 5 = .ok (.astore 4, 2)) ∧ (decode cX11_flown 7 = .ok (.aload_n 0, 1)) ∧ (decode cX11_flown 8 = .ok (.iload_n 1, 1)) ∧ (decode cX11_flown 9 = .ok (.invokevirtual 214, 3)) ∧ (decode cX11_flown 12 = .ok (.ifnull 23, 3)) ∧ (decode cX11_flown 35 = .ok (.bipush (-2), 2)) ∧ (decode cX11_flown 37 = .ok (.ireturn, 1)) ∧ (decode cX11_flown 15 = .ok (.aload 4, 2)) := by decide +kernel
theorem dX11_flown_0 : decode cX11_flown 0 = .ok (.aload_n 0, 1) := zb_X11_flown_0.1
theorem dX11_flown_1 : decode cX11_flown 1 = .ok (.iload_n 2, 1) := zb_X11_flown_0.2.1
theorem dX11_flown_2 : decode cX11_flown 2 = .ok (.invokevirtual 78, 3) := zb_X11_flown_0.2.2.1
theorem dX11_flown_5 : decode cX11_flown 5 = .ok (.astore 4, 2) := zb_X11_flown_0.2.2.2.1
theorem dX11_flown_7 : decode cX11_flown 7 = .ok (.aload_n 0, 1) := zb_X11_flown_0.2.2.2.2.1
theorem dX11_flown_8 : decode cX11_flown 8 = .ok (.iload_n 1, 1) := zb_X11_flown_0.2.2.2.2.2.1
theorem dX11_flown_9 : decode cX11_flown 9 = .ok (.invokevirtual 214, 3) := zb_X11_flown_0.2.2.2.2.2.2.1
theorem dX11_flown_12 : decode cX11_flown 12 = .ok (.ifnull 23, 3) := zb_X11_flown_0.2.2.2.2.2.2.2.1
theorem dX11_flown_35 : decode cX11_flown 35 = .ok (.bipush (-2), 2) := zb_X11_flown_0.2.2.2.2.2.2.2.2.1
theorem dX11_flown_37 : decode cX11_flown 37 = .ok (.ireturn, 1) := zb_X11_flown_0.2.2.2.2.2.2.2.2.2.1
theorem dX11_flown_15 : decode cX11_flown 15 = .ok (.aload 4, 2) := zb_X11_flown_0.2.2.2.2.2.2.2.2.2.2
theorem zb_X11_flown_17 : (decode cX11_flown 17 = .ok (.ifnull 18, 3)) ∧ (decode cX11_flown 20 = .ok (.iload_n 3, 1)) ∧ (decode cX11_flown 21 = .ok (.ifCond .lt 14, 3)) ∧ (decode cX11_flown 24 = .ok (.iload_n 3, 1)) ∧ (decode cX11_flown 25 = .ok (.aload_n 0, 1)) ∧ (decode cX11_flown 26 = .ok (.getfield 32, 3)) ∧ (decode cX11_flown 29 = .ok (.getfield 207, 3)) ∧ (decode cX11_flown 32 = .ok (.if_icmp .lt 6, 3)) ∧ (decode cX11_flown 38 = .ok (.aload 4, 2)) ∧ (decode cX11_flown 40 = .ok (.getfield 217, 3)) ∧ (decode cX11_flown 43 = .ok (.bipush 6, 2)) := by decide +kernel
theorem dX11_flown_17 : decode cX11_flown 17 = .ok (.ifnull 18, 3) := zb_X11_flown_17.1
theorem dX11_flown_20 : decode cX11_flown 20 = .ok (.iload_n 3, 1) := zb_X11_flown_17.2.1
theorem dX11_flown_21 : decode cX11_flown 21 = .ok (.ifCond .lt 14, 3) := zb_X11_flown_17.2.2.1
theorem dX11_flown_24 : decode cX11_flown 24 = .ok (.iload_n 3, 1) := zb_X11_flown_17.2.2.2.1
theorem dX11_flown_25 : decode cX11_flown 25 = .ok (.aload_n 0, 1) := zb_X11_flown_17.2.2.2.2.1
theorem dX11_flown_26 : decode cX11_flown 26 = .ok (.getfield 32, 3) := zb_X11_flown_17.2.2.2.2.2.1
theorem dX11_flown_29 : decode cX11_flown 29 = .ok (.getfield 207, 3) := zb_X11_flown_17.2.2.2.2.2.2.1
theorem dX11_flown_32 : decode cX11_flown 32 = .ok (.if_icmp .lt 6, 3) := zb_X11_flown_17.2.2.2.2.2.2.2.1
theorem dX11_flown_38 : decode cX11_flown 38 = .ok (.aload 4, 2) := zb_X11_flown_17.2.2.2.2.2.2.2.2.1
theorem dX11_flown_40 : decode cX11_flown 40 = .ok (.getfield 217, 3) := zb_X11_flown_17.2.2.2.2.2.2.2.2.2.1
theorem dX11_flown_43 : decode cX11_flown 43 = .ok (.bipush 6, 2) := zb_X11_flown_17.2.2.2.2.2.2.2.2.2.2
theorem zb_X11_flown_45 : (decode cX11_flown 45 = .ok (.if_icmp .lt 6, 3)) ∧ (decode cX11_flown 51 = .ok (.aload 4, 2)) ∧ (decode cX11_flown 53 = .ok (.iload_n 3, 1)) ∧ (decode cX11_flown 54 = .ok (.aload_n 0, 1)) ∧ (decode cX11_flown 55 = .ok (.getfield 71, 3)) ∧ (decode cX11_flown 58 = .ok (.invokevirtual 220, 3)) ∧ (decode cX11_flown 61 = .ok (.ireturn, 1)) ∧ (decode cX11_flown 48 = .ok (.bipush (-4), 2)) ∧ (decode cX11_flown 50 = .ok (.ireturn, 1)) := by decide +kernel
theorem dX11_flown_45 : decode cX11_flown 45 = .ok (.if_icmp .lt 6, 3) := zb_X11_flown_45.1
theorem dX11_flown_51 : decode cX11_flown 51 = .ok (.aload 4, 2) := zb_X11_flown_45.2.1
theorem dX11_flown_53 : decode cX11_flown 53 = .ok (.iload_n 3, 1) := zb_X11_flown_45.2.2.1
theorem dX11_flown_54 : decode cX11_flown 54 = .ok (.aload_n 0, 1) := zb_X11_flown_45.2.2.2.1
theorem dX11_flown_55 : decode cX11_flown 55 = .ok (.getfield 71, 3) := zb_X11_flown_45.2.2.2.2.1
theorem dX11_flown_58 : decode cX11_flown 58 = .ok (.invokevirtual 220, 3) := zb_X11_flown_45.2.2.2.2.2.1
theorem dX11_flown_61 : decode cX11_flown 61 = .ok (.ireturn, 1) := zb_X11_flown_45.2.2.2.2.2.2.1
theorem dX11_flown_48 : decode cX11_flown 48 = .ok (.bipush (-4), 2) := zb_X11_flown_45.2.2.2.2.2.2.2.1
theorem dX11_flown_50 : decode cX11_flown 50 = .ok (.ireturn, 1) := zb_X11_flown_45.2.2.2.2.2.2.2.2
theorem zb_X11_share_0 : (decode cX11_share 0 = .ok (.aload_n 0, 1)) ∧ (decode cX11_share 1 = .ok (.iload_n 1, 1)) ∧ (decode cX11_share 2 = .ok (.invokevirtual 78, 3)) ∧ (decode cX11_share 5 = .ok (.astore 4, 2)) ∧ (decode cX11_share 7 = .ok (.aload 4, 2)) ∧ (decode cX11_share 9 = .ok (.ifnull 19, 3)) ∧ (decode cX11_share 28 = .ok (.ldc2_w 148, 3)) ∧ (decode cX11_share 31 = .ok (.lreturn, 1)) ∧ (decode cX11_share 12 = .ok (.iload_n 2, 1)) ∧ (decode cX11_share 13 = .ok (.invokestatic 110, 3)) ∧ (decode cX11_share 16 = .ok (.ifCond .eq 12, 3)) ∧ (decode cX11_share 19 = .ok (.iload_n 3, 1)) := by decide +kernel
theorem dX11_share_0 : decode cX11_share 0 = .ok (.aload_n 0, 1) := zb_X11_share_0.1
theorem dX11_share_1 : decode cX11_share 1 = .ok (.iload_n 1, 1) := zb_X11_share_0.2.1
theorem dX11_share_2 : decode cX11_share 2 = .ok (.invokevirtual 78, 3) := zb_X11_share_0.2.2.1
theorem dX11_share_5 : decode cX11_share 5 = .ok (.astore 4, 2) := zb_X11_share_0.2.2.2.1
theorem dX11_share_7 : decode cX11_share 7 = .ok (.aload 4, 2) := zb_X11_share_0.2.2.2.2.1
theorem dX11_share_9 : decode cX11_share 9 = .ok (.ifnull 19, 3) := zb_X11_share_0.2.2.2.2.2.1
theorem dX11_share_28 : decode cX11_share 28 = .ok (.ldc2_w 148, 3) := zb_X11_share_0.2.2.2.2.2.2.1
theorem dX11_share_31 : decode cX11_share 31 = .ok (.lreturn, 1) := zb_X11_share_0.2.2.2.2.2.2.2.1
theorem dX11_share_12 : decode cX11_share 12 = .ok (.iload_n 2, 1) := zb_X11_share_0.2.2.2.2.2.2.2.2.1
theorem dX11_share_13 : decode cX11_share 13 = .ok (.invokestatic 110, 3) := zb_X11_share_0.2.2.2.2.2.2.2.2.2.1
theorem dX11_share_16 : decode cX11_share 16 = .ok (.ifCond .eq 12, 3) := zb_X11_share_0.2.2.2.2.2.2.2.2.2.2.1
theorem dX11_share_19 : decode cX11_share 19 = .ok (.iload_n 3, 1) := zb_X11_share_0.2.2.2.2.2.2.2.2.2.2.2
theorem zb_X11_share_20 : (decode cX11_share 20 = .ok (.ifCond .lt 8, 3)) ∧ (decode cX11_share 23 = .ok (.iload_n 3, 1)) ∧ (decode cX11_share 24 = .ok (.iconst 1, 1)) ∧ (decode cX11_share 25 = .ok (.if_icmp .le 7, 3)) ∧ (decode cX11_share 32 = .ok (.aload_n 0, 1)) ∧ (decode cX11_share 33 = .ok (.getfield 32, 3)) ∧ (decode cX11_share 36 = .ok (.aload 4, 2)) ∧ (decode cX11_share 38 = .ok (.aload 4, 2)) ∧ (decode cX11_share 40 = .ok (.aload_n 0, 1)) ∧ (decode cX11_share 41 = .ok (.getfield 10, 3)) ∧ (decode cX11_share 44 = .ok (.aload_n 0, 1)) ∧ (decode cX11_share 45 = .ok (.getfield 71, 3)) := by decide +kernel
theorem dX11_share_20 : decode cX11_share 20 = .ok (.ifCond .lt 8, 3) := zb_X11_share_20.1
theorem dX11_share_23 : decode cX11_share 23 = .ok (.iload_n 3, 1) := zb_X11_share_20.2.1
theorem dX11_share_24 : decode cX11_share 24 = .ok (.iconst 1, 1) := zb_X11_share_20.2.2.1
theorem dX11_share_25 : decode cX11_share 25 = .ok (.if_icmp .le 7, 3) := zb_X11_share_20.2.2.2.1
theorem dX11_share_32 : decode cX11_share 32 = .ok (.aload_n 0, 1) := zb_X11_share_20.2.2.2.2.1
theorem dX11_share_33 : decode cX11_share 33 = .ok (.getfield 32, 3) := zb_X11_share_20.2.2.2.2.2.1
theorem dX11_share_36 : decode cX11_share 36 = .ok (.aload 4, 2) := zb_X11_share_20.2.2.2.2.2.2.1
theorem dX11_share_38 : decode cX11_share 38 = .ok (.aload 4, 2) := zb_X11_share_20.2.2.2.2.2.2.2.1
theorem dX11_share_40 : decode cX11_share 40 = .ok (.aload_n 0, 1) := zb_X11_share_20.2.2.2.2.2.2.2.2.1
theorem dX11_share_41 : decode cX11_share 41 = .ok (.getfield 10, 3) := zb_X11_share_20.2.2.2.2.2.2.2.2.2.1
theorem dX11_share_44 : decode cX11_share 44 = .ok (.aload_n 0, 1) := zb_X11_share_20.2.2.2.2.2.2.2.2.2.2.1
theorem dX11_share_45 : decode cX11_share 45 = .ok (.getfield 71, 3) := zb_X11_share_20.2.2.2.2.2.2.2.2.2.2.2
theorem zb_X11_share_48 : (decode cX11_share 48 = .ok (.invokevirtual 223, 3)) ∧ (decode cX11_share 51 = .ok (.aload_n 0, 1)) ∧ (decode cX11_share 52 = .ok (.getfield 10, 3)) ∧ (decode cX11_share 55 = .ok (.invokevirtual 227, 3)) ∧ (decode cX11_share 58 = .ok (.aload_n 0, 1)) ∧ (decode cX11_share 59 = .ok (.getfield 32, 3)) ∧ (decode cX11_share 62 = .ok (.iload_n 2, 1)) ∧ (decode cX11_share 63 = .ok (.iload_n 3, 1)) ∧ (decode cX11_share 64 = .ok (.invokevirtual 231, 3)) ∧ (decode cX11_share 67 = .ok (.lreturn, 1)) := by decide +kernel
theorem dX11_share_48 : decode cX11_share 48 = .ok (.invokevirtual 223, 3) := zb_X11_share_48.1
theorem dX11_share_51 : decode cX11_share 51 = .ok (.aload_n 0, 1) := zb_X11_share_48.2.1
theorem dX11_share_52 : decode cX11_share 52 = .ok (.getfield 10, 3) := zb_X11_share_48.2.2.1
theorem dX11_share_55 : decode cX11_share 55 = .ok (.invokevirtual 227, 3) := zb_X11_share_48.2.2.2.1
theorem dX11_share_58 : decode cX11_share 58 = .ok (.aload_n 0, 1) := zb_X11_share_48.2.2.2.2.1
theorem dX11_share_59 : decode cX11_share 59 = .ok (.getfield 32, 3) := zb_X11_share_48.2.2.2.2.2.1
theorem dX11_share_62 : decode cX11_share 62 = .ok (.iload_n 2, 1) := zb_X11_share_48.2.2.2.2.2.2.1
theorem dX11_share_63 : decode cX11_share 63 = .ok (.iload_n 3, 1) := zb_X11_share_48.2.2.2.2.2.2.2.1
theorem dX11_share_64 : decode cX11_share 64 = .ok (.invokevirtual 231, 3) := zb_X11_share_48.2.2.2.2.2.2.2.2.1
theorem dX11_share_67 : decode cX11_share 67 = .ok (.lreturn, 1) := zb_X11_share_48.2.2.2.2.2.2.2.2.2
theorem zb_X11_parted_0 : (decode cX11_parted 0 = .ok (.aload_n 0, 1)) ∧ (decode cX11_parted 1 = .ok (.iload_n 1, 1)) ∧ (decode cX11_parted 2 = .ok (.invokevirtual 78, 3)) ∧ (decode cX11_parted 5 = .ok (.astore 5, 2)) ∧ (decode cX11_parted 7 = .ok (.aload 5, 2)) ∧ (decode cX11_parted 9 = .ok (.ifnull 28, 3)) ∧ (decode cX11_parted 37 = .ok (.bipush (-2), 2)) ∧ (decode cX11_parted 39 = .ok (.ireturn, 1)) ∧ (decode cX11_parted 12 = .ok (.aload_n 0, 1)) ∧ (decode cX11_parted 13 = .ok (.iload_n 2, 1)) ∧ (decode cX11_parted 14 = .ok (.invokevirtual 235, 3)) ∧ (decode cX11_parted 17 = .ok (.ifCond .eq 20, 3)) := by decide +kernel
theorem dX11_parted_0 : decode cX11_parted 0 = .ok (.aload_n 0, 1) := zb_X11_parted_0.1
theorem dX11_parted_1 : decode cX11_parted 1 = .ok (.iload_n 1, 1) := zb_X11_parted_0.2.1
theorem dX11_parted_2 : decode cX11_parted 2 = .ok (.invokevirtual 78, 3) := zb_X11_parted_0.2.2.1
theorem dX11_parted_5 : decode cX11_parted 5 = .ok (.astore 5, 2) := zb_X11_parted_0.2.2.2.1
theorem dX11_parted_7 : decode cX11_parted 7 = .ok (.aload 5, 2) := zb_X11_parted_0.2.2.2.2.1
theorem dX11_parted_9 : decode cX11_parted 9 = .ok (.ifnull 28, 3) := zb_X11_parted_0.2.2.2.2.2.1
theorem dX11_parted_37 : decode cX11_parted 37 = .ok (.bipush (-2), 2) := zb_X11_parted_0.2.2.2.2.2.2.1
theorem dX11_parted_39 : decode cX11_parted 39 = .ok (.ireturn, 1) := zb_X11_parted_0.2.2.2.2.2.2.2.1
theorem dX11_parted_12 : decode cX11_parted 12 = .ok (.aload_n 0, 1) := zb_X11_parted_0.2.2.2.2.2.2.2.2.1
theorem dX11_parted_13 : decode cX11_parted 13 = .ok (.iload_n 2, 1) := zb_X11_parted_0.2.2.2.2.2.2.2.2.2.1
theorem dX11_parted_14 : decode cX11_parted 14 = .ok (.invokevirtual 235, 3) := zb_X11_parted_0.2.2.2.2.2.2.2.2.2.2.1
theorem dX11_parted_17 : decode cX11_parted 17 = .ok (.ifCond .eq 20, 3) := zb_X11_parted_0.2.2.2.2.2.2.2.2.2.2.2
theorem zb_X11_parted_40 : (decode cX11_parted 40 = .ok (.iload_n 2, 1)) ∧ (decode cX11_parted 41 = .ok (.invokestatic 238, 3)) ∧ (decode cX11_parted 44 = .ok (.istore 6, 2)) ∧ (decode cX11_parted 46 = .ok (.iload_n 3, 1)) ∧ (decode cX11_parted 47 = .ok (.invokestatic 238, 3)) ∧ (decode cX11_parted 50 = .ok (.iload 6, 2)) ∧ (decode cX11_parted 52 = .ok (.if_icmp .ge 6, 3)) ∧ (decode cX11_parted 58 = .ok (.iload 4, 2)) ∧ (decode cX11_parted 60 = .ok (.iconst (-1), 1)) ∧ (decode cX11_parted 61 = .ok (.if_icmp .lt 10, 3)) ∧ (decode cX11_parted 71 = .ok (.iconst (-1), 1)) ∧ (decode cX11_parted 72 = .ok (.ireturn, 1)) := by decide +kernel
theorem dX11_parted_40 : decode cX11_parted 40 = .ok (.iload_n 2, 1) := zb_X11_parted_40.1
theorem dX11_parted_41 : decode cX11_parted 41 = .ok (.invokestatic 238, 3) := zb_X11_parted_40.2.1
theorem dX11_parted_44 : decode cX11_parted 44 = .ok (.istore 6, 2) := zb_X11_parted_40.2.2.1
theorem dX11_parted_46 : decode cX11_parted 46 = .ok (.iload_n 3, 1) := zb_X11_parted_40.2.2.2.1
theorem dX11_parted_47 : decode cX11_parted 47 = .ok (.invokestatic 238, 3) := zb_X11_parted_40.2.2.2.2.1
theorem dX11_parted_50 : decode cX11_parted 50 = .ok (.iload 6, 2) := zb_X11_parted_40.2.2.2.2.2.1
theorem dX11_parted_52 : decode cX11_parted 52 = .ok (.if_icmp .ge 6, 3) := zb_X11_parted_40.2.2.2.2.2.2.1
theorem dX11_parted_58 : decode cX11_parted 58 = .ok (.iload 4, 2) := zb_X11_parted_40.2.2.2.2.2.2.2.1
theorem dX11_parted_60 : decode cX11_parted 60 = .ok (.iconst (-1), 1) := zb_X11_parted_40.2.2.2.2.2.2.2.2.1
theorem dX11_parted_61 : decode cX11_parted 61 = .ok (.if_icmp .lt 10, 3) := zb_X11_parted_40.2.2.2.2.2.2.2.2.2.1
theorem dX11_parted_71 : decode cX11_parted 71 = .ok (.iconst (-1), 1) := zb_X11_parted_40.2.2.2.2.2.2.2.2.2.2.1
theorem dX11_parted_72 : decode cX11_parted 72 = .ok (.ireturn, 1) := zb_X11_parted_40.2.2.2.2.2.2.2.2.2.2.2
theorem zb_X11_parted_64 : (decode cX11_parted 64 = .ok (.iload 4, 2)) ∧ (decode cX11_parted 66 = .ok (.iload 6, 2)) ∧ (decode cX11_parted 68 = .ok (.if_icmp .lt 5, 3)) ∧ (decode cX11_parted 73 = .ok (.aload_n 0, 1)) ∧ (decode cX11_parted 74 = .ok (.getfield 32, 3)) ∧ (decode cX11_parted 77 = .ok (.aload 5, 2)) ∧ (decode cX11_parted 79 = .ok (.aload 5, 2)) ∧ (decode cX11_parted 81 = .ok (.aload_n 0, 1)) ∧ (decode cX11_parted 82 = .ok (.getfield 10, 3)) ∧ (decode cX11_parted 85 = .ok (.aload_n 0, 1)) ∧ (decode cX11_parted 86 = .ok (.getfield 71, 3)) ∧ (decode cX11_parted 89 = .ok (.invokevirtual 223, 3)) := by decide +kernel
theorem dX11_parted_64 : decode cX11_parted 64 = .ok (.iload 4, 2) := zb_X11_parted_64.1
theorem dX11_parted_66 : decode cX11_parted 66 = .ok (.iload 6, 2) := zb_X11_parted_64.2.1
theorem dX11_parted_68 : decode cX11_parted 68 = .ok (.if_icmp .lt 5, 3) := zb_X11_parted_64.2.2.1
theorem dX11_parted_73 : decode cX11_parted 73 = .ok (.aload_n 0, 1) := zb_X11_parted_64.2.2.2.1
theorem dX11_parted_74 : decode cX11_parted 74 = .ok (.getfield 32, 3) := zb_X11_parted_64.2.2.2.2.1
theorem dX11_parted_77 : decode cX11_parted 77 = .ok (.aload 5, 2) := zb_X11_parted_64.2.2.2.2.2.1
theorem dX11_parted_79 : decode cX11_parted 79 = .ok (.aload 5, 2) := zb_X11_parted_64.2.2.2.2.2.2.1
theorem dX11_parted_81 : decode cX11_parted 81 = .ok (.aload_n 0, 1) := zb_X11_parted_64.2.2.2.2.2.2.2.1
theorem dX11_parted_82 : decode cX11_parted 82 = .ok (.getfield 10, 3) := zb_X11_parted_64.2.2.2.2.2.2.2.2.1
theorem dX11_parted_85 : decode cX11_parted 85 = .ok (.aload_n 0, 1) := zb_X11_parted_64.2.2.2.2.2.2.2.2.2.1
theorem dX11_parted_86 : decode cX11_parted 86 = .ok (.getfield 71, 3) := zb_X11_parted_64.2.2.2.2.2.2.2.2.2.2.1
theorem dX11_parted_89 : decode cX11_parted 89 = .ok (.invokevirtual 223, 3) := zb_X11_parted_64.2.2.2.2.2.2.2.2.2.2.2
theorem zb_X11_parted_92 : (decode cX11_parted 92 = .ok (.aload_n 0, 1)) ∧ (decode cX11_parted 93 = .ok (.getfield 10, 3)) ∧ (decode cX11_parted 96 = .ok (.invokevirtual 227, 3)) ∧ (decode cX11_parted 99 = .ok (.aload_n 0, 1)) ∧ (decode cX11_parted 100 = .ok (.getfield 32, 3)) ∧ (decode cX11_parted 103 = .ok (.iload_n 3, 1)) ∧ (decode cX11_parted 104 = .ok (.iload 6, 2)) ∧ (decode cX11_parted 106 = .ok (.invokevirtual 243, 3)) ∧ (decode cX11_parted 109 = .ok (.iload 4, 2)) ∧ (decode cX11_parted 111 = .ok (.iconst (-1), 1)) ∧ (decode cX11_parted 112 = .ok (.if_icmp .ne 13, 3)) ∧ (decode cX11_parted 125 = .ok (.aload_n 0, 1)) := by decide +kernel
theorem dX11_parted_92 : decode cX11_parted 92 = .ok (.aload_n 0, 1) := zb_X11_parted_92.1
theorem dX11_parted_93 : decode cX11_parted 93 = .ok (.getfield 10, 3) := zb_X11_parted_92.2.1
theorem dX11_parted_96 : decode cX11_parted 96 = .ok (.invokevirtual 227, 3) := zb_X11_parted_92.2.2.1
theorem dX11_parted_99 : decode cX11_parted 99 = .ok (.aload_n 0, 1) := zb_X11_parted_92.2.2.2.1
theorem dX11_parted_100 : decode cX11_parted 100 = .ok (.getfield 32, 3) := zb_X11_parted_92.2.2.2.2.1
theorem dX11_parted_103 : decode cX11_parted 103 = .ok (.iload_n 3, 1) := zb_X11_parted_92.2.2.2.2.2.1
theorem dX11_parted_104 : decode cX11_parted 104 = .ok (.iload 6, 2) := zb_X11_parted_92.2.2.2.2.2.2.1
theorem dX11_parted_106 : decode cX11_parted 106 = .ok (.invokevirtual 243, 3) := zb_X11_parted_92.2.2.2.2.2.2.2.1
theorem dX11_parted_109 : decode cX11_parted 109 = .ok (.iload 4, 2) := zb_X11_parted_92.2.2.2.2.2.2.2.2.1
theorem dX11_parted_111 : decode cX11_parted 111 = .ok (.iconst (-1), 1) := zb_X11_parted_92.2.2.2.2.2.2.2.2.2.1
theorem dX11_parted_112 : decode cX11_parted 112 = .ok (.if_icmp .ne 13, 3) := zb_X11_parted_92.2.2.2.2.2.2.2.2.2.2.1
theorem dX11_parted_125 : decode cX11_parted 125 = .ok (.aload_n 0, 1) := zb_X11_parted_92.2.2.2.2.2.2.2.2.2.2.2
theorem zb_X11_parted_126 : (decode cX11_parted 126 = .ok (.getfield 32, 3)) ∧ (decode cX11_parted 129 = .ok (.getfield 250, 3)) ∧ (decode cX11_parted 132 = .ok (.iload 4, 2)) ∧ (decode cX11_parted 134 = .ok (.iaload, 1)) ∧ (decode cX11_parted 135 = .ok (.ireturn, 1)) ∧ (decode cX11_parted 115 = .ok (.aload_n 0, 1)) ∧ (decode cX11_parted 116 = .ok (.getfield 32, 3)) ∧ (decode cX11_parted 119 = .ok (.invokevirtual 247, 3)) ∧ (decode cX11_parted 122 = .ok (.goto 13, 3)) ∧ (decode cX11_parted 55 = .ok (.bipush (-3), 2)) ∧ (decode cX11_parted 57 = .ok (.ireturn, 1)) ∧ (decode cX11_parted 20 = .ok (.iload_n 3, 1)) := by decide +kernel
theorem dX11_parted_126 : decode cX11_parted 126 = .ok (.getfield 32, 3) := zb_X11_parted_126.1
theorem dX11_parted_129 : decode cX11_parted 129 = .ok (.getfield 250, 3) := zb_X11_parted_126.2.1
theorem dX11_parted_132 : decode cX11_parted 132 = .ok (.iload 4, 2) := zb_X11_parted_126.2.2.1
theorem dX11_parted_134 : decode cX11_parted 134 = .ok (.iaload, 1) := zb_X11_parted_126.2.2.2.1
theorem dX11_parted_135 : decode cX11_parted 135 = .ok (.ireturn, 1) := zb_X11_parted_126.2.2.2.2.1
theorem dX11_parted_115 : decode cX11_parted 115 = .ok (.aload_n 0, 1) := zb_X11_parted_126.2.2.2.2.2.1
theorem dX11_parted_116 : decode cX11_parted 116 = .ok (.getfield 32, 3) := zb_X11_parted_126.2.2.2.2.2.2.1
theorem dX11_parted_119 : decode cX11_parted 119 = .ok (.invokevirtual 247, 3) := zb_X11_parted_126.2.2.2.2.2.2.2.1
theorem dX11_parted_122 : decode cX11_parted 122 = .ok (.goto 13, 3) := zb_X11_parted_126.2.2.2.2.2.2.2.2.1
theorem dX11_parted_55 : decode cX11_parted 55 = .ok (.bipush (-3), 2) := zb_X11_parted_126.2.2.2.2.2.2.2.2.2.1
theorem dX11_parted_57 : decode cX11_parted 57 = .ok (.ireturn, 1) := zb_X11_parted_126.2.2.2.2.2.2.2.2.2.2.1
theorem dX11_parted_20 : decode cX11_parted 20 = .ok (.iload_n 3, 1) := zb_X11_parted_126.2.2.2.2.2.2.2.2.2.2.2
theorem zb_X11_parted_21 : (decode cX11_parted 21 = .ok (.ifCond .lt 16, 3)) ∧ (decode cX11_parted 24 = .ok (.iload_n 3, 1)) ∧ (decode cX11_parted 25 = .ok (.iconst 1, 1)) ∧ (decode cX11_parted 26 = .ok (.aload_n 0, 1)) ∧ (decode cX11_parted 27 = .ok (.getfield 32, 3)) ∧ (decode cX11_parted 30 = .ok (.getfield 207, 3)) ∧ (decode cX11_parted 33 = .ok (.ishl, 1)) ∧ (decode cX11_parted 34 = .ok (.if_icmp .lt 6, 3)) := by decide +kernel
theorem dX11_parted_21 : decode cX11_parted 21 = .ok (.ifCond .lt 16, 3) := zb_X11_parted_21.1
theorem dX11_parted_24 : decode cX11_parted 24 = .ok (.iload_n 3, 1) := zb_X11_parted_21.2.1
theorem dX11_parted_25 : decode cX11_parted 25 = .ok (.iconst 1, 1) := zb_X11_parted_21.2.2.1
theorem dX11_parted_26 : decode cX11_parted 26 = .ok (.aload_n 0, 1) := zb_X11_parted_21.2.2.2.1
theorem dX11_parted_27 : decode cX11_parted 27 = .ok (.getfield 32, 3) := zb_X11_parted_21.2.2.2.2.1
theorem dX11_parted_30 : decode cX11_parted 30 = .ok (.getfield 207, 3) := zb_X11_parted_21.2.2.2.2.2.1
theorem dX11_parted_33 : decode cX11_parted 33 = .ok (.ishl, 1) := zb_X11_parted_21.2.2.2.2.2.2.1
theorem dX11_parted_34 : decode cX11_parted 34 = .ok (.if_icmp .lt 6, 3) := zb_X11_parted_21.2.2.2.2.2.2.2
theorem gX11_seekerAt_X11_bodyAt : GoodIn wsX11_seekerAt (wsV RX11 78 RX11 yX11_bodyAt wsX11_bodyAt) := ru_gG (ru_gV tw_2_139 tw_2_141 tw_0_0 tw_1_1 mT_X11_bodyAt)
theorem gX11_seekerAt_X0_isUnder : GoodIn wsX11_seekerAt (wsV RX11 379 RX0 yX0_isUnder wsX0_isUnder) := ru_gG (ru_gV tw_3_173 tw_3_174 tw_3_175 tw_1_18 mT_X0_isUnder)
theorem gX11_areSeekers_J6_bitCount_0f7a4 : GoodIn wsX11_areSeekers (va_wsS RX11 238 yJ6_bitCount_0f7a4 wsJ6_bitCount_0f7a4) := ru_gG (ru_gS tw_3_217 tw_3_218 tw_1_19 mT_J6_bitCount_0f7a4)
theorem gX11_areSeekers_X11_seekerAt : GoodIn wsX11_areSeekers (wsV RX11 214 RX11 yX11_seekerAt wsX11_seekerAt) := ru_gG (ru_gV tw_3_169 tw_3_171 tw_0_3 tw_1_1 mT_X11_seekerAt)
theorem gX11_backFrom_X0_burns : GoodIn wsX11_backFrom (wsV RX11 138 RX0 yX0_burns wsX0_burns) := ru_gG (ru_gV tw_3_24 tw_3_25 tw_3_26 tw_1_18 mT_X0_burns)
theorem gX11_backFrom_X10_isClear : GoodIn wsX11_backFrom (wsV RX11 382 RX10 yX10_isClear wsX10_isClear) := ru_gG (ru_gV tw_4_17 tw_4_18 tw_4_19 tw_1_2 mT_X10_isClear)
theorem gX11_takeOf_X3_ask : GoodIn wsX11_takeOf (wsV RX11 292 RX3 yX3_ask wsX3_ask) := ru_gG (ru_gV tw_4_213 tw_4_214 tw_4_215 tw_1_6 mT_X3_ask)
theorem gX11_takeOf_X11_bodyAt : GoodIn wsX11_takeOf (wsV RX11 78 RX11 yX11_bodyAt wsX11_bodyAt) := ru_gG (ru_gV tw_2_139 tw_2_141 tw_0_0 tw_1_1 mT_X11_bodyAt)
theorem gX11_pass_X11_bodyAt : GoodIn wsX11_pass (wsV RX11 78 RX11 yX11_bodyAt wsX11_bodyAt) := ru_gG (ru_gV tw_2_139 tw_2_141 tw_0_0 tw_1_1 mT_X11_bodyAt)
theorem gX11_pass_X0_eatFor : GoodIn wsX11_pass (wsV RX11 82 RX0 yX0_eatFor wsX0_eatFor) := ru_gG (ru_gV tw_2_143 tw_2_144 tw_2_145 tw_1_18 mT_X0_eatFor)
theorem gX11_wind_X11_isSpan : GoodIn wsX11_wind (va_wsS RX11 86 yX11_isSpan wsX11_isSpan) := ru_gG (ru_gS tw_2_162 tw_2_163 tw_1_1 mT_X11_isSpan)
theorem gX11_wind_X11_isWind : GoodIn wsX11_wind (va_wsS RX11 90 yX11_isWind wsX11_isWind) := ru_gG (ru_gS tw_2_165 tw_2_166 tw_1_1 mT_X11_isWind)
theorem gX11_wind_X10_tellWind : GoodIn wsX11_wind (wsV RX11 97 RX10 yX10_tellWind wsX10_tellWind) := ru_gG (ru_gV tw_2_168 tw_2_169 tw_2_170 tw_1_2 mT_X10_tellWind)
theorem gX11_wind_X11_bodyAt : GoodIn wsX11_wind (wsV RX11 78 RX11 yX11_bodyAt wsX11_bodyAt) := ru_gG (ru_gV tw_2_139 tw_2_141 tw_0_0 tw_1_1 mT_X11_bodyAt)
theorem gX11_wind_X0_forgetBehind : GoodIn wsX11_wind (wsV RX11 101 RX0 yX0_forgetBehind wsX0_forgetBehind) := ru_gG (ru_gV tw_2_176 tw_2_177 tw_2_178 tw_1_18 mT_X0_forgetBehind)
theorem gX11_fog_X11_isSpan : GoodIn wsX11_fog (va_wsS RX11 86 yX11_isSpan wsX11_isSpan) := ru_gG (ru_gS tw_2_162 tw_2_163 tw_1_1 mT_X11_isSpan)
theorem gX11_fog_X10_tellFog : GoodIn wsX11_fog (wsV RX11 107 RX10 yX10_tellFog wsX10_tellFog) := ru_gG (ru_gV tw_2_187 tw_2_188 tw_2_189 tw_1_2 mT_X10_tellFog)
theorem gX11_bodyTold_X11_bodyAt : GoodIn wsX11_bodyTold (wsV RX11 78 RX11 yX11_bodyAt wsX11_bodyAt) := ru_gG (ru_gV tw_2_139 tw_2_141 tw_0_0 tw_1_1 mT_X11_bodyAt)
theorem gX11_bodyTold_X0_eats : GoodIn wsX11_bodyTold (wsV RX11 134 RX0 yX0_eats wsX0_eats) := ru_gG (ru_gV tw_3_23 tw_2_148 tw_2_149 tw_1_18 mT_X0_eats)
theorem gX11_bodyTold_X0_burns : GoodIn wsX11_bodyTold (wsV RX11 138 RX0 yX0_burns wsX0_burns) := ru_gG (ru_gV tw_3_24 tw_3_25 tw_3_26 tw_1_18 mT_X0_burns)
theorem gX11_bodyTold_X0_foodLasts : GoodIn wsX11_bodyTold (wsV RX11 141 RX0 yX0_foodLasts wsX0_foodLasts) := ru_gG (ru_gV tw_3_30 tw_3_31 tw_3_32 tw_1_18 mT_X0_foodLasts)
theorem gX11_patch_X11_bodyAt : GoodIn wsX11_patch (wsV RX11 78 RX11 yX11_bodyAt wsX11_bodyAt) := ru_gG (ru_gV tw_2_139 tw_2_141 tw_0_0 tw_1_1 mT_X11_bodyAt)
theorem gX11_patch_X11_isPast : GoodIn wsX11_patch (wsV RX11 145 RX11 yX11_isPast wsX11_isPast) := ru_gG (ru_gV tw_3_38 tw_3_40 tw_0_1 tw_1_1 mT_X11_isPast)
theorem gX11_patch_X0_placesKnown : GoodIn wsX11_patch (wsV RX11 150 RX0 yX0_placesKnown wsX0_placesKnown) := ru_gG (ru_gV tw_3_43 tw_3_44 tw_3_45 tw_1_18 mT_X0_placesKnown)
theorem gX11_fix_X11_bodyAt : GoodIn wsX11_fix (wsV RX11 78 RX11 yX11_bodyAt wsX11_bodyAt) := ru_gG (ru_gV tw_2_139 tw_2_141 tw_0_0 tw_1_1 mT_X11_bodyAt)
theorem gX11_fix_X0_narrowBy : GoodIn wsX11_fix (wsV RX11 157 RX0 yX0_narrowBy wsX0_narrowBy) := ru_gG (ru_gV tw_3_74 tw_3_75 tw_3_76 tw_1_18 mT_X0_narrowBy)
theorem gX11_hearer_X11_isCell : GoodIn wsX11_hearer (va_wsS RX11 110 yX11_isCell wsX11_isCell) := ru_gG (ru_gS tw_2_195 tw_2_196 tw_1_1 mT_X11_isCell)
theorem gX11_hearer_X4_addHearer : GoodIn wsX11_hearer (wsV RX11 164 RX4 yX4_addHearer wsX4_addHearer) := ru_gG (ru_gV tw_3_83 tw_3_84 tw_3_85 tw_1_3 mT_X4_addHearer)
theorem gX11_wave_X4_setWave : GoodIn wsX11_wave (wsV RX11 167 RX4 yX4_setWave wsX4_setWave) := ru_gG (ru_gV tw_3_91 tw_3_92 tw_3_93 tw_1_3 mT_X4_setWave)
theorem gX11_call_X11_bodyAt : GoodIn wsX11_call (wsV RX11 78 RX11 yX11_bodyAt wsX11_bodyAt) := ru_gG (ru_gV tw_2_139 tw_2_141 tw_0_0 tw_1_1 mT_X11_bodyAt)
theorem gX11_call_X4_addCall : GoodIn wsX11_call (wsV RX11 174 RX4 yX4_addCall wsX4_addCall) := ru_gG (ru_gV tw_3_99 tw_3_100 tw_3_101 tw_1_3 mT_X4_addCall)
theorem gX11_canHear_X4_hasCall : GoodIn wsX11_canHear (wsV RX11 178 RX4 yX4_hasCall wsX4_hasCall) := ru_gG (ru_gV tw_3_107 tw_3_108 tw_3_109 tw_1_3 mT_X4_hasCall)
theorem gX11_canHear_X11_isPast : GoodIn wsX11_canHear (wsV RX11 145 RX11 yX11_isPast wsX11_isPast) := ru_gG (ru_gV tw_3_38 tw_3_40 tw_0_1 tw_1_1 mT_X11_isPast)
theorem gX11_canHear_X11_bodyAt : GoodIn wsX11_canHear (wsV RX11 78 RX11 yX11_bodyAt wsX11_bodyAt) := ru_gG (ru_gV tw_2_139 tw_2_141 tw_0_0 tw_1_1 mT_X11_bodyAt)
theorem gX11_canHear_X0_placesKnown : GoodIn wsX11_canHear (wsV RX11 150 RX0 yX0_placesKnown wsX0_placesKnown) := ru_gG (ru_gV tw_3_43 tw_3_44 tw_3_45 tw_1_18 mT_X0_placesKnown)
theorem gX11_canHear_X4_hearersOf : GoodIn wsX11_canHear (wsV RX11 188 RX4 yX4_hearersOf wsX4_hearersOf) := ru_gG (ru_gV tw_3_111 tw_3_112 tw_3_113 tw_1_3 mT_X4_hearersOf)
theorem gX11_part_X4_hasCall : GoodIn wsX11_part (wsV RX11 178 RX4 yX4_hasCall wsX4_hasCall) := ru_gG (ru_gV tw_3_107 tw_3_108 tw_3_109 tw_1_3 mT_X4_hasCall)
theorem gX11_part_X4_addPart : GoodIn wsX11_part (wsV RX11 196 RX4 yX4_addPart wsX4_addPart) := ru_gG (ru_gV tw_3_133 tw_3_134 tw_3_135 tw_1_3 mT_X4_addPart)
theorem gX11_word_X4_hasCall : GoodIn wsX11_word (wsV RX11 178 RX4 yX4_hasCall wsX4_hasCall) := ru_gG (ru_gV tw_3_107 tw_3_108 tw_3_109 tw_1_3 mT_X4_hasCall)
theorem gX11_word_X4_putTogether : GoodIn wsX11_word (wsV RX11 200 RX4 yX4_putTogether wsX4_putTogether) := ru_gG (ru_gV tw_3_141 tw_3_142 tw_3_143 tw_1_3 mT_X4_putTogether)
theorem gX11_isTrue_X4_isAsSent : GoodIn wsX11_isTrue (wsV RX11 204 RX4 yX4_isAsSent wsX4_isAsSent) := ru_gG (ru_gV tw_3_153 tw_3_154 tw_3_155 tw_1_3 mT_X4_isAsSent)
theorem gX11_lane_X6_addLane : GoodIn wsX11_lane (wsV RX11 210 RX6 yX6_addLane wsX6_addLane) := ru_gG (ru_gV tw_3_161 tw_3_162 tw_3_163 tw_1_4 mT_X6_addLane)
theorem gX11_flown_X11_bodyAt : GoodIn wsX11_flown (wsV RX11 78 RX11 yX11_bodyAt wsX11_bodyAt) := ru_gG (ru_gV tw_2_139 tw_2_141 tw_0_0 tw_1_1 mT_X11_bodyAt)
theorem gX11_flown_X11_seekerAt : GoodIn wsX11_flown (wsV RX11 214 RX11 yX11_seekerAt wsX11_seekerAt) := ru_gG (ru_gV tw_3_169 tw_3_171 tw_0_3 tw_1_1 mT_X11_seekerAt)
theorem gX11_flown_X0_addFlown : GoodIn wsX11_flown (wsV RX11 220 RX0 yX0_addFlown wsX0_addFlown) := ru_gG (ru_gV tw_3_179 tw_3_180 tw_3_181 tw_1_18 mT_X0_addFlown)
theorem gX11_share_X11_bodyAt : GoodIn wsX11_share (wsV RX11 78 RX11 yX11_bodyAt wsX11_bodyAt) := ru_gG (ru_gV tw_2_139 tw_2_141 tw_0_0 tw_1_1 mT_X11_bodyAt)
theorem gX11_share_X11_isCell : GoodIn wsX11_share (va_wsS RX11 110 yX11_isCell wsX11_isCell) := ru_gG (ru_gS tw_2_195 tw_2_196 tw_1_1 mT_X11_isCell)
theorem gX11_share_X0_placesNow : GoodIn wsX11_share (wsV RX11 223 RX0 yX0_placesNow wsX0_placesNow) := ru_gG (ru_gV tw_3_187 tw_3_48 tw_3_49 tw_1_18 mT_X0_placesNow)
theorem gX11_share_X6_weigh : GoodIn wsX11_share (wsV RX11 227 RX6 yX6_weigh wsX6_weigh) := ru_gG (ru_gV tw_3_188 tw_3_189 tw_3_190 tw_1_4 mT_X6_weigh)
theorem gX11_share_X6_shareOf : GoodIn wsX11_share (wsV RX11 231 RX6 yX6_shareOf wsX6_shareOf) := ru_gG (ru_gV tw_3_202 tw_3_203 tw_3_204 tw_1_4 mT_X6_shareOf)
theorem gX11_parted_X11_bodyAt : GoodIn wsX11_parted (wsV RX11 78 RX11 yX11_bodyAt wsX11_bodyAt) := ru_gG (ru_gV tw_2_139 tw_2_141 tw_0_0 tw_1_1 mT_X11_bodyAt)
theorem gX11_parted_X11_areSeekers : GoodIn wsX11_parted (wsV RX11 235 RX11 yX11_areSeekers wsX11_areSeekers) := ru_gG (ru_gV tw_3_213 tw_3_215 tw_0_5 tw_1_1 mT_X11_areSeekers)
theorem gX11_parted_J6_bitCount_0f7a4 : GoodIn wsX11_parted (va_wsS RX11 238 yJ6_bitCount_0f7a4 wsJ6_bitCount_0f7a4) := ru_gG (ru_gS tw_3_217 tw_3_218 tw_1_19 mT_J6_bitCount_0f7a4)
theorem gX11_parted_X0_placesNow : GoodIn wsX11_parted (wsV RX11 223 RX0 yX0_placesNow wsX0_placesNow) := ru_gG (ru_gV tw_3_187 tw_3_48 tw_3_49 tw_1_18 mT_X0_placesNow)
theorem gX11_parted_X6_weigh : GoodIn wsX11_parted (wsV RX11 227 RX6 yX6_weigh wsX6_weigh) := ru_gG (ru_gV tw_3_188 tw_3_189 tw_3_190 tw_1_4 mT_X6_weigh)
theorem gX11_parted_X6_choose : GoodIn wsX11_parted (wsV RX11 243 RX6 yX6_choose wsX6_choose) := ru_gG (ru_gV tw_3_223 tw_3_224 tw_3_225 tw_1_4 mT_X6_choose)
theorem gX11_parted_X6_thousandths : GoodIn wsX11_parted (wsV RX11 247 RX6 yX6_thousandths wsX6_thousandths) := ru_gG (ru_gV tw_3_239 tw_4_0 tw_4_1 tw_1_4 mT_X6_thousandths)
def rt_sh (x k : Int32) : Int32 := (x.toUInt32 >>> (k.toUInt32 &&& Int32.toUInt32 31)).toInt32
def rt_bc (x : Int32) : Int32 :=
  let a := x - (rt_sh x 1 &&& 1431655765)
  let b := (a &&& 858993459) + (rt_sh a 2 &&& 858993459)
  let c := (b + rt_sh b 4) &&& 252645135
  let d := c + rt_sh c 8
  let e := d + rt_sh d 16
  e &&& 63
theorem fx_ldcwI {p : Program} {l : Launch} {e : Env} {R : Room} {s : State} {m : MethodId} {args : Array Value} {below : List Frame} {meth : Method} {c : Code} {H : Heap} {locs : List Loc} {cells slots : Nat} {Q : State → Prop} {cc : ByteArray} {pc : Nat} {ls : Array Slot} {rest : List Value} (hexec : p.tables.exec = Jvm.exec) (hb : c.code = cc) {own : String} {index : Nat} {v : Int32} (hown : s.vm.findClass own = some m.cls) (hconst : (Cond.constant own index v).before args s = true) (hdg : decode cc pc = .ok (.ldc_w index, 3))
    (k : W p l e R s m args below meth c H locs cells slots Q (F0 m (pc + 3) ls (.int v :: rest))) : W p l e R s m args below meth c H locs cells slots Q (F0 m pc ls rest) := by
  intro T hT X
  obtain ⟨t, a, b⟩ := k T hT X
  exact ⟨t, va_ldcwI X hexec hown hconst (g := F0 m pc ls rest) rfl (by rw [hb]; exact hdg) t a, b⟩
theorem fx_ldcI {p : Program} {l : Launch} {e : Env} {R : Room} {s : State} {m : MethodId} {args : Array Value} {below : List Frame} {meth : Method} {c : Code} {H : Heap} {locs : List Loc} {cells slots : Nat} {Q : State → Prop} {cc : ByteArray} {pc : Nat} {ls : Array Slot} {rest : List Value} (hexec : p.tables.exec = Jvm.exec) (hb : c.code = cc) {own : String} {index : Nat} {v : Int32} (hown : s.vm.findClass own = some m.cls) (hconst : (Cond.constant own index v).before args s = true) (hdg : decode cc pc = .ok (.ldc index, 2))
    (k : W p l e R s m args below meth c H locs cells slots Q (F0 m (pc + 2) ls (.int v :: rest))) : W p l e R s m args below meth c H locs cells slots Q (F0 m pc ls rest) :=
  W.ldc (g := F0 m pc ls rest) hexec hb hown hconst rfl hdg k
theorem fm_I.bd {nb : Nat} {ad : Nat → Nat → Nat} {M : fm_M} (hI : fm_I nb ad M) {a k j : Nat} {lo up : Int} (h : fm_b a j = (lo, up)) : lo ≤ (M.1 a k j).toInt ∧ (M.1 a k j).toInt ≤ up := by
  have h2 := hI.1 a k j
  rw [h] at h2
  exact h2
set_option maxHeartbeats 400000 in
set_option maxRecDepth 20000 in
theorem fc_J6_bitCount_0f7a4 (l : Launch) (p0 : Int32) : Met l yJ6_bitCount_0f7a4 wsJ6_bitCount_0f7a4 ({ frames := 0, cells := 0, slots := 0, locals := 0 }) (va_Pc [.int p0] (fun _ => True)) (vp_Si (fun r : Int32 => (r = rt_bc p0))) 0 0 (fun _ => False) := by
  refine Met.ofW (cc := cJ6_bitCount_0f7a4) (maxL := 1) (ret := (some .int)) (by decide) rfl ?_
  intro p e s m args below meth c s₁ B hml hv
  obtain ⟨rfl, _⟩ := hv
  have hx := B.exec
  have hb := B.bytes
  have hr := B.returns
  have hts := atoms_spec (ws := wsJ6_bitCount_0f7a4) B.pre
  have hown : s.vm.findClass RJ6 = some m.cls := findClass_of_methodNamed B.named
  have hl := lv_entry ([.int p0]) (n := 1) (Nat.le_of_ble_eq_true rfl)
  rw [lg_entry_eq]
  generalize (lg_sl ([.int p0]) ++ List.replicate (1 - (lg_sl ([.int p0])).length) Slot.unset).toArray = ls at hl ⊢
  have hl : lv_has ls 1 [(0, .int p0)] := hl
  refine lv_iload_n hx hb dJ6_bitCount_0f7a4_0 rfl (lv_at hl 0 rfl) ?_
  refine lv_iload_n hx hb dJ6_bitCount_0f7a4_1 rfl (lv_at hl 0 rfl) ?_
  refine lv_iconst (v := 1) hx hb dJ6_bitCount_0f7a4_2 (by decide) ?_
  refine lv_iushr (v := (p0.toUInt32 >>> ((1 : Int32).toUInt32 &&& Int32.toUInt32 31)).toInt32) hx hb dJ6_bitCount_0f7a4_3 rfl ?_
  refine lv_topi (fun y1 ey1 => ?_)
  refine fx_ldcwI (v := 1431655765) hx hb hown (hts (.constant RJ6 265 (1431655765)) (by decide +kernel)) dJ6_bitCount_0f7a4_4 ?_
  refine lv_iand hx hb dJ6_bitCount_0f7a4_7 ?_
  refine lv_topi (fun y2 ey2 => ?_)
  refine fx_isubU hx hb dJ6_bitCount_0f7a4_8 (fun y3 ey3 => ?_)
  refine lv_istore_n (lv' := [(0, .int y3)]) hx hb dJ6_bitCount_0f7a4_9 rfl hl (by decide) rfl (fun ls hl => ?_)
  refine lv_iload_n hx hb dJ6_bitCount_0f7a4_10 rfl (lv_at hl 0 rfl) ?_
  refine fx_ldcwI (v := 858993459) hx hb hown (hts (.constant RJ6 266 (858993459)) (by decide +kernel)) dJ6_bitCount_0f7a4_11 ?_
  refine lv_iand hx hb dJ6_bitCount_0f7a4_14 ?_
  refine lv_topi (fun y4 ey4 => ?_)
  refine lv_iload_n hx hb dJ6_bitCount_0f7a4_15 rfl (lv_at hl 0 rfl) ?_
  refine lv_iconst (v := 2) hx hb dJ6_bitCount_0f7a4_16 (by decide) ?_
  refine lv_iushr (v := (y3.toUInt32 >>> ((2 : Int32).toUInt32 &&& Int32.toUInt32 31)).toInt32) hx hb dJ6_bitCount_0f7a4_17 rfl ?_
  refine lv_topi (fun y5 ey5 => ?_)
  refine fx_ldcwI (v := 858993459) hx hb hown (hts (.constant RJ6 266 (858993459)) (by decide +kernel)) dJ6_bitCount_0f7a4_18 ?_
  refine lv_iand hx hb dJ6_bitCount_0f7a4_21 ?_
  refine lv_topi (fun y6 ey6 => ?_)
  refine fx_iaddU hx hb dJ6_bitCount_0f7a4_22 (fun y7 ey7 => ?_)
  refine lv_istore_n (lv' := [(0, .int y7)]) hx hb dJ6_bitCount_0f7a4_23 rfl hl (by decide) rfl (fun ls hl => ?_)
  refine lv_iload_n hx hb dJ6_bitCount_0f7a4_24 rfl (lv_at hl 0 rfl) ?_
  refine lv_iload_n hx hb dJ6_bitCount_0f7a4_25 rfl (lv_at hl 0 rfl) ?_
  refine lv_iconst (v := 4) hx hb dJ6_bitCount_0f7a4_26 (by decide) ?_
  refine lv_iushr (v := (y7.toUInt32 >>> ((4 : Int32).toUInt32 &&& Int32.toUInt32 31)).toInt32) hx hb dJ6_bitCount_0f7a4_27 rfl ?_
  refine lv_topi (fun y8 ey8 => ?_)
  refine fx_iaddU hx hb dJ6_bitCount_0f7a4_28 (fun y9 ey9 => ?_)
  refine fx_ldcwI (v := 252645135) hx hb hown (hts (.constant RJ6 267 (252645135)) (by decide +kernel)) dJ6_bitCount_0f7a4_29 ?_
  refine lv_iand hx hb dJ6_bitCount_0f7a4_32 ?_
  refine lv_topi (fun y10 ey10 => ?_)
  refine lv_istore_n (lv' := [(0, .int y10)]) hx hb dJ6_bitCount_0f7a4_33 rfl hl (by decide) rfl (fun ls hl => ?_)
  refine lv_iload_n hx hb dJ6_bitCount_0f7a4_34 rfl (lv_at hl 0 rfl) ?_
  refine lv_iload_n hx hb dJ6_bitCount_0f7a4_35 rfl (lv_at hl 0 rfl) ?_
  refine lv_bipush (v := 8) hx hb dJ6_bitCount_0f7a4_36 (by decide) ?_
  refine lv_iushr (v := (y10.toUInt32 >>> ((8 : Int32).toUInt32 &&& Int32.toUInt32 31)).toInt32) hx hb dJ6_bitCount_0f7a4_38 rfl ?_
  refine lv_topi (fun y11 ey11 => ?_)
  refine fx_iaddU hx hb dJ6_bitCount_0f7a4_39 (fun y12 ey12 => ?_)
  refine lv_istore_n (lv' := [(0, .int y12)]) hx hb dJ6_bitCount_0f7a4_40 rfl hl (by decide) rfl (fun ls hl => ?_)
  refine lv_iload_n hx hb dJ6_bitCount_0f7a4_41 rfl (lv_at hl 0 rfl) ?_
  refine lv_iload_n hx hb dJ6_bitCount_0f7a4_42 rfl (lv_at hl 0 rfl) ?_
  refine lv_bipush (v := 16) hx hb dJ6_bitCount_0f7a4_43 (by decide) ?_
  refine lv_iushr (v := (y12.toUInt32 >>> ((16 : Int32).toUInt32 &&& Int32.toUInt32 31)).toInt32) hx hb dJ6_bitCount_0f7a4_45 rfl ?_
  refine lv_topi (fun y13 ey13 => ?_)
  refine fx_iaddU hx hb dJ6_bitCount_0f7a4_46 (fun y14 ey14 => ?_)
  refine lv_istore_n (lv' := [(0, .int y14)]) hx hb dJ6_bitCount_0f7a4_47 rfl hl (by decide) rfl (fun ls hl => ?_)
  refine lv_iload_n hx hb dJ6_bitCount_0f7a4_48 rfl (lv_at hl 0 rfl) ?_
  refine lv_bipush (v := 63) hx hb dJ6_bitCount_0f7a4_49 (by decide) ?_
  refine lv_iand hx hb dJ6_bitCount_0f7a4_51 ?_
  refine lv_topi (fun y15 ey15 => ?_)
  exact W.iret (v := y15) hx hb hr (fun t ht hW => ⟨y15, rfl, (by subst_vars; rfl), ht⟩) (fun _ h => absurd h List.not_mem_nil) dJ6_bitCount_0f7a4_52
set_option maxHeartbeats 400000 in
set_option maxRecDepth 20000 in
theorem fc_X11_bodyAt (l : Launch) (D : va_G) (ad : Nat → Nat → Nat) (C : Nat → Nat → ClassId) (nb : Nat) (M : fm_M) (hI : fm_I nb ad M) (p0 : Int32) : Met l yX11_bodyAt wsX11_bodyAt ({ frames := 0, cells := 0, slots := 0, locals := 0 }) (va_Pc [.ref (ad 0 0), .int p0] (fm_P D ad C nb M)) (va_Sq (fun r : Option Nat => ((r = none ∧ ¬ (0 ≤ p0.toInt ∧ p0.toInt < nb)) ∨ (0 ≤ p0.toInt ∧ p0.toInt < nb ∧ r = some (ad 50 p0.toNatClampNeg))))) 0 0 (fun _ => False) := by
  refine Met.ofW (cc := cX11_bodyAt) (maxL := 2) (ret := (some (.object "RedTent$Body"))) (by decide) rfl ?_
  intro p e s m args below meth c s₁ B hml hv
  obtain ⟨rfl, hw, hc⟩ := hv
  have hx := B.exec
  have hb := B.bytes
  have hr := B.returns
  have hts := atoms_spec (ws := wsX11_bodyAt) B.pre
  have hown : s.vm.findClass RX11 = some m.cls := findClass_of_methodNamed B.named
  have hinX11 : ∀ w ∈ u_ws RX11 TX11 13, w ∈ wsX11_bodyAt := fun w h => List.mem_cons_of_mem _ (iT_X11 w h)
  have hS : va_S (fm_A nb ad) s.heap s.heap [] := va_S.rf
  have hl := lv_entry ([.ref (ad 0 0), .int p0]) (n := 2) (Nat.le_of_ble_eq_true rfl)
  rw [lg_entry_eq]
  generalize (lg_sl ([.ref (ad 0 0), .int p0]) ++ List.replicate (2 - (lg_sl ([.ref (ad 0 0), .int p0])).length) Slot.unset).toArray = ls at hl ⊢
  have hl : lv_has ls 2 [(0, .ref (ad 0 0)), (1, .int p0)] := hl
  refine lv_iload_n hx hb dX11_bodyAt_0 rfl (lv_at hl 1 rfl) ?_
  refine fx_if_lt (tgt := 30) hx hb dX11_bodyAt_1 (by decide) rfl (fun c1 => ?_) (fun c1 => ?_)
  · refine lv_null hx hb dX11_bodyAt_30 ?_
    exact W.aret (v := .null) hx hb hr (Or.inl ⟨_, rfl⟩) (Or.inl rfl) (fun t ht hW => ⟨none, rfl, Or.inl ⟨rfl, by omega⟩, ht⟩) (fun _ h => absurd h List.not_mem_nil) dX11_bodyAt_31
  · refine lv_iload_n hx hb dX11_bodyAt_4 rfl (lv_at hl 1 rfl) ?_
    refine lv_aload_n hx hb dX11_bodyAt_5 rfl (lv_at hl 0 rfl) ?_
    refine fm_getI (a := 0) (j := 10) (T := TX11) (N := 13) hx hb hts hinX11 hown hc hw hI kl_0 sh_0 rfl (by decide) rfl bd_0_10 (hts (.fieldLink RX11 75 "RedTent" "bodyCount" "I") (List.mem_cons_of_mem _ tw_2_105)) (fun _ h9 => h9) dX11_bodyAt_6 (fun x2 ex2 bx2 => ?_)
    have nx2 : x2.toInt = nb := by rw [ex2]; exact hI.2.2.2.2.2.2.1
    have nnx2 : nb ≤ 12 := hI.2.2.2.2.2.2.2
    refine fx_icmp_ge (tgt := 30) hx hb dX11_bodyAt_9 (by decide) rfl rfl (fun c3 => ?_) (fun c3 => ?_)
    · refine lv_null hx hb dX11_bodyAt_30 ?_
      exact W.aret (v := .null) hx hb hr (Or.inl ⟨_, rfl⟩) (Or.inl rfl) (fun t ht hW => ⟨none, rfl, Or.inl ⟨rfl, by omega⟩, ht⟩) (fun _ h => absurd h List.not_mem_nil) dX11_bodyAt_31
    · refine lv_iload_n hx hb dX11_bodyAt_12 rfl (lv_at hl 1 rfl) ?_
      refine lv_aload_n hx hb dX11_bodyAt_13 rfl (lv_at hl 0 rfl) ?_
      refine fm_getG (a := 0) (j := 1) (T := TX11) (N := 13) hx hb hts hinX11 hown hc hw kl_0 sh_0 rfl (by decide) rfl (hI.to kl_0 tg_0_1) (hts (.fieldLink RX11 18 "RedTent" "bodies" "[LRedTent$Body;") (List.mem_cons_of_mem _ tw_2_96)) (fun _ h9 => h9) dX11_bodyAt_14 ?_
      refine fm_alen (a := 4) (v := 12) hx hb hc hw kl_4 sh_4 (by decide) (by decide) dX11_bodyAt_17 ?_
      refine fx_icmp_ge (tgt := 30) hx hb dX11_bodyAt_18 (by decide) rfl zk_12 (fun c4 => by exfalso; omega) (fun c4 => ?_)
      refine lv_aload_n hx hb dX11_bodyAt_21 rfl (lv_at hl 0 rfl) ?_
      refine fm_getG (a := 0) (j := 1) (T := TX11) (N := 13) hx hb hts hinX11 hown hc hw kl_0 sh_0 rfl (by decide) rfl (hI.to kl_0 tg_0_1) (hts (.fieldLink RX11 18 "RedTent" "bodies" "[LRedTent$Body;") (List.mem_cons_of_mem _ tw_2_96)) (fun _ h9 => h9) dX11_bodyAt_22 ?_
      refine lv_iload_n hx hb dX11_bodyAt_25 rfl (lv_at hl 1 rfl) ?_
      have hk5 : p0.toNatClampNeg < nb := zi_cln (by omega)
      refine fm_aald (a := 4) (i := p0) hx hb hc hw kl_4 sh_4 ty_4 (by omega) dX11_bodyAt_26 ((hI.2.2.1 _).trans (if_pos hk5)) ?_
      refine lv_goto (tgt := 31) hx hb dX11_bodyAt_27 (by decide) ?_
      exact W.aret (v := .ref (ad 50 p0.toNatClampNeg)) hx hb hr (Or.inl ⟨_, rfl⟩) (Or.inr ⟨_, rfl⟩) (fun t ht hW => ⟨some (ad 50 p0.toNatClampNeg), rfl, Or.inr ⟨by omega, by omega, rfl⟩, ht⟩) (fun _ h => absurd h List.not_mem_nil) dX11_bodyAt_31
set_option maxHeartbeats 400000 in
set_option maxRecDepth 20000 in
theorem fc_X11_seekerAt (l : Launch) (D : va_G) (ad : Nat → Nat → Nat) (C : Nat → Nat → ClassId) (nb : Nat) (M : fm_M) (hI : fm_I nb ad M) (p0 : Int32) : Met l yX11_seekerAt wsX11_seekerAt ({ frames := 1, cells := 0, slots := 0, locals := 23 }) (va_Pc [.ref (ad 0 0), .int p0] (fm_P D ad C nb M)) (va_Sq (fun r : Option Nat => ((r = none ∧ ¬ (0 ≤ p0.toInt ∧ p0.toInt < nb ∧ ((M.1 50 p0.toNatClampNeg 0).toInt = 2 ∨ (M.1 50 p0.toNatClampNeg 0).toInt = 5))) ∨ (0 ≤ p0.toInt ∧ p0.toInt < nb ∧ ((M.1 50 p0.toNatClampNeg 0).toInt = 2 ∨ (M.1 50 p0.toNatClampNeg 0).toInt = 5) ∧ r = some (ad 50 p0.toNatClampNeg))))) 0 0 (fun _ => False) := by
  refine Met.ofW (cc := cX11_seekerAt) (maxL := 3) (ret := (some (.object "RedTent$Body"))) (by decide) rfl ?_
  intro p e s m args below meth c s₁ B hml hv
  obtain ⟨rfl, hw, hc⟩ := hv
  have hx := B.exec
  have hb := B.bytes
  have hr := B.returns
  have hts := atoms_spec (ws := wsX11_seekerAt) B.pre
  have hown : s.vm.findClass RX11 = some m.cls := findClass_of_methodNamed B.named
  have hS : va_S (fm_A nb ad) s.heap s.heap [] := va_S.rf
  have hl := lv_entry ([.ref (ad 0 0), .int p0]) (n := 3) (Nat.le_of_ble_eq_true rfl)
  rw [lg_entry_eq]
  generalize (lg_sl ([.ref (ad 0 0), .int p0]) ++ List.replicate (3 - (lg_sl ([.ref (ad 0 0), .int p0])).length) Slot.unset).toArray = ls at hl ⊢
  have hl : lv_has ls 3 [(0, .ref (ad 0 0)), (1, .int p0)] := hl
  refine lv_aload_n hx hb dX11_seekerAt_0 rfl (lv_at hl 0 rfl) ?_
  refine lv_iload_n hx hb dX11_seekerAt_1 rfl (lv_at hl 1 rfl) ?_
  refine va_csq (va_Run.run (va_runV (As := [.int p0]) (rest := []) ⟨hx, hb, hml, hown, hts⟩ (fc_X11_bodyAt l D ad C nb M hI p0) (cwV 1 hts gX11_seekerAt_X11_bodyAt rfl rfl rfl (by decide +kernel) ⟨Nat.le_of_ble_eq_true rfl, Nat.le_of_ble_eq_true rfl⟩) (fm_preV hc hw hS kl_0 sh_0 rfl) rfl rfl hl.1 rfl (lv_room (Nat.le_of_ble_eq_true rfl)) dX11_seekerAt_2 ⟨by decide +kernel, by decide +kernel⟩)) (fun r1 hr1 => ?_)
  rcases hr1 with ⟨rfl, hr1n⟩ | ⟨hr1l, hr1u, rfl⟩
  · refine lv_astore_nN (lv' := [(2, .null), (0, .ref (ad 0 0)), (1, .int p0)]) hx hb dX11_seekerAt_5 rfl hl (by decide) rfl (fun ls hl => ?_)
    refine lv_aload_nN hx hb dX11_seekerAt_6 rfl (lv_at hl 0 rfl) ?_
    refine lv_ifnullN (tgt := 22) hx hb dX11_seekerAt_7 (by decide) ?_
    refine lv_null hx hb dX11_seekerAt_22 ?_
    exact W.aret (v := .null) hx hb hr (Or.inl ⟨_, rfl⟩) (Or.inl rfl) (fun t ht hW => ⟨none, rfl, Or.inl ⟨rfl, by omega⟩, ht⟩) (fun _ h => absurd h List.not_mem_nil) dX11_seekerAt_23
  · have khr1 : p0.toNatClampNeg < nb := zi_cln ⟨hr1l, hr1u⟩
    have nhr1 : nb ≤ 12 := hI.2.2.2.2.2.2.2
    refine lv_astore_n (lv' := [(2, .ref (ad 50 p0.toNatClampNeg)), (0, .ref (ad 0 0)), (1, .int p0)]) hx hb dX11_seekerAt_5 rfl hl (by decide) rfl (fun ls hl => ?_)
    refine lv_aload_n hx hb dX11_seekerAt_6 rfl (lv_at hl 0 rfl) ?_
    refine lv_ifnull hx hb dX11_seekerAt_7 ?_
    refine lv_aload_n hx hb dX11_seekerAt_10 rfl (lv_at hl 0 rfl) ?_
    refine lv_iconst (v := 2) hx hb dX11_seekerAt_11 (by decide) ?_
    have zz2 := zk_2
    refine vp_callSi (va_Run.run (va_runV (As := [.int 2]) (rest := []) ⟨hx, hb, hml, hown, hts⟩ (fc_X0_isUnder l D ad C nb M hI p0.toNatClampNeg khr1 2) (cwV 1 hts gX11_seekerAt_X0_isUnder rfl rfl rfl (by decide +kernel) ⟨Nat.le_of_ble_eq_true rfl, Nat.le_of_ble_eq_true rfl⟩) (fm_preV hc hw hS (kl_50 khr1) sh_50 rfl) rfl rfl hl.1 rfl (lv_room (Nat.le_of_ble_eq_true rfl)) dX11_seekerAt_12 ⟨by decide +kernel, by decide +kernel⟩)) (fun r3 hr3 => ?_)
    have bqq4 := hI.bd (k := p0.toNatClampNeg) bd_50_0
    rcases hr3 with ⟨rfl, c5⟩ | ⟨rfl, c5⟩
    · refine fx_if_eq (tgt := 22) hx hb dX11_seekerAt_15 (by decide) zk_1 (fun c6 => by exfalso; omega) (fun c6 => ?_)
      refine lv_aload_n hx hb dX11_seekerAt_18 rfl (lv_at hl 0 rfl) ?_
      refine lv_goto (tgt := 23) hx hb dX11_seekerAt_19 (by decide) ?_
      exact W.aret (v := .ref (ad 50 p0.toNatClampNeg)) hx hb hr (Or.inl ⟨_, rfl⟩) (Or.inr ⟨_, rfl⟩) (fun t ht hW => ⟨some (ad 50 p0.toNatClampNeg), rfl, Or.inr ⟨by omega, by omega, by omega, rfl⟩, ht⟩) (fun _ h => absurd h List.not_mem_nil) dX11_seekerAt_23
    · refine fx_if_eq (tgt := 22) hx hb dX11_seekerAt_15 (by decide) zk_0 (fun c7 => ?_) (fun c7 => by exfalso; omega)
      refine lv_null hx hb dX11_seekerAt_22 ?_
      exact W.aret (v := .null) hx hb hr (Or.inl ⟨_, rfl⟩) (Or.inl rfl) (fun t ht hW => ⟨none, rfl, Or.inl ⟨rfl, by omega⟩, ht⟩) (fun _ h => absurd h List.not_mem_nil) dX11_seekerAt_23
set_option maxHeartbeats 400000 in
set_option maxRecDepth 20000 in
theorem fc_X11_sheetAt (l : Launch) (D : va_G) (ad : Nat → Nat → Nat) (C : Nat → Nat → ClassId) (nb : Nat) (M : fm_M) (hI : fm_I nb ad M) (p0 : Int32) : Met l yX11_sheetAt wsX11_sheetAt ({ frames := 0, cells := 0, slots := 0, locals := 0 }) (va_Pc [.ref (ad 0 0), .int p0] (fm_P D ad C nb M)) (va_Sq (fun r : Option Nat => ((r = none ∧ ¬ (0 ≤ p0.toInt ∧ p0.toInt < 4)) ∨ (0 ≤ p0.toInt ∧ p0.toInt < 4 ∧ r = some (ad 46 p0.toNatClampNeg))))) 0 0 (fun _ => False) := by
  refine Met.ofW (cc := cX11_sheetAt) (maxL := 2) (ret := (some (.object "RedTent$Sheet"))) (by decide) rfl ?_
  intro p e s m args below meth c s₁ B hml hv
  obtain ⟨rfl, hw, hc⟩ := hv
  have hx := B.exec
  have hb := B.bytes
  have hr := B.returns
  have hts := atoms_spec (ws := wsX11_sheetAt) B.pre
  have hown : s.vm.findClass RX11 = some m.cls := findClass_of_methodNamed B.named
  have hinX11 : ∀ w ∈ u_ws RX11 TX11 13, w ∈ wsX11_sheetAt := fun w h => List.mem_cons_of_mem _ (iT_X11 w h)
  have hS : va_S (fm_A nb ad) s.heap s.heap [] := va_S.rf
  have hl := lv_entry ([.ref (ad 0 0), .int p0]) (n := 2) (Nat.le_of_ble_eq_true rfl)
  rw [lg_entry_eq]
  generalize (lg_sl ([.ref (ad 0 0), .int p0]) ++ List.replicate (2 - (lg_sl ([.ref (ad 0 0), .int p0])).length) Slot.unset).toArray = ls at hl ⊢
  have hl : lv_has ls 2 [(0, .ref (ad 0 0)), (1, .int p0)] := hl
  refine lv_iload_n hx hb dX11_sheetAt_0 rfl (lv_at hl 1 rfl) ?_
  refine fx_if_lt (tgt := 22) hx hb dX11_sheetAt_1 (by decide) rfl (fun c1 => ?_) (fun c1 => ?_)
  · refine lv_null hx hb dX11_sheetAt_22 ?_
    exact W.aret (v := .null) hx hb hr (Or.inl ⟨_, rfl⟩) (Or.inl rfl) (fun t ht hW => ⟨none, rfl, Or.inl ⟨rfl, by omega⟩, ht⟩) (fun _ h => absurd h List.not_mem_nil) dX11_sheetAt_23
  · refine lv_iload_n hx hb dX11_sheetAt_4 rfl (lv_at hl 1 rfl) ?_
    refine lv_aload_n hx hb dX11_sheetAt_5 rfl (lv_at hl 0 rfl) ?_
    refine fm_getG (a := 0) (j := 8) (T := TX11) (N := 13) hx hb hts hinX11 hown hc hw kl_0 sh_0 rfl (by decide) rfl (hI.to kl_0 tg_0_8) (hts (.fieldLink RX11 66 "RedTent" "sheets" "[LRedTent$Sheet;") (List.mem_cons_of_mem _ tw_2_103)) (fun _ h9 => h9) dX11_sheetAt_6 ?_
    refine fm_alen (a := 45) (v := 4) hx hb hc hw kl_45 sh_45 (by decide) (by decide) dX11_sheetAt_9 ?_
    refine fx_icmp_ge (tgt := 22) hx hb dX11_sheetAt_10 (by decide) rfl zk_4 (fun c2 => ?_) (fun c2 => ?_)
    · refine lv_null hx hb dX11_sheetAt_22 ?_
      exact W.aret (v := .null) hx hb hr (Or.inl ⟨_, rfl⟩) (Or.inl rfl) (fun t ht hW => ⟨none, rfl, Or.inl ⟨rfl, by omega⟩, ht⟩) (fun _ h => absurd h List.not_mem_nil) dX11_sheetAt_23
    · refine lv_aload_n hx hb dX11_sheetAt_13 rfl (lv_at hl 0 rfl) ?_
      refine fm_getG (a := 0) (j := 8) (T := TX11) (N := 13) hx hb hts hinX11 hown hc hw kl_0 sh_0 rfl (by decide) rfl (hI.to kl_0 tg_0_8) (hts (.fieldLink RX11 66 "RedTent" "sheets" "[LRedTent$Sheet;") (List.mem_cons_of_mem _ tw_2_103)) (fun _ h9 => h9) dX11_sheetAt_14 ?_
      refine lv_iload_n hx hb dX11_sheetAt_17 rfl (lv_at hl 1 rfl) ?_
      have hk3 : p0.toNatClampNeg < 4 := zi_cln (by omega)
      refine fm_aald (a := 45) (i := p0) hx hb hc hw kl_45 sh_45 ty_45 (by omega) dX11_sheetAt_18 (hI.2.2.2.2.2.1 _ hk3) ?_
      refine lv_goto (tgt := 23) hx hb dX11_sheetAt_19 (by decide) ?_
      exact W.aret (v := .ref (ad 46 p0.toNatClampNeg)) hx hb hr (Or.inl ⟨_, rfl⟩) (Or.inr ⟨_, rfl⟩) (fun t ht hW => ⟨some (ad 46 p0.toNatClampNeg), rfl, Or.inr ⟨by omega, by omega, rfl⟩, ht⟩) (fun _ h => absurd h List.not_mem_nil) dX11_sheetAt_23
set_option maxHeartbeats 400000 in
set_option maxRecDepth 20000 in
theorem fc_X11_isPast (l : Launch) (D : va_G) (ad : Nat → Nat → Nat) (C : Nat → Nat → ClassId) (nb : Nat) (M : fm_M) (hI : fm_I nb ad M) (p0 : Int32) : Met l yX11_isPast wsX11_isPast ({ frames := 0, cells := 0, slots := 0, locals := 0 }) (va_Pc [.ref (ad 0 0), .int p0] (fm_P D ad C nb M)) (vp_Si (fun r : Int32 => ((r = 1 ∧ (0 ≤ p0.toInt ∧ p0.toInt ≤ (M.1 0 0 9).toInt)) ∨ (r = 0 ∧ ¬ (0 ≤ p0.toInt ∧ p0.toInt ≤ (M.1 0 0 9).toInt))))) 0 0 (fun _ => False) := by
  refine Met.ofW (cc := cX11_isPast) (maxL := 2) (ret := (some .boolean)) (by decide) rfl ?_
  intro p e s m args below meth c s₁ B hml hv
  obtain ⟨rfl, hw, hc⟩ := hv
  have hx := B.exec
  have hb := B.bytes
  have hr := B.returns
  have hts := atoms_spec (ws := wsX11_isPast) B.pre
  have hown : s.vm.findClass RX11 = some m.cls := findClass_of_methodNamed B.named
  have hinX11 : ∀ w ∈ u_ws RX11 TX11 13, w ∈ wsX11_isPast := fun w h => List.mem_cons_of_mem _ (iT_X11 w h)
  have hS : va_S (fm_A nb ad) s.heap s.heap [] := va_S.rf
  have hl := lv_entry ([.ref (ad 0 0), .int p0]) (n := 2) (Nat.le_of_ble_eq_true rfl)
  rw [lg_entry_eq]
  generalize (lg_sl ([.ref (ad 0 0), .int p0]) ++ List.replicate (2 - (lg_sl ([.ref (ad 0 0), .int p0])).length) Slot.unset).toArray = ls at hl ⊢
  have hl : lv_has ls 2 [(0, .ref (ad 0 0)), (1, .int p0)] := hl
  refine lv_iload_n hx hb dX11_isPast_0 rfl (lv_at hl 1 rfl) ?_
  refine fx_if_lt (tgt := 16) hx hb dX11_isPast_1 (by decide) rfl (fun c1 => ?_) (fun c1 => ?_)
  · refine lv_iconst (v := 0) hx hb dX11_isPast_16 (by decide) ?_
    exact W.zret (v := 0) hx hb hr rfl (fun t ht hW => ⟨0, rfl, Or.inr ⟨rfl, by omega⟩, ht⟩) (fun _ h => absurd h List.not_mem_nil) dX11_isPast_17
  · refine lv_iload_n hx hb dX11_isPast_4 rfl (lv_at hl 1 rfl) ?_
    refine lv_aload_n hx hb dX11_isPast_5 rfl (lv_at hl 0 rfl) ?_
    refine fm_getI (a := 0) (j := 9) (T := TX11) (N := 13) hx hb hts hinX11 hown hc hw hI kl_0 sh_0 rfl (by decide) rfl bd_0_9 (hts (.fieldLink RX11 71 "RedTent" "now" "I") (List.mem_cons_of_mem _ tw_2_104)) (fun _ h9 => h9) dX11_isPast_6 (fun x2 ex2 bx2 => ?_)
    refine fx_icmp_gt (tgt := 16) hx hb dX11_isPast_9 (by decide) rfl rfl (fun c3 => ?_) (fun c3 => ?_)
    · refine lv_iconst (v := 0) hx hb dX11_isPast_16 (by decide) ?_
      have qx2 : x2.toInt = (M.1 0 0 9).toInt := by rw [ex2]
      exact W.zret (v := 0) hx hb hr rfl (fun t ht hW => ⟨0, rfl, Or.inr ⟨rfl, by omega⟩, ht⟩) (fun _ h => absurd h List.not_mem_nil) dX11_isPast_17
    · refine lv_iconst (v := 1) hx hb dX11_isPast_12 (by decide) ?_
      refine lv_goto (tgt := 17) hx hb dX11_isPast_13 (by decide) ?_
      have qx2 : x2.toInt = (M.1 0 0 9).toInt := by rw [ex2]
      exact W.zret (v := 1) hx hb hr rfl (fun t ht hW => ⟨1, rfl, Or.inl ⟨rfl, by omega⟩, ht⟩) (fun _ h => absurd h List.not_mem_nil) dX11_isPast_17
set_option maxHeartbeats 400000 in
set_option maxRecDepth 20000 in
theorem fc_X11_areSeekers (l : Launch) (D : va_G) (ad : Nat → Nat → Nat) (C : Nat → Nat → ClassId) (nb : Nat) (M : fm_M) (hI : fm_I nb ad M) (p0 : Int32) : Met l yX11_areSeekers wsX11_areSeekers ({ frames := 2, cells := 0, slots := 0, locals := 45 }) (va_Pc [.ref (ad 0 0), .int p0] (fm_P D ad C nb M)) (vp_Si (fun r : Int32 => ((r = 1 ∧ ((rt_bc p0).toInt ≤ 3)) ∨ (r = 0 ∧ True)))) 0 0 (fun _ => False) := by
  refine Met.ofW (cc := cX11_areSeekers) (maxL := 3) (ret := (some .boolean)) (by decide) rfl ?_
  intro p e s m args below meth c s₁ B hml hv
  obtain ⟨rfl, hw, hc⟩ := hv
  have hx := B.exec
  have hb := B.bytes
  have hr := B.returns
  have hts := atoms_spec (ws := wsX11_areSeekers) B.pre
  have hown : s.vm.findClass RX11 = some m.cls := findClass_of_methodNamed B.named
  have hinX11 : ∀ w ∈ u_ws RX11 TX11 13, w ∈ wsX11_areSeekers := fun w h => List.mem_cons_of_mem _ (iT_X11 w h)
  have hS : va_S (fm_A nb ad) s.heap s.heap [] := va_S.rf
  have hl := lv_entry ([.ref (ad 0 0), .int p0]) (n := 3) (Nat.le_of_ble_eq_true rfl)
  rw [lg_entry_eq]
  generalize (lg_sl ([.ref (ad 0 0), .int p0]) ++ List.replicate (3 - (lg_sl ([.ref (ad 0 0), .int p0])).length) Slot.unset).toArray = ls at hl ⊢
  have hl : lv_has ls 3 [(0, .ref (ad 0 0)), (1, .int p0)] := hl
  refine lv_iload_n hx hb dX11_areSeekers_0 rfl (lv_at hl 1 rfl) ?_
  refine fx_if_lt (tgt := 22) hx hb dX11_areSeekers_1 (by decide) rfl (fun c1 => ?_) (fun c1 => ?_)
  · refine lv_iconst (v := 0) hx hb dX11_areSeekers_22 (by decide) ?_
    exact W.zret (v := 0) hx hb hr rfl (fun t ht hW => ⟨0, rfl, Or.inr ⟨rfl, trivial⟩, ht⟩) (fun _ h => absurd h List.not_mem_nil) dX11_areSeekers_23
  · refine lv_iload_n hx hb dX11_areSeekers_4 rfl (lv_at hl 1 rfl) ?_
    refine lv_iconst (v := 1) hx hb dX11_areSeekers_5 (by decide) ?_
    refine lv_aload_n hx hb dX11_areSeekers_6 rfl (lv_at hl 0 rfl) ?_
    refine fm_getI (a := 0) (j := 10) (T := TX11) (N := 13) hx hb hts hinX11 hown hc hw hI kl_0 sh_0 rfl (by decide) rfl bd_0_10 (hts (.fieldLink RX11 75 "RedTent" "bodyCount" "I") (List.mem_cons_of_mem _ tw_2_105)) (fun _ h9 => h9) dX11_areSeekers_7 (fun x2 ex2 bx2 => ?_)
    have nx2 : x2.toInt = nb := by rw [ex2]; exact hI.2.2.2.2.2.2.1
    have nnx2 : nb ≤ 12 := hI.2.2.2.2.2.2.2
    refine lv_ishl hx hb dX11_areSeekers_10 ?_
    refine lv_topi (fun y3 ey3 => ?_)
    refine fx_icmp_ge (tgt := 22) hx hb dX11_areSeekers_11 (by decide) rfl rfl (fun c4 => ?_) (fun c4 => ?_)
    · refine lv_iconst (v := 0) hx hb dX11_areSeekers_22 (by decide) ?_
      exact W.zret (v := 0) hx hb hr rfl (fun t ht hW => ⟨0, rfl, Or.inr ⟨rfl, trivial⟩, ht⟩) (fun _ h => absurd h List.not_mem_nil) dX11_areSeekers_23
    · refine lv_iload_n hx hb dX11_areSeekers_14 rfl (lv_at hl 1 rfl) ?_
      refine vp_callSi (va_Run.run (va_runS (As := [.int p0]) (rest := []) ⟨hx, hb, hml, hown, hts⟩ (fc_J6_bitCount_0f7a4 l p0) (va_cwS 1 hts gX11_areSeekers_J6_bitCount_0f7a4 rfl rfl rfl (by decide +kernel) ⟨Nat.le_of_ble_eq_true rfl, Nat.le_of_ble_eq_true rfl⟩) ⟨fun a U g mk q => q, fun U hU hW => ⟨rfl, trivial⟩⟩ rfl rfl hl.1 rfl (lv_room (Nat.le_of_ble_eq_true rfl)) dX11_areSeekers_15 ⟨by decide +kernel, by decide +kernel⟩)) (fun r5 hr5 => ?_)
      have qr5 : r5.toInt = (rt_bc p0).toInt := by rw [hr5]
      refine lv_iconst (v := 3) hx hb dX11_areSeekers_18 (by decide) ?_
      refine fx_icmp_le (tgt := 24) hx hb dX11_areSeekers_19 (by decide) rfl zk_3 (fun c6 => ?_) (fun c6 => ?_)
      · refine lv_iconst (v := 0) hx hb dX11_areSeekers_24 (by decide) ?_
        refine lv_istore_n (lv' := [(2, .int 0), (0, .ref (ad 0 0)), (1, .int p0)]) hx hb dX11_areSeekers_25 rfl hl (by decide) rfl (fun ls hl => ?_)
        have lp : ∀ (n_lp : Nat) (lp_2 : Int32), (12 - lp_2.toInt).toNat < n_lp → (0 ≤ lp_2.toInt ∧ lp_2.toInt ≤ 12) → ∀ (ls : Array Slot), lv_has ls 3 [(2, .int lp_2), (0, .ref (ad 0 0)), (1, .int p0)] → W p l e (headSpec wsX11_areSeekers ({ frames := 2, cells := 0, slots := 0, locals := 45 })).room s m ([.ref (ad 0 0), .int p0] : List Value).toArray below meth c s.heap [] 0 0 (MQ below (vp_Si (fun r : Int32 => ((r = 1 ∧ ((rt_bc p0).toInt ≤ 3)) ∨ (r = 0 ∧ True)))) ([.ref (ad 0 0), .int p0] : List Value).toArray s 0 0 (fun _ => False)) (F0 m 26 ls []) := by
          intro n_lp
          induction n_lp with
          | zero => intro lp_2 hm_lp b_lp_2 ls hl; exact absurd hm_lp (Nat.not_lt_zero _)
          | succ n_lp ih_lp =>
            intro lp_2 hm_lp b_lp_2 ls hl
            refine lv_iload_n hx hb dX11_areSeekers_26 rfl (lv_at hl 0 rfl) ?_
            refine lv_aload_n hx hb dX11_areSeekers_27 rfl (lv_at hl 1 rfl) ?_
            refine fm_getI (a := 0) (j := 10) (T := TX11) (N := 13) hx hb hts hinX11 hown hc hw hI kl_0 sh_0 rfl (by decide) rfl bd_0_10 (hts (.fieldLink RX11 75 "RedTent" "bodyCount" "I") (List.mem_cons_of_mem _ tw_2_105)) (fun _ h9 => h9) dX11_areSeekers_28 (fun x7 ex7 bx7 => ?_)
            have nx7 : x7.toInt = nb := by rw [ex7]; exact hI.2.2.2.2.2.2.1
            have nnx7 : nb ≤ 12 := hI.2.2.2.2.2.2.2
            obtain rfl : x2 = x7 := by rw [ex7]; exact ex2
            refine fx_icmp_ge (tgt := 58) hx hb dX11_areSeekers_31 (by decide) rfl rfl (fun c8 => ?_) (fun c8 => ?_)
            · refine lv_iconst (v := 1) hx hb dX11_areSeekers_58 (by decide) ?_
              exact W.zret (v := 1) hx hb hr rfl (fun t ht hW => ⟨1, rfl, Or.inl ⟨rfl, (by first | assumption | omega)⟩, ht⟩) (fun _ h => absurd h List.not_mem_nil) dX11_areSeekers_59
            · refine lv_iload_n hx hb dX11_areSeekers_34 rfl (lv_at hl 2 rfl) ?_
              refine lv_iload_n hx hb dX11_areSeekers_35 rfl (lv_at hl 0 rfl) ?_
              refine lv_ishr hx hb dX11_areSeekers_36 ?_
              refine lv_topi (fun y9 ey9 => ?_)
              refine lv_iconst (v := 1) hx hb dX11_areSeekers_37 (by decide) ?_
              refine fx_iand1 hx hb dX11_areSeekers_38 (fun y10 ey10 by10 => ?_)
              refine fx_if_eq (tgt := 52) hx hb dX11_areSeekers_39 (by decide) rfl (fun c11 => ?_) (fun c11 => ?_)
              · obtain ⟨y12, ey12⟩ : ∃ y : Int32, y = lp_2 + 1 := ⟨_, rfl⟩
                have ty12 : y12.toInt = lp_2.toInt + 1 := by rw [ey12, zi_add _ _ (by rw [zk_1]; omega) (by rw [zk_1]; omega), zk_1]
                refine lv_iinc (v := y12) (lv' := [(2, .int y12), (0, .ref (ad 0 0)), (1, .int p0)]) hx hb dX11_areSeekers_52 hl (k := 0) rfl (by rw [ey12]; rfl) (by decide) rfl (fun ls hl => ?_)
                refine lv_goto (tgt := 26) hx hb dX11_areSeekers_55 (by decide) ?_
                exact ih_lp y12 (by omega) (by omega) ls (lv_sub hl [0, 1, 2] rfl)
              · refine lv_aload_n hx hb dX11_areSeekers_42 rfl (lv_at hl 1 rfl) ?_
                refine lv_iload_n hx hb dX11_areSeekers_43 rfl (lv_at hl 0 rfl) ?_
                refine va_csq (va_Run.run (va_runV (As := [.int lp_2]) (rest := []) ⟨hx, hb, hml, hown, hts⟩ (fc_X11_seekerAt l D ad C nb M hI lp_2) (cwV 1 hts gX11_areSeekers_X11_seekerAt rfl rfl rfl (by decide +kernel) ⟨Nat.le_of_ble_eq_true rfl, Nat.le_of_ble_eq_true rfl⟩) (fm_preV hc hw hS kl_0 sh_0 rfl) rfl rfl hl.1 rfl (lv_room (Nat.le_of_ble_eq_true rfl)) dX11_areSeekers_44 ⟨by decide +kernel, by decide +kernel⟩)) (fun r13 hr13 => ?_)
                rcases hr13 with ⟨rfl, hr13n⟩ | ⟨hr13l, hr13u, hr13x, rfl⟩
                · refine lv_ifnonnullN hx hb dX11_areSeekers_47 ?_
                  refine lv_iconst (v := 0) hx hb dX11_areSeekers_50 (by decide) ?_
                  exact W.zret (v := 0) hx hb hr rfl (fun t ht hW => ⟨0, rfl, Or.inr ⟨rfl, trivial⟩, ht⟩) (fun _ h => absurd h List.not_mem_nil) dX11_areSeekers_51
                · have khr13 : lp_2.toNatClampNeg < nb := zi_cln ⟨hr13l, hr13u⟩
                  have nhr13 : nb ≤ 12 := hI.2.2.2.2.2.2.2
                  refine lv_ifnonnull (tgt := 52) hx hb dX11_areSeekers_47 (by decide) ?_
                  obtain ⟨y14, ey14⟩ : ∃ y : Int32, y = lp_2 + 1 := ⟨_, rfl⟩
                  have ty14 : y14.toInt = lp_2.toInt + 1 := by rw [ey14, zi_add _ _ (by rw [zk_1]; omega) (by rw [zk_1]; omega), zk_1]
                  refine lv_iinc (v := y14) (lv' := [(2, .int y14), (0, .ref (ad 0 0)), (1, .int p0)]) hx hb dX11_areSeekers_52 hl (k := 0) rfl (by rw [ey14]; rfl) (by decide) rfl (fun ls hl => ?_)
                  refine lv_goto (tgt := 26) hx hb dX11_areSeekers_55 (by decide) ?_
                  exact ih_lp y14 (by omega) (by omega) ls (lv_sub hl [0, 1, 2] rfl)
        exact lp _ 0 (Nat.lt_succ_self _) (by decide) ls (lv_sub hl [0, 1, 2] rfl)
      · refine lv_iconst (v := 0) hx hb dX11_areSeekers_22 (by decide) ?_
        exact W.zret (v := 0) hx hb hr rfl (fun t ht hW => ⟨0, rfl, Or.inr ⟨rfl, trivial⟩, ht⟩) (fun _ h => absurd h List.not_mem_nil) dX11_areSeekers_23
set_option maxHeartbeats 400000 in
set_option maxRecDepth 20000 in
theorem fc_X11_backFrom (l : Launch) (D : va_G) (ad : Nat → Nat → Nat) (C : Nat → Nat → ClassId) (nb : Nat) (M : fm_M) (hI : fm_I nb ad M) (kb : Nat) (hkb : kb < nb) (p0 p1 : Int32) (b_p0 : 0 ≤ p0.toInt ∧ p0.toInt ≤ 7) (b_p1 : 0 ≤ p1.toInt ∧ p1.toInt ≤ 239) : Met l yX11_backFrom wsX11_backFrom ({ frames := 2, cells := 0, slots := 0, locals := 44 }) (va_Pc [.ref (ad 0 0), .ref (ad 50 kb), .int p0, .int p1] (fm_P D ad C nb M)) (vp_Si (fun r : Int32 => ((-1) ≤ r.toInt ∧ r.toInt ≤ 300))) 0 0 (fun _ => False) := by
  refine Met.ofW (cc := cX11_backFrom) (maxL := 6) (ret := (some .int)) (by decide) rfl ?_
  intro p e s m args below meth c s₁ B hml hv
  obtain ⟨rfl, hw, hc⟩ := hv
  have hx := B.exec
  have hb := B.bytes
  have hr := B.returns
  have hts := atoms_spec (ws := wsX11_backFrom) B.pre
  have hown : s.vm.findClass RX11 = some m.cls := findClass_of_methodNamed B.named
  have hinX0 : ∀ w ∈ u_ws RX0 TX0 15, w ∈ wsX11_backFrom := fun w h => List.mem_cons_of_mem _ (iT_X0 w h)
  have hinX11 : ∀ w ∈ u_ws RX11 TX11 13, w ∈ wsX11_backFrom := fun w h => List.mem_cons_of_mem _ (iT_X11 w h)
  have hS : va_S (fm_A nb ad) s.heap s.heap [] := va_S.rf
  have hl := lv_entry ([.ref (ad 0 0), .ref (ad 50 kb), .int p0, .int p1]) (n := 6) (Nat.le_of_ble_eq_true rfl)
  rw [lg_entry_eq]
  generalize (lg_sl ([.ref (ad 0 0), .ref (ad 50 kb), .int p0, .int p1]) ++ List.replicate (6 - (lg_sl ([.ref (ad 0 0), .ref (ad 50 kb), .int p0, .int p1])).length) Slot.unset).toArray = ls at hl ⊢
  have hl : lv_has ls 6 [(0, .ref (ad 0 0)), (1, .ref (ad 50 kb)), (2, .int p0), (3, .int p1)] := hl
  refine lv_aload_n hx hb dX11_backFrom_0 rfl (lv_at hl 1 rfl) ?_
  refine vp_callSi (va_Run.run (va_runV (As := []) (rest := []) ⟨hx, hb, hml, hown, hts⟩ (fc_X0_burns l D ad C nb M hI kb hkb) (cwV 0 hts gX11_backFrom_X0_burns rfl rfl rfl (by decide +kernel) ⟨Nat.le_of_ble_eq_true rfl, Nat.le_of_ble_eq_true rfl⟩) (fm_preV hc hw hS (kl_50 hkb) sh_50 rfl) rfl rfl hl.1 rfl (lv_room (Nat.le_of_ble_eq_true rfl)) dX11_backFrom_1 ⟨by decide +kernel, by decide +kernel⟩)) (fun r1 hr1 => ?_)
  refine lv_iconst (v := 2) hx hb dX11_backFrom_4 (by decide) ?_
  refine fx_imul hx hb dX11_backFrom_5 rfl zk_2 (by omega) (fun y2 ey2 ty2 => ?_)
  refine lv_iload_n hx hb dX11_backFrom_6 rfl (lv_at hl 2 rfl) ?_
  refine fx_imulB (p1 := 12) (q1 := 7) hx hb dX11_backFrom_7 rfl rfl (by omega) (by omega) (by decide) (fun y3 ey3 ty3 uy3 => ?_)
  refine lv_aload_n hx hb dX11_backFrom_8 rfl (lv_at hl 1 rfl) ?_
  refine fm_getI (a := 50) (j := 4) (T := TX0) (N := 15) hx hb hts hinX0 hown hc hw hI (kl_50 hkb) sh_50 rfl (by decide) rfl bd_50_4 (hts (.fieldLink RX11 131 "RedTent$Body" "fuel" "I") (List.mem_cons_of_mem _ tw_2_212)) (fun _ h9 => h9) dX11_backFrom_9 (fun x4 ex4 bx4 => ?_)
  refine fx_icmp_gt (tgt := 27) hx hb dX11_backFrom_12 (by decide) rfl rfl (fun c5 => ?_) (fun c5 => ?_)
  · refine lv_iconst (v := (-1)) hx hb dX11_backFrom_27 (by decide) ?_
    exact W.iret (v := (-1)) hx hb hr (fun t ht hW => ⟨(-1), rfl, (by decide), ht⟩) (fun _ h => absurd h List.not_mem_nil) dX11_backFrom_28
  · refine lv_aload_n hx hb dX11_backFrom_15 rfl (lv_at hl 0 rfl) ?_
    refine fm_getG (a := 0) (j := 0) (T := TX11) (N := 13) hx hb hts hinX11 hown hc hw kl_0 sh_0 rfl (by decide) rfl (hI.to kl_0 tg_0_0) (hts (.fieldLink RX11 10 "RedTent" "weather" "LRedTent$Weather;") (List.mem_cons_of_mem _ tw_2_95)) (fun _ h9 => h9) dX11_backFrom_16 ?_
    refine lv_iload_n hx hb dX11_backFrom_19 rfl (lv_at hl 3 rfl) ?_
    refine lv_iload_n hx hb dX11_backFrom_20 rfl (lv_at hl 2 rfl) ?_
    refine vp_callSi (va_Run.run (va_runV (As := [.int p1, .int p0]) (rest := []) ⟨hx, hb, hml, hown, hts⟩ (fc_X10_isClear l D ad C nb M hI p1 p0 (by omega) (by omega)) (cwV 2 hts gX11_backFrom_X10_isClear rfl rfl rfl (by decide +kernel) ⟨Nat.le_of_ble_eq_true rfl, Nat.le_of_ble_eq_true rfl⟩) (fm_preV hc hw hS kl_1 sh_1 rfl) rfl rfl hl.1 rfl (lv_room (Nat.le_of_ble_eq_true rfl)) dX11_backFrom_21 ⟨by decide +kernel, by decide +kernel⟩)) (fun r6 hr6 => ?_)
    refine fx_if_ne (tgt := 29) hx hb dX11_backFrom_24 (by decide) rfl (fun c7 => ?_) (fun c7 => ?_)
    · refine lv_iconst (v := 0) hx hb dX11_backFrom_29 (by decide) ?_
      refine lv_istore (lv' := [(4, .int 0), (0, .ref (ad 0 0)), (1, .ref (ad 50 kb)), (2, .int p0), (3, .int p1)]) hx hb dX11_backFrom_30 hl (by decide) rfl (fun ls hl => ?_)
      have lp : ∀ (n_lp : Nat) (lp_4 : Int32), (10 - lp_4.toInt).toNat < n_lp → (0 ≤ lp_4.toInt ∧ lp_4.toInt ≤ 10) → ∀ (ls : Array Slot), lv_has ls 6 [(4, .int lp_4), (0, .ref (ad 0 0)), (1, .ref (ad 50 kb)), (2, .int p0), (3, .int p1)] → W p l e (headSpec wsX11_backFrom ({ frames := 2, cells := 0, slots := 0, locals := 44 })).room s m ([.ref (ad 0 0), .ref (ad 50 kb), .int p0, .int p1] : List Value).toArray below meth c s.heap [] 0 0 (MQ below (vp_Si (fun r : Int32 => ((-1) ≤ r.toInt ∧ r.toInt ≤ 300))) ([.ref (ad 0 0), .ref (ad 50 kb), .int p0, .int p1] : List Value).toArray s 0 0 (fun _ => False)) (F0 m 32 ls []) := by
        intro n_lp
        induction n_lp with
        | zero => intro lp_4 hm_lp b_lp_4 ls hl; exact absurd hm_lp (Nat.not_lt_zero _)
        | succ n_lp ih_lp =>
          intro lp_4 hm_lp b_lp_4 ls hl
          refine lv_iload hx hb dX11_backFrom_32 (lv_at hl 0 rfl) ?_
          refine lv_aload_n hx hb dX11_backFrom_34 rfl (lv_at hl 1 rfl) ?_
          refine fm_getI (a := 0) (j := 12) (T := TX11) (N := 13) hx hb hts hinX11 hown hc hw hI kl_0 sh_0 rfl (by decide) rfl bd_0_12 (hts (.fieldLink RX11 253 "RedTent" "stayHours" "I") (List.mem_cons_of_mem _ tw_2_107)) (fun _ h9 => h9) dX11_backFrom_35 (fun x8 ex8 bx8 => ?_)
          refine fx_icmp_gt (tgt := 87) hx hb dX11_backFrom_38 (by decide) rfl rfl (fun c9 => ?_) (fun c9 => ?_)
          · refine lv_iconst (v := (-1)) hx hb dX11_backFrom_87 (by decide) ?_
            exact W.iret (v := (-1)) hx hb hr (fun t ht hW => ⟨(-1), rfl, (by decide), ht⟩) (fun _ h => absurd h List.not_mem_nil) dX11_backFrom_88
          · refine lv_iload_n hx hb dX11_backFrom_41 rfl (lv_at hl 4 rfl) ?_
            refine lv_iload_n hx hb dX11_backFrom_42 rfl (lv_at hl 3 rfl) ?_
            refine fx_iadd hx hb dX11_backFrom_43 rfl rfl (by omega) (fun y10 ey10 ty10 => ?_)
            refine lv_iload hx hb dX11_backFrom_44 (lv_at hl 0 rfl) ?_
            refine fx_iadd hx hb dX11_backFrom_46 rfl rfl (by omega) (fun y11 ey11 ty11 => ?_)
            refine lv_istore (lv' := [(5, .int y11), (4, .int lp_4), (0, .ref (ad 0 0)), (1, .ref (ad 50 kb)), (2, .int p0), (3, .int p1)]) hx hb dX11_backFrom_47 hl (by decide) rfl (fun ls hl => ?_)
            refine lv_aload_n hx hb dX11_backFrom_49 rfl (lv_at hl 2 rfl) ?_
            refine fm_getG (a := 0) (j := 0) (T := TX11) (N := 13) hx hb hts hinX11 hown hc hw kl_0 sh_0 rfl (by decide) rfl (hI.to kl_0 tg_0_0) (hts (.fieldLink RX11 10 "RedTent" "weather" "LRedTent$Weather;") (List.mem_cons_of_mem _ tw_2_95)) (fun _ h9 => h9) dX11_backFrom_50 ?_
            refine lv_iload hx hb dX11_backFrom_53 (lv_at hl 0 rfl) ?_
            refine lv_iload_n hx hb dX11_backFrom_55 rfl (lv_at hl 4 rfl) ?_
            refine vp_callSi (va_Run.run (va_runV (As := [.int y11, .int p0]) (rest := []) ⟨hx, hb, hml, hown, hts⟩ (fc_X10_isClear l D ad C nb M hI y11 p0 (by omega) (by omega)) (cwV 2 hts gX11_backFrom_X10_isClear rfl rfl rfl (by decide +kernel) ⟨Nat.le_of_ble_eq_true rfl, Nat.le_of_ble_eq_true rfl⟩) (fm_preV hc hw hS kl_1 sh_1 rfl) rfl rfl hl.1 rfl (lv_room (Nat.le_of_ble_eq_true rfl)) dX11_backFrom_56 ⟨by decide +kernel, by decide +kernel⟩)) (fun r12 hr12 => ?_)
            refine fx_if_eq (tgt := 81) hx hb dX11_backFrom_59 (by decide) rfl (fun c13 => ?_) (fun c13 => ?_)
            · obtain ⟨y14, ey14⟩ : ∃ y : Int32, y = lp_4 + 1 := ⟨_, rfl⟩
              have ty14 : y14.toInt = lp_4.toInt + 1 := by rw [ey14, zi_add _ _ (by rw [zk_1]; omega) (by rw [zk_1]; omega), zk_1]
              refine lv_iinc (v := y14) (lv' := [(4, .int y14), (5, .int y11), (0, .ref (ad 0 0)), (1, .ref (ad 50 kb)), (2, .int p0), (3, .int p1)]) hx hb dX11_backFrom_81 hl (k := 1) rfl (by rw [ey14]; rfl) (by decide) rfl (fun ls hl => ?_)
              refine lv_goto (tgt := 32) hx hb dX11_backFrom_84 (by decide) ?_
              exact ih_lp y14 (by omega) (by omega) ls (lv_sub hl [0, 2, 3, 4, 5] rfl)
            · refine lv_iload hx hb dX11_backFrom_62 (lv_at hl 0 rfl) ?_
              refine lv_iload_n hx hb dX11_backFrom_64 rfl (lv_at hl 4 rfl) ?_
              refine fx_iadd hx hb dX11_backFrom_65 rfl rfl (by omega) (fun y15 ey15 ty15 => ?_)
              refine lv_sipush (v := 240) hx hb dX11_backFrom_66 (by decide) ?_
              refine fx_icmp_ge (tgt := 79) hx hb dX11_backFrom_69 (by decide) rfl zk_240 (fun c16 => ?_) (fun c16 => ?_)
              · refine lv_iconst (v := (-1)) hx hb dX11_backFrom_79 (by decide) ?_
                exact W.iret (v := (-1)) hx hb hr (fun t ht hW => ⟨(-1), rfl, (by decide), ht⟩) (fun _ h => absurd h List.not_mem_nil) dX11_backFrom_80
              · refine lv_iload hx hb dX11_backFrom_72 (lv_at hl 0 rfl) ?_
                refine lv_iload_n hx hb dX11_backFrom_74 rfl (lv_at hl 4 rfl) ?_
                refine fx_iadd hx hb dX11_backFrom_75 rfl rfl (by omega) (fun y17 ey17 ty17 => ?_)
                refine lv_goto (tgt := 80) hx hb dX11_backFrom_76 (by decide) ?_
                exact W.iret (v := y17) hx hb hr (fun t ht hW => ⟨y17, rfl, (by omega), ht⟩) (fun _ h => absurd h List.not_mem_nil) dX11_backFrom_80
      exact lp _ 0 (Nat.lt_succ_self _) (by decide) ls (lv_sub hl [0, 1, 2, 3, 4] rfl)
    · refine lv_iconst (v := (-1)) hx hb dX11_backFrom_27 (by decide) ?_
      exact W.iret (v := (-1)) hx hb hr (fun t ht hW => ⟨(-1), rfl, (by decide), ht⟩) (fun _ h => absurd h List.not_mem_nil) dX11_backFrom_28
set_option maxHeartbeats 400000 in
set_option maxRecDepth 20000 in
theorem fc_X11_takeOf (l : Launch) (D : va_G) (ad : Nat → Nat → Nat) (C : Nat → Nat → ClassId) (nb : Nat) (M : fm_M) (hI : fm_I nb ad M) (p0 : Int32) : Met l yX11_takeOf wsX11_takeOf ({ frames := 5, cells := 0, slots := 0, locals := 119 }) (va_Pc [.ref (ad 0 0), .int p0] (fm_P D ad C nb M)) (va_Qi (fun (r : Int32) (u : fm_M) => fm_I nb ad u ∧ fm_same [30000, 31000] M u ∧ True) (fun u t => fm_at D ad C nb u t.heap) (fm_A nb ad)) 0 0 (fm_A nb ad) := by
  refine Met.ofW (cc := cX11_takeOf) (maxL := 4) (ret := (some .int)) (by decide) rfl ?_
  intro p e s m args below meth c s₁ B hml hv
  obtain ⟨rfl, hw, hc⟩ := hv
  have hx := B.exec
  have hb := B.bytes
  have hr := B.returns
  have hts := atoms_spec (ws := wsX11_takeOf) B.pre
  have hown : s.vm.findClass RX11 = some m.cls := findClass_of_methodNamed B.named
  have hinX0 : ∀ w ∈ u_ws RX0 TX0 15, w ∈ wsX11_takeOf := fun w h => List.mem_cons_of_mem _ (iT_X0 w h)
  have hinX11 : ∀ w ∈ u_ws RX11 TX11 13, w ∈ wsX11_takeOf := fun w h => List.mem_cons_of_mem _ (iT_X11 w h)
  have hinX2 : ∀ w ∈ u_ws RX2 TX2 6, w ∈ wsX11_takeOf := fun w h => List.mem_cons_of_mem _ (iT_X2 w h)
  have hS : va_S (fm_A nb ad) s.heap s.heap [] := va_S.rf
  have hE : fm_same [30000, 31000] M M := fm_same.rf
  have hl := lv_entry ([.ref (ad 0 0), .int p0]) (n := 4) (Nat.le_of_ble_eq_true rfl)
  rw [lg_entry_eq]
  generalize (lg_sl ([.ref (ad 0 0), .int p0]) ++ List.replicate (4 - (lg_sl ([.ref (ad 0 0), .int p0])).length) Slot.unset).toArray = ls at hl ⊢
  have hl : lv_has ls 4 [(0, .ref (ad 0 0)), (1, .int p0)] := hl
  refine lv_iload_n hx hb dX11_takeOf_0 rfl (lv_at hl 1 rfl) ?_
  refine fx_if_lt (tgt := 15) hx hb dX11_takeOf_1 (by decide) rfl (fun c1 => ?_) (fun c1 => ?_)
  · refine lv_iconst (v := 0) hx hb dX11_takeOf_15 (by decide) ?_
    exact W.iret (v := 0) hx hb hr (fun t ht hW => ⟨⟨0, M, rfl, ⟨hI, hE, trivial⟩, by show fm_at D ad C nb _ t.heap; rw [ht]; exact hw⟩, hS.F ht⟩) hS.2.2 dX11_takeOf_16
  · refine lv_iload_n hx hb dX11_takeOf_4 rfl (lv_at hl 1 rfl) ?_
    refine lv_aload_n hx hb dX11_takeOf_5 rfl (lv_at hl 0 rfl) ?_
    refine fm_getG (a := 0) (j := 4) (T := TX11) (N := 13) hx hb hts hinX11 hown hc hw kl_0 sh_0 rfl (by decide) rfl (hI.to kl_0 tg_0_4) (hts (.fieldLink RX11 39 "RedTent" "crew" "LRedTent$Crew;") (List.mem_cons_of_mem _ tw_2_99)) (fun _ h9 => h9) dX11_takeOf_6 ?_
    refine fm_getI (a := 21) (j := 5) (T := TX2) (N := 6) hx hb hts hinX2 hown hc hw hI kl_21 sh_21 rfl (by decide) rfl bd_21_5 (hts (.fieldLink RX11 266 "RedTent$Crew" "men" "I") (List.mem_cons_of_mem _ tw_1_152)) (fun _ h9 => h9) dX11_takeOf_9 (fun x2 ex2 bx2 => ?_)
    refine fx_icmp_lt (tgt := 17) hx hb dX11_takeOf_12 (by decide) rfl rfl (fun c3 => ?_) (fun c3 => ?_)
    · have jt : ∀ (jt_3 : Int32) (M_jt : fm_M), ((-2147483648) ≤ jt_3.toInt ∧ jt_3.toInt ≤ 2147483647) → fm_I nb ad M_jt → fm_same [30000, 31000] M M_jt → ∀ (H : Heap) (locs : List Loc), fm_at D ad C nb M_jt H → va_S (fm_A nb ad) s.heap H locs → ∀ (ls : Array Slot), lv_has ls 4 [(0, .ref (ad 0 0)), (1, .int p0), (3, .int jt_3)] → W p l e (headSpec wsX11_takeOf ({ frames := 5, cells := 0, slots := 0, locals := 119 })).room s m ([.ref (ad 0 0), .int p0] : List Value).toArray below meth c H locs 0 0 (MQ below (va_Qi (fun (r : Int32) (u : fm_M) => fm_I nb ad u ∧ fm_same [30000, 31000] M u ∧ True) (fun u t => fm_at D ad C nb u t.heap) (fm_A nb ad)) ([.ref (ad 0 0), .int p0] : List Value).toArray s 0 0 (fm_A nb ad)) (F0 m 44 ls []) := by
        intro jt_3 M_jt b_jt_3 hI hE H locs hw hS ls hl
        refine lv_aload_n hx hb dX11_takeOf_44 rfl (lv_at hl 0 rfl) ?_
        refine fm_getG (a := 0) (j := 5) (T := TX11) (N := 13) hx hb hts hinX11 hown hc hw kl_0 sh_0 rfl (by decide) rfl (hI.to kl_0 tg_0_5) (hts (.fieldLink RX11 46 "RedTent" "orders" "LRedTent$Orders;") (List.mem_cons_of_mem _ tw_2_100)) (fun _ h9 => h9) dX11_takeOf_45 ?_
        refine lv_iconst (v := 0) hx hb dX11_takeOf_48 (by decide) ?_
        refine lv_aload_n hx hb dX11_takeOf_49 rfl (lv_at hl 0 rfl) ?_
        refine fm_getG (a := 0) (j := 4) (T := TX11) (N := 13) hx hb hts hinX11 hown hc hw kl_0 sh_0 rfl (by decide) rfl (hI.to kl_0 tg_0_4) (hts (.fieldLink RX11 39 "RedTent" "crew" "LRedTent$Crew;") (List.mem_cons_of_mem _ tw_2_99)) (fun _ h9 => h9) dX11_takeOf_50 ?_
        refine fm_getG (a := 21) (j := 1) (T := TX2) (N := 6) hx hb hts hinX2 hown hc hw kl_21 sh_21 rfl (by decide) rfl (hI.to kl_21 tg_21_1) (hts (.fieldLink RX11 386 "RedTent$Crew" "strength" "[I") (List.mem_cons_of_mem _ tw_1_144)) (fun _ h9 => h9) dX11_takeOf_53 ?_
        refine lv_iload_n hx hb dX11_takeOf_56 rfl (lv_at hl 1 rfl) ?_
        refine fm_iald (a := 23) hx hb hc hw hI kl_23 sh_23 ty_23 bd_23 (by omega) dX11_takeOf_57 (fun x4 ex4 bx4 => ?_)
        refine lv_aload_n hx hb dX11_takeOf_58 rfl (lv_at hl 0 rfl) ?_
        refine fm_getG (a := 0) (j := 4) (T := TX11) (N := 13) hx hb hts hinX11 hown hc hw kl_0 sh_0 rfl (by decide) rfl (hI.to kl_0 tg_0_4) (hts (.fieldLink RX11 39 "RedTent" "crew" "LRedTent$Crew;") (List.mem_cons_of_mem _ tw_2_99)) (fun _ h9 => h9) dX11_takeOf_59 ?_
        refine fm_getG (a := 21) (j := 2) (T := TX2) (N := 6) hx hb hts hinX2 hown hc hw kl_21 sh_21 rfl (by decide) rfl (hI.to kl_21 tg_21_2) (hts (.fieldLink RX11 389 "RedTent$Crew" "hurt" "[I") (List.mem_cons_of_mem _ tw_1_146)) (fun _ h9 => h9) dX11_takeOf_62 ?_
        refine lv_iload_n hx hb dX11_takeOf_65 rfl (lv_at hl 1 rfl) ?_
        refine fm_iald (a := 24) hx hb hc hw hI kl_24 sh_24 ty_24 bd_24 (by omega) dX11_takeOf_66 (fun x5 ex5 bx5 => ?_)
        refine lv_aload_n hx hb dX11_takeOf_67 rfl (lv_at hl 0 rfl) ?_
        refine fm_getG (a := 0) (j := 4) (T := TX11) (N := 13) hx hb hts hinX11 hown hc hw kl_0 sh_0 rfl (by decide) rfl (hI.to kl_0 tg_0_4) (hts (.fieldLink RX11 39 "RedTent" "crew" "LRedTent$Crew;") (List.mem_cons_of_mem _ tw_2_99)) (fun _ h9 => h9) dX11_takeOf_68 ?_
        refine fm_getG (a := 21) (j := 3) (T := TX2) (N := 6) hx hb hts hinX2 hown hc hw kl_21 sh_21 rfl (by decide) rfl (hI.to kl_21 tg_21_3) (hts (.fieldLink RX11 392 "RedTent$Crew" "skill" "[I") (List.mem_cons_of_mem _ tw_1_148)) (fun _ h9 => h9) dX11_takeOf_71 ?_
        refine lv_iload_n hx hb dX11_takeOf_74 rfl (lv_at hl 1 rfl) ?_
        refine fm_iald (a := 25) hx hb hc hw hI kl_25 sh_25 ty_25 bd_25 (by omega) dX11_takeOf_75 (fun x6 ex6 bx6 => ?_)
        refine lv_aload_n hx hb dX11_takeOf_76 rfl (lv_at hl 0 rfl) ?_
        refine fm_getI (a := 0) (j := 9) (T := TX11) (N := 13) hx hb hts hinX11 hown hc hw hI kl_0 sh_0 rfl (by decide) rfl bd_0_9 (hts (.fieldLink RX11 71 "RedTent" "now" "I") (List.mem_cons_of_mem _ tw_2_104)) (fun _ h9 => h9) dX11_takeOf_77 (fun x7 ex7 bx7 => ?_)
        refine lv_iload_n hx hb dX11_takeOf_80 rfl (lv_at hl 2 rfl) ?_
        refine lv_iconst (v := 0) hx hb dX11_takeOf_81 (by decide) ?_
        refine fm_ci (va_runV (As := [.int 0, .int x4, .int x5, .int x6, .int x7, .int jt_3, .int 0]) (rest := []) ⟨hx, hb, hml, hown, hts⟩ (fc_X3_ask l D ad C nb M_jt hI 0 x4 x5 x6 x7 jt_3 0) (cwV 7 hts gX11_takeOf_X3_ask rfl rfl rfl (by decide +kernel) ⟨Nat.le_of_ble_eq_true rfl, Nat.le_of_ble_eq_true rfl⟩) (fm_preV hc hw hS kl_27 sh_27 rfl) rfl rfl hl.1 rfl (lv_room (Nat.le_of_ble_eq_true rfl)) dX11_takeOf_82 ⟨by decide +kernel, by decide +kernel⟩) hS hc (fun r8 M9 H locs hr8 hw hS => ?_)
        obtain ⟨hI, hEM9, hr8⟩ := hr8
        have hE := hE.tr hEM9 (by decide)
        exact W.iret (v := r8) hx hb hr (fun t ht hW => ⟨⟨r8, M9, rfl, ⟨hI, hE, trivial⟩, by show fm_at D ad C nb _ t.heap; rw [ht]; exact hw⟩, hS.F ht⟩) hS.2.2 dX11_takeOf_85
      refine lv_aload_n hx hb dX11_takeOf_17 rfl (lv_at hl 0 rfl) ?_
      refine lv_aload_n hx hb dX11_takeOf_18 rfl (lv_at hl 0 rfl) ?_
      refine fm_getG (a := 0) (j := 4) (T := TX11) (N := 13) hx hb hts hinX11 hown hc hw kl_0 sh_0 rfl (by decide) rfl (hI.to kl_0 tg_0_4) (hts (.fieldLink RX11 39 "RedTent" "crew" "LRedTent$Crew;") (List.mem_cons_of_mem _ tw_2_99)) (fun _ h9 => h9) dX11_takeOf_19 ?_
      refine fm_getG (a := 21) (j := 0) (T := TX2) (N := 6) hx hb hts hinX2 hown hc hw kl_21 sh_21 rfl (by decide) rfl (hI.to kl_21 tg_21_0) (hts (.fieldLink RX11 385 "RedTent$Crew" "body" "[I") (List.mem_cons_of_mem _ tw_1_142)) (fun _ h9 => h9) dX11_takeOf_22 ?_
      refine lv_iload_n hx hb dX11_takeOf_25 rfl (lv_at hl 1 rfl) ?_
      refine fm_iald (a := 22) hx hb hc hw hI kl_22 sh_22 ty_22 bd_22 (by omega) dX11_takeOf_26 (fun x10 ex10 bx10 => ?_)
      refine va_csq (va_Run.run (va_runV (As := [.int x10]) (rest := []) ⟨hx, hb, hml, hown, hts⟩ (fc_X11_bodyAt l D ad C nb M hI x10) (cwV 1 hts gX11_takeOf_X11_bodyAt rfl rfl rfl (by decide +kernel) ⟨Nat.le_of_ble_eq_true rfl, Nat.le_of_ble_eq_true rfl⟩) (fm_preV hc hw hS kl_0 sh_0 rfl) rfl rfl hl.1 rfl (lv_room (Nat.le_of_ble_eq_true rfl)) dX11_takeOf_27 ⟨by decide +kernel, by decide +kernel⟩)) (fun r11 hr11 => ?_)
      rcases hr11 with ⟨rfl, hr11n⟩ | ⟨hr11l, hr11u, rfl⟩
      · refine lv_astore_nN (lv' := [(2, .null), (0, .ref (ad 0 0)), (1, .int p0)]) hx hb dX11_takeOf_30 rfl hl (by decide) rfl (fun ls hl => ?_)
        refine lv_aload_nN hx hb dX11_takeOf_31 rfl (lv_at hl 0 rfl) ?_
        refine lv_ifnonnullN hx hb dX11_takeOf_32 ?_
        refine lv_iconst (v := 0) hx hb dX11_takeOf_35 (by decide) ?_
        refine lv_goto (tgt := 43) hx hb dX11_takeOf_36 (by decide) ?_
        refine lv_istore_n (lv' := [(3, .int 0), (2, .null), (0, .ref (ad 0 0)), (1, .int p0)]) hx hb dX11_takeOf_43 rfl hl (by decide) rfl (fun ls hl => ?_)
        exact jt 0 M (by decide) hI hE _ _ hw hS ls (lv_sub hl [2, 3, 0] rfl)
      · have khr11 : x10.toNatClampNeg < nb := zi_cln ⟨hr11l, hr11u⟩
        have nhr11 : nb ≤ 12 := hI.2.2.2.2.2.2.2
        refine lv_astore_n (lv' := [(2, .ref (ad 50 x10.toNatClampNeg)), (0, .ref (ad 0 0)), (1, .int p0)]) hx hb dX11_takeOf_30 rfl hl (by decide) rfl (fun ls hl => ?_)
        refine lv_aload_n hx hb dX11_takeOf_31 rfl (lv_at hl 0 rfl) ?_
        refine lv_ifnonnull (tgt := 39) hx hb dX11_takeOf_32 (by decide) ?_
        refine lv_aload_n hx hb dX11_takeOf_39 rfl (lv_at hl 0 rfl) ?_
        refine fm_getI (a := 50) (j := 4) (T := TX0) (N := 15) hx hb hts hinX0 hown hc hw hI (kl_50 khr11) sh_50 rfl (by decide) rfl bd_50_4 (hts (.fieldLink RX11 131 "RedTent$Body" "fuel" "I") (List.mem_cons_of_mem _ tw_2_212)) (fun _ h9 => h9) dX11_takeOf_40 (fun x12 ex12 bx12 => ?_)
        refine lv_istore_n (lv' := [(3, .int x12), (2, .ref (ad 50 x10.toNatClampNeg)), (0, .ref (ad 0 0)), (1, .int p0)]) hx hb dX11_takeOf_43 rfl hl (by decide) rfl (fun ls hl => ?_)
        exact jt x12 M (zi_lt _) hI hE _ _ hw hS ls (lv_sub hl [2, 3, 0] rfl)
    · refine lv_iconst (v := 0) hx hb dX11_takeOf_15 (by decide) ?_
      exact W.iret (v := 0) hx hb hr (fun t ht hW => ⟨⟨0, M, rfl, ⟨hI, hE, trivial⟩, by show fm_at D ad C nb _ t.heap; rw [ht]; exact hw⟩, hS.F ht⟩) hS.2.2 dX11_takeOf_16
set_option maxHeartbeats 400000 in
set_option maxRecDepth 20000 in
theorem fc_X11_pass (l : Launch) (D : va_G) (ad : Nat → Nat → Nat) (C : Nat → Nat → ClassId) (nb : Nat) (M : fm_M) (hI : fm_I nb ad M) (p0 : Int32) : Met l yX11_pass wsX11_pass ({ frames := 2, cells := 0, slots := 0, locals := 41 }) (va_Pc [.ref (ad 0 0), .int p0] (fm_P D ad C nb M)) (va_Qi (fun (r : Int32) (u : fm_M) => fm_I nb ad u ∧ fm_same [9, 50005] M u ∧ ((¬ (1 ≤ p0.toInt ∧ p0.toInt ≤ 48) ∧ r.toInt = -2 ∧ (u.1 0 0 9).toInt = (M.1 0 0 9).toInt) ∨ ((1 ≤ p0.toInt ∧ p0.toInt ≤ 48) ∧ 239 < (M.1 0 0 9).toInt + p0.toInt ∧ r.toInt = -4 ∧ (u.1 0 0 9).toInt = (M.1 0 0 9).toInt) ∨ ((1 ≤ p0.toInt ∧ p0.toInt ≤ 48) ∧ (M.1 0 0 9).toInt + p0.toInt ≤ 239 ∧ r.toInt = (M.1 0 0 9).toInt + p0.toInt ∧ (u.1 0 0 9).toInt = r.toInt))) (fun u t => fm_at D ad C nb u t.heap) (fm_A nb ad)) 0 0 (fm_A nb ad) := by
  refine Met.ofW (cc := cX11_pass) (maxL := 4) (ret := (some .int)) (by decide) rfl ?_
  intro p e s m args below meth c s₁ B hml hv
  obtain ⟨rfl, hw, hc⟩ := hv
  have hx := B.exec
  have hb := B.bytes
  have hr := B.returns
  have hts := atoms_spec (ws := wsX11_pass) B.pre
  have hown : s.vm.findClass RX11 = some m.cls := findClass_of_methodNamed B.named
  have hinX11 : ∀ w ∈ u_ws RX11 TX11 13, w ∈ wsX11_pass := fun w h => List.mem_cons_of_mem _ (iT_X11 w h)
  have hS : va_S (fm_A nb ad) s.heap s.heap [] := va_S.rf
  have hE : fm_same [9, 50005] M M := fm_same.rf
  have hl := lv_entry ([.ref (ad 0 0), .int p0]) (n := 4) (Nat.le_of_ble_eq_true rfl)
  rw [lg_entry_eq]
  generalize (lg_sl ([.ref (ad 0 0), .int p0]) ++ List.replicate (4 - (lg_sl ([.ref (ad 0 0), .int p0])).length) Slot.unset).toArray = ls at hl ⊢
  have hl : lv_has ls 4 [(0, .ref (ad 0 0)), (1, .int p0)] := hl
  refine lv_iload_n hx hb dX11_pass_0 rfl (lv_at hl 1 rfl) ?_
  refine lv_iconst (v := 1) hx hb dX11_pass_1 (by decide) ?_
  refine fx_icmp_lt (tgt := 11) hx hb dX11_pass_2 (by decide) rfl zk_1 (fun c1 => ?_) (fun c1 => ?_)
  · refine lv_bipush (v := (-2)) hx hb dX11_pass_11 (by decide) ?_
    exact W.iret (v := (-2)) hx hb hr (fun t ht hW => ⟨⟨(-2), M, rfl, ⟨hI, hE, Or.inl ⟨by omega, zk_m2, rfl⟩⟩, by show fm_at D ad C nb _ t.heap; rw [ht]; exact hw⟩, hS.F ht⟩) hS.2.2 dX11_pass_13
  · refine lv_iload_n hx hb dX11_pass_5 rfl (lv_at hl 1 rfl) ?_
    refine lv_bipush (v := 48) hx hb dX11_pass_6 (by decide) ?_
    refine fx_icmp_le (tgt := 14) hx hb dX11_pass_8 (by decide) rfl zk_48 (fun c2 => ?_) (fun c2 => ?_)
    · refine lv_aload_n hx hb dX11_pass_14 rfl (lv_at hl 0 rfl) ?_
      refine fm_getI (a := 0) (j := 9) (T := TX11) (N := 13) hx hb hts hinX11 hown hc hw hI kl_0 sh_0 rfl (by decide) rfl bd_0_9 (hts (.fieldLink RX11 71 "RedTent" "now" "I") (List.mem_cons_of_mem _ tw_2_104)) (fun _ h9 => h9) dX11_pass_15 (fun x3 ex3 bx3 => ?_)
      refine lv_iload_n hx hb dX11_pass_18 rfl (lv_at hl 1 rfl) ?_
      refine fx_iadd hx hb dX11_pass_19 rfl rfl (by omega) (fun y4 ey4 ty4 => ?_)
      refine lv_sipush (v := 240) hx hb dX11_pass_20 (by decide) ?_
      refine fx_icmp_lt (tgt := 29) hx hb dX11_pass_23 (by decide) rfl zk_240 (fun c5 => ?_) (fun c5 => ?_)
      · refine lv_iconst (v := 0) hx hb dX11_pass_29 (by decide) ?_
        refine lv_istore_n (lv' := [(2, .int 0), (0, .ref (ad 0 0)), (1, .int p0)]) hx hb dX11_pass_30 rfl hl (by decide) rfl (fun ls hl => ?_)
        have lp : ∀ (n_lp : Nat) (lp_2 : Int32) (M_lp : fm_M), (12 - lp_2.toInt).toNat < n_lp → (0 ≤ lp_2.toInt ∧ lp_2.toInt ≤ 12) → (M_lp.1 0 0 9 = M.1 0 0 9) → fm_I nb ad M_lp → fm_same [9, 50005] M M_lp → ∀ (H : Heap) (locs : List Loc), fm_at D ad C nb M_lp H → va_S (fm_A nb ad) s.heap H locs → ∀ (ls : Array Slot), lv_has ls 4 [(2, .int lp_2), (0, .ref (ad 0 0)), (1, .int p0)] → W p l e (headSpec wsX11_pass ({ frames := 2, cells := 0, slots := 0, locals := 41 })).room s m ([.ref (ad 0 0), .int p0] : List Value).toArray below meth c H locs 0 0 (MQ below (va_Qi (fun (r : Int32) (u : fm_M) => fm_I nb ad u ∧ fm_same [9, 50005] M u ∧ ((¬ (1 ≤ p0.toInt ∧ p0.toInt ≤ 48) ∧ r.toInt = -2 ∧ (u.1 0 0 9).toInt = (M.1 0 0 9).toInt) ∨ ((1 ≤ p0.toInt ∧ p0.toInt ≤ 48) ∧ 239 < (M.1 0 0 9).toInt + p0.toInt ∧ r.toInt = -4 ∧ (u.1 0 0 9).toInt = (M.1 0 0 9).toInt) ∨ ((1 ≤ p0.toInt ∧ p0.toInt ≤ 48) ∧ (M.1 0 0 9).toInt + p0.toInt ≤ 239 ∧ r.toInt = (M.1 0 0 9).toInt + p0.toInt ∧ (u.1 0 0 9).toInt = r.toInt))) (fun u t => fm_at D ad C nb u t.heap) (fm_A nb ad)) ([.ref (ad 0 0), .int p0] : List Value).toArray s 0 0 (fm_A nb ad)) (F0 m 31 ls []) := by
          intro n_lp
          induction n_lp with
          | zero => intro lp_2 M_lp hm_lp b_lp_2 hn hI hE H locs hw hS ls hl; exact absurd hm_lp (Nat.not_lt_zero _)
          | succ n_lp ih_lp =>
            intro lp_2 M_lp hm_lp b_lp_2 hn hI hE H locs hw hS ls hl
            refine lv_iload_n hx hb dX11_pass_31 rfl (lv_at hl 0 rfl) ?_
            refine lv_aload_n hx hb dX11_pass_32 rfl (lv_at hl 1 rfl) ?_
            refine fm_getI (a := 0) (j := 10) (T := TX11) (N := 13) hx hb hts hinX11 hown hc hw hI kl_0 sh_0 rfl (by decide) rfl bd_0_10 (hts (.fieldLink RX11 75 "RedTent" "bodyCount" "I") (List.mem_cons_of_mem _ tw_2_105)) (fun _ h9 => h9) dX11_pass_33 (fun x6 ex6 bx6 => ?_)
            have nx6 : x6.toInt = nb := by rw [ex6]; exact hI.2.2.2.2.2.2.1
            have nnx6 : nb ≤ 12 := hI.2.2.2.2.2.2.2
            refine fx_icmp_ge (tgt := 60) hx hb dX11_pass_36 (by decide) rfl rfl (fun c7 => ?_) (fun c7 => ?_)
            · refine lv_aload_n hx hb dX11_pass_60 rfl (lv_at hl 1 rfl) ?_
              refine lv_dup hx hb dX11_pass_61 rfl ?_
              refine fm_getI (a := 0) (j := 9) (T := TX11) (N := 13) hx hb hts hinX11 hown hc hw hI kl_0 sh_0 rfl (by decide) rfl bd_0_9 (hts (.fieldLink RX11 71 "RedTent" "now" "I") (List.mem_cons_of_mem _ tw_2_104)) (fun _ h9 => h9) dX11_pass_62 (fun x8 ex8 bx8 => ?_)
              obtain rfl : x3 = x8 := by rw [ex8, hn]; exact ex3
              refine lv_iload_n hx hb dX11_pass_65 rfl (lv_at hl 2 rfl) ?_
              refine fx_iadd hx hb dX11_pass_66 rfl rfl (by omega) (fun y9 ey9 ty9 => ?_)
              refine fm_putI (a := 0) (j := 9) (T := TX11) (N := 13) hx hb hts hinX11 tyX11 tyX11_ok nmX11 hown hc hw hI hE hS kl_0 sh_0 od_0 rfl (by decide) rfl bd_0_9 (hts (.fieldLink RX11 71 "RedTent" "now" "I") (List.mem_cons_of_mem _ tw_2_104)) (fun _ h9 => h9) rfl (by decide +kernel) (by omega) (by decide) (by decide) dX11_pass_67 (fun M10 H locs eM10 hw hI hE hS => ?_)
              refine lv_aload_n hx hb dX11_pass_70 rfl (lv_at hl 1 rfl) ?_
              refine fm_getI (a := 0) (j := 9) (T := TX11) (N := 13) hx hb hts hinX11 hown hc hw hI kl_0 sh_0 rfl (by decide) rfl bd_0_9 (hts (.fieldLink RX11 71 "RedTent" "now" "I") (List.mem_cons_of_mem _ tw_2_104)) (fun _ h9 => h9) dX11_pass_71 (fun x11 ex11 bx11 => ?_)
              obtain rfl : y9 = x11 := by rw [ex11, eM10, fm_wI_at]
              have qx3 : x3.toInt = (M.1 0 0 9).toInt := by rw [ex3]
              exact W.iret (v := y9) hx hb hr (fun t ht hW => ⟨⟨y9, M10, rfl, ⟨hI, hE, Or.inr (Or.inr ⟨by omega, by omega, by omega, by rw [eM10, fm_wI_at]⟩)⟩, by show fm_at D ad C nb _ t.heap; rw [ht]; exact hw⟩, hS.F ht⟩) hS.2.2 dX11_pass_74
            · refine lv_aload_n hx hb dX11_pass_39 rfl (lv_at hl 1 rfl) ?_
              refine lv_iload_n hx hb dX11_pass_40 rfl (lv_at hl 0 rfl) ?_
              refine va_csq (va_Run.run (va_runV (As := [.int lp_2]) (rest := []) ⟨hx, hb, hml, hown, hts⟩ (fc_X11_bodyAt l D ad C nb M_lp hI lp_2) (cwV 1 hts gX11_pass_X11_bodyAt rfl rfl rfl (by decide +kernel) ⟨Nat.le_of_ble_eq_true rfl, Nat.le_of_ble_eq_true rfl⟩) (fm_preV hc hw hS kl_0 sh_0 rfl) rfl rfl hl.1 rfl (lv_room (Nat.le_of_ble_eq_true rfl)) dX11_pass_41 ⟨by decide +kernel, by decide +kernel⟩)) (fun r12 hr12 => ?_)
              rcases hr12 with ⟨rfl, hr12n⟩ | ⟨hr12l, hr12u, rfl⟩
              · refine lv_astore_nN (lv' := [(3, .null), (2, .int lp_2), (0, .ref (ad 0 0)), (1, .int p0)]) hx hb dX11_pass_44 rfl hl (by decide) rfl (fun ls hl => ?_)
                refine lv_aload_nN hx hb dX11_pass_45 rfl (lv_at hl 0 rfl) ?_
                refine lv_ifnullN (tgt := 54) hx hb dX11_pass_46 (by decide) ?_
                obtain ⟨y13, ey13⟩ : ∃ y : Int32, y = lp_2 + 1 := ⟨_, rfl⟩
                have ty13 : y13.toInt = lp_2.toInt + 1 := by rw [ey13, zi_add _ _ (by rw [zk_1]; omega) (by rw [zk_1]; omega), zk_1]
                refine lv_iinc (v := y13) (lv' := [(2, .int y13), (3, .null), (0, .ref (ad 0 0)), (1, .int p0)]) hx hb dX11_pass_54 hl (k := 1) rfl (by rw [ey13]; rfl) (by decide) rfl (fun ls hl => ?_)
                refine lv_goto (tgt := 31) hx hb dX11_pass_57 (by decide) ?_
                exact ih_lp y13 M_lp (by omega) (by omega) hn hI hE _ _ hw hS ls (lv_sub hl [0, 2, 3] rfl)
              · have khr12 : lp_2.toNatClampNeg < nb := zi_cln ⟨hr12l, hr12u⟩
                have nhr12 : nb ≤ 12 := hI.2.2.2.2.2.2.2
                refine lv_astore_n (lv' := [(3, .ref (ad 50 lp_2.toNatClampNeg)), (2, .int lp_2), (0, .ref (ad 0 0)), (1, .int p0)]) hx hb dX11_pass_44 rfl hl (by decide) rfl (fun ls hl => ?_)
                refine lv_aload_n hx hb dX11_pass_45 rfl (lv_at hl 0 rfl) ?_
                refine lv_ifnull hx hb dX11_pass_46 ?_
                refine lv_aload_n hx hb dX11_pass_49 rfl (lv_at hl 0 rfl) ?_
                refine lv_iload_n hx hb dX11_pass_50 rfl (lv_at hl 3 rfl) ?_
                refine fm_cv (va_runV (As := [.int p0]) (rest := []) ⟨hx, hb, hml, hown, hts⟩ (fc_X0_eatFor l D ad C nb M_lp hI lp_2.toNatClampNeg khr12 p0 (by omega)) (cwV 1 hts gX11_pass_X0_eatFor rfl rfl rfl (by decide +kernel) ⟨Nat.le_of_ble_eq_true rfl, Nat.le_of_ble_eq_true rfl⟩) (fm_preV hc hw hS (kl_50 khr12) sh_50 rfl) rfl rfl hl.1 rfl (lv_room (Nat.le_of_ble_eq_true rfl)) dX11_pass_51 ⟨by decide +kernel, by decide +kernel⟩) hS hc (fun M15 H locs hr14 hw hS => ?_)
                obtain ⟨hI, hEM15, hr14⟩ := hr14
                have hE := hE.tr hEM15 (by decide)
                obtain ⟨y16, ey16⟩ : ∃ y : Int32, y = lp_2 + 1 := ⟨_, rfl⟩
                have ty16 : y16.toInt = lp_2.toInt + 1 := by rw [ey16, zi_add _ _ (by rw [zk_1]; omega) (by rw [zk_1]; omega), zk_1]
                refine lv_iinc (v := y16) (lv' := [(2, .int y16), (3, .ref (ad 50 lp_2.toNatClampNeg)), (0, .ref (ad 0 0)), (1, .int p0)]) hx hb dX11_pass_54 hl (k := 1) rfl (by rw [ey16]; rfl) (by decide) rfl (fun ls hl => ?_)
                refine lv_goto (tgt := 31) hx hb dX11_pass_57 (by decide) ?_
                exact ih_lp y16 M15 (by omega) (by omega) (by rw [(hEM15 0 0 9 (by decide)).1]; exact hn) hI hE _ _ hw hS ls (lv_sub hl [0, 2, 3] rfl)
        exact lp _ 0 M (Nat.lt_succ_self _) (by decide) rfl hI hE _ _ hw hS ls (lv_sub hl [0, 1, 2] rfl)
      · refine lv_bipush (v := (-4)) hx hb dX11_pass_26 (by decide) ?_
        have qx3 : x3.toInt = (M.1 0 0 9).toInt := by rw [ex3]
        exact W.iret (v := (-4)) hx hb hr (fun t ht hW => ⟨⟨(-4), M, rfl, ⟨hI, hE, Or.inr (Or.inl ⟨by omega, by omega, zk_m4, rfl⟩)⟩, by show fm_at D ad C nb _ t.heap; rw [ht]; exact hw⟩, hS.F ht⟩) hS.2.2 dX11_pass_28
    · refine lv_bipush (v := (-2)) hx hb dX11_pass_11 (by decide) ?_
      exact W.iret (v := (-2)) hx hb hr (fun t ht hW => ⟨⟨(-2), M, rfl, ⟨hI, hE, Or.inl ⟨by omega, zk_m2, rfl⟩⟩, by show fm_at D ad C nb _ t.heap; rw [ht]; exact hw⟩, hS.F ht⟩) hS.2.2 dX11_pass_13
set_option maxHeartbeats 400000 in
set_option maxRecDepth 20000 in
theorem fc_X11_wind (l : Launch) (D : va_G) (ad : Nat → Nat → Nat) (C : Nat → Nat → ClassId) (nb : Nat) (M : fm_M) (hI : fm_I nb ad M) (p0 p1 p2 : Int32) : Met l yX11_wind wsX11_wind ({ frames := 3, cells := 0, slots := 0, locals := 60 }) (va_Pc [.ref (ad 0 0), .int p0, .int p1, .int p2] (fm_P D ad C nb M)) (va_Qi (fun (r : Int32) (u : fm_M) => fm_I nb ad u ∧ fm_same [1002, 2000, 50014] M u ∧ ((¬ (0 ≤ p0.toInt ∧ p0.toInt < p1.toInt ∧ p1.toInt ≤ 240 ∧ 0 ≤ p2.toInt ∧ p2.toInt ≤ 4444 ∧ p2.toInt / 100 % 10 ≤ 4 ∧ p2.toInt / 10 % 10 ≤ 4 ∧ p2.toInt % 10 ≤ 4 ∧ p2.toInt / 1000 ≤ p2.toInt / 100 % 10 ∧ p2.toInt / 10 % 10 ≤ p2.toInt % 10) ∧ r.toInt = -2 ∧ (u.1 1 0 2).toInt = (M.1 1 0 2).toInt) ∨ ((0 ≤ p0.toInt ∧ p0.toInt < p1.toInt ∧ p1.toInt ≤ 240 ∧ 0 ≤ p2.toInt ∧ p2.toInt ≤ 4444 ∧ p2.toInt / 100 % 10 ≤ 4 ∧ p2.toInt / 10 % 10 ≤ 4 ∧ p2.toInt % 10 ≤ 4 ∧ p2.toInt / 1000 ≤ p2.toInt / 100 % 10 ∧ p2.toInt / 10 % 10 ≤ p2.toInt % 10) ∧ 30 ≤ (M.1 1 0 2).toInt ∧ r.toInt = -4 ∧ (u.1 1 0 2).toInt = (M.1 1 0 2).toInt) ∨ ((0 ≤ p0.toInt ∧ p0.toInt < p1.toInt ∧ p1.toInt ≤ 240 ∧ 0 ≤ p2.toInt ∧ p2.toInt ≤ 4444 ∧ p2.toInt / 100 % 10 ≤ 4 ∧ p2.toInt / 10 % 10 ≤ 4 ∧ p2.toInt % 10 ≤ 4 ∧ p2.toInt / 1000 ≤ p2.toInt / 100 % 10 ∧ p2.toInt / 10 % 10 ≤ p2.toInt % 10) ∧ (M.1 1 0 2).toInt < 30 ∧ r.toInt = (M.1 1 0 2).toInt + 1 ∧ (u.1 1 0 2).toInt = (M.1 1 0 2).toInt + 1))) (fun u t => fm_at D ad C nb u t.heap) (fm_A nb ad)) 0 0 (fm_A nb ad) := by
  refine Met.ofW (cc := cX11_wind) (maxL := 6) (ret := (some .int)) (by decide) rfl ?_
  intro p e s m args below meth c s₁ B hml hv
  obtain ⟨rfl, hw, hc⟩ := hv
  have hx := B.exec
  have hb := B.bytes
  have hr := B.returns
  have hts := atoms_spec (ws := wsX11_wind) B.pre
  have hown : s.vm.findClass RX11 = some m.cls := findClass_of_methodNamed B.named
  have hinX10 : ∀ w ∈ u_ws RX10 TX10 4, w ∈ wsX11_wind := fun w h => List.mem_cons_of_mem _ (iT_X10 w h)
  have hinX11 : ∀ w ∈ u_ws RX11 TX11 13, w ∈ wsX11_wind := fun w h => List.mem_cons_of_mem _ (iT_X11 w h)
  have hS : va_S (fm_A nb ad) s.heap s.heap [] := va_S.rf
  have hE : fm_same [1002, 2000, 50014] M M := fm_same.rf
  have hl := lv_entry ([.ref (ad 0 0), .int p0, .int p1, .int p2]) (n := 6) (Nat.le_of_ble_eq_true rfl)
  rw [lg_entry_eq]
  generalize (lg_sl ([.ref (ad 0 0), .int p0, .int p1, .int p2]) ++ List.replicate (6 - (lg_sl ([.ref (ad 0 0), .int p0, .int p1, .int p2])).length) Slot.unset).toArray = ls at hl ⊢
  have hl : lv_has ls 6 [(0, .ref (ad 0 0)), (1, .int p0), (2, .int p1), (3, .int p2)] := hl
  refine lv_iload_n hx hb dX11_wind_0 rfl (lv_at hl 1 rfl) ?_
  refine lv_iload_n hx hb dX11_wind_1 rfl (lv_at hl 2 rfl) ?_
  refine vp_callSi (va_Run.run (va_runS (As := [.int p0, .int p1]) (rest := []) ⟨hx, hb, hml, hown, hts⟩ (fc_X11_isSpan l p0 p1) (va_cwS 2 hts gX11_wind_X11_isSpan rfl rfl rfl (by decide +kernel) ⟨Nat.le_of_ble_eq_true rfl, Nat.le_of_ble_eq_true rfl⟩) ⟨fun a U g mk q => q, fun U hU hW => ⟨rfl, trivial⟩⟩ rfl rfl hl.1 rfl (lv_room (Nat.le_of_ble_eq_true rfl)) dX11_wind_2 ⟨by decide +kernel, by decide +kernel⟩)) (fun r1 hr1 => ?_)
  rcases hr1 with ⟨rfl, c2⟩ | ⟨rfl, c2⟩
  · refine fx_if_eq (tgt := 15) hx hb dX11_wind_5 (by decide) zk_1 (fun c3 => by exfalso; omega) (fun c3 => ?_)
    refine lv_iload_n hx hb dX11_wind_8 rfl (lv_at hl 3 rfl) ?_
    refine vp_callSi (va_Run.run (va_runS (As := [.int p2]) (rest := []) ⟨hx, hb, hml, hown, hts⟩ (fc_X11_isWind l p2) (va_cwS 1 hts gX11_wind_X11_isWind rfl rfl rfl (by decide +kernel) ⟨Nat.le_of_ble_eq_true rfl, Nat.le_of_ble_eq_true rfl⟩) ⟨fun a U g mk q => q, fun U hU hW => ⟨rfl, trivial⟩⟩ rfl rfl hl.1 rfl (lv_room (Nat.le_of_ble_eq_true rfl)) dX11_wind_9 ⟨by decide +kernel, by decide +kernel⟩)) (fun r4 hr4 => ?_)
    rcases hr4 with ⟨rfl, c5⟩ | ⟨rfl, c5⟩
    · refine fx_if_ne (tgt := 18) hx hb dX11_wind_12 (by decide) zk_1 (fun c6 => ?_) (fun c6 => by exfalso; omega)
      refine lv_aload_n hx hb dX11_wind_18 rfl (lv_at hl 0 rfl) ?_
      refine fm_getG (a := 0) (j := 0) (T := TX11) (N := 13) hx hb hts hinX11 hown hc hw kl_0 sh_0 rfl (by decide) rfl (hI.to kl_0 tg_0_0) (hts (.fieldLink RX11 10 "RedTent" "weather" "LRedTent$Weather;") (List.mem_cons_of_mem _ tw_2_95)) (fun _ h9 => h9) dX11_wind_19 ?_
      refine fm_getI (a := 1) (j := 2) (T := TX10) (N := 4) hx hb hts hinX10 hown hc hw hI kl_1 sh_1 rfl (by decide) rfl bd_1_2 (hts (.fieldLink RX11 94 "RedTent$Weather" "windCount" "I") (List.mem_cons_of_mem _ tw_1_38)) (fun _ h9 => h9) dX11_wind_22 (fun x7 ex7 bx7 => ?_)
      have wx7 : x7.toInt = (M.1 1 0 2).toInt := by rw [ex7]
      refine lv_bipush (v := 30) hx hb dX11_wind_25 (by decide) ?_
      refine fx_icmp_lt (tgt := 33) hx hb dX11_wind_27 (by decide) rfl zk_30 (fun c8 => ?_) (fun c8 => ?_)
      · refine lv_aload_n hx hb dX11_wind_33 rfl (lv_at hl 0 rfl) ?_
        refine fm_getG (a := 0) (j := 0) (T := TX11) (N := 13) hx hb hts hinX11 hown hc hw kl_0 sh_0 rfl (by decide) rfl (hI.to kl_0 tg_0_0) (hts (.fieldLink RX11 10 "RedTent" "weather" "LRedTent$Weather;") (List.mem_cons_of_mem _ tw_2_95)) (fun _ h9 => h9) dX11_wind_34 ?_
        refine lv_iload_n hx hb dX11_wind_37 rfl (lv_at hl 1 rfl) ?_
        refine lv_iload_n hx hb dX11_wind_38 rfl (lv_at hl 2 rfl) ?_
        refine lv_iload_n hx hb dX11_wind_39 rfl (lv_at hl 3 rfl) ?_
        refine fm_cv (va_runV (As := [.int p0, .int p1, .int p2]) (rest := []) ⟨hx, hb, hml, hown, hts⟩ (fc_X10_tellWind l D ad C nb M hI p0 p1 p2 (by omega) (by omega) (by omega) (by rw [← ex7]; omega)) (cwV 3 hts gX11_wind_X10_tellWind rfl rfl rfl (by decide +kernel) ⟨Nat.le_of_ble_eq_true rfl, Nat.le_of_ble_eq_true rfl⟩) (fm_preV hc hw hS kl_1 sh_1 rfl) rfl rfl hl.1 rfl (lv_room (Nat.le_of_ble_eq_true rfl)) dX11_wind_40 ⟨by decide +kernel, by decide +kernel⟩) hS hc (fun M10 H locs hr9 hw hS => ?_)
        obtain ⟨hI, hEM10, hr9⟩ := hr9
        have hE := hE.tr hEM10 (by decide)
        refine lv_iconst (v := 0) hx hb dX11_wind_43 (by decide) ?_
        refine lv_istore (lv' := [(4, .int 0), (0, .ref (ad 0 0)), (1, .int p0), (2, .int p1), (3, .int p2)]) hx hb dX11_wind_44 hl (by decide) rfl (fun ls hl => ?_)
        have lp : ∀ (n_lp : Nat) (lp_4 : Int32) (M_lp : fm_M), (12 - lp_4.toInt).toNat < n_lp → (0 ≤ lp_4.toInt ∧ lp_4.toInt ≤ 12) → ((M_lp.1 1 0 2).toInt = (M.1 1 0 2).toInt + 1 ∧ (M.1 1 0 2).toInt < 30) → fm_I nb ad M_lp → fm_same [1002, 2000, 50014] M M_lp → ∀ (H : Heap) (locs : List Loc), fm_at D ad C nb M_lp H → va_S (fm_A nb ad) s.heap H locs → ∀ (ls : Array Slot), lv_has ls 6 [(4, .int lp_4), (0, .ref (ad 0 0)), (1, .int p0), (2, .int p1), (3, .int p2)] → W p l e (headSpec wsX11_wind ({ frames := 3, cells := 0, slots := 0, locals := 60 })).room s m ([.ref (ad 0 0), .int p0, .int p1, .int p2] : List Value).toArray below meth c H locs 0 0 (MQ below (va_Qi (fun (r : Int32) (u : fm_M) => fm_I nb ad u ∧ fm_same [1002, 2000, 50014] M u ∧ ((¬ (0 ≤ p0.toInt ∧ p0.toInt < p1.toInt ∧ p1.toInt ≤ 240 ∧ 0 ≤ p2.toInt ∧ p2.toInt ≤ 4444 ∧ p2.toInt / 100 % 10 ≤ 4 ∧ p2.toInt / 10 % 10 ≤ 4 ∧ p2.toInt % 10 ≤ 4 ∧ p2.toInt / 1000 ≤ p2.toInt / 100 % 10 ∧ p2.toInt / 10 % 10 ≤ p2.toInt % 10) ∧ r.toInt = -2 ∧ (u.1 1 0 2).toInt = (M.1 1 0 2).toInt) ∨ ((0 ≤ p0.toInt ∧ p0.toInt < p1.toInt ∧ p1.toInt ≤ 240 ∧ 0 ≤ p2.toInt ∧ p2.toInt ≤ 4444 ∧ p2.toInt / 100 % 10 ≤ 4 ∧ p2.toInt / 10 % 10 ≤ 4 ∧ p2.toInt % 10 ≤ 4 ∧ p2.toInt / 1000 ≤ p2.toInt / 100 % 10 ∧ p2.toInt / 10 % 10 ≤ p2.toInt % 10) ∧ 30 ≤ (M.1 1 0 2).toInt ∧ r.toInt = -4 ∧ (u.1 1 0 2).toInt = (M.1 1 0 2).toInt) ∨ ((0 ≤ p0.toInt ∧ p0.toInt < p1.toInt ∧ p1.toInt ≤ 240 ∧ 0 ≤ p2.toInt ∧ p2.toInt ≤ 4444 ∧ p2.toInt / 100 % 10 ≤ 4 ∧ p2.toInt / 10 % 10 ≤ 4 ∧ p2.toInt % 10 ≤ 4 ∧ p2.toInt / 1000 ≤ p2.toInt / 100 % 10 ∧ p2.toInt / 10 % 10 ≤ p2.toInt % 10) ∧ (M.1 1 0 2).toInt < 30 ∧ r.toInt = (M.1 1 0 2).toInt + 1 ∧ (u.1 1 0 2).toInt = (M.1 1 0 2).toInt + 1))) (fun u t => fm_at D ad C nb u t.heap) (fm_A nb ad)) ([.ref (ad 0 0), .int p0, .int p1, .int p2] : List Value).toArray s 0 0 (fm_A nb ad)) (F0 m 46 ls []) := by
          intro n_lp
          induction n_lp with
          | zero => intro lp_4 M_lp hm_lp b_lp_4 hh hI hE H locs hw hS ls hl; exact absurd hm_lp (Nat.not_lt_zero _)
          | succ n_lp ih_lp =>
            intro lp_4 M_lp hm_lp b_lp_4 hh hI hE H locs hw hS ls hl
            refine lv_iload hx hb dX11_wind_46 (lv_at hl 0 rfl) ?_
            refine lv_aload_n hx hb dX11_wind_48 rfl (lv_at hl 1 rfl) ?_
            refine fm_getI (a := 0) (j := 10) (T := TX11) (N := 13) hx hb hts hinX11 hown hc hw hI kl_0 sh_0 rfl (by decide) rfl bd_0_10 (hts (.fieldLink RX11 75 "RedTent" "bodyCount" "I") (List.mem_cons_of_mem _ tw_2_105)) (fun _ h9 => h9) dX11_wind_49 (fun x11 ex11 bx11 => ?_)
            have nx11 : x11.toInt = nb := by rw [ex11]; exact hI.2.2.2.2.2.2.1
            have nnx11 : nb ≤ 12 := hI.2.2.2.2.2.2.2
            refine fx_icmp_ge (tgt := 80) hx hb dX11_wind_52 (by decide) rfl rfl (fun c12 => ?_) (fun c12 => ?_)
            · refine lv_aload_n hx hb dX11_wind_80 rfl (lv_at hl 1 rfl) ?_
              refine fm_getG (a := 0) (j := 0) (T := TX11) (N := 13) hx hb hts hinX11 hown hc hw kl_0 sh_0 rfl (by decide) rfl (hI.to kl_0 tg_0_0) (hts (.fieldLink RX11 10 "RedTent" "weather" "LRedTent$Weather;") (List.mem_cons_of_mem _ tw_2_95)) (fun _ h9 => h9) dX11_wind_81 ?_
              refine fm_getI (a := 1) (j := 2) (T := TX10) (N := 4) hx hb hts hinX10 hown hc hw hI kl_1 sh_1 rfl (by decide) rfl bd_1_2 (hts (.fieldLink RX11 94 "RedTent$Weather" "windCount" "I") (List.mem_cons_of_mem _ tw_1_38)) (fun _ h9 => h9) dX11_wind_84 (fun x13 ex13 bx13 => ?_)
              have wx13 : x13.toInt = (M_lp.1 1 0 2).toInt := by rw [ex13]
              have k9 : x13.toInt = (M_lp.1 1 0 2).toInt := by rw [ex13]
              exact W.iret (v := x13) hx hb hr (fun t ht hW => ⟨⟨x13, M_lp, rfl, ⟨hI, hE, Or.inr (Or.inr ⟨by omega, by omega, by omega, (by omega)⟩)⟩, by show fm_at D ad C nb _ t.heap; rw [ht]; exact hw⟩, hS.F ht⟩) hS.2.2 dX11_wind_87
            · refine lv_aload_n hx hb dX11_wind_55 rfl (lv_at hl 1 rfl) ?_
              refine lv_iload hx hb dX11_wind_56 (lv_at hl 0 rfl) ?_
              refine va_csq (va_Run.run (va_runV (As := [.int lp_4]) (rest := []) ⟨hx, hb, hml, hown, hts⟩ (fc_X11_bodyAt l D ad C nb M_lp hI lp_4) (cwV 1 hts gX11_wind_X11_bodyAt rfl rfl rfl (by decide +kernel) ⟨Nat.le_of_ble_eq_true rfl, Nat.le_of_ble_eq_true rfl⟩) (fm_preV hc hw hS kl_0 sh_0 rfl) rfl rfl hl.1 rfl (lv_room (Nat.le_of_ble_eq_true rfl)) dX11_wind_58 ⟨by decide +kernel, by decide +kernel⟩)) (fun r14 hr14 => ?_)
              rcases hr14 with ⟨rfl, hr14n⟩ | ⟨hr14l, hr14u, rfl⟩
              · refine lv_astoreN (lv' := [(5, .null), (4, .int lp_4), (0, .ref (ad 0 0)), (1, .int p0), (2, .int p1), (3, .int p2)]) hx hb dX11_wind_61 hl (by decide) rfl (fun ls hl => ?_)
                refine lv_aloadN hx hb dX11_wind_63 (lv_at hl 0 rfl) ?_
                refine lv_ifnullN (tgt := 74) hx hb dX11_wind_65 (by decide) ?_
                obtain ⟨y15, ey15⟩ : ∃ y : Int32, y = lp_4 + 1 := ⟨_, rfl⟩
                have ty15 : y15.toInt = lp_4.toInt + 1 := by rw [ey15, zi_add _ _ (by rw [zk_1]; omega) (by rw [zk_1]; omega), zk_1]
                refine lv_iinc (v := y15) (lv' := [(4, .int y15), (5, .null), (0, .ref (ad 0 0)), (1, .int p0), (2, .int p1), (3, .int p2)]) hx hb dX11_wind_74 hl (k := 1) rfl (by rw [ey15]; rfl) (by decide) rfl (fun ls hl => ?_)
                refine lv_goto (tgt := 46) hx hb dX11_wind_77 (by decide) ?_
                exact ih_lp y15 M_lp (by omega) (by omega) (by omega) hI hE _ _ hw hS ls (lv_sub hl [0, 2, 3, 4, 5] rfl)
              · have khr14 : lp_4.toNatClampNeg < nb := zi_cln ⟨hr14l, hr14u⟩
                have nhr14 : nb ≤ 12 := hI.2.2.2.2.2.2.2
                refine lv_astore (lv' := [(5, .ref (ad 50 lp_4.toNatClampNeg)), (4, .int lp_4), (0, .ref (ad 0 0)), (1, .int p0), (2, .int p1), (3, .int p2)]) hx hb dX11_wind_61 hl (by decide) rfl (fun ls hl => ?_)
                refine lv_aload hx hb dX11_wind_63 (lv_at hl 0 rfl) ?_
                refine lv_ifnull hx hb dX11_wind_65 ?_
                refine lv_aload hx hb dX11_wind_68 (lv_at hl 0 rfl) ?_
                refine lv_iload_n hx hb dX11_wind_70 rfl (lv_at hl 3 rfl) ?_
                refine fm_cv (va_runV (As := [.int p0]) (rest := []) ⟨hx, hb, hml, hown, hts⟩ (fc_X0_forgetBehind l D ad C nb M_lp hI lp_4.toNatClampNeg khr14 p0) (cwV 1 hts gX11_wind_X0_forgetBehind rfl rfl rfl (by decide +kernel) ⟨Nat.le_of_ble_eq_true rfl, Nat.le_of_ble_eq_true rfl⟩) (fm_preV hc hw hS (kl_50 khr14) sh_50 rfl) rfl rfl hl.1 rfl (lv_room (Nat.le_of_ble_eq_true rfl)) dX11_wind_71 ⟨by decide +kernel, by decide +kernel⟩) hS hc (fun M17 H locs hr16 hw hS => ?_)
                obtain ⟨hI, hEM17, hr16⟩ := hr16
                have hE := hE.tr hEM17 (by decide)
                have mM17_1_2 : (M17.1 1 0 2).toInt = (M_lp.1 1 0 2).toInt := by rw [(hEM17 1 0 2 (by decide)).1]
                obtain ⟨y18, ey18⟩ : ∃ y : Int32, y = lp_4 + 1 := ⟨_, rfl⟩
                have ty18 : y18.toInt = lp_4.toInt + 1 := by rw [ey18, zi_add _ _ (by rw [zk_1]; omega) (by rw [zk_1]; omega), zk_1]
                refine lv_iinc (v := y18) (lv' := [(4, .int y18), (5, .ref (ad 50 lp_4.toNatClampNeg)), (0, .ref (ad 0 0)), (1, .int p0), (2, .int p1), (3, .int p2)]) hx hb dX11_wind_74 hl (k := 1) rfl (by rw [ey18]; rfl) (by decide) rfl (fun ls hl => ?_)
                refine lv_goto (tgt := 46) hx hb dX11_wind_77 (by decide) ?_
                exact ih_lp y18 M17 (by omega) (by omega) (by omega) hI hE _ _ hw hS ls (lv_sub hl [0, 2, 3, 4, 5] rfl)
        exact lp _ 0 M10 (Nat.lt_succ_self _) (by decide) (by omega) hI hE _ _ hw hS ls (lv_sub hl [0, 1, 2, 3, 4] rfl)
      · refine lv_bipush (v := (-4)) hx hb dX11_wind_30 (by decide) ?_
        have qx7 : x7.toInt = (M.1 1 0 2).toInt := by rw [ex7]
        exact W.iret (v := (-4)) hx hb hr (fun t ht hW => ⟨⟨(-4), M, rfl, ⟨hI, hE, Or.inr (Or.inl ⟨by omega, by omega, zk_m4, rfl⟩)⟩, by show fm_at D ad C nb _ t.heap; rw [ht]; exact hw⟩, hS.F ht⟩) hS.2.2 dX11_wind_32
    · refine fx_if_ne (tgt := 18) hx hb dX11_wind_12 (by decide) zk_0 (fun c19 => by exfalso; omega) (fun c19 => ?_)
      refine lv_bipush (v := (-2)) hx hb dX11_wind_15 (by decide) ?_
      exact W.iret (v := (-2)) hx hb hr (fun t ht hW => ⟨⟨(-2), M, rfl, ⟨hI, hE, Or.inl ⟨by omega, zk_m2, rfl⟩⟩, by show fm_at D ad C nb _ t.heap; rw [ht]; exact hw⟩, hS.F ht⟩) hS.2.2 dX11_wind_17
  · refine fx_if_eq (tgt := 15) hx hb dX11_wind_5 (by decide) zk_0 (fun c20 => ?_) (fun c20 => by exfalso; omega)
    refine lv_bipush (v := (-2)) hx hb dX11_wind_15 (by decide) ?_
    exact W.iret (v := (-2)) hx hb hr (fun t ht hW => ⟨⟨(-2), M, rfl, ⟨hI, hE, Or.inl ⟨by omega, zk_m2, rfl⟩⟩, by show fm_at D ad C nb _ t.heap; rw [ht]; exact hw⟩, hS.F ht⟩) hS.2.2 dX11_wind_17
set_option maxHeartbeats 400000 in
set_option maxRecDepth 20000 in
theorem fc_X11_fog (l : Launch) (D : va_G) (ad : Nat → Nat → Nat) (C : Nat → Nat → ClassId) (nb : Nat) (M : fm_M) (hI : fm_I nb ad M) (p0 p1 p2 : Int32) : Met l yX11_fog wsX11_fog ({ frames := 3, cells := 0, slots := 0, locals := 60 }) (va_Pc [.ref (ad 0 0), .int p0, .int p1, .int p2] (fm_P D ad C nb M)) (va_Qi (fun (r : Int32) (u : fm_M) => fm_I nb ad u ∧ fm_same [1003, 3000] M u ∧ ((¬ (0 ≤ p0.toInt ∧ p0.toInt < p1.toInt ∧ p1.toInt ≤ 240 ∧ 0 ≤ p2.toInt ∧ p2.toInt ≤ 16) ∧ r.toInt = -2 ∧ (u.1 1 0 3).toInt = (M.1 1 0 3).toInt) ∨ ((0 ≤ p0.toInt ∧ p0.toInt < p1.toInt ∧ p1.toInt ≤ 240 ∧ 0 ≤ p2.toInt ∧ p2.toInt ≤ 16) ∧ 30 ≤ (M.1 1 0 3).toInt ∧ r.toInt = -4 ∧ (u.1 1 0 3).toInt = (M.1 1 0 3).toInt) ∨ ((0 ≤ p0.toInt ∧ p0.toInt < p1.toInt ∧ p1.toInt ≤ 240 ∧ 0 ≤ p2.toInt ∧ p2.toInt ≤ 16) ∧ (M.1 1 0 3).toInt < 30 ∧ r.toInt = (M.1 1 0 3).toInt + 1 ∧ (u.1 1 0 3).toInt = (M.1 1 0 3).toInt + 1))) (fun u t => fm_at D ad C nb u t.heap) (fm_A nb ad)) 0 0 (fm_A nb ad) := by
  refine Met.ofW (cc := cX11_fog) (maxL := 4) (ret := (some .int)) (by decide) rfl ?_
  intro p e s m args below meth c s₁ B hml hv
  obtain ⟨rfl, hw, hc⟩ := hv
  have hx := B.exec
  have hb := B.bytes
  have hr := B.returns
  have hts := atoms_spec (ws := wsX11_fog) B.pre
  have hown : s.vm.findClass RX11 = some m.cls := findClass_of_methodNamed B.named
  have hinX10 : ∀ w ∈ u_ws RX10 TX10 4, w ∈ wsX11_fog := fun w h => List.mem_cons_of_mem _ (iT_X10 w h)
  have hinX11 : ∀ w ∈ u_ws RX11 TX11 13, w ∈ wsX11_fog := fun w h => List.mem_cons_of_mem _ (iT_X11 w h)
  have hS : va_S (fm_A nb ad) s.heap s.heap [] := va_S.rf
  have hE : fm_same [1003, 3000] M M := fm_same.rf
  have hl := lv_entry ([.ref (ad 0 0), .int p0, .int p1, .int p2]) (n := 4) (Nat.le_of_ble_eq_true rfl)
  rw [lg_entry_eq]
  generalize (lg_sl ([.ref (ad 0 0), .int p0, .int p1, .int p2]) ++ List.replicate (4 - (lg_sl ([.ref (ad 0 0), .int p0, .int p1, .int p2])).length) Slot.unset).toArray = ls at hl ⊢
  have hl : lv_has ls 4 [(0, .ref (ad 0 0)), (1, .int p0), (2, .int p1), (3, .int p2)] := hl
  refine lv_iload_n hx hb dX11_fog_0 rfl (lv_at hl 1 rfl) ?_
  refine lv_iload_n hx hb dX11_fog_1 rfl (lv_at hl 2 rfl) ?_
  refine vp_callSi (va_Run.run (va_runS (As := [.int p0, .int p1]) (rest := []) ⟨hx, hb, hml, hown, hts⟩ (fc_X11_isSpan l p0 p1) (va_cwS 2 hts gX11_fog_X11_isSpan rfl rfl rfl (by decide +kernel) ⟨Nat.le_of_ble_eq_true rfl, Nat.le_of_ble_eq_true rfl⟩) ⟨fun a U g mk q => q, fun U hU hW => ⟨rfl, trivial⟩⟩ rfl rfl hl.1 rfl (lv_room (Nat.le_of_ble_eq_true rfl)) dX11_fog_2 ⟨by decide +kernel, by decide +kernel⟩)) (fun r1 hr1 => ?_)
  rcases hr1 with ⟨rfl, c2⟩ | ⟨rfl, c2⟩
  · refine fx_if_eq (tgt := 18) hx hb dX11_fog_5 (by decide) zk_1 (fun c3 => by exfalso; omega) (fun c3 => ?_)
    refine lv_iload_n hx hb dX11_fog_8 rfl (lv_at hl 3 rfl) ?_
    refine fx_if_lt (tgt := 18) hx hb dX11_fog_9 (by decide) rfl (fun c4 => ?_) (fun c4 => ?_)
    · refine lv_bipush (v := (-2)) hx hb dX11_fog_18 (by decide) ?_
      exact W.iret (v := (-2)) hx hb hr (fun t ht hW => ⟨⟨(-2), M, rfl, ⟨hI, hE, Or.inl ⟨by omega, zk_m2, rfl⟩⟩, by show fm_at D ad C nb _ t.heap; rw [ht]; exact hw⟩, hS.F ht⟩) hS.2.2 dX11_fog_20
    · refine lv_iload_n hx hb dX11_fog_12 rfl (lv_at hl 3 rfl) ?_
      refine lv_bipush (v := 16) hx hb dX11_fog_13 (by decide) ?_
      refine fx_icmp_le (tgt := 21) hx hb dX11_fog_15 (by decide) rfl zk_16 (fun c5 => ?_) (fun c5 => ?_)
      · refine lv_aload_n hx hb dX11_fog_21 rfl (lv_at hl 0 rfl) ?_
        refine fm_getG (a := 0) (j := 0) (T := TX11) (N := 13) hx hb hts hinX11 hown hc hw kl_0 sh_0 rfl (by decide) rfl (hI.to kl_0 tg_0_0) (hts (.fieldLink RX11 10 "RedTent" "weather" "LRedTent$Weather;") (List.mem_cons_of_mem _ tw_2_95)) (fun _ h9 => h9) dX11_fog_22 ?_
        refine fm_getI (a := 1) (j := 3) (T := TX10) (N := 4) hx hb hts hinX10 hown hc hw hI kl_1 sh_1 rfl (by decide) rfl bd_1_3 (hts (.fieldLink RX11 104 "RedTent$Weather" "fogCount" "I") (List.mem_cons_of_mem _ tw_1_40)) (fun _ h9 => h9) dX11_fog_25 (fun x6 ex6 bx6 => ?_)
        refine lv_bipush (v := 30) hx hb dX11_fog_28 (by decide) ?_
        refine fx_icmp_lt (tgt := 36) hx hb dX11_fog_30 (by decide) rfl zk_30 (fun c7 => ?_) (fun c7 => ?_)
        · refine lv_aload_n hx hb dX11_fog_36 rfl (lv_at hl 0 rfl) ?_
          refine fm_getG (a := 0) (j := 0) (T := TX11) (N := 13) hx hb hts hinX11 hown hc hw kl_0 sh_0 rfl (by decide) rfl (hI.to kl_0 tg_0_0) (hts (.fieldLink RX11 10 "RedTent" "weather" "LRedTent$Weather;") (List.mem_cons_of_mem _ tw_2_95)) (fun _ h9 => h9) dX11_fog_37 ?_
          refine lv_iload_n hx hb dX11_fog_40 rfl (lv_at hl 1 rfl) ?_
          refine lv_iload_n hx hb dX11_fog_41 rfl (lv_at hl 2 rfl) ?_
          refine lv_iload_n hx hb dX11_fog_42 rfl (lv_at hl 3 rfl) ?_
          refine fm_cv (va_runV (As := [.int p0, .int p1, .int p2]) (rest := []) ⟨hx, hb, hml, hown, hts⟩ (fc_X10_tellFog l D ad C nb M hI p0 p1 p2 (by omega) (by omega) (by omega) (by rw [← ex6]; omega)) (cwV 3 hts gX11_fog_X10_tellFog rfl rfl rfl (by decide +kernel) ⟨Nat.le_of_ble_eq_true rfl, Nat.le_of_ble_eq_true rfl⟩) (fm_preV hc hw hS kl_1 sh_1 rfl) rfl rfl hl.1 rfl (lv_room (Nat.le_of_ble_eq_true rfl)) dX11_fog_43 ⟨by decide +kernel, by decide +kernel⟩) hS hc (fun M9 H locs hr8 hw hS => ?_)
          obtain ⟨hI, hEM9, hr8⟩ := hr8
          have hE := hE.tr hEM9 (by decide)
          refine lv_aload_n hx hb dX11_fog_46 rfl (lv_at hl 0 rfl) ?_
          refine fm_getG (a := 0) (j := 0) (T := TX11) (N := 13) hx hb hts hinX11 hown hc hw kl_0 sh_0 rfl (by decide) rfl (hI.to kl_0 tg_0_0) (hts (.fieldLink RX11 10 "RedTent" "weather" "LRedTent$Weather;") (List.mem_cons_of_mem _ tw_2_95)) (fun _ h9 => h9) dX11_fog_47 ?_
          refine fm_getI (a := 1) (j := 3) (T := TX10) (N := 4) hx hb hts hinX10 hown hc hw hI kl_1 sh_1 rfl (by decide) rfl bd_1_3 (hts (.fieldLink RX11 104 "RedTent$Weather" "fogCount" "I") (List.mem_cons_of_mem _ tw_1_40)) (fun _ h9 => h9) dX11_fog_50 (fun x10 ex10 bx10 => ?_)
          have qx6 : x6.toInt = (M.1 1 0 3).toInt := by rw [ex6]
          have k9 : x10.toInt = (M9.1 1 0 3).toInt := by rw [ex10]
          exact W.iret (v := x10) hx hb hr (fun t ht hW => ⟨⟨x10, M9, rfl, ⟨hI, hE, Or.inr (Or.inr ⟨by omega, by omega, by omega, (by omega)⟩)⟩, by show fm_at D ad C nb _ t.heap; rw [ht]; exact hw⟩, hS.F ht⟩) hS.2.2 dX11_fog_53
        · refine lv_bipush (v := (-4)) hx hb dX11_fog_33 (by decide) ?_
          have qx6 : x6.toInt = (M.1 1 0 3).toInt := by rw [ex6]
          exact W.iret (v := (-4)) hx hb hr (fun t ht hW => ⟨⟨(-4), M, rfl, ⟨hI, hE, Or.inr (Or.inl ⟨by omega, by omega, zk_m4, rfl⟩)⟩, by show fm_at D ad C nb _ t.heap; rw [ht]; exact hw⟩, hS.F ht⟩) hS.2.2 dX11_fog_35
      · refine lv_bipush (v := (-2)) hx hb dX11_fog_18 (by decide) ?_
        exact W.iret (v := (-2)) hx hb hr (fun t ht hW => ⟨⟨(-2), M, rfl, ⟨hI, hE, Or.inl ⟨by omega, zk_m2, rfl⟩⟩, by show fm_at D ad C nb _ t.heap; rw [ht]; exact hw⟩, hS.F ht⟩) hS.2.2 dX11_fog_20
  · refine fx_if_eq (tgt := 18) hx hb dX11_fog_5 (by decide) zk_0 (fun c11 => ?_) (fun c11 => by exfalso; omega)
    refine lv_bipush (v := (-2)) hx hb dX11_fog_18 (by decide) ?_
    exact W.iret (v := (-2)) hx hb hr (fun t ht hW => ⟨⟨(-2), M, rfl, ⟨hI, hE, Or.inl ⟨by omega, zk_m2, rfl⟩⟩, by show fm_at D ad C nb _ t.heap; rw [ht]; exact hw⟩, hS.F ht⟩) hS.2.2 dX11_fog_20
set_option maxHeartbeats 400000 in
set_option maxRecDepth 20000 in
theorem fc_X11_bodyTold (l : Launch) (D : va_G) (ad : Nat → Nat → Nat) (C : Nat → Nat → ClassId) (nb : Nat) (M : fm_M) (hI : fm_I nb ad M) (p0 p1 : Int32) : Met l yX11_bodyTold wsX11_bodyTold ({ frames := 2, cells := 0, slots := 0, locals := 42 }) (va_Pc [.ref (ad 0 0), .int p0, .int p1] (fm_P D ad C nb M)) (vp_Si (fun r : Int32 => True)) 0 0 (fun _ => False) := by
  refine Met.ofW (cc := cX11_bodyTold) (maxL := 4) (ret := (some .int)) (by decide) rfl ?_
  intro p e s m args below meth c s₁ B hml hv
  obtain ⟨rfl, hw, hc⟩ := hv
  have hx := B.exec
  have hb := B.bytes
  have hr := B.returns
  have hts := atoms_spec (ws := wsX11_bodyTold) B.pre
  have hown : s.vm.findClass RX11 = some m.cls := findClass_of_methodNamed B.named
  have hinX0 : ∀ w ∈ u_ws RX0 TX0 15, w ∈ wsX11_bodyTold := fun w h => List.mem_cons_of_mem _ (iT_X0 w h)
  have hinX11 : ∀ w ∈ u_ws RX11 TX11 13, w ∈ wsX11_bodyTold := fun w h => List.mem_cons_of_mem _ (iT_X11 w h)
  have hS : va_S (fm_A nb ad) s.heap s.heap [] := va_S.rf
  have hl := lv_entry ([.ref (ad 0 0), .int p0, .int p1]) (n := 4) (Nat.le_of_ble_eq_true rfl)
  rw [lg_entry_eq]
  generalize (lg_sl ([.ref (ad 0 0), .int p0, .int p1]) ++ List.replicate (4 - (lg_sl ([.ref (ad 0 0), .int p0, .int p1])).length) Slot.unset).toArray = ls at hl ⊢
  have hl : lv_has ls 4 [(0, .ref (ad 0 0)), (1, .int p0), (2, .int p1)] := hl
  refine lv_aload_n hx hb dX11_bodyTold_0 rfl (lv_at hl 0 rfl) ?_
  refine lv_iload_n hx hb dX11_bodyTold_1 rfl (lv_at hl 1 rfl) ?_
  refine va_csq (va_Run.run (va_runV (As := [.int p0]) (rest := []) ⟨hx, hb, hml, hown, hts⟩ (fc_X11_bodyAt l D ad C nb M hI p0) (cwV 1 hts gX11_bodyTold_X11_bodyAt rfl rfl rfl (by decide +kernel) ⟨Nat.le_of_ble_eq_true rfl, Nat.le_of_ble_eq_true rfl⟩) (fm_preV hc hw hS kl_0 sh_0 rfl) rfl rfl hl.1 rfl (lv_room (Nat.le_of_ble_eq_true rfl)) dX11_bodyTold_2 ⟨by decide +kernel, by decide +kernel⟩)) (fun r1 hr1 => ?_)
  rcases hr1 with ⟨rfl, hr1n⟩ | ⟨hr1l, hr1u, rfl⟩
  · refine lv_astore_nN (lv' := [(3, .null), (0, .ref (ad 0 0)), (1, .int p0), (2, .int p1)]) hx hb dX11_bodyTold_5 rfl hl (by decide) rfl (fun ls hl => ?_)
    refine lv_aload_nN hx hb dX11_bodyTold_6 rfl (lv_at hl 0 rfl) ?_
    refine lv_ifnonnullN hx hb dX11_bodyTold_7 ?_
    refine lv_bipush (v := (-2)) hx hb dX11_bodyTold_10 (by decide) ?_
    exact W.iret (v := (-2)) hx hb hr (fun t ht hW => ⟨(-2), rfl, trivial, ht⟩) (fun _ h => absurd h List.not_mem_nil) dX11_bodyTold_12
  · have khr1 : p0.toNatClampNeg < nb := zi_cln ⟨hr1l, hr1u⟩
    have nhr1 : nb ≤ 12 := hI.2.2.2.2.2.2.2
    refine lv_astore_n (lv' := [(3, .ref (ad 50 p0.toNatClampNeg)), (0, .ref (ad 0 0)), (1, .int p0), (2, .int p1)]) hx hb dX11_bodyTold_5 rfl hl (by decide) rfl (fun ls hl => ?_)
    refine lv_aload_n hx hb dX11_bodyTold_6 rfl (lv_at hl 0 rfl) ?_
    refine lv_ifnonnull (tgt := 13) hx hb dX11_bodyTold_7 (by decide) ?_
    refine lv_iload_n hx hb dX11_bodyTold_13 rfl (lv_at hl 3 rfl) ?_
    rcases (show p1.toInt < 0 ∨ 8 < p1.toInt ∨ p1 = 0 ∨ p1 = 1 ∨ p1 = 2 ∨ p1 = 3 ∨ p1 = 4 ∨ p1 = 5 ∨ p1 = 6 ∨ p1 = 7 ∨ p1 = 8 by simp only [fa_eq, Int32.reduceToInt]; omega) with c2 | c2 | c2 | c2 | c2 | c2 | c2 | c2 | c2 | c2 | c2
    · refine lv_tableOut (tgt := 113) hx hb dX11_bodyTold_14 (Or.inl c2) (by decide) ?_
      refine lv_bipush (v := (-2)) hx hb dX11_bodyTold_113 (by decide) ?_
      exact W.iret (v := (-2)) hx hb hr (fun t ht hW => ⟨(-2), rfl, trivial, ht⟩) (fun _ h => absurd h List.not_mem_nil) dX11_bodyTold_115
    · refine lv_tableOut (tgt := 113) hx hb dX11_bodyTold_14 (Or.inr c2) (by decide) ?_
      refine lv_bipush (v := (-2)) hx hb dX11_bodyTold_113 (by decide) ?_
      exact W.iret (v := (-2)) hx hb hr (fun t ht hW => ⟨(-2), rfl, trivial, ht⟩) (fun _ h => absurd h List.not_mem_nil) dX11_bodyTold_115
    · refine lv_tableIn (off := 50) (tgt := 64) hx hb dX11_bodyTold_14 (by rw [c2]; decide) (by rw [c2]; decide) (by rw [c2]; decide) (by decide) ?_
      have zc2 : p1.toInt = 0 := by rw [c2]; rfl
      refine lv_aload_n hx hb dX11_bodyTold_64 rfl (lv_at hl 0 rfl) ?_
      refine fm_getI (a := 50) (j := 0) (T := TX0) (N := 15) hx hb hts hinX0 hown hc hw hI (kl_50 khr1) sh_50 rfl (by decide) rfl bd_50_0 (hts (.fieldLink RX11 116 "RedTent$Body" "kind" "I") (List.mem_cons_of_mem _ tw_2_204)) (fun _ h9 => h9) dX11_bodyTold_65 (fun x3 ex3 bx3 => ?_)
      exact W.iret (v := x3) hx hb hr (fun t ht hW => ⟨x3, rfl, trivial, ht⟩) (fun _ h => absurd h List.not_mem_nil) dX11_bodyTold_68
    · refine lv_tableIn (off := 55) (tgt := 69) hx hb dX11_bodyTold_14 (by rw [c2]; decide) (by rw [c2]; decide) (by rw [c2]; decide) (by decide) ?_
      have zc2 : p1.toInt = 1 := by rw [c2]; rfl
      refine lv_aload_n hx hb dX11_bodyTold_69 rfl (lv_at hl 0 rfl) ?_
      refine fm_getI (a := 50) (j := 1) (T := TX0) (N := 15) hx hb hts hinX0 hown hc hw hI (kl_50 khr1) sh_50 rfl (by decide) rfl bd_50_1 (hts (.fieldLink RX11 119 "RedTent$Body" "start" "I") (List.mem_cons_of_mem _ tw_2_206)) (fun _ h9 => h9) dX11_bodyTold_70 (fun x4 ex4 bx4 => ?_)
      exact W.iret (v := x4) hx hb hr (fun t ht hW => ⟨x4, rfl, trivial, ht⟩) (fun _ h => absurd h List.not_mem_nil) dX11_bodyTold_73
    · refine lv_tableIn (off := 60) (tgt := 74) hx hb dX11_bodyTold_14 (by rw [c2]; decide) (by rw [c2]; decide) (by rw [c2]; decide) (by decide) ?_
      have zc2 : p1.toInt = 2 := by rw [c2]; rfl
      refine lv_aload_n hx hb dX11_bodyTold_74 rfl (lv_at hl 0 rfl) ?_
      refine fm_getI (a := 50) (j := 2) (T := TX0) (N := 15) hx hb hts hinX0 hown hc hw hI (kl_50 khr1) sh_50 rfl (by decide) rfl bd_50_2 (hts (.fieldLink RX11 122 "RedTent$Body" "begin" "I") (List.mem_cons_of_mem _ tw_2_208)) (fun _ h9 => h9) dX11_bodyTold_75 (fun x5 ex5 bx5 => ?_)
      exact W.iret (v := x5) hx hb hr (fun t ht hW => ⟨x5, rfl, trivial, ht⟩) (fun _ h => absurd h List.not_mem_nil) dX11_bodyTold_78
    · refine lv_tableIn (off := 65) (tgt := 79) hx hb dX11_bodyTold_14 (by rw [c2]; decide) (by rw [c2]; decide) (by rw [c2]; decide) (by decide) ?_
      have zc2 : p1.toInt = 3 := by rw [c2]; rfl
      refine lv_aload_n hx hb dX11_bodyTold_79 rfl (lv_at hl 0 rfl) ?_
      refine fm_getI (a := 50) (j := 3) (T := TX0) (N := 15) hx hb hts hinX0 hown hc hw hI (kl_50 khr1) sh_50 rfl (by decide) rfl bd_50_3 (hts (.fieldLink RX11 125 "RedTent$Body" "men" "I") (List.mem_cons_of_mem _ tw_2_210)) (fun _ h9 => h9) dX11_bodyTold_80 (fun x6 ex6 bx6 => ?_)
      exact W.iret (v := x6) hx hb hr (fun t ht hW => ⟨x6, rfl, trivial, ht⟩) (fun _ h => absurd h List.not_mem_nil) dX11_bodyTold_83
    · refine lv_tableIn (off := 70) (tgt := 84) hx hb dX11_bodyTold_14 (by rw [c2]; decide) (by rw [c2]; decide) (by rw [c2]; decide) (by decide) ?_
      have zc2 : p1.toInt = 4 := by rw [c2]; rfl
      refine lv_aload_n hx hb dX11_bodyTold_84 rfl (lv_at hl 0 rfl) ?_
      refine fm_getI (a := 50) (j := 5) (T := TX0) (N := 15) hx hb hts hinX0 hown hc hw hI (kl_50 khr1) sh_50 rfl (by decide) rfl bd_50_5 (hts (.fieldLink RX11 128 "RedTent$Body" "food" "I") (List.mem_cons_of_mem _ tw_2_214)) (fun _ h9 => h9) dX11_bodyTold_85 (fun x7 ex7 bx7 => ?_)
      exact W.iret (v := x7) hx hb hr (fun t ht hW => ⟨x7, rfl, trivial, ht⟩) (fun _ h => absurd h List.not_mem_nil) dX11_bodyTold_88
    · refine lv_tableIn (off := 75) (tgt := 89) hx hb dX11_bodyTold_14 (by rw [c2]; decide) (by rw [c2]; decide) (by rw [c2]; decide) (by decide) ?_
      have zc2 : p1.toInt = 5 := by rw [c2]; rfl
      refine lv_aload_n hx hb dX11_bodyTold_89 rfl (lv_at hl 0 rfl) ?_
      refine fm_getI (a := 50) (j := 4) (T := TX0) (N := 15) hx hb hts hinX0 hown hc hw hI (kl_50 khr1) sh_50 rfl (by decide) rfl bd_50_4 (hts (.fieldLink RX11 131 "RedTent$Body" "fuel" "I") (List.mem_cons_of_mem _ tw_2_212)) (fun _ h9 => h9) dX11_bodyTold_90 (fun x8 ex8 bx8 => ?_)
      exact W.iret (v := x8) hx hb hr (fun t ht hW => ⟨x8, rfl, trivial, ht⟩) (fun _ h => absurd h List.not_mem_nil) dX11_bodyTold_93
    · refine lv_tableIn (off := 80) (tgt := 94) hx hb dX11_bodyTold_14 (by rw [c2]; decide) (by rw [c2]; decide) (by rw [c2]; decide) (by decide) ?_
      have zc2 : p1.toInt = 6 := by rw [c2]; rfl
      refine lv_aload_n hx hb dX11_bodyTold_94 rfl (lv_at hl 0 rfl) ?_
      refine vp_callSi (va_Run.run (va_runV (As := []) (rest := []) ⟨hx, hb, hml, hown, hts⟩ (fc_X0_eats l D ad C nb M hI p0.toNatClampNeg khr1) (cwV 0 hts gX11_bodyTold_X0_eats rfl rfl rfl (by decide +kernel) ⟨Nat.le_of_ble_eq_true rfl, Nat.le_of_ble_eq_true rfl⟩) (fm_preV hc hw hS (kl_50 khr1) sh_50 rfl) rfl rfl hl.1 rfl (lv_room (Nat.le_of_ble_eq_true rfl)) dX11_bodyTold_95 ⟨by decide +kernel, by decide +kernel⟩)) (fun r9 hr9 => ?_)
      exact W.iret (v := r9) hx hb hr (fun t ht hW => ⟨r9, rfl, trivial, ht⟩) (fun _ h => absurd h List.not_mem_nil) dX11_bodyTold_98
    · refine lv_tableIn (off := 85) (tgt := 99) hx hb dX11_bodyTold_14 (by rw [c2]; decide) (by rw [c2]; decide) (by rw [c2]; decide) (by decide) ?_
      have zc2 : p1.toInt = 7 := by rw [c2]; rfl
      refine lv_aload_n hx hb dX11_bodyTold_99 rfl (lv_at hl 0 rfl) ?_
      refine vp_callSi (va_Run.run (va_runV (As := []) (rest := []) ⟨hx, hb, hml, hown, hts⟩ (fc_X0_burns l D ad C nb M hI p0.toNatClampNeg khr1) (cwV 0 hts gX11_bodyTold_X0_burns rfl rfl rfl (by decide +kernel) ⟨Nat.le_of_ble_eq_true rfl, Nat.le_of_ble_eq_true rfl⟩) (fm_preV hc hw hS (kl_50 khr1) sh_50 rfl) rfl rfl hl.1 rfl (lv_room (Nat.le_of_ble_eq_true rfl)) dX11_bodyTold_100 ⟨by decide +kernel, by decide +kernel⟩)) (fun r10 hr10 => ?_)
      exact W.iret (v := r10) hx hb hr (fun t ht hW => ⟨r10, rfl, trivial, ht⟩) (fun _ h => absurd h List.not_mem_nil) dX11_bodyTold_103
    · refine lv_tableIn (off := 90) (tgt := 104) hx hb dX11_bodyTold_14 (by rw [c2]; decide) (by rw [c2]; decide) (by rw [c2]; decide) (by decide) ?_
      have zc2 : p1.toInt = 8 := by rw [c2]; rfl
      refine lv_aload_n hx hb dX11_bodyTold_104 rfl (lv_at hl 0 rfl) ?_
      refine lv_aload_n hx hb dX11_bodyTold_105 rfl (lv_at hl 1 rfl) ?_
      refine fm_getI (a := 0) (j := 9) (T := TX11) (N := 13) hx hb hts hinX11 hown hc hw hI kl_0 sh_0 rfl (by decide) rfl bd_0_9 (hts (.fieldLink RX11 71 "RedTent" "now" "I") (List.mem_cons_of_mem _ tw_2_104)) (fun _ h9 => h9) dX11_bodyTold_106 (fun x11 ex11 bx11 => ?_)
      refine vp_callSi (va_Run.run (va_runV (As := [.int x11]) (rest := []) ⟨hx, hb, hml, hown, hts⟩ (fc_X0_foodLasts l D ad C nb M hI p0.toNatClampNeg khr1 x11 (by omega)) (cwV 1 hts gX11_bodyTold_X0_foodLasts rfl rfl rfl (by decide +kernel) ⟨Nat.le_of_ble_eq_true rfl, Nat.le_of_ble_eq_true rfl⟩) (fm_preV hc hw hS (kl_50 khr1) sh_50 rfl) rfl rfl hl.1 rfl (lv_room (Nat.le_of_ble_eq_true rfl)) dX11_bodyTold_109 ⟨by decide +kernel, by decide +kernel⟩)) (fun r12 hr12 => ?_)
      exact W.iret (v := r12) hx hb hr (fun t ht hW => ⟨r12, rfl, trivial, ht⟩) (fun _ h => absurd h List.not_mem_nil) dX11_bodyTold_112
set_option maxHeartbeats 400000 in
set_option maxRecDepth 20000 in
theorem fc_X11_patch (l : Launch) (D : va_G) (ad : Nat → Nat → Nat) (C : Nat → Nat → ClassId) (nb : Nat) (M : fm_M) (hI : fm_I nb ad M) (p0 p1 p2 : Int32) : Met l yX11_patch wsX11_patch ({ frames := 5, cells := 0, slots := 0, locals := 131 }) (va_Pc [.ref (ad 0 0), .int p0, .int p1, .int p2] (fm_P D ad C nb M)) (va_Ql (fun (r : Int64) (u : fm_M) => fm_I nb ad u ∧ fm_same [50014, 56000] M u ∧ True) (fun u t => fm_at D ad C nb u t.heap) (fm_A nb ad)) 0 0 (fm_A nb ad) := by
  refine Met.ofW (cc := cX11_patch) (maxL := 5) (ret := (some .long)) (by decide) rfl ?_
  intro p e s m args below meth c s₁ B hml hv
  obtain ⟨rfl, hw, hc⟩ := hv
  have hx := B.exec
  have hb := B.bytes
  have hr := B.returns
  have hts := atoms_spec (ws := wsX11_patch) B.pre
  have hown : s.vm.findClass RX11 = some m.cls := findClass_of_methodNamed B.named
  have hinX0 : ∀ w ∈ u_ws RX0 TX0 15, w ∈ wsX11_patch := fun w h => List.mem_cons_of_mem _ (iT_X0 w h)
  have hinX11 : ∀ w ∈ u_ws RX11 TX11 13, w ∈ wsX11_patch := fun w h => List.mem_cons_of_mem _ (iT_X11 w h)
  have hS : va_S (fm_A nb ad) s.heap s.heap [] := va_S.rf
  have hE : fm_same [50014, 56000] M M := fm_same.rf
  have hl := lv_entry ([.ref (ad 0 0), .int p0, .int p1, .int p2]) (n := 5) (Nat.le_of_ble_eq_true rfl)
  rw [lg_entry_eq]
  generalize (lg_sl ([.ref (ad 0 0), .int p0, .int p1, .int p2]) ++ List.replicate (5 - (lg_sl ([.ref (ad 0 0), .int p0, .int p1, .int p2])).length) Slot.unset).toArray = ls at hl ⊢
  have hl : lv_has ls 5 [(0, .ref (ad 0 0)), (1, .int p0), (2, .int p1), (3, .int p2)] := hl
  refine lv_aload_n hx hb dX11_patch_0 rfl (lv_at hl 0 rfl) ?_
  refine lv_iload_n hx hb dX11_patch_1 rfl (lv_at hl 1 rfl) ?_
  refine va_csq (va_Run.run (va_runV (As := [.int p0]) (rest := []) ⟨hx, hb, hml, hown, hts⟩ (fc_X11_bodyAt l D ad C nb M hI p0) (cwV 1 hts gX11_patch_X11_bodyAt rfl rfl rfl (by decide +kernel) ⟨Nat.le_of_ble_eq_true rfl, Nat.le_of_ble_eq_true rfl⟩) (fm_preV hc hw hS kl_0 sh_0 rfl) rfl rfl hl.1 rfl (lv_room (Nat.le_of_ble_eq_true rfl)) dX11_patch_2 ⟨by decide +kernel, by decide +kernel⟩)) (fun r1 hr1 => ?_)
  rcases hr1 with ⟨rfl, hr1n⟩ | ⟨hr1l, hr1u, rfl⟩
  · refine lv_astoreN (lv' := [(4, .null), (0, .ref (ad 0 0)), (1, .int p0), (2, .int p1), (3, .int p2)]) hx hb dX11_patch_5 hl (by decide) rfl (fun ls hl => ?_)
    refine lv_aloadN hx hb dX11_patch_7 (lv_at hl 0 rfl) ?_
    refine lv_ifnullN (tgt := 36) hx hb dX11_patch_9 (by decide) ?_
    refine lv_ldc2 (v := (-4611686018427387904)) hx hb hown (hts (.constantLong RX11 148 (-4611686018427387904)) (List.mem_cons_of_mem _ tw_3_42)) dX11_patch_36 ?_
    exact W.lret (v := (-4611686018427387904)) hx hb hr (fun t ht hW => ⟨⟨(-4611686018427387904), M, rfl, ⟨hI, hE, trivial⟩, by show fm_at D ad C nb _ t.heap; rw [ht]; exact hw⟩, hS.F ht⟩) hS.2.2 dX11_patch_39
  · have khr1 : p0.toNatClampNeg < nb := zi_cln ⟨hr1l, hr1u⟩
    have nhr1 : nb ≤ 12 := hI.2.2.2.2.2.2.2
    refine lv_astore (lv' := [(4, .ref (ad 50 p0.toNatClampNeg)), (0, .ref (ad 0 0)), (1, .int p0), (2, .int p1), (3, .int p2)]) hx hb dX11_patch_5 hl (by decide) rfl (fun ls hl => ?_)
    refine lv_aload hx hb dX11_patch_7 (lv_at hl 0 rfl) ?_
    refine lv_ifnull hx hb dX11_patch_9 ?_
    refine lv_iload_n hx hb dX11_patch_12 rfl (lv_at hl 3 rfl) ?_
    refine lv_aload hx hb dX11_patch_13 (lv_at hl 0 rfl) ?_
    refine fm_getI (a := 50) (j := 2) (T := TX0) (N := 15) hx hb hts hinX0 hown hc hw hI (kl_50 khr1) sh_50 rfl (by decide) rfl bd_50_2 (hts (.fieldLink RX11 122 "RedTent$Body" "begin" "I") (List.mem_cons_of_mem _ tw_2_208)) (fun _ h9 => h9) dX11_patch_15 (fun x2 ex2 bx2 => ?_)
    refine fx_icmp_lt (tgt := 36) hx hb dX11_patch_18 (by decide) rfl rfl (fun c3 => ?_) (fun c3 => ?_)
    · refine lv_ldc2 (v := (-4611686018427387904)) hx hb hown (hts (.constantLong RX11 148 (-4611686018427387904)) (List.mem_cons_of_mem _ tw_3_42)) dX11_patch_36 ?_
      exact W.lret (v := (-4611686018427387904)) hx hb hr (fun t ht hW => ⟨⟨(-4611686018427387904), M, rfl, ⟨hI, hE, trivial⟩, by show fm_at D ad C nb _ t.heap; rw [ht]; exact hw⟩, hS.F ht⟩) hS.2.2 dX11_patch_39
    · refine lv_iload_n hx hb dX11_patch_21 rfl (lv_at hl 3 rfl) ?_
      refine lv_sipush (v := 240) hx hb dX11_patch_22 (by decide) ?_
      refine fx_icmp_ge (tgt := 36) hx hb dX11_patch_25 (by decide) rfl zk_240 (fun c4 => ?_) (fun c4 => ?_)
      · refine lv_ldc2 (v := (-4611686018427387904)) hx hb hown (hts (.constantLong RX11 148 (-4611686018427387904)) (List.mem_cons_of_mem _ tw_3_42)) dX11_patch_36 ?_
        exact W.lret (v := (-4611686018427387904)) hx hb hr (fun t ht hW => ⟨⟨(-4611686018427387904), M, rfl, ⟨hI, hE, trivial⟩, by show fm_at D ad C nb _ t.heap; rw [ht]; exact hw⟩, hS.F ht⟩) hS.2.2 dX11_patch_39
      · refine lv_aload_n hx hb dX11_patch_28 rfl (lv_at hl 1 rfl) ?_
        refine lv_iload_n hx hb dX11_patch_29 rfl (lv_at hl 4 rfl) ?_
        refine vp_callSi (va_Run.run (va_runV (As := [.int p2]) (rest := []) ⟨hx, hb, hml, hown, hts⟩ (fc_X11_isPast l D ad C nb M hI p2) (cwV 1 hts gX11_patch_X11_isPast rfl rfl rfl (by decide +kernel) ⟨Nat.le_of_ble_eq_true rfl, Nat.le_of_ble_eq_true rfl⟩) (fm_preV hc hw hS kl_0 sh_0 rfl) rfl rfl hl.1 rfl (lv_room (Nat.le_of_ble_eq_true rfl)) dX11_patch_30 ⟨by decide +kernel, by decide +kernel⟩)) (fun r5 hr5 => ?_)
        have bqq6 := hI.bd (k := 0) bd_0_9
        rcases hr5 with ⟨rfl, c7⟩ | ⟨rfl, c7⟩
        · refine fx_if_ne (tgt := 40) hx hb dX11_patch_33 (by decide) zk_1 (fun c8 => ?_) (fun c8 => by exfalso; omega)
          refine lv_aload hx hb dX11_patch_40 (lv_at hl 0 rfl) ?_
          refine lv_aload_n hx hb dX11_patch_42 rfl (lv_at hl 1 rfl) ?_
          refine fm_getG (a := 0) (j := 0) (T := TX11) (N := 13) hx hb hts hinX11 hown hc hw kl_0 sh_0 rfl (by decide) rfl (hI.to kl_0 tg_0_0) (hts (.fieldLink RX11 10 "RedTent" "weather" "LRedTent$Weather;") (List.mem_cons_of_mem _ tw_2_95)) (fun _ h9 => h9) dX11_patch_43 ?_
          refine lv_iload_n hx hb dX11_patch_46 rfl (lv_at hl 3 rfl) ?_
          refine lv_iload_n hx hb dX11_patch_47 rfl (lv_at hl 4 rfl) ?_
          refine fm_cl (va_runV (As := [.ref (ad 1 0), .int p1, .int p2]) (rest := []) ⟨hx, hb, hml, hown, hts⟩ (fc_X0_placesKnown l D ad C nb M hI p0.toNatClampNeg khr1 p1 p2 (by omega)) (cwV 3 hts gX11_patch_X0_placesKnown rfl rfl rfl (by decide +kernel) ⟨Nat.le_of_ble_eq_true rfl, Nat.le_of_ble_eq_true rfl⟩) (fm_preV hc hw hS (kl_50 khr1) sh_50 rfl) rfl rfl hl.1 rfl (lv_room (Nat.le_of_ble_eq_true rfl)) dX11_patch_48 ⟨by decide +kernel, by decide +kernel⟩) hS hc (fun r9 M10 H locs hr9 hw hS => ?_)
          obtain ⟨hI, hEM10, hr9⟩ := hr9
          have hE := hE.tr hEM10 (by decide)
          exact W.lret (v := r9) hx hb hr (fun t ht hW => ⟨⟨r9, M10, rfl, ⟨hI, hE, trivial⟩, by show fm_at D ad C nb _ t.heap; rw [ht]; exact hw⟩, hS.F ht⟩) hS.2.2 dX11_patch_51
        · refine fx_if_ne (tgt := 40) hx hb dX11_patch_33 (by decide) zk_0 (fun c11 => by exfalso; omega) (fun c11 => ?_)
          refine lv_ldc2 (v := (-4611686018427387904)) hx hb hown (hts (.constantLong RX11 148 (-4611686018427387904)) (List.mem_cons_of_mem _ tw_3_42)) dX11_patch_36 ?_
          exact W.lret (v := (-4611686018427387904)) hx hb hr (fun t ht hW => ⟨⟨(-4611686018427387904), M, rfl, ⟨hI, hE, trivial⟩, by show fm_at D ad C nb _ t.heap; rw [ht]; exact hw⟩, hS.F ht⟩) hS.2.2 dX11_patch_39
set_option maxHeartbeats 400000 in
set_option maxRecDepth 20000 in
theorem fc_X11_fix (l : Launch) (D : va_G) (ad : Nat → Nat → Nat) (C : Nat → Nat → ClassId) (nb : Nat) (M : fm_M) (hI : fm_I nb ad M) (p0 p1 : Int32) (p2 : Int64) : Met l yX11_fix wsX11_fix ({ frames := 3, cells := 0, slots := 0, locals := 60 }) (va_Pc [.ref (ad 0 0), .int p0, .int p1, .long p2] (fm_P D ad C nb M)) (va_Qi (fun (r : Int32) (u : fm_M) => fm_I nb ad u ∧ fm_same [11, 50009, 50014, 51000, 52000, 53000] M u ∧ ((-4) ≤ r.toInt ∧ r.toInt ≤ 40)) (fun u t => fm_at D ad C nb u t.heap) (fm_A nb ad)) 0 0 (fm_A nb ad) := by
  refine Met.ofW (cc := cX11_fix) (maxL := 6) (ret := (some .int)) (by decide) rfl ?_
  intro p e s m args below meth c s₁ B hml hv
  obtain ⟨rfl, hw, hc⟩ := hv
  have hx := B.exec
  have hb := B.bytes
  have hr := B.returns
  have hts := atoms_spec (ws := wsX11_fix) B.pre
  have hown : s.vm.findClass RX11 = some m.cls := findClass_of_methodNamed B.named
  have hinX0 : ∀ w ∈ u_ws RX0 TX0 15, w ∈ wsX11_fix := fun w h => List.mem_cons_of_mem _ (iT_X0 w h)
  have hinX11 : ∀ w ∈ u_ws RX11 TX11 13, w ∈ wsX11_fix := fun w h => List.mem_cons_of_mem _ (iT_X11 w h)
  have hS : va_S (fm_A nb ad) s.heap s.heap [] := va_S.rf
  have hE : fm_same [11, 50009, 50014, 51000, 52000, 53000] M M := fm_same.rf
  have hl := lv_entry ([.ref (ad 0 0), .int p0, .int p1, .long p2]) (n := 6) (Nat.le_of_ble_eq_true rfl)
  rw [lg_entry_eq]
  generalize (lg_sl ([.ref (ad 0 0), .int p0, .int p1, .long p2]) ++ List.replicate (6 - (lg_sl ([.ref (ad 0 0), .int p0, .int p1, .long p2])).length) Slot.unset).toArray = ls at hl ⊢
  have hl : lv_has ls 6 [(0, .ref (ad 0 0)), (1, .int p0), (2, .int p1), (3, .long p2)] := hl
  refine lv_aload_n hx hb dX11_fix_0 rfl (lv_at hl 0 rfl) ?_
  refine lv_iload_n hx hb dX11_fix_1 rfl (lv_at hl 1 rfl) ?_
  refine va_csq (va_Run.run (va_runV (As := [.int p0]) (rest := []) ⟨hx, hb, hml, hown, hts⟩ (fc_X11_bodyAt l D ad C nb M hI p0) (cwV 1 hts gX11_fix_X11_bodyAt rfl rfl rfl (by decide +kernel) ⟨Nat.le_of_ble_eq_true rfl, Nat.le_of_ble_eq_true rfl⟩) (fm_preV hc hw hS kl_0 sh_0 rfl) rfl rfl hl.1 rfl (lv_room (Nat.le_of_ble_eq_true rfl)) dX11_fix_2 ⟨by decide +kernel, by decide +kernel⟩)) (fun r1 hr1 => ?_)
  rcases hr1 with ⟨rfl, hr1n⟩ | ⟨hr1l, hr1u, rfl⟩
  · refine lv_astoreN (lv' := [(5, .null), (0, .ref (ad 0 0)), (1, .int p0), (2, .int p1), (3, .long p2)]) hx hb dX11_fix_5 hl (by decide) rfl (fun ls hl => ?_)
    refine lv_aloadN hx hb dX11_fix_7 (lv_at hl 0 rfl) ?_
    refine lv_ifnullN (tgt := 29) hx hb dX11_fix_9 (by decide) ?_
    refine lv_bipush (v := (-2)) hx hb dX11_fix_29 (by decide) ?_
    exact W.iret (v := (-2)) hx hb hr (fun t ht hW => ⟨⟨(-2), M, rfl, ⟨hI, hE, (by decide)⟩, by show fm_at D ad C nb _ t.heap; rw [ht]; exact hw⟩, hS.F ht⟩) hS.2.2 dX11_fix_31
  · have khr1 : p0.toNatClampNeg < nb := zi_cln ⟨hr1l, hr1u⟩
    have nhr1 : nb ≤ 12 := hI.2.2.2.2.2.2.2
    refine lv_astore (lv' := [(5, .ref (ad 50 p0.toNatClampNeg)), (0, .ref (ad 0 0)), (1, .int p0), (2, .int p1), (3, .long p2)]) hx hb dX11_fix_5 hl (by decide) rfl (fun ls hl => ?_)
    refine lv_aload hx hb dX11_fix_7 (lv_at hl 0 rfl) ?_
    refine lv_ifnull hx hb dX11_fix_9 ?_
    refine lv_iload_n hx hb dX11_fix_12 rfl (lv_at hl 3 rfl) ?_
    refine lv_aload hx hb dX11_fix_13 (lv_at hl 0 rfl) ?_
    refine fm_getI (a := 50) (j := 2) (T := TX0) (N := 15) hx hb hts hinX0 hown hc hw hI (kl_50 khr1) sh_50 rfl (by decide) rfl bd_50_2 (hts (.fieldLink RX11 122 "RedTent$Body" "begin" "I") (List.mem_cons_of_mem _ tw_2_208)) (fun _ h9 => h9) dX11_fix_15 (fun x2 ex2 bx2 => ?_)
    refine fx_icmp_lt (tgt := 29) hx hb dX11_fix_18 (by decide) rfl rfl (fun c3 => ?_) (fun c3 => ?_)
    · refine lv_bipush (v := (-2)) hx hb dX11_fix_29 (by decide) ?_
      exact W.iret (v := (-2)) hx hb hr (fun t ht hW => ⟨⟨(-2), M, rfl, ⟨hI, hE, (by decide)⟩, by show fm_at D ad C nb _ t.heap; rw [ht]; exact hw⟩, hS.F ht⟩) hS.2.2 dX11_fix_31
    · refine lv_iload_n hx hb dX11_fix_21 rfl (lv_at hl 3 rfl) ?_
      refine lv_aload_n hx hb dX11_fix_22 rfl (lv_at hl 1 rfl) ?_
      refine fm_getI (a := 0) (j := 9) (T := TX11) (N := 13) hx hb hts hinX11 hown hc hw hI kl_0 sh_0 rfl (by decide) rfl bd_0_9 (hts (.fieldLink RX11 71 "RedTent" "now" "I") (List.mem_cons_of_mem _ tw_2_104)) (fun _ h9 => h9) dX11_fix_23 (fun x4 ex4 bx4 => ?_)
      refine fx_icmp_le (tgt := 32) hx hb dX11_fix_26 (by decide) rfl rfl (fun c5 => ?_) (fun c5 => ?_)
      · refine lv_aload_n hx hb dX11_fix_32 rfl (lv_at hl 1 rfl) ?_
        refine fm_getI (a := 0) (j := 11) (T := TX11) (N := 13) hx hb hts hinX11 hown hc hw hI kl_0 sh_0 rfl (by decide) rfl bd_0_11 (hts (.fieldLink RX11 154 "RedTent" "fixCount" "I") (List.mem_cons_of_mem _ tw_2_106)) (fun _ h9 => h9) dX11_fix_33 (fun x6 ex6 bx6 => ?_)
        refine lv_bipush (v := 40) hx hb dX11_fix_36 (by decide) ?_
        refine fx_icmp_lt (tgt := 44) hx hb dX11_fix_38 (by decide) rfl zk_40 (fun c7 => ?_) (fun c7 => ?_)
        · refine lv_aload hx hb dX11_fix_44 (lv_at hl 0 rfl) ?_
          refine lv_iload_n hx hb dX11_fix_46 rfl (lv_at hl 3 rfl) ?_
          refine lv_aload_n hx hb dX11_fix_47 rfl (lv_at hl 1 rfl) ?_
          refine fm_getI (a := 0) (j := 9) (T := TX11) (N := 13) hx hb hts hinX11 hown hc hw hI kl_0 sh_0 rfl (by decide) rfl bd_0_9 (hts (.fieldLink RX11 71 "RedTent" "now" "I") (List.mem_cons_of_mem _ tw_2_104)) (fun _ h9 => h9) dX11_fix_48 (fun x8 ex8 bx8 => ?_)
          obtain rfl : x4 = x8 := by rw [ex8]; exact ex4
          refine lv_lload_n hx hb dX11_fix_51 rfl (lv_at hl 4 rfl) ?_
          refine fm_cv (va_runV (As := [.int p1, .int x4, .long p2]) (rest := []) ⟨hx, hb, hml, hown, hts⟩ (fc_X0_narrowBy l D ad C nb M hI p0.toNatClampNeg khr1 p1 x4 p2 (by omega) (by omega)) (cwV 3 hts gX11_fix_X0_narrowBy rfl rfl rfl (by decide +kernel) ⟨Nat.le_of_ble_eq_true rfl, Nat.le_of_ble_eq_true rfl⟩) (fm_preV hc hw hS (kl_50 khr1) sh_50 rfl) rfl rfl hl.1 rfl (lv_room (Nat.le_of_ble_eq_true rfl)) dX11_fix_52 ⟨by decide +kernel, by decide +kernel⟩) hS hc (fun M10 H locs hr9 hw hS => ?_)
          obtain ⟨hI, hEM10, hr9⟩ := hr9
          have hE := hE.tr hEM10 (by decide)
          refine lv_aload_n hx hb dX11_fix_55 rfl (lv_at hl 1 rfl) ?_
          refine lv_dup hx hb dX11_fix_56 rfl ?_
          refine fm_getI (a := 0) (j := 11) (T := TX11) (N := 13) hx hb hts hinX11 hown hc hw hI kl_0 sh_0 rfl (by decide) rfl bd_0_11 (hts (.fieldLink RX11 154 "RedTent" "fixCount" "I") (List.mem_cons_of_mem _ tw_2_106)) (fun _ h9 => h9) dX11_fix_57 (fun x11 ex11 bx11 => ?_)
          obtain rfl : x6 = x11 := by rw [ex11, (hEM10 0 0 11 (by decide)).1]; exact ex6
          refine lv_iconst (v := 1) hx hb dX11_fix_60 (by decide) ?_
          refine fx_iadd hx hb dX11_fix_61 rfl zk_1 (by omega) (fun y12 ey12 ty12 => ?_)
          refine lv_dup_x1 hx hb dX11_fix_62 rfl rfl ?_
          refine fm_putI (a := 0) (j := 11) (T := TX11) (N := 13) hx hb hts hinX11 tyX11 tyX11_ok nmX11 hown hc hw hI hE hS kl_0 sh_0 od_0 rfl (by decide) rfl bd_0_11 (hts (.fieldLink RX11 154 "RedTent" "fixCount" "I") (List.mem_cons_of_mem _ tw_2_106)) (fun _ h9 => h9) rfl (by decide +kernel) (by omega) (by decide) (by decide) dX11_fix_63 (fun M13 H locs eM13 hw hI hE hS => ?_)
          exact W.iret (v := y12) hx hb hr (fun t ht hW => ⟨⟨y12, M13, rfl, ⟨hI, hE, (by omega)⟩, by show fm_at D ad C nb _ t.heap; rw [ht]; exact hw⟩, hS.F ht⟩) hS.2.2 dX11_fix_66
        · refine lv_bipush (v := (-4)) hx hb dX11_fix_41 (by decide) ?_
          exact W.iret (v := (-4)) hx hb hr (fun t ht hW => ⟨⟨(-4), M, rfl, ⟨hI, hE, (by decide)⟩, by show fm_at D ad C nb _ t.heap; rw [ht]; exact hw⟩, hS.F ht⟩) hS.2.2 dX11_fix_43
      · refine lv_bipush (v := (-2)) hx hb dX11_fix_29 (by decide) ?_
        exact W.iret (v := (-2)) hx hb hr (fun t ht hW => ⟨⟨(-2), M, rfl, ⟨hI, hE, (by decide)⟩, by show fm_at D ad C nb _ t.heap; rw [ht]; exact hw⟩, hS.F ht⟩) hS.2.2 dX11_fix_31
set_option maxHeartbeats 400000 in
set_option maxRecDepth 20000 in
theorem fc_X11_hearer (l : Launch) (D : va_G) (ad : Nat → Nat → Nat) (C : Nat → Nat → ClassId) (nb : Nat) (M : fm_M) (hI : fm_I nb ad M) (p0 : Int32) : Met l yX11_hearer wsX11_hearer ({ frames := 1, cells := 0, slots := 0, locals := 21 }) (va_Pc [.ref (ad 0 0), .int p0] (fm_P D ad C nb M)) (va_Qi (fun (r : Int32) (u : fm_M) => fm_I nb ad u ∧ fm_same [5001, 6000] M u ∧ ((¬ (0 ≤ p0.toInt ∧ p0.toInt ≤ 63) ∧ r.toInt = -2 ∧ (u.1 5 0 1).toInt = (M.1 5 0 1).toInt) ∨ ((0 ≤ p0.toInt ∧ p0.toInt ≤ 63) ∧ 6 ≤ (M.1 5 0 1).toInt ∧ r.toInt = -4 ∧ (u.1 5 0 1).toInt = (M.1 5 0 1).toInt) ∨ ((0 ≤ p0.toInt ∧ p0.toInt ≤ 63) ∧ (M.1 5 0 1).toInt < 6 ∧ r.toInt = (M.1 5 0 1).toInt ∧ (u.1 5 0 1).toInt = (M.1 5 0 1).toInt + 1))) (fun u t => fm_at D ad C nb u t.heap) (fm_A nb ad)) 0 0 (fm_A nb ad) := by
  refine Met.ofW (cc := cX11_hearer) (maxL := 2) (ret := (some .int)) (by decide) rfl ?_
  intro p e s m args below meth c s₁ B hml hv
  obtain ⟨rfl, hw, hc⟩ := hv
  have hx := B.exec
  have hb := B.bytes
  have hr := B.returns
  have hts := atoms_spec (ws := wsX11_hearer) B.pre
  have hown : s.vm.findClass RX11 = some m.cls := findClass_of_methodNamed B.named
  have hinX11 : ∀ w ∈ u_ws RX11 TX11 13, w ∈ wsX11_hearer := fun w h => List.mem_cons_of_mem _ (iT_X11 w h)
  have hinX4 : ∀ w ∈ u_ws RX4 TX4 13, w ∈ wsX11_hearer := fun w h => List.mem_cons_of_mem _ (iT_X4 w h)
  have hS : va_S (fm_A nb ad) s.heap s.heap [] := va_S.rf
  have hE : fm_same [5001, 6000] M M := fm_same.rf
  have hl := lv_entry ([.ref (ad 0 0), .int p0]) (n := 2) (Nat.le_of_ble_eq_true rfl)
  rw [lg_entry_eq]
  generalize (lg_sl ([.ref (ad 0 0), .int p0]) ++ List.replicate (2 - (lg_sl ([.ref (ad 0 0), .int p0])).length) Slot.unset).toArray = ls at hl ⊢
  have hl : lv_has ls 2 [(0, .ref (ad 0 0)), (1, .int p0)] := hl
  refine lv_iload_n hx hb dX11_hearer_0 rfl (lv_at hl 1 rfl) ?_
  refine vp_callSi (va_Run.run (va_runS (As := [.int p0]) (rest := []) ⟨hx, hb, hml, hown, hts⟩ (fc_X11_isCell l p0) (va_cwS 1 hts gX11_hearer_X11_isCell rfl rfl rfl (by decide +kernel) ⟨Nat.le_of_ble_eq_true rfl, Nat.le_of_ble_eq_true rfl⟩) ⟨fun a U g mk q => q, fun U hU hW => ⟨rfl, trivial⟩⟩ rfl rfl hl.1 rfl (lv_room (Nat.le_of_ble_eq_true rfl)) dX11_hearer_1 ⟨by decide +kernel, by decide +kernel⟩)) (fun r1 hr1 => ?_)
  rcases hr1 with ⟨rfl, c2⟩ | ⟨rfl, c2⟩
  · refine fx_if_ne (tgt := 10) hx hb dX11_hearer_4 (by decide) zk_1 (fun c3 => ?_) (fun c3 => by exfalso; omega)
    refine lv_aload_n hx hb dX11_hearer_10 rfl (lv_at hl 0 rfl) ?_
    refine fm_getG (a := 0) (j := 2) (T := TX11) (N := 13) hx hb hts hinX11 hown hc hw kl_0 sh_0 rfl (by decide) rfl (hI.to kl_0 tg_0_2) (hts (.fieldLink RX11 25 "RedTent" "radio" "LRedTent$Radio;") (List.mem_cons_of_mem _ tw_2_97)) (fun _ h9 => h9) dX11_hearer_11 ?_
    refine fm_getI (a := 5) (j := 1) (T := TX4) (N := 13) hx hb hts hinX4 hown hc hw hI kl_5 sh_5 rfl (by decide) rfl bd_5_1 (hts (.fieldLink RX11 161 "RedTent$Radio" "hearers" "I") (List.mem_cons_of_mem _ tw_1_61)) (fun _ h9 => h9) dX11_hearer_14 (fun x4 ex4 bx4 => ?_)
    refine lv_bipush (v := 6) hx hb dX11_hearer_17 (by decide) ?_
    refine fx_icmp_lt (tgt := 25) hx hb dX11_hearer_19 (by decide) rfl zk_6 (fun c5 => ?_) (fun c5 => ?_)
    · refine lv_aload_n hx hb dX11_hearer_25 rfl (lv_at hl 0 rfl) ?_
      refine fm_getG (a := 0) (j := 2) (T := TX11) (N := 13) hx hb hts hinX11 hown hc hw kl_0 sh_0 rfl (by decide) rfl (hI.to kl_0 tg_0_2) (hts (.fieldLink RX11 25 "RedTent" "radio" "LRedTent$Radio;") (List.mem_cons_of_mem _ tw_2_97)) (fun _ h9 => h9) dX11_hearer_26 ?_
      refine lv_iload_n hx hb dX11_hearer_29 rfl (lv_at hl 1 rfl) ?_
      refine fm_ci (va_runV (As := [.int p0]) (rest := []) ⟨hx, hb, hml, hown, hts⟩ (fc_X4_addHearer l D ad C nb M hI p0 (by omega) (by rw [← ex4]; omega)) (cwV 1 hts gX11_hearer_X4_addHearer rfl rfl rfl (by decide +kernel) ⟨Nat.le_of_ble_eq_true rfl, Nat.le_of_ble_eq_true rfl⟩) (fm_preV hc hw hS kl_5 sh_5 rfl) rfl rfl hl.1 rfl (lv_room (Nat.le_of_ble_eq_true rfl)) dX11_hearer_30 ⟨by decide +kernel, by decide +kernel⟩) hS hc (fun r6 M7 H locs hr6 hw hS => ?_)
      obtain ⟨hI, hEM7, hr6⟩ := hr6
      have hE := hE.tr hEM7 (by decide)
      have qx4 : x4.toInt = (M.1 5 0 1).toInt := by rw [ex4]
      exact W.iret (v := r6) hx hb hr (fun t ht hW => ⟨⟨r6, M7, rfl, ⟨hI, hE, Or.inr (Or.inr ⟨by omega, by omega, by omega, (by omega)⟩)⟩, by show fm_at D ad C nb _ t.heap; rw [ht]; exact hw⟩, hS.F ht⟩) hS.2.2 dX11_hearer_33
    · refine lv_bipush (v := (-4)) hx hb dX11_hearer_22 (by decide) ?_
      have qx4 : x4.toInt = (M.1 5 0 1).toInt := by rw [ex4]
      exact W.iret (v := (-4)) hx hb hr (fun t ht hW => ⟨⟨(-4), M, rfl, ⟨hI, hE, Or.inr (Or.inl ⟨by omega, by omega, zk_m4, rfl⟩)⟩, by show fm_at D ad C nb _ t.heap; rw [ht]; exact hw⟩, hS.F ht⟩) hS.2.2 dX11_hearer_24
  · refine fx_if_ne (tgt := 10) hx hb dX11_hearer_4 (by decide) zk_0 (fun c8 => by exfalso; omega) (fun c8 => ?_)
    refine lv_bipush (v := (-2)) hx hb dX11_hearer_7 (by decide) ?_
    exact W.iret (v := (-2)) hx hb hr (fun t ht hW => ⟨⟨(-2), M, rfl, ⟨hI, hE, Or.inl ⟨by omega, zk_m2, rfl⟩⟩, by show fm_at D ad C nb _ t.heap; rw [ht]; exact hw⟩, hS.F ht⟩) hS.2.2 dX11_hearer_9
set_option maxHeartbeats 400000 in
set_option maxRecDepth 20000 in
theorem fc_X11_wave (l : Launch) (D : va_G) (ad : Nat → Nat → Nat) (C : Nat → Nat → ClassId) (nb : Nat) (M : fm_M) (hI : fm_I nb ad M) (p0 p1 p2 p3 : Int32) : Met l yX11_wave wsX11_wave ({ frames := 1, cells := 0, slots := 0, locals := 24 }) (va_Pc [.ref (ad 0 0), .int p0, .int p1, .int p2, .int p3] (fm_P D ad C nb M)) (va_Qi (fun (r : Int32) (u : fm_M) => fm_I nb ad u ∧ fm_same [7000, 8000] M u ∧ ((¬ (0 ≤ p0.toInt ∧ p0.toInt ≤ 3 ∧ 0 ≤ p1.toInt ∧ p1.toInt ≤ 1 ∧ 0 ≤ p2.toInt ∧ p2.toInt ≤ p3.toInt ∧ p3.toInt ≤ 9) ∧ r.toInt = -2 ∧ (∀ j : Nat, u.1 7 0 j = M.1 7 0 j) ∧ (∀ j : Nat, u.1 8 0 j = M.1 8 0 j)) ∨ ((0 ≤ p0.toInt ∧ p0.toInt ≤ 3 ∧ 0 ≤ p1.toInt ∧ p1.toInt ≤ 1 ∧ 0 ≤ p2.toInt ∧ p2.toInt ≤ p3.toInt ∧ p3.toInt ≤ 9) ∧ r.toInt = 10 * (M.1 7 0 (2 * p0.toInt + p1.toInt).toNat).toInt + (M.1 8 0 (2 * p0.toInt + p1.toInt).toNat).toInt ∧ (∀ j : Nat, u.1 7 0 j = if j = (2 * p0.toInt + p1.toInt).toNat then p2 else M.1 7 0 j) ∧ (∀ j : Nat, u.1 8 0 j = if j = (2 * p0.toInt + p1.toInt).toNat then p3 else M.1 8 0 j)))) (fun u t => fm_at D ad C nb u t.heap) (fm_A nb ad)) 0 0 (fm_A nb ad) := by
  refine Met.ofW (cc := cX11_wave) (maxL := 5) (ret := (some .int)) (by decide) rfl ?_
  intro p e s m args below meth c s₁ B hml hv
  obtain ⟨rfl, hw, hc⟩ := hv
  have hx := B.exec
  have hb := B.bytes
  have hr := B.returns
  have hts := atoms_spec (ws := wsX11_wave) B.pre
  have hown : s.vm.findClass RX11 = some m.cls := findClass_of_methodNamed B.named
  have hinX11 : ∀ w ∈ u_ws RX11 TX11 13, w ∈ wsX11_wave := fun w h => List.mem_cons_of_mem _ (iT_X11 w h)
  have hS : va_S (fm_A nb ad) s.heap s.heap [] := va_S.rf
  have hE : fm_same [7000, 8000] M M := fm_same.rf
  have hl := lv_entry ([.ref (ad 0 0), .int p0, .int p1, .int p2, .int p3]) (n := 5) (Nat.le_of_ble_eq_true rfl)
  rw [lg_entry_eq]
  generalize (lg_sl ([.ref (ad 0 0), .int p0, .int p1, .int p2, .int p3]) ++ List.replicate (5 - (lg_sl ([.ref (ad 0 0), .int p0, .int p1, .int p2, .int p3])).length) Slot.unset).toArray = ls at hl ⊢
  have hl : lv_has ls 5 [(0, .ref (ad 0 0)), (1, .int p0), (2, .int p1), (3, .int p2), (4, .int p3)] := hl
  refine lv_iload_n hx hb dX11_wave_0 rfl (lv_at hl 1 rfl) ?_
  refine fx_if_lt (tgt := 41) hx hb dX11_wave_1 (by decide) rfl (fun c1 => ?_) (fun c1 => ?_)
  · refine lv_bipush (v := (-2)) hx hb dX11_wave_41 (by decide) ?_
    exact W.iret (v := (-2)) hx hb hr (fun t ht hW => ⟨⟨(-2), M, rfl, ⟨hI, hE, Or.inl ⟨by omega, zk_m2, fun _ => rfl, fun _ => rfl⟩⟩, by show fm_at D ad C nb _ t.heap; rw [ht]; exact hw⟩, hS.F ht⟩) hS.2.2 dX11_wave_43
  · refine lv_iload_n hx hb dX11_wave_4 rfl (lv_at hl 1 rfl) ?_
    refine lv_iconst (v := 4) hx hb dX11_wave_5 (by decide) ?_
    refine fx_icmp_ge (tgt := 41) hx hb dX11_wave_6 (by decide) rfl zk_4 (fun c2 => ?_) (fun c2 => ?_)
    · refine lv_bipush (v := (-2)) hx hb dX11_wave_41 (by decide) ?_
      exact W.iret (v := (-2)) hx hb hr (fun t ht hW => ⟨⟨(-2), M, rfl, ⟨hI, hE, Or.inl ⟨by omega, zk_m2, fun _ => rfl, fun _ => rfl⟩⟩, by show fm_at D ad C nb _ t.heap; rw [ht]; exact hw⟩, hS.F ht⟩) hS.2.2 dX11_wave_43
    · refine lv_iload_n hx hb dX11_wave_9 rfl (lv_at hl 2 rfl) ?_
      refine fx_if_lt (tgt := 41) hx hb dX11_wave_10 (by decide) rfl (fun c3 => ?_) (fun c3 => ?_)
      · refine lv_bipush (v := (-2)) hx hb dX11_wave_41 (by decide) ?_
        exact W.iret (v := (-2)) hx hb hr (fun t ht hW => ⟨⟨(-2), M, rfl, ⟨hI, hE, Or.inl ⟨by omega, zk_m2, fun _ => rfl, fun _ => rfl⟩⟩, by show fm_at D ad C nb _ t.heap; rw [ht]; exact hw⟩, hS.F ht⟩) hS.2.2 dX11_wave_43
      · refine lv_iload_n hx hb dX11_wave_13 rfl (lv_at hl 2 rfl) ?_
        refine lv_iconst (v := 1) hx hb dX11_wave_14 (by decide) ?_
        refine fx_icmp_gt (tgt := 41) hx hb dX11_wave_15 (by decide) rfl zk_1 (fun c4 => ?_) (fun c4 => ?_)
        · refine lv_bipush (v := (-2)) hx hb dX11_wave_41 (by decide) ?_
          exact W.iret (v := (-2)) hx hb hr (fun t ht hW => ⟨⟨(-2), M, rfl, ⟨hI, hE, Or.inl ⟨by omega, zk_m2, fun _ => rfl, fun _ => rfl⟩⟩, by show fm_at D ad C nb _ t.heap; rw [ht]; exact hw⟩, hS.F ht⟩) hS.2.2 dX11_wave_43
        · refine lv_iload_n hx hb dX11_wave_18 rfl (lv_at hl 3 rfl) ?_
          refine fx_if_lt (tgt := 41) hx hb dX11_wave_19 (by decide) rfl (fun c5 => ?_) (fun c5 => ?_)
          · refine lv_bipush (v := (-2)) hx hb dX11_wave_41 (by decide) ?_
            exact W.iret (v := (-2)) hx hb hr (fun t ht hW => ⟨⟨(-2), M, rfl, ⟨hI, hE, Or.inl ⟨by omega, zk_m2, fun _ => rfl, fun _ => rfl⟩⟩, by show fm_at D ad C nb _ t.heap; rw [ht]; exact hw⟩, hS.F ht⟩) hS.2.2 dX11_wave_43
          · refine lv_iload_n hx hb dX11_wave_22 rfl (lv_at hl 3 rfl) ?_
            refine lv_bipush (v := 9) hx hb dX11_wave_23 (by decide) ?_
            refine fx_icmp_gt (tgt := 41) hx hb dX11_wave_25 (by decide) rfl zk_9 (fun c6 => ?_) (fun c6 => ?_)
            · refine lv_bipush (v := (-2)) hx hb dX11_wave_41 (by decide) ?_
              exact W.iret (v := (-2)) hx hb hr (fun t ht hW => ⟨⟨(-2), M, rfl, ⟨hI, hE, Or.inl ⟨by omega, zk_m2, fun _ => rfl, fun _ => rfl⟩⟩, by show fm_at D ad C nb _ t.heap; rw [ht]; exact hw⟩, hS.F ht⟩) hS.2.2 dX11_wave_43
            · refine lv_iload hx hb dX11_wave_28 (lv_at hl 4 rfl) ?_
              refine lv_iload_n hx hb dX11_wave_30 rfl (lv_at hl 3 rfl) ?_
              refine fx_icmp_lt (tgt := 41) hx hb dX11_wave_31 (by decide) rfl rfl (fun c7 => ?_) (fun c7 => ?_)
              · refine lv_bipush (v := (-2)) hx hb dX11_wave_41 (by decide) ?_
                exact W.iret (v := (-2)) hx hb hr (fun t ht hW => ⟨⟨(-2), M, rfl, ⟨hI, hE, Or.inl ⟨by omega, zk_m2, fun _ => rfl, fun _ => rfl⟩⟩, by show fm_at D ad C nb _ t.heap; rw [ht]; exact hw⟩, hS.F ht⟩) hS.2.2 dX11_wave_43
              · refine lv_iload hx hb dX11_wave_34 (lv_at hl 4 rfl) ?_
                refine lv_bipush (v := 9) hx hb dX11_wave_36 (by decide) ?_
                refine fx_icmp_le (tgt := 44) hx hb dX11_wave_38 (by decide) rfl zk_9 (fun c8 => ?_) (fun c8 => ?_)
                · refine lv_aload_n hx hb dX11_wave_44 rfl (lv_at hl 0 rfl) ?_
                  refine fm_getG (a := 0) (j := 2) (T := TX11) (N := 13) hx hb hts hinX11 hown hc hw kl_0 sh_0 rfl (by decide) rfl (hI.to kl_0 tg_0_2) (hts (.fieldLink RX11 25 "RedTent" "radio" "LRedTent$Radio;") (List.mem_cons_of_mem _ tw_2_97)) (fun _ h9 => h9) dX11_wave_45 ?_
                  refine lv_iconst (v := 2) hx hb dX11_wave_48 (by decide) ?_
                  refine lv_iload_n hx hb dX11_wave_49 rfl (lv_at hl 1 rfl) ?_
                  refine fx_imul hx hb dX11_wave_50 zk_2 rfl (by omega) (fun y9 ey9 ty9 => ?_)
                  refine lv_iload_n hx hb dX11_wave_51 rfl (lv_at hl 2 rfl) ?_
                  refine fx_iadd hx hb dX11_wave_52 rfl rfl (by omega) (fun y10 ey10 ty10 => ?_)
                  refine lv_iload_n hx hb dX11_wave_53 rfl (lv_at hl 3 rfl) ?_
                  refine lv_iload hx hb dX11_wave_54 (lv_at hl 4 rfl) ?_
                  refine fm_ci (va_runV (As := [.int y10, .int p2, .int p3]) (rest := []) ⟨hx, hb, hml, hown, hts⟩ (fc_X4_setWave l D ad C nb M hI y10 p2 p3 (by omega) (by omega) (by omega)) (cwV 3 hts gX11_wave_X4_setWave rfl rfl rfl (by decide +kernel) ⟨Nat.le_of_ble_eq_true rfl, Nat.le_of_ble_eq_true rfl⟩) (fm_preV hc hw hS kl_5 sh_5 rfl) rfl rfl hl.1 rfl (lv_room (Nat.le_of_ble_eq_true rfl)) dX11_wave_56 ⟨by decide +kernel, by decide +kernel⟩) hS hc (fun r11 M12 H locs hr11 hw hS => ?_)
                  obtain ⟨hI, hEM12, hr11⟩ := hr11
                  have hE := hE.tr hEM12 (by decide)
                  have k9 : y10.toNatClampNeg = (2 * p0.toInt + p1.toInt).toNat := by rw [Int32.toNatClampNeg]; omega
                  rw [k9] at hr11
                  exact W.iret (v := r11) hx hb hr (fun t ht hW => ⟨⟨r11, M12, rfl, ⟨hI, hE, Or.inr ⟨by omega, hr11⟩⟩, by show fm_at D ad C nb _ t.heap; rw [ht]; exact hw⟩, hS.F ht⟩) hS.2.2 dX11_wave_59
                · refine lv_bipush (v := (-2)) hx hb dX11_wave_41 (by decide) ?_
                  exact W.iret (v := (-2)) hx hb hr (fun t ht hW => ⟨⟨(-2), M, rfl, ⟨hI, hE, Or.inl ⟨by omega, zk_m2, fun _ => rfl, fun _ => rfl⟩⟩, by show fm_at D ad C nb _ t.heap; rw [ht]; exact hw⟩, hS.F ht⟩) hS.2.2 dX11_wave_43
set_option maxHeartbeats 400000 in
set_option maxRecDepth 20000 in
theorem fc_X11_call (l : Launch) (D : va_G) (ad : Nat → Nat → Nat) (C : Nat → Nat → ClassId) (nb : Nat) (M : fm_M) (hI : fm_I nb ad M) (p0 p1 : Int32) (p2 : Int64) : Met l yX11_call wsX11_call ({ frames := 1, cells := 0, slots := 0, locals := 25 }) (va_Pc [.ref (ad 0 0), .int p0, .int p1, .long p2] (fm_P D ad C nb M)) (va_Qi (fun (r : Int32) (u : fm_M) => fm_I nb ad u ∧ fm_same [5008, 9000, 10000, 11000, 12000] M u ∧ ((¬ (0 ≤ p0.toInt ∧ p0.toInt < nb ∧ 0 ≤ p1.toInt ∧ p1.toInt ≤ 3) ∧ r.toInt = -2 ∧ (u.1 5 0 8).toInt = (M.1 5 0 8).toInt) ∨ ((0 ≤ p0.toInt ∧ p0.toInt < nb ∧ 0 ≤ p1.toInt ∧ p1.toInt ≤ 3) ∧ 20 ≤ (M.1 5 0 8).toInt ∧ r.toInt = -4 ∧ (u.1 5 0 8).toInt = (M.1 5 0 8).toInt) ∨ ((0 ≤ p0.toInt ∧ p0.toInt < nb ∧ 0 ≤ p1.toInt ∧ p1.toInt ≤ 3) ∧ (M.1 5 0 8).toInt < 20 ∧ r.toInt = (M.1 5 0 8).toInt ∧ (u.1 5 0 8).toInt = (M.1 5 0 8).toInt + 1))) (fun u t => fm_at D ad C nb u t.heap) (fm_A nb ad)) 0 0 (fm_A nb ad) := by
  refine Met.ofW (cc := cX11_call) (maxL := 5) (ret := (some .int)) (by decide) rfl ?_
  intro p e s m args below meth c s₁ B hml hv
  obtain ⟨rfl, hw, hc⟩ := hv
  have hx := B.exec
  have hb := B.bytes
  have hr := B.returns
  have hts := atoms_spec (ws := wsX11_call) B.pre
  have hown : s.vm.findClass RX11 = some m.cls := findClass_of_methodNamed B.named
  have hinX11 : ∀ w ∈ u_ws RX11 TX11 13, w ∈ wsX11_call := fun w h => List.mem_cons_of_mem _ (iT_X11 w h)
  have hinX4 : ∀ w ∈ u_ws RX4 TX4 13, w ∈ wsX11_call := fun w h => List.mem_cons_of_mem _ (iT_X4 w h)
  have hS : va_S (fm_A nb ad) s.heap s.heap [] := va_S.rf
  have hE : fm_same [5008, 9000, 10000, 11000, 12000] M M := fm_same.rf
  have hl := lv_entry ([.ref (ad 0 0), .int p0, .int p1, .long p2]) (n := 5) (Nat.le_of_ble_eq_true rfl)
  rw [lg_entry_eq]
  generalize (lg_sl ([.ref (ad 0 0), .int p0, .int p1, .long p2]) ++ List.replicate (5 - (lg_sl ([.ref (ad 0 0), .int p0, .int p1, .long p2])).length) Slot.unset).toArray = ls at hl ⊢
  have hl : lv_has ls 5 [(0, .ref (ad 0 0)), (1, .int p0), (2, .int p1), (3, .long p2)] := hl
  refine lv_aload_n hx hb dX11_call_0 rfl (lv_at hl 0 rfl) ?_
  refine lv_iload_n hx hb dX11_call_1 rfl (lv_at hl 1 rfl) ?_
  refine va_csq (va_Run.run (va_runV (As := [.int p0]) (rest := []) ⟨hx, hb, hml, hown, hts⟩ (fc_X11_bodyAt l D ad C nb M hI p0) (cwV 1 hts gX11_call_X11_bodyAt rfl rfl rfl (by decide +kernel) ⟨Nat.le_of_ble_eq_true rfl, Nat.le_of_ble_eq_true rfl⟩) (fm_preV hc hw hS kl_0 sh_0 rfl) rfl rfl hl.1 rfl (lv_room (Nat.le_of_ble_eq_true rfl)) dX11_call_2 ⟨by decide +kernel, by decide +kernel⟩)) (fun r1 hr1 => ?_)
  rcases hr1 with ⟨rfl, hr1n⟩ | ⟨hr1l, hr1u, rfl⟩
  · refine lv_ifnullN (tgt := 17) hx hb dX11_call_5 (by decide) ?_
    refine lv_bipush (v := (-2)) hx hb dX11_call_17 (by decide) ?_
    exact W.iret (v := (-2)) hx hb hr (fun t ht hW => ⟨⟨(-2), M, rfl, ⟨hI, hE, Or.inl ⟨by omega, zk_m2, rfl⟩⟩, by show fm_at D ad C nb _ t.heap; rw [ht]; exact hw⟩, hS.F ht⟩) hS.2.2 dX11_call_19
  · have khr1 : p0.toNatClampNeg < nb := zi_cln ⟨hr1l, hr1u⟩
    have nhr1 : nb ≤ 12 := hI.2.2.2.2.2.2.2
    refine lv_ifnull hx hb dX11_call_5 ?_
    refine lv_iload_n hx hb dX11_call_8 rfl (lv_at hl 2 rfl) ?_
    refine fx_if_lt (tgt := 17) hx hb dX11_call_9 (by decide) rfl (fun c2 => ?_) (fun c2 => ?_)
    · refine lv_bipush (v := (-2)) hx hb dX11_call_17 (by decide) ?_
      exact W.iret (v := (-2)) hx hb hr (fun t ht hW => ⟨⟨(-2), M, rfl, ⟨hI, hE, Or.inl ⟨by omega, zk_m2, rfl⟩⟩, by show fm_at D ad C nb _ t.heap; rw [ht]; exact hw⟩, hS.F ht⟩) hS.2.2 dX11_call_19
    · refine lv_iload_n hx hb dX11_call_12 rfl (lv_at hl 2 rfl) ?_
      refine lv_iconst (v := 4) hx hb dX11_call_13 (by decide) ?_
      refine fx_icmp_lt (tgt := 20) hx hb dX11_call_14 (by decide) rfl zk_4 (fun c3 => ?_) (fun c3 => ?_)
      · refine lv_aload_n hx hb dX11_call_20 rfl (lv_at hl 0 rfl) ?_
        refine fm_getG (a := 0) (j := 2) (T := TX11) (N := 13) hx hb hts hinX11 hown hc hw kl_0 sh_0 rfl (by decide) rfl (hI.to kl_0 tg_0_2) (hts (.fieldLink RX11 25 "RedTent" "radio" "LRedTent$Radio;") (List.mem_cons_of_mem _ tw_2_97)) (fun _ h9 => h9) dX11_call_21 ?_
        refine fm_getI (a := 5) (j := 8) (T := TX4) (N := 13) hx hb hts hinX4 hown hc hw hI kl_5 sh_5 rfl (by decide) rfl bd_5_8 (hts (.fieldLink RX11 171 "RedTent$Radio" "calls" "I") (List.mem_cons_of_mem _ tw_1_71)) (fun _ h9 => h9) dX11_call_24 (fun x4 ex4 bx4 => ?_)
        refine lv_bipush (v := 20) hx hb dX11_call_27 (by decide) ?_
        refine fx_icmp_lt (tgt := 35) hx hb dX11_call_29 (by decide) rfl zk_20 (fun c5 => ?_) (fun c5 => ?_)
        · refine lv_aload_n hx hb dX11_call_35 rfl (lv_at hl 0 rfl) ?_
          refine fm_getG (a := 0) (j := 2) (T := TX11) (N := 13) hx hb hts hinX11 hown hc hw kl_0 sh_0 rfl (by decide) rfl (hI.to kl_0 tg_0_2) (hts (.fieldLink RX11 25 "RedTent" "radio" "LRedTent$Radio;") (List.mem_cons_of_mem _ tw_2_97)) (fun _ h9 => h9) dX11_call_36 ?_
          refine lv_iload_n hx hb dX11_call_39 rfl (lv_at hl 1 rfl) ?_
          refine lv_iload_n hx hb dX11_call_40 rfl (lv_at hl 2 rfl) ?_
          refine lv_aload_n hx hb dX11_call_41 rfl (lv_at hl 0 rfl) ?_
          refine fm_getI (a := 0) (j := 9) (T := TX11) (N := 13) hx hb hts hinX11 hown hc hw hI kl_0 sh_0 rfl (by decide) rfl bd_0_9 (hts (.fieldLink RX11 71 "RedTent" "now" "I") (List.mem_cons_of_mem _ tw_2_104)) (fun _ h9 => h9) dX11_call_42 (fun x6 ex6 bx6 => ?_)
          refine lv_lload_n hx hb dX11_call_45 rfl (lv_at hl 3 rfl) ?_
          refine fm_ci (va_runV (As := [.int p0, .int p1, .int x6, .long p2]) (rest := []) ⟨hx, hb, hml, hown, hts⟩ (fc_X4_addCall l D ad C nb M hI p0 p1 x6 p2 (by omega) (by omega) (by omega) (by rw [← ex4]; omega)) (cwV 4 hts gX11_call_X4_addCall rfl rfl rfl (by decide +kernel) ⟨Nat.le_of_ble_eq_true rfl, Nat.le_of_ble_eq_true rfl⟩) (fm_preV hc hw hS kl_5 sh_5 rfl) rfl rfl hl.1 rfl (lv_room (Nat.le_of_ble_eq_true rfl)) dX11_call_46 ⟨by decide +kernel, by decide +kernel⟩) hS hc (fun r7 M8 H locs hr7 hw hS => ?_)
          obtain ⟨hI, hEM8, hr7⟩ := hr7
          have hE := hE.tr hEM8 (by decide)
          have qx4 : x4.toInt = (M.1 5 0 8).toInt := by rw [ex4]
          exact W.iret (v := r7) hx hb hr (fun t ht hW => ⟨⟨r7, M8, rfl, ⟨hI, hE, Or.inr (Or.inr ⟨by omega, by omega, by omega, (by omega)⟩)⟩, by show fm_at D ad C nb _ t.heap; rw [ht]; exact hw⟩, hS.F ht⟩) hS.2.2 dX11_call_49
        · refine lv_bipush (v := (-4)) hx hb dX11_call_32 (by decide) ?_
          have qx4 : x4.toInt = (M.1 5 0 8).toInt := by rw [ex4]
          exact W.iret (v := (-4)) hx hb hr (fun t ht hW => ⟨⟨(-4), M, rfl, ⟨hI, hE, Or.inr (Or.inl ⟨by omega, by omega, zk_m4, rfl⟩)⟩, by show fm_at D ad C nb _ t.heap; rw [ht]; exact hw⟩, hS.F ht⟩) hS.2.2 dX11_call_34
      · refine lv_bipush (v := (-2)) hx hb dX11_call_17 (by decide) ?_
        exact W.iret (v := (-2)) hx hb hr (fun t ht hW => ⟨⟨(-2), M, rfl, ⟨hI, hE, Or.inl ⟨by omega, zk_m2, rfl⟩⟩, by show fm_at D ad C nb _ t.heap; rw [ht]; exact hw⟩, hS.F ht⟩) hS.2.2 dX11_call_19
set_option maxHeartbeats 400000 in
set_option maxRecDepth 20000 in
theorem fc_X11_canHear (l : Launch) (D : va_G) (ad : Nat → Nat → Nat) (C : Nat → Nat → ClassId) (nb : Nat) (M : fm_M) (hI : fm_I nb ad M) (p0 p1 : Int32) : Met l yX11_canHear wsX11_canHear ({ frames := 5, cells := 0, slots := 0, locals := 131 }) (va_Pc [.ref (ad 0 0), .int p0, .int p1] (fm_P D ad C nb M)) (va_Qi (fun (r : Int32) (u : fm_M) => fm_I nb ad u ∧ fm_same [50014, 56000] M u ∧ True) (fun u t => fm_at D ad C nb u t.heap) (fm_A nb ad)) 0 0 (fm_A nb ad) := by
  refine Met.ofW (cc := cX11_canHear) (maxL := 4) (ret := (some .int)) (by decide) rfl ?_
  intro p e s m args below meth c s₁ B hml hv
  obtain ⟨rfl, hw, hc⟩ := hv
  have hx := B.exec
  have hb := B.bytes
  have hr := B.returns
  have hts := atoms_spec (ws := wsX11_canHear) B.pre
  have hown : s.vm.findClass RX11 = some m.cls := findClass_of_methodNamed B.named
  have hinX11 : ∀ w ∈ u_ws RX11 TX11 13, w ∈ wsX11_canHear := fun w h => List.mem_cons_of_mem _ (iT_X11 w h)
  have hinX4 : ∀ w ∈ u_ws RX4 TX4 13, w ∈ wsX11_canHear := fun w h => List.mem_cons_of_mem _ (iT_X4 w h)
  have hS : va_S (fm_A nb ad) s.heap s.heap [] := va_S.rf
  have hE : fm_same [50014, 56000] M M := fm_same.rf
  have hl := lv_entry ([.ref (ad 0 0), .int p0, .int p1]) (n := 4) (Nat.le_of_ble_eq_true rfl)
  rw [lg_entry_eq]
  generalize (lg_sl ([.ref (ad 0 0), .int p0, .int p1]) ++ List.replicate (4 - (lg_sl ([.ref (ad 0 0), .int p0, .int p1])).length) Slot.unset).toArray = ls at hl ⊢
  have hl : lv_has ls 4 [(0, .ref (ad 0 0)), (1, .int p0), (2, .int p1)] := hl
  refine lv_aload_n hx hb dX11_canHear_0 rfl (lv_at hl 0 rfl) ?_
  refine fm_getG (a := 0) (j := 2) (T := TX11) (N := 13) hx hb hts hinX11 hown hc hw kl_0 sh_0 rfl (by decide) rfl (hI.to kl_0 tg_0_2) (hts (.fieldLink RX11 25 "RedTent" "radio" "LRedTent$Radio;") (List.mem_cons_of_mem _ tw_2_97)) (fun _ h9 => h9) dX11_canHear_1 ?_
  refine lv_iload_n hx hb dX11_canHear_4 rfl (lv_at hl 1 rfl) ?_
  refine vp_callSi (va_Run.run (va_runV (As := [.int p0]) (rest := []) ⟨hx, hb, hml, hown, hts⟩ (fc_X4_hasCall l D ad C nb M hI p0) (cwV 1 hts gX11_canHear_X4_hasCall rfl rfl rfl (by decide +kernel) ⟨Nat.le_of_ble_eq_true rfl, Nat.le_of_ble_eq_true rfl⟩) (fm_preV hc hw hS kl_5 sh_5 rfl) rfl rfl hl.1 rfl (lv_room (Nat.le_of_ble_eq_true rfl)) dX11_canHear_5 ⟨by decide +kernel, by decide +kernel⟩)) (fun r1 hr1 => ?_)
  have bqq2 := hI.bd (k := 0) bd_5_8
  rcases hr1 with ⟨rfl, c3⟩ | ⟨rfl, c3⟩
  · refine fx_if_eq (tgt := 19) hx hb dX11_canHear_8 (by decide) zk_1 (fun c4 => by exfalso; omega) (fun c4 => ?_)
    refine lv_aload_n hx hb dX11_canHear_11 rfl (lv_at hl 0 rfl) ?_
    refine lv_iload_n hx hb dX11_canHear_12 rfl (lv_at hl 2 rfl) ?_
    refine vp_callSi (va_Run.run (va_runV (As := [.int p1]) (rest := []) ⟨hx, hb, hml, hown, hts⟩ (fc_X11_isPast l D ad C nb M hI p1) (cwV 1 hts gX11_canHear_X11_isPast rfl rfl rfl (by decide +kernel) ⟨Nat.le_of_ble_eq_true rfl, Nat.le_of_ble_eq_true rfl⟩) (fm_preV hc hw hS kl_0 sh_0 rfl) rfl rfl hl.1 rfl (lv_room (Nat.le_of_ble_eq_true rfl)) dX11_canHear_13 ⟨by decide +kernel, by decide +kernel⟩)) (fun r5 hr5 => ?_)
    have bqq6 := hI.bd (k := 0) bd_0_9
    rcases hr5 with ⟨rfl, c7⟩ | ⟨rfl, c7⟩
    · refine fx_if_ne (tgt := 22) hx hb dX11_canHear_16 (by decide) zk_1 (fun c8 => ?_) (fun c8 => by exfalso; omega)
      refine lv_aload_n hx hb dX11_canHear_22 rfl (lv_at hl 0 rfl) ?_
      refine lv_aload_n hx hb dX11_canHear_23 rfl (lv_at hl 0 rfl) ?_
      refine fm_getG (a := 0) (j := 2) (T := TX11) (N := 13) hx hb hts hinX11 hown hc hw kl_0 sh_0 rfl (by decide) rfl (hI.to kl_0 tg_0_2) (hts (.fieldLink RX11 25 "RedTent" "radio" "LRedTent$Radio;") (List.mem_cons_of_mem _ tw_2_97)) (fun _ h9 => h9) dX11_canHear_24 ?_
      refine fm_getG (a := 5) (j := 4) (T := TX4) (N := 13) hx hb hts hinX4 hown hc hw kl_5 sh_5 rfl (by decide) rfl (hI.to kl_5 tg_5_4) (hts (.fieldLink RX11 181 "RedTent$Radio" "callBody" "[I") (List.mem_cons_of_mem _ tw_1_65)) (fun _ h9 => h9) dX11_canHear_27 ?_
      refine lv_iload_n hx hb dX11_canHear_30 rfl (lv_at hl 1 rfl) ?_
      refine fm_iald (a := 9) hx hb hc hw hI kl_9 sh_9 ty_9 bd_9 (by omega) dX11_canHear_31 (fun x9 ex9 bx9 => ?_)
      refine va_csq (va_Run.run (va_runV (As := [.int x9]) (rest := []) ⟨hx, hb, hml, hown, hts⟩ (fc_X11_bodyAt l D ad C nb M hI x9) (cwV 1 hts gX11_canHear_X11_bodyAt rfl rfl rfl (by decide +kernel) ⟨Nat.le_of_ble_eq_true rfl, Nat.le_of_ble_eq_true rfl⟩) (fm_preV hc hw hS kl_0 sh_0 rfl) rfl rfl hl.1 rfl (lv_room (Nat.le_of_ble_eq_true rfl)) dX11_canHear_32 ⟨by decide +kernel, by decide +kernel⟩)) (fun r10 hr10 => ?_)
      rcases hr10 with ⟨rfl, hr10n⟩ | ⟨hr10l, hr10u, rfl⟩
      · refine lv_astore_nN (lv' := [(3, .null), (0, .ref (ad 0 0)), (1, .int p0), (2, .int p1)]) hx hb dX11_canHear_35 rfl hl (by decide) rfl (fun ls hl => ?_)
        refine lv_aload_nN hx hb dX11_canHear_36 rfl (lv_at hl 0 rfl) ?_
        refine lv_ifnonnullN hx hb dX11_canHear_37 ?_
        refine lv_bipush (v := (-2)) hx hb dX11_canHear_40 (by decide) ?_
        exact W.iret (v := (-2)) hx hb hr (fun t ht hW => ⟨⟨(-2), M, rfl, ⟨hI, hE, trivial⟩, by show fm_at D ad C nb _ t.heap; rw [ht]; exact hw⟩, hS.F ht⟩) hS.2.2 dX11_canHear_42
      · have khr10 : x9.toNatClampNeg < nb := zi_cln ⟨hr10l, hr10u⟩
        have nhr10 : nb ≤ 12 := hI.2.2.2.2.2.2.2
        refine lv_astore_n (lv' := [(3, .ref (ad 50 x9.toNatClampNeg)), (0, .ref (ad 0 0)), (1, .int p0), (2, .int p1)]) hx hb dX11_canHear_35 rfl hl (by decide) rfl (fun ls hl => ?_)
        refine lv_aload_n hx hb dX11_canHear_36 rfl (lv_at hl 0 rfl) ?_
        refine lv_ifnonnull (tgt := 43) hx hb dX11_canHear_37 (by decide) ?_
        refine lv_aload_n hx hb dX11_canHear_43 rfl (lv_at hl 1 rfl) ?_
        refine fm_getG (a := 0) (j := 2) (T := TX11) (N := 13) hx hb hts hinX11 hown hc hw kl_0 sh_0 rfl (by decide) rfl (hI.to kl_0 tg_0_2) (hts (.fieldLink RX11 25 "RedTent" "radio" "LRedTent$Radio;") (List.mem_cons_of_mem _ tw_2_97)) (fun _ h9 => h9) dX11_canHear_44 ?_
        refine lv_iload_n hx hb dX11_canHear_47 rfl (lv_at hl 2 rfl) ?_
        refine lv_aload_n hx hb dX11_canHear_48 rfl (lv_at hl 0 rfl) ?_
        refine lv_aload_n hx hb dX11_canHear_49 rfl (lv_at hl 1 rfl) ?_
        refine fm_getG (a := 0) (j := 0) (T := TX11) (N := 13) hx hb hts hinX11 hown hc hw kl_0 sh_0 rfl (by decide) rfl (hI.to kl_0 tg_0_0) (hts (.fieldLink RX11 10 "RedTent" "weather" "LRedTent$Weather;") (List.mem_cons_of_mem _ tw_2_95)) (fun _ h9 => h9) dX11_canHear_50 ?_
        refine lv_aload_n hx hb dX11_canHear_53 rfl (lv_at hl 1 rfl) ?_
        refine fm_getG (a := 0) (j := 2) (T := TX11) (N := 13) hx hb hts hinX11 hown hc hw kl_0 sh_0 rfl (by decide) rfl (hI.to kl_0 tg_0_2) (hts (.fieldLink RX11 25 "RedTent" "radio" "LRedTent$Radio;") (List.mem_cons_of_mem _ tw_2_97)) (fun _ h9 => h9) dX11_canHear_54 ?_
        refine fm_getG (a := 5) (j := 6) (T := TX4) (N := 13) hx hb hts hinX4 hown hc hw kl_5 sh_5 rfl (by decide) rfl (hI.to kl_5 tg_5_6) (hts (.fieldLink RX11 185 "RedTent$Radio" "callHour" "[I") (List.mem_cons_of_mem _ tw_1_68)) (fun _ h9 => h9) dX11_canHear_57 ?_
        refine lv_iload_n hx hb dX11_canHear_60 rfl (lv_at hl 2 rfl) ?_
        refine fm_iald (a := 11) hx hb hc hw hI kl_11 sh_11 ty_11 bd_11 (by omega) dX11_canHear_61 (fun x11 ex11 bx11 => ?_)
        refine lv_iload_n hx hb dX11_canHear_62 rfl (lv_at hl 3 rfl) ?_
        refine fm_cl (va_runV (As := [.ref (ad 1 0), .int x11, .int p1]) (rest := [.int p0, .ref (ad 5 0)]) ⟨hx, hb, hml, hown, hts⟩ (fc_X0_placesKnown l D ad C nb M hI x9.toNatClampNeg khr10 x11 p1 (by omega)) (cwV 3 hts gX11_canHear_X0_placesKnown rfl rfl rfl (by decide +kernel) ⟨Nat.le_of_ble_eq_true rfl, Nat.le_of_ble_eq_true rfl⟩) (fm_preV hc hw hS (kl_50 khr10) sh_50 rfl) rfl rfl hl.1 rfl (lv_room (Nat.le_of_ble_eq_true rfl)) dX11_canHear_63 ⟨by decide +kernel, by decide +kernel⟩) hS hc (fun r12 M13 H locs hr12 hw hS => ?_)
        obtain ⟨hI, hEM13, hr12⟩ := hr12
        have hE := hE.tr hEM13 (by decide)
        refine vp_callSi (va_Run.run (va_runV (As := [.int p0, .long r12]) (rest := []) ⟨hx, hb, hml, hown, hts⟩ (fc_X4_hearersOf l D ad C nb M13 hI p0 r12 (by omega)) (cwV 2 hts gX11_canHear_X4_hearersOf rfl rfl rfl (by decide +kernel) ⟨Nat.le_of_ble_eq_true rfl, Nat.le_of_ble_eq_true rfl⟩) (fm_preV hc hw hS kl_5 sh_5 rfl) rfl rfl hl.1 rfl (lv_room (Nat.le_of_ble_eq_true rfl)) dX11_canHear_66 ⟨by decide +kernel, by decide +kernel⟩)) (fun r14 hr14 => ?_)
        exact W.iret (v := r14) hx hb hr (fun t ht hW => ⟨⟨r14, M13, rfl, ⟨hI, hE, trivial⟩, by show fm_at D ad C nb _ t.heap; rw [ht]; exact hw⟩, hS.F ht⟩) hS.2.2 dX11_canHear_69
    · refine fx_if_ne (tgt := 22) hx hb dX11_canHear_16 (by decide) zk_0 (fun c15 => by exfalso; omega) (fun c15 => ?_)
      refine lv_bipush (v := (-2)) hx hb dX11_canHear_19 (by decide) ?_
      exact W.iret (v := (-2)) hx hb hr (fun t ht hW => ⟨⟨(-2), M, rfl, ⟨hI, hE, trivial⟩, by show fm_at D ad C nb _ t.heap; rw [ht]; exact hw⟩, hS.F ht⟩) hS.2.2 dX11_canHear_21
  · refine fx_if_eq (tgt := 19) hx hb dX11_canHear_8 (by decide) zk_0 (fun c16 => ?_) (fun c16 => by exfalso; omega)
    refine lv_bipush (v := (-2)) hx hb dX11_canHear_19 (by decide) ?_
    exact W.iret (v := (-2)) hx hb hr (fun t ht hW => ⟨⟨(-2), M, rfl, ⟨hI, hE, trivial⟩, by show fm_at D ad C nb _ t.heap; rw [ht]; exact hw⟩, hS.F ht⟩) hS.2.2 dX11_canHear_21
set_option maxHeartbeats 400000 in
set_option maxRecDepth 20000 in
theorem fc_X11_part (l : Launch) (D : va_G) (ad : Nat → Nat → Nat) (C : Nat → Nat → ClassId) (nb : Nat) (M : fm_M) (hI : fm_I nb ad M) (p0 p1 p2 : Int32) (p3 : Int64) : Met l yX11_part wsX11_part ({ frames := 1, cells := 0, slots := 0, locals := 24 }) (va_Pc [.ref (ad 0 0), .int p0, .int p1, .int p2, .long p3] (fm_P D ad C nb M)) (va_Qi (fun (r : Int32) (u : fm_M) => fm_I nb ad u ∧ fm_same [5012, 13000, 14000, 15000] M u ∧ ((¬ (0 ≤ p0.toInt ∧ p0.toInt < (M.1 5 0 1).toInt ∧ 0 ≤ p1.toInt ∧ p1.toInt < (M.1 5 0 8).toInt ∧ 0 ≤ p2.toInt ∧ p2.toInt ≤ 65535) ∧ r.toInt = -2 ∧ (u.1 5 0 12).toInt = (M.1 5 0 12).toInt) ∨ ((0 ≤ p0.toInt ∧ p0.toInt < (M.1 5 0 1).toInt ∧ 0 ≤ p1.toInt ∧ p1.toInt < (M.1 5 0 8).toInt ∧ 0 ≤ p2.toInt ∧ p2.toInt ≤ 65535) ∧ 40 ≤ (M.1 5 0 12).toInt ∧ r.toInt = -4 ∧ (u.1 5 0 12).toInt = (M.1 5 0 12).toInt) ∨ ((0 ≤ p0.toInt ∧ p0.toInt < (M.1 5 0 1).toInt ∧ 0 ≤ p1.toInt ∧ p1.toInt < (M.1 5 0 8).toInt ∧ 0 ≤ p2.toInt ∧ p2.toInt ≤ 65535) ∧ (M.1 5 0 12).toInt < 40 ∧ r.toInt = (M.1 5 0 12).toInt + 1 ∧ (u.1 5 0 12).toInt = (M.1 5 0 12).toInt + 1))) (fun u t => fm_at D ad C nb u t.heap) (fm_A nb ad)) 0 0 (fm_A nb ad) := by
  refine Met.ofW (cc := cX11_part) (maxL := 6) (ret := (some .int)) (by decide) rfl ?_
  intro p e s m args below meth c s₁ B hml hv
  obtain ⟨rfl, hw, hc⟩ := hv
  have hx := B.exec
  have hb := B.bytes
  have hr := B.returns
  have hts := atoms_spec (ws := wsX11_part) B.pre
  have hown : s.vm.findClass RX11 = some m.cls := findClass_of_methodNamed B.named
  have hinX11 : ∀ w ∈ u_ws RX11 TX11 13, w ∈ wsX11_part := fun w h => List.mem_cons_of_mem _ (iT_X11 w h)
  have hinX4 : ∀ w ∈ u_ws RX4 TX4 13, w ∈ wsX11_part := fun w h => List.mem_cons_of_mem _ (iT_X4 w h)
  have hS : va_S (fm_A nb ad) s.heap s.heap [] := va_S.rf
  have hE : fm_same [5012, 13000, 14000, 15000] M M := fm_same.rf
  have hl := lv_entry ([.ref (ad 0 0), .int p0, .int p1, .int p2, .long p3]) (n := 6) (Nat.le_of_ble_eq_true rfl)
  rw [lg_entry_eq]
  generalize (lg_sl ([.ref (ad 0 0), .int p0, .int p1, .int p2, .long p3]) ++ List.replicate (6 - (lg_sl ([.ref (ad 0 0), .int p0, .int p1, .int p2, .long p3])).length) Slot.unset).toArray = ls at hl ⊢
  have hl : lv_has ls 6 [(0, .ref (ad 0 0)), (1, .int p0), (2, .int p1), (3, .int p2), (4, .long p3)] := hl
  refine lv_iload_n hx hb dX11_part_0 rfl (lv_at hl 1 rfl) ?_
  refine fx_if_lt (tgt := 36) hx hb dX11_part_1 (by decide) rfl (fun c1 => ?_) (fun c1 => ?_)
  · refine lv_bipush (v := (-2)) hx hb dX11_part_36 (by decide) ?_
    exact W.iret (v := (-2)) hx hb hr (fun t ht hW => ⟨⟨(-2), M, rfl, ⟨hI, hE, Or.inl ⟨by omega, zk_m2, rfl⟩⟩, by show fm_at D ad C nb _ t.heap; rw [ht]; exact hw⟩, hS.F ht⟩) hS.2.2 dX11_part_38
  · refine lv_iload_n hx hb dX11_part_4 rfl (lv_at hl 1 rfl) ?_
    refine lv_aload_n hx hb dX11_part_5 rfl (lv_at hl 0 rfl) ?_
    refine fm_getG (a := 0) (j := 2) (T := TX11) (N := 13) hx hb hts hinX11 hown hc hw kl_0 sh_0 rfl (by decide) rfl (hI.to kl_0 tg_0_2) (hts (.fieldLink RX11 25 "RedTent" "radio" "LRedTent$Radio;") (List.mem_cons_of_mem _ tw_2_97)) (fun _ h9 => h9) dX11_part_6 ?_
    refine fm_getI (a := 5) (j := 1) (T := TX4) (N := 13) hx hb hts hinX4 hown hc hw hI kl_5 sh_5 rfl (by decide) rfl bd_5_1 (hts (.fieldLink RX11 161 "RedTent$Radio" "hearers" "I") (List.mem_cons_of_mem _ tw_1_61)) (fun _ h9 => h9) dX11_part_9 (fun x2 ex2 bx2 => ?_)
    refine fx_icmp_ge (tgt := 36) hx hb dX11_part_12 (by decide) rfl rfl (fun c3 => ?_) (fun c3 => ?_)
    · refine lv_bipush (v := (-2)) hx hb dX11_part_36 (by decide) ?_
      have qx2 : x2.toInt = (M.1 5 0 1).toInt := by rw [ex2]
      exact W.iret (v := (-2)) hx hb hr (fun t ht hW => ⟨⟨(-2), M, rfl, ⟨hI, hE, Or.inl ⟨by omega, zk_m2, rfl⟩⟩, by show fm_at D ad C nb _ t.heap; rw [ht]; exact hw⟩, hS.F ht⟩) hS.2.2 dX11_part_38
    · refine lv_aload_n hx hb dX11_part_15 rfl (lv_at hl 0 rfl) ?_
      refine fm_getG (a := 0) (j := 2) (T := TX11) (N := 13) hx hb hts hinX11 hown hc hw kl_0 sh_0 rfl (by decide) rfl (hI.to kl_0 tg_0_2) (hts (.fieldLink RX11 25 "RedTent" "radio" "LRedTent$Radio;") (List.mem_cons_of_mem _ tw_2_97)) (fun _ h9 => h9) dX11_part_16 ?_
      refine lv_iload_n hx hb dX11_part_19 rfl (lv_at hl 2 rfl) ?_
      refine vp_callSi (va_Run.run (va_runV (As := [.int p1]) (rest := []) ⟨hx, hb, hml, hown, hts⟩ (fc_X4_hasCall l D ad C nb M hI p1) (cwV 1 hts gX11_part_X4_hasCall rfl rfl rfl (by decide +kernel) ⟨Nat.le_of_ble_eq_true rfl, Nat.le_of_ble_eq_true rfl⟩) (fm_preV hc hw hS kl_5 sh_5 rfl) rfl rfl hl.1 rfl (lv_room (Nat.le_of_ble_eq_true rfl)) dX11_part_20 ⟨by decide +kernel, by decide +kernel⟩)) (fun r4 hr4 => ?_)
      have bqq5 := hI.bd (k := 0) bd_5_8
      rcases hr4 with ⟨rfl, c6⟩ | ⟨rfl, c6⟩
      · refine fx_if_eq (tgt := 36) hx hb dX11_part_23 (by decide) zk_1 (fun c7 => by exfalso; omega) (fun c7 => ?_)
        refine lv_iload_n hx hb dX11_part_26 rfl (lv_at hl 3 rfl) ?_
        refine fx_if_lt (tgt := 36) hx hb dX11_part_27 (by decide) rfl (fun c8 => ?_) (fun c8 => ?_)
        · refine lv_bipush (v := (-2)) hx hb dX11_part_36 (by decide) ?_
          have qx2 : x2.toInt = (M.1 5 0 1).toInt := by rw [ex2]
          exact W.iret (v := (-2)) hx hb hr (fun t ht hW => ⟨⟨(-2), M, rfl, ⟨hI, hE, Or.inl ⟨by omega, zk_m2, rfl⟩⟩, by show fm_at D ad C nb _ t.heap; rw [ht]; exact hw⟩, hS.F ht⟩) hS.2.2 dX11_part_38
        · refine lv_iload_n hx hb dX11_part_30 rfl (lv_at hl 3 rfl) ?_
          refine fx_ldcI (v := 65536) hx hb hown (hts (.constant RX11 192 (65536)) (List.mem_cons_of_mem _ tw_3_132)) dX11_part_31 ?_
          refine fx_icmp_lt (tgt := 39) hx hb dX11_part_33 (by decide) rfl zk_65536 (fun c9 => ?_) (fun c9 => ?_)
          · refine lv_aload_n hx hb dX11_part_39 rfl (lv_at hl 0 rfl) ?_
            refine fm_getG (a := 0) (j := 2) (T := TX11) (N := 13) hx hb hts hinX11 hown hc hw kl_0 sh_0 rfl (by decide) rfl (hI.to kl_0 tg_0_2) (hts (.fieldLink RX11 25 "RedTent" "radio" "LRedTent$Radio;") (List.mem_cons_of_mem _ tw_2_97)) (fun _ h9 => h9) dX11_part_40 ?_
            refine fm_getI (a := 5) (j := 12) (T := TX4) (N := 13) hx hb hts hinX4 hown hc hw hI kl_5 sh_5 rfl (by decide) rfl bd_5_12 (hts (.fieldLink RX11 193 "RedTent$Radio" "parts" "I") (List.mem_cons_of_mem _ tw_1_76)) (fun _ h9 => h9) dX11_part_43 (fun x10 ex10 bx10 => ?_)
            refine lv_bipush (v := 40) hx hb dX11_part_46 (by decide) ?_
            refine fx_icmp_lt (tgt := 54) hx hb dX11_part_48 (by decide) rfl zk_40 (fun c11 => ?_) (fun c11 => ?_)
            · refine lv_aload_n hx hb dX11_part_54 rfl (lv_at hl 0 rfl) ?_
              refine fm_getG (a := 0) (j := 2) (T := TX11) (N := 13) hx hb hts hinX11 hown hc hw kl_0 sh_0 rfl (by decide) rfl (hI.to kl_0 tg_0_2) (hts (.fieldLink RX11 25 "RedTent" "radio" "LRedTent$Radio;") (List.mem_cons_of_mem _ tw_2_97)) (fun _ h9 => h9) dX11_part_55 ?_
              refine lv_iload_n hx hb dX11_part_58 rfl (lv_at hl 2 rfl) ?_
              refine lv_iload_n hx hb dX11_part_59 rfl (lv_at hl 3 rfl) ?_
              refine lv_lload hx hb dX11_part_60 (lv_at hl 4 rfl) ?_
              refine fm_ci (va_runV (As := [.int p1, .int p2, .long p3]) (rest := []) ⟨hx, hb, hml, hown, hts⟩ (fc_X4_addPart l D ad C nb M hI p1 p2 p3 (by omega) (by omega) (by rw [← ex10]; omega)) (cwV 3 hts gX11_part_X4_addPart rfl rfl rfl (by decide +kernel) ⟨Nat.le_of_ble_eq_true rfl, Nat.le_of_ble_eq_true rfl⟩) (fm_preV hc hw hS kl_5 sh_5 rfl) rfl rfl hl.1 rfl (lv_room (Nat.le_of_ble_eq_true rfl)) dX11_part_62 ⟨by decide +kernel, by decide +kernel⟩) hS hc (fun r12 M13 H locs hr12 hw hS => ?_)
              obtain ⟨hI, hEM13, hr12⟩ := hr12
              have hE := hE.tr hEM13 (by decide)
              have qx2 : x2.toInt = (M.1 5 0 1).toInt := by rw [ex2]
              have qx10 : x10.toInt = (M.1 5 0 12).toInt := by rw [ex10]
              exact W.iret (v := r12) hx hb hr (fun t ht hW => ⟨⟨r12, M13, rfl, ⟨hI, hE, Or.inr (Or.inr ⟨by omega, by omega, by omega, (by omega)⟩)⟩, by show fm_at D ad C nb _ t.heap; rw [ht]; exact hw⟩, hS.F ht⟩) hS.2.2 dX11_part_65
            · refine lv_bipush (v := (-4)) hx hb dX11_part_51 (by decide) ?_
              have qx2 : x2.toInt = (M.1 5 0 1).toInt := by rw [ex2]
              have qx10 : x10.toInt = (M.1 5 0 12).toInt := by rw [ex10]
              exact W.iret (v := (-4)) hx hb hr (fun t ht hW => ⟨⟨(-4), M, rfl, ⟨hI, hE, Or.inr (Or.inl ⟨by omega, by omega, zk_m4, rfl⟩)⟩, by show fm_at D ad C nb _ t.heap; rw [ht]; exact hw⟩, hS.F ht⟩) hS.2.2 dX11_part_53
          · refine lv_bipush (v := (-2)) hx hb dX11_part_36 (by decide) ?_
            have qx2 : x2.toInt = (M.1 5 0 1).toInt := by rw [ex2]
            exact W.iret (v := (-2)) hx hb hr (fun t ht hW => ⟨⟨(-2), M, rfl, ⟨hI, hE, Or.inl ⟨by omega, zk_m2, rfl⟩⟩, by show fm_at D ad C nb _ t.heap; rw [ht]; exact hw⟩, hS.F ht⟩) hS.2.2 dX11_part_38
      · refine fx_if_eq (tgt := 36) hx hb dX11_part_23 (by decide) zk_0 (fun c14 => ?_) (fun c14 => by exfalso; omega)
        refine lv_bipush (v := (-2)) hx hb dX11_part_36 (by decide) ?_
        have qx2 : x2.toInt = (M.1 5 0 1).toInt := by rw [ex2]
        exact W.iret (v := (-2)) hx hb hr (fun t ht hW => ⟨⟨(-2), M, rfl, ⟨hI, hE, Or.inl ⟨by omega, zk_m2, rfl⟩⟩, by show fm_at D ad C nb _ t.heap; rw [ht]; exact hw⟩, hS.F ht⟩) hS.2.2 dX11_part_38
set_option maxHeartbeats 400000 in
set_option maxRecDepth 20000 in
theorem fc_X11_word (l : Launch) (D : va_G) (ad : Nat → Nat → Nat) (C : Nat → Nat → ClassId) (nb : Nat) (M : fm_M) (hI : fm_I nb ad M) (p0 p1 : Int32) : Met l yX11_word wsX11_word ({ frames := 2, cells := 0, slots := 0, locals := 47 }) (va_Pc [.ref (ad 0 0), .int p0, .int p1] (fm_P D ad C nb M)) (vp_Si (fun r : Int32 => True)) 0 0 (fun _ => False) := by
  refine Met.ofW (cc := cX11_word) (maxL := 3) (ret := (some .int)) (by decide) rfl ?_
  intro p e s m args below meth c s₁ B hml hv
  obtain ⟨rfl, hw, hc⟩ := hv
  have hx := B.exec
  have hb := B.bytes
  have hr := B.returns
  have hts := atoms_spec (ws := wsX11_word) B.pre
  have hown : s.vm.findClass RX11 = some m.cls := findClass_of_methodNamed B.named
  have hinX11 : ∀ w ∈ u_ws RX11 TX11 13, w ∈ wsX11_word := fun w h => List.mem_cons_of_mem _ (iT_X11 w h)
  have hS : va_S (fm_A nb ad) s.heap s.heap [] := va_S.rf
  have hl := lv_entry ([.ref (ad 0 0), .int p0, .int p1]) (n := 3) (Nat.le_of_ble_eq_true rfl)
  rw [lg_entry_eq]
  generalize (lg_sl ([.ref (ad 0 0), .int p0, .int p1]) ++ List.replicate (3 - (lg_sl ([.ref (ad 0 0), .int p0, .int p1])).length) Slot.unset).toArray = ls at hl ⊢
  have hl : lv_has ls 3 [(0, .ref (ad 0 0)), (1, .int p0), (2, .int p1)] := hl
  refine lv_aload_n hx hb dX11_word_0 rfl (lv_at hl 0 rfl) ?_
  refine fm_getG (a := 0) (j := 2) (T := TX11) (N := 13) hx hb hts hinX11 hown hc hw kl_0 sh_0 rfl (by decide) rfl (hI.to kl_0 tg_0_2) (hts (.fieldLink RX11 25 "RedTent" "radio" "LRedTent$Radio;") (List.mem_cons_of_mem _ tw_2_97)) (fun _ h9 => h9) dX11_word_1 ?_
  refine lv_iload_n hx hb dX11_word_4 rfl (lv_at hl 1 rfl) ?_
  refine vp_callSi (va_Run.run (va_runV (As := [.int p0]) (rest := []) ⟨hx, hb, hml, hown, hts⟩ (fc_X4_hasCall l D ad C nb M hI p0) (cwV 1 hts gX11_word_X4_hasCall rfl rfl rfl (by decide +kernel) ⟨Nat.le_of_ble_eq_true rfl, Nat.le_of_ble_eq_true rfl⟩) (fm_preV hc hw hS kl_5 sh_5 rfl) rfl rfl hl.1 rfl (lv_room (Nat.le_of_ble_eq_true rfl)) dX11_word_5 ⟨by decide +kernel, by decide +kernel⟩)) (fun r1 hr1 => ?_)
  have bqq2 := hI.bd (k := 0) bd_5_8
  rcases hr1 with ⟨rfl, c3⟩ | ⟨rfl, c3⟩
  · refine fx_if_eq (tgt := 21) hx hb dX11_word_8 (by decide) zk_1 (fun c4 => by exfalso; omega) (fun c4 => ?_)
    refine lv_iload_n hx hb dX11_word_11 rfl (lv_at hl 2 rfl) ?_
    refine fx_if_lt (tgt := 21) hx hb dX11_word_12 (by decide) rfl (fun c5 => ?_) (fun c5 => ?_)
    · refine lv_bipush (v := (-3)) hx hb dX11_word_21 (by decide) ?_
      exact W.iret (v := (-3)) hx hb hr (fun t ht hW => ⟨(-3), rfl, trivial, ht⟩) (fun _ h => absurd h List.not_mem_nil) dX11_word_23
    · refine lv_iload_n hx hb dX11_word_15 rfl (lv_at hl 2 rfl) ?_
      refine lv_bipush (v := 16) hx hb dX11_word_16 (by decide) ?_
      refine fx_icmp_lt (tgt := 24) hx hb dX11_word_18 (by decide) rfl zk_16 (fun c6 => ?_) (fun c6 => ?_)
      · refine lv_aload_n hx hb dX11_word_24 rfl (lv_at hl 0 rfl) ?_
        refine fm_getG (a := 0) (j := 2) (T := TX11) (N := 13) hx hb hts hinX11 hown hc hw kl_0 sh_0 rfl (by decide) rfl (hI.to kl_0 tg_0_2) (hts (.fieldLink RX11 25 "RedTent" "radio" "LRedTent$Radio;") (List.mem_cons_of_mem _ tw_2_97)) (fun _ h9 => h9) dX11_word_25 ?_
        refine lv_iload_n hx hb dX11_word_28 rfl (lv_at hl 1 rfl) ?_
        refine lv_iload_n hx hb dX11_word_29 rfl (lv_at hl 2 rfl) ?_
        refine vp_callSi (va_Run.run (va_runV (As := [.int p0, .int p1]) (rest := []) ⟨hx, hb, hml, hown, hts⟩ (fc_X4_putTogether l D ad C nb M hI p0 p1) (cwV 2 hts gX11_word_X4_putTogether rfl rfl rfl (by decide +kernel) ⟨Nat.le_of_ble_eq_true rfl, Nat.le_of_ble_eq_true rfl⟩) (fm_preV hc hw hS kl_5 sh_5 rfl) rfl rfl hl.1 rfl (lv_room (Nat.le_of_ble_eq_true rfl)) dX11_word_30 ⟨by decide +kernel, by decide +kernel⟩)) (fun r7 hr7 => ?_)
        exact W.iret (v := r7) hx hb hr (fun t ht hW => ⟨r7, rfl, trivial, ht⟩) (fun _ h => absurd h List.not_mem_nil) dX11_word_33
      · refine lv_bipush (v := (-3)) hx hb dX11_word_21 (by decide) ?_
        exact W.iret (v := (-3)) hx hb hr (fun t ht hW => ⟨(-3), rfl, trivial, ht⟩) (fun _ h => absurd h List.not_mem_nil) dX11_word_23
  · refine fx_if_eq (tgt := 21) hx hb dX11_word_8 (by decide) zk_0 (fun c8 => ?_) (fun c8 => by exfalso; omega)
    refine lv_bipush (v := (-3)) hx hb dX11_word_21 (by decide) ?_
    exact W.iret (v := (-3)) hx hb hr (fun t ht hW => ⟨(-3), rfl, trivial, ht⟩) (fun _ h => absurd h List.not_mem_nil) dX11_word_23
set_option maxHeartbeats 400000 in
set_option maxRecDepth 20000 in
theorem fc_X11_isTrue (l : Launch) (D : va_G) (ad : Nat → Nat → Nat) (C : Nat → Nat → ClassId) (nb : Nat) (M : fm_M) (hI : fm_I nb ad M) (p0 : Int32) : Met l yX11_isTrue wsX11_isTrue ({ frames := 2, cells := 0, slots := 0, locals := 46 }) (va_Pc [.ref (ad 0 0), .int p0] (fm_P D ad C nb M)) (vp_Si (fun r : Int32 => True)) 0 0 (fun _ => False) := by
  refine Met.ofW (cc := cX11_isTrue) (maxL := 2) (ret := (some .int)) (by decide) rfl ?_
  intro p e s m args below meth c s₁ B hml hv
  obtain ⟨rfl, hw, hc⟩ := hv
  have hx := B.exec
  have hb := B.bytes
  have hr := B.returns
  have hts := atoms_spec (ws := wsX11_isTrue) B.pre
  have hown : s.vm.findClass RX11 = some m.cls := findClass_of_methodNamed B.named
  have hinX11 : ∀ w ∈ u_ws RX11 TX11 13, w ∈ wsX11_isTrue := fun w h => List.mem_cons_of_mem _ (iT_X11 w h)
  have hinX4 : ∀ w ∈ u_ws RX4 TX4 13, w ∈ wsX11_isTrue := fun w h => List.mem_cons_of_mem _ (iT_X4 w h)
  have hS : va_S (fm_A nb ad) s.heap s.heap [] := va_S.rf
  have hl := lv_entry ([.ref (ad 0 0), .int p0]) (n := 2) (Nat.le_of_ble_eq_true rfl)
  rw [lg_entry_eq]
  generalize (lg_sl ([.ref (ad 0 0), .int p0]) ++ List.replicate (2 - (lg_sl ([.ref (ad 0 0), .int p0])).length) Slot.unset).toArray = ls at hl ⊢
  have hl : lv_has ls 2 [(0, .ref (ad 0 0)), (1, .int p0)] := hl
  refine lv_iload_n hx hb dX11_isTrue_0 rfl (lv_at hl 1 rfl) ?_
  refine fx_if_lt (tgt := 15) hx hb dX11_isTrue_1 (by decide) rfl (fun c1 => ?_) (fun c1 => ?_)
  · refine lv_bipush (v := (-2)) hx hb dX11_isTrue_15 (by decide) ?_
    exact W.iret (v := (-2)) hx hb hr (fun t ht hW => ⟨(-2), rfl, trivial, ht⟩) (fun _ h => absurd h List.not_mem_nil) dX11_isTrue_17
  · refine lv_iload_n hx hb dX11_isTrue_4 rfl (lv_at hl 1 rfl) ?_
    refine lv_aload_n hx hb dX11_isTrue_5 rfl (lv_at hl 0 rfl) ?_
    refine fm_getG (a := 0) (j := 2) (T := TX11) (N := 13) hx hb hts hinX11 hown hc hw kl_0 sh_0 rfl (by decide) rfl (hI.to kl_0 tg_0_2) (hts (.fieldLink RX11 25 "RedTent" "radio" "LRedTent$Radio;") (List.mem_cons_of_mem _ tw_2_97)) (fun _ h9 => h9) dX11_isTrue_6 ?_
    refine fm_getI (a := 5) (j := 12) (T := TX4) (N := 13) hx hb hts hinX4 hown hc hw hI kl_5 sh_5 rfl (by decide) rfl bd_5_12 (hts (.fieldLink RX11 193 "RedTent$Radio" "parts" "I") (List.mem_cons_of_mem _ tw_1_76)) (fun _ h9 => h9) dX11_isTrue_9 (fun x2 ex2 bx2 => ?_)
    refine fx_icmp_lt (tgt := 18) hx hb dX11_isTrue_12 (by decide) rfl rfl (fun c3 => ?_) (fun c3 => ?_)
    · refine lv_aload_n hx hb dX11_isTrue_18 rfl (lv_at hl 0 rfl) ?_
      refine fm_getG (a := 0) (j := 2) (T := TX11) (N := 13) hx hb hts hinX11 hown hc hw kl_0 sh_0 rfl (by decide) rfl (hI.to kl_0 tg_0_2) (hts (.fieldLink RX11 25 "RedTent" "radio" "LRedTent$Radio;") (List.mem_cons_of_mem _ tw_2_97)) (fun _ h9 => h9) dX11_isTrue_19 ?_
      refine lv_iload_n hx hb dX11_isTrue_22 rfl (lv_at hl 1 rfl) ?_
      refine vp_callSi (va_Run.run (va_runV (As := [.int p0]) (rest := []) ⟨hx, hb, hml, hown, hts⟩ (fc_X4_isAsSent l D ad C nb M hI p0 (by omega)) (cwV 1 hts gX11_isTrue_X4_isAsSent rfl rfl rfl (by decide +kernel) ⟨Nat.le_of_ble_eq_true rfl, Nat.le_of_ble_eq_true rfl⟩) (fm_preV hc hw hS kl_5 sh_5 rfl) rfl rfl hl.1 rfl (lv_room (Nat.le_of_ble_eq_true rfl)) dX11_isTrue_23 ⟨by decide +kernel, by decide +kernel⟩)) (fun r4 hr4 => ?_)
      refine fx_if_eq (tgt := 33) hx hb dX11_isTrue_26 (by decide) rfl (fun c5 => ?_) (fun c5 => ?_)
      · refine lv_iconst (v := 0) hx hb dX11_isTrue_33 (by decide) ?_
        exact W.iret (v := 0) hx hb hr (fun t ht hW => ⟨0, rfl, trivial, ht⟩) (fun _ h => absurd h List.not_mem_nil) dX11_isTrue_34
      · refine lv_iconst (v := 1) hx hb dX11_isTrue_29 (by decide) ?_
        refine lv_goto (tgt := 34) hx hb dX11_isTrue_30 (by decide) ?_
        exact W.iret (v := 1) hx hb hr (fun t ht hW => ⟨1, rfl, trivial, ht⟩) (fun _ h => absurd h List.not_mem_nil) dX11_isTrue_34
    · refine lv_bipush (v := (-2)) hx hb dX11_isTrue_15 (by decide) ?_
      exact W.iret (v := (-2)) hx hb hr (fun t ht hW => ⟨(-2), rfl, trivial, ht⟩) (fun _ h => absurd h List.not_mem_nil) dX11_isTrue_17
set_option maxHeartbeats 400000 in
set_option maxRecDepth 20000 in
theorem fc_X11_lane (l : Launch) (D : va_G) (ad : Nat → Nat → Nat) (C : Nat → Nat → ClassId) (nb : Nat) (M : fm_M) (hI : fm_I nb ad M) (p0 : Int64) : Met l yX11_lane wsX11_lane ({ frames := 1, cells := 0, slots := 0, locals := 22 }) (va_Pc [.ref (ad 0 0), .long p0] (fm_P D ad C nb M)) (va_Qi (fun (r : Int32) (u : fm_M) => fm_I nb ad u ∧ fm_same [16001, 17000] M u ∧ ((¬ (¬ p0 = 0) ∧ r.toInt = -2 ∧ (u.1 16 0 1).toInt = (M.1 16 0 1).toInt) ∨ ((¬ p0 = 0) ∧ 16 ≤ (M.1 16 0 1).toInt ∧ r.toInt = -4 ∧ (u.1 16 0 1).toInt = (M.1 16 0 1).toInt) ∨ ((¬ p0 = 0) ∧ (M.1 16 0 1).toInt < 16 ∧ r.toInt = (M.1 16 0 1).toInt ∧ (u.1 16 0 1).toInt = (M.1 16 0 1).toInt + 1))) (fun u t => fm_at D ad C nb u t.heap) (fm_A nb ad)) 0 0 (fm_A nb ad) := by
  refine Met.ofW (cc := cX11_lane) (maxL := 3) (ret := (some .int)) (by decide) rfl ?_
  intro p e s m args below meth c s₁ B hml hv
  obtain ⟨rfl, hw, hc⟩ := hv
  have hx := B.exec
  have hb := B.bytes
  have hr := B.returns
  have hts := atoms_spec (ws := wsX11_lane) B.pre
  have hown : s.vm.findClass RX11 = some m.cls := findClass_of_methodNamed B.named
  have hinX11 : ∀ w ∈ u_ws RX11 TX11 13, w ∈ wsX11_lane := fun w h => List.mem_cons_of_mem _ (iT_X11 w h)
  have hinX6 : ∀ w ∈ u_ws RX6 TX6 7, w ∈ wsX11_lane := fun w h => List.mem_cons_of_mem _ (iT_X6 w h)
  have hS : va_S (fm_A nb ad) s.heap s.heap [] := va_S.rf
  have hE : fm_same [16001, 17000] M M := fm_same.rf
  have hl := lv_entry ([.ref (ad 0 0), .long p0]) (n := 3) (Nat.le_of_ble_eq_true rfl)
  rw [lg_entry_eq]
  generalize (lg_sl ([.ref (ad 0 0), .long p0]) ++ List.replicate (3 - (lg_sl ([.ref (ad 0 0), .long p0])).length) Slot.unset).toArray = ls at hl ⊢
  have hl : lv_has ls 3 [(0, .ref (ad 0 0)), (1, .long p0)] := hl
  refine lv_lload_n hx hb dX11_lane_0 rfl (lv_at hl 1 rfl) ?_
  refine lv_lconst (v := 0) hx hb dX11_lane_1 (by decide) ?_
  refine W.lcmp hx hb dX11_lane_2 ?_
  refine fx_lif_ne (tgt := 9) hx hb dX11_lane_3 (by decide) (fun c1 => ?_) (fun c1 => ?_)
  · refine lv_aload_n hx hb dX11_lane_9 rfl (lv_at hl 0 rfl) ?_
    refine fm_getG (a := 0) (j := 3) (T := TX11) (N := 13) hx hb hts hinX11 hown hc hw kl_0 sh_0 rfl (by decide) rfl (hI.to kl_0 tg_0_3) (hts (.fieldLink RX11 32 "RedTent" "search" "LRedTent$Search;") (List.mem_cons_of_mem _ tw_2_98)) (fun _ h9 => h9) dX11_lane_10 ?_
    refine fm_getI (a := 16) (j := 1) (T := TX6) (N := 7) hx hb hts hinX6 hown hc hw hI kl_16 sh_16 rfl (by decide) rfl bd_16_1 (hts (.fieldLink RX11 207 "RedTent$Search" "laneCount" "I") (List.mem_cons_of_mem _ tw_1_113)) (fun _ h9 => h9) dX11_lane_13 (fun x2 ex2 bx2 => ?_)
    refine lv_bipush (v := 16) hx hb dX11_lane_16 (by decide) ?_
    refine fx_icmp_lt (tgt := 24) hx hb dX11_lane_18 (by decide) rfl zk_16 (fun c3 => ?_) (fun c3 => ?_)
    · refine lv_aload_n hx hb dX11_lane_24 rfl (lv_at hl 0 rfl) ?_
      refine fm_getG (a := 0) (j := 3) (T := TX11) (N := 13) hx hb hts hinX11 hown hc hw kl_0 sh_0 rfl (by decide) rfl (hI.to kl_0 tg_0_3) (hts (.fieldLink RX11 32 "RedTent" "search" "LRedTent$Search;") (List.mem_cons_of_mem _ tw_2_98)) (fun _ h9 => h9) dX11_lane_25 ?_
      refine lv_lload_n hx hb dX11_lane_28 rfl (lv_at hl 1 rfl) ?_
      refine fm_ci (va_runV (As := [.long p0]) (rest := []) ⟨hx, hb, hml, hown, hts⟩ (fc_X6_addLane l D ad C nb M hI p0 (by rw [← ex2]; omega)) (cwV 1 hts gX11_lane_X6_addLane rfl rfl rfl (by decide +kernel) ⟨Nat.le_of_ble_eq_true rfl, Nat.le_of_ble_eq_true rfl⟩) (fm_preV hc hw hS kl_16 sh_16 rfl) rfl rfl hl.1 rfl (lv_room (Nat.le_of_ble_eq_true rfl)) dX11_lane_29 ⟨by decide +kernel, by decide +kernel⟩) hS hc (fun r4 M5 H locs hr4 hw hS => ?_)
      obtain ⟨hI, hEM5, hr4⟩ := hr4
      have hE := hE.tr hEM5 (by decide)
      have qx2 : x2.toInt = (M.1 16 0 1).toInt := by rw [ex2]
      exact W.iret (v := r4) hx hb hr (fun t ht hW => ⟨⟨r4, M5, rfl, ⟨hI, hE, Or.inr (Or.inr ⟨by first | assumption | (intro h9; exact h9 ‹_›), by omega, by omega, (by omega)⟩)⟩, by show fm_at D ad C nb _ t.heap; rw [ht]; exact hw⟩, hS.F ht⟩) hS.2.2 dX11_lane_32
    · refine lv_bipush (v := (-4)) hx hb dX11_lane_21 (by decide) ?_
      have qx2 : x2.toInt = (M.1 16 0 1).toInt := by rw [ex2]
      exact W.iret (v := (-4)) hx hb hr (fun t ht hW => ⟨⟨(-4), M, rfl, ⟨hI, hE, Or.inr (Or.inl ⟨by first | assumption | (intro h9; exact h9 ‹_›), by omega, zk_m4, rfl⟩)⟩, by show fm_at D ad C nb _ t.heap; rw [ht]; exact hw⟩, hS.F ht⟩) hS.2.2 dX11_lane_23
  · refine lv_bipush (v := (-2)) hx hb dX11_lane_6 (by decide) ?_
    exact W.iret (v := (-2)) hx hb hr (fun t ht hW => ⟨⟨(-2), M, rfl, ⟨hI, hE, Or.inl ⟨by first | assumption | (intro h9; exact h9 ‹_›), zk_m2, rfl⟩⟩, by show fm_at D ad C nb _ t.heap; rw [ht]; exact hw⟩, hS.F ht⟩) hS.2.2 dX11_lane_8
set_option maxHeartbeats 400000 in
set_option maxRecDepth 20000 in
theorem fc_X11_flown (l : Launch) (D : va_G) (ad : Nat → Nat → Nat) (C : Nat → Nat → ClassId) (nb : Nat) (M : fm_M) (hI : fm_I nb ad M) (p0 p1 p2 : Int32) : Met l yX11_flown wsX11_flown ({ frames := 2, cells := 0, slots := 0, locals := 45 }) (va_Pc [.ref (ad 0 0), .int p0, .int p1, .int p2] (fm_P D ad C nb M)) (va_Qi (fun (r : Int32) (u : fm_M) => fm_I nb ad u ∧ fm_same [50012, 54000, 55000] M u ∧ ((¬ (0 ≤ p0.toInt ∧ p0.toInt < nb ∧ ((M.1 50 p0.toNatClampNeg 0).toInt = 2 ∨ (M.1 50 p0.toNatClampNeg 0).toInt = 5) ∧ 0 ≤ p1.toInt ∧ p1.toInt < nb ∧ 0 ≤ p2.toInt ∧ p2.toInt < (M.1 16 0 1).toInt) ∧ r.toInt = -2 ∧ (∀ j : Nat, u.1 50 j 12 = M.1 50 j 12)) ∨ ((0 ≤ p0.toInt ∧ p0.toInt < nb ∧ ((M.1 50 p0.toNatClampNeg 0).toInt = 2 ∨ (M.1 50 p0.toNatClampNeg 0).toInt = 5) ∧ 0 ≤ p1.toInt ∧ p1.toInt < nb ∧ 0 ≤ p2.toInt ∧ p2.toInt < (M.1 16 0 1).toInt) ∧ 6 ≤ (M.1 50 p1.toNatClampNeg 12).toInt ∧ r.toInt = -4 ∧ (∀ j : Nat, u.1 50 j 12 = M.1 50 j 12)) ∨ ((0 ≤ p0.toInt ∧ p0.toInt < nb ∧ ((M.1 50 p0.toNatClampNeg 0).toInt = 2 ∨ (M.1 50 p0.toNatClampNeg 0).toInt = 5) ∧ 0 ≤ p1.toInt ∧ p1.toInt < nb ∧ 0 ≤ p2.toInt ∧ p2.toInt < (M.1 16 0 1).toInt) ∧ (M.1 50 p1.toNatClampNeg 12).toInt < 6 ∧ r.toInt = (M.1 50 p1.toNatClampNeg 12).toInt + 1 ∧ (∀ j : Nat, u.1 50 j 12 = if j = p1.toNatClampNeg then r else M.1 50 j 12)))) (fun u t => fm_at D ad C nb u t.heap) (fm_A nb ad)) 0 0 (fm_A nb ad) := by
  refine Met.ofW (cc := cX11_flown) (maxL := 5) (ret := (some .int)) (by decide) rfl ?_
  intro p e s m args below meth c s₁ B hml hv
  obtain ⟨rfl, hw, hc⟩ := hv
  have hx := B.exec
  have hb := B.bytes
  have hr := B.returns
  have hts := atoms_spec (ws := wsX11_flown) B.pre
  have hown : s.vm.findClass RX11 = some m.cls := findClass_of_methodNamed B.named
  have hinX0 : ∀ w ∈ u_ws RX0 TX0 15, w ∈ wsX11_flown := fun w h => List.mem_cons_of_mem _ (iT_X0 w h)
  have hinX11 : ∀ w ∈ u_ws RX11 TX11 13, w ∈ wsX11_flown := fun w h => List.mem_cons_of_mem _ (iT_X11 w h)
  have hinX6 : ∀ w ∈ u_ws RX6 TX6 7, w ∈ wsX11_flown := fun w h => List.mem_cons_of_mem _ (iT_X6 w h)
  have hS : va_S (fm_A nb ad) s.heap s.heap [] := va_S.rf
  have hE : fm_same [50012, 54000, 55000] M M := fm_same.rf
  have hl := lv_entry ([.ref (ad 0 0), .int p0, .int p1, .int p2]) (n := 5) (Nat.le_of_ble_eq_true rfl)
  rw [lg_entry_eq]
  generalize (lg_sl ([.ref (ad 0 0), .int p0, .int p1, .int p2]) ++ List.replicate (5 - (lg_sl ([.ref (ad 0 0), .int p0, .int p1, .int p2])).length) Slot.unset).toArray = ls at hl ⊢
  have hl : lv_has ls 5 [(0, .ref (ad 0 0)), (1, .int p0), (2, .int p1), (3, .int p2)] := hl
  refine lv_aload_n hx hb dX11_flown_0 rfl (lv_at hl 0 rfl) ?_
  refine lv_iload_n hx hb dX11_flown_1 rfl (lv_at hl 2 rfl) ?_
  refine va_csq (va_Run.run (va_runV (As := [.int p1]) (rest := []) ⟨hx, hb, hml, hown, hts⟩ (fc_X11_bodyAt l D ad C nb M hI p1) (cwV 1 hts gX11_flown_X11_bodyAt rfl rfl rfl (by decide +kernel) ⟨Nat.le_of_ble_eq_true rfl, Nat.le_of_ble_eq_true rfl⟩) (fm_preV hc hw hS kl_0 sh_0 rfl) rfl rfl hl.1 rfl (lv_room (Nat.le_of_ble_eq_true rfl)) dX11_flown_2 ⟨by decide +kernel, by decide +kernel⟩)) (fun r1 hr1 => ?_)
  rcases hr1 with ⟨rfl, hr1n⟩ | ⟨hr1l, hr1u, rfl⟩
  · refine lv_astoreN (lv' := [(4, .null), (0, .ref (ad 0 0)), (1, .int p0), (2, .int p1), (3, .int p2)]) hx hb dX11_flown_5 hl (by decide) rfl (fun ls hl => ?_)
    refine lv_aload_n hx hb dX11_flown_7 rfl (lv_at hl 1 rfl) ?_
    refine lv_iload_n hx hb dX11_flown_8 rfl (lv_at hl 2 rfl) ?_
    refine va_csq (va_Run.run (va_runV (As := [.int p0]) (rest := []) ⟨hx, hb, hml, hown, hts⟩ (fc_X11_seekerAt l D ad C nb M hI p0) (cwV 1 hts gX11_flown_X11_seekerAt rfl rfl rfl (by decide +kernel) ⟨Nat.le_of_ble_eq_true rfl, Nat.le_of_ble_eq_true rfl⟩) (fm_preV hc hw hS kl_0 sh_0 rfl) rfl rfl hl.1 rfl (lv_room (Nat.le_of_ble_eq_true rfl)) dX11_flown_9 ⟨by decide +kernel, by decide +kernel⟩)) (fun r2 hr2 => ?_)
    rcases hr2 with ⟨rfl, hr2n⟩ | ⟨hr2l, hr2u, hr2x, rfl⟩
    · refine lv_ifnullN (tgt := 35) hx hb dX11_flown_12 (by decide) ?_
      refine lv_bipush (v := (-2)) hx hb dX11_flown_35 (by decide) ?_
      exact W.iret (v := (-2)) hx hb hr (fun t ht hW => ⟨⟨(-2), M, rfl, ⟨hI, hE, Or.inl ⟨by omega, zk_m2, fun _ => rfl⟩⟩, by show fm_at D ad C nb _ t.heap; rw [ht]; exact hw⟩, hS.F ht⟩) hS.2.2 dX11_flown_37
    · have khr2 : p0.toNatClampNeg < nb := zi_cln ⟨hr2l, hr2u⟩
      have nhr2 : nb ≤ 12 := hI.2.2.2.2.2.2.2
      refine lv_ifnull hx hb dX11_flown_12 ?_
      refine lv_aloadN hx hb dX11_flown_15 (lv_at hl 0 rfl) ?_
      refine lv_ifnullN (tgt := 35) hx hb dX11_flown_17 (by decide) ?_
      refine lv_bipush (v := (-2)) hx hb dX11_flown_35 (by decide) ?_
      exact W.iret (v := (-2)) hx hb hr (fun t ht hW => ⟨⟨(-2), M, rfl, ⟨hI, hE, Or.inl ⟨by omega, zk_m2, fun _ => rfl⟩⟩, by show fm_at D ad C nb _ t.heap; rw [ht]; exact hw⟩, hS.F ht⟩) hS.2.2 dX11_flown_37
  · have khr1 : p1.toNatClampNeg < nb := zi_cln ⟨hr1l, hr1u⟩
    have nhr1 : nb ≤ 12 := hI.2.2.2.2.2.2.2
    refine lv_astore (lv' := [(4, .ref (ad 50 p1.toNatClampNeg)), (0, .ref (ad 0 0)), (1, .int p0), (2, .int p1), (3, .int p2)]) hx hb dX11_flown_5 hl (by decide) rfl (fun ls hl => ?_)
    refine lv_aload_n hx hb dX11_flown_7 rfl (lv_at hl 1 rfl) ?_
    refine lv_iload_n hx hb dX11_flown_8 rfl (lv_at hl 2 rfl) ?_
    refine va_csq (va_Run.run (va_runV (As := [.int p0]) (rest := []) ⟨hx, hb, hml, hown, hts⟩ (fc_X11_seekerAt l D ad C nb M hI p0) (cwV 1 hts gX11_flown_X11_seekerAt rfl rfl rfl (by decide +kernel) ⟨Nat.le_of_ble_eq_true rfl, Nat.le_of_ble_eq_true rfl⟩) (fm_preV hc hw hS kl_0 sh_0 rfl) rfl rfl hl.1 rfl (lv_room (Nat.le_of_ble_eq_true rfl)) dX11_flown_9 ⟨by decide +kernel, by decide +kernel⟩)) (fun r3 hr3 => ?_)
    rcases hr3 with ⟨rfl, hr3n⟩ | ⟨hr3l, hr3u, hr3x, rfl⟩
    · refine lv_ifnullN (tgt := 35) hx hb dX11_flown_12 (by decide) ?_
      refine lv_bipush (v := (-2)) hx hb dX11_flown_35 (by decide) ?_
      exact W.iret (v := (-2)) hx hb hr (fun t ht hW => ⟨⟨(-2), M, rfl, ⟨hI, hE, Or.inl ⟨by omega, zk_m2, fun _ => rfl⟩⟩, by show fm_at D ad C nb _ t.heap; rw [ht]; exact hw⟩, hS.F ht⟩) hS.2.2 dX11_flown_37
    · have khr3 : p0.toNatClampNeg < nb := zi_cln ⟨hr3l, hr3u⟩
      have nhr3 : nb ≤ 12 := hI.2.2.2.2.2.2.2
      refine lv_ifnull hx hb dX11_flown_12 ?_
      refine lv_aload hx hb dX11_flown_15 (lv_at hl 0 rfl) ?_
      refine lv_ifnull hx hb dX11_flown_17 ?_
      refine lv_iload_n hx hb dX11_flown_20 rfl (lv_at hl 4 rfl) ?_
      refine fx_if_lt (tgt := 35) hx hb dX11_flown_21 (by decide) rfl (fun c4 => ?_) (fun c4 => ?_)
      · refine lv_bipush (v := (-2)) hx hb dX11_flown_35 (by decide) ?_
        exact W.iret (v := (-2)) hx hb hr (fun t ht hW => ⟨⟨(-2), M, rfl, ⟨hI, hE, Or.inl ⟨by omega, zk_m2, fun _ => rfl⟩⟩, by show fm_at D ad C nb _ t.heap; rw [ht]; exact hw⟩, hS.F ht⟩) hS.2.2 dX11_flown_37
      · refine lv_iload_n hx hb dX11_flown_24 rfl (lv_at hl 4 rfl) ?_
        refine lv_aload_n hx hb dX11_flown_25 rfl (lv_at hl 1 rfl) ?_
        refine fm_getG (a := 0) (j := 3) (T := TX11) (N := 13) hx hb hts hinX11 hown hc hw kl_0 sh_0 rfl (by decide) rfl (hI.to kl_0 tg_0_3) (hts (.fieldLink RX11 32 "RedTent" "search" "LRedTent$Search;") (List.mem_cons_of_mem _ tw_2_98)) (fun _ h9 => h9) dX11_flown_26 ?_
        refine fm_getI (a := 16) (j := 1) (T := TX6) (N := 7) hx hb hts hinX6 hown hc hw hI kl_16 sh_16 rfl (by decide) rfl bd_16_1 (hts (.fieldLink RX11 207 "RedTent$Search" "laneCount" "I") (List.mem_cons_of_mem _ tw_1_113)) (fun _ h9 => h9) dX11_flown_29 (fun x5 ex5 bx5 => ?_)
        refine fx_icmp_lt (tgt := 38) hx hb dX11_flown_32 (by decide) rfl rfl (fun c6 => ?_) (fun c6 => ?_)
        · refine lv_aload hx hb dX11_flown_38 (lv_at hl 0 rfl) ?_
          refine fm_getI (a := 50) (j := 12) (T := TX0) (N := 15) hx hb hts hinX0 hown hc hw hI (kl_50 khr1) sh_50 rfl (by decide) rfl bd_50_12 (hts (.fieldLink RX11 217 "RedTent$Body" "flownCount" "I") (List.mem_cons_of_mem _ tw_2_225)) (fun _ h9 => h9) dX11_flown_40 (fun x7 ex7 bx7 => ?_)
          refine lv_bipush (v := 6) hx hb dX11_flown_43 (by decide) ?_
          refine fx_icmp_lt (tgt := 51) hx hb dX11_flown_45 (by decide) rfl zk_6 (fun c8 => ?_) (fun c8 => ?_)
          · refine lv_aload hx hb dX11_flown_51 (lv_at hl 0 rfl) ?_
            refine lv_iload_n hx hb dX11_flown_53 rfl (lv_at hl 4 rfl) ?_
            refine lv_aload_n hx hb dX11_flown_54 rfl (lv_at hl 1 rfl) ?_
            refine fm_getI (a := 0) (j := 9) (T := TX11) (N := 13) hx hb hts hinX11 hown hc hw hI kl_0 sh_0 rfl (by decide) rfl bd_0_9 (hts (.fieldLink RX11 71 "RedTent" "now" "I") (List.mem_cons_of_mem _ tw_2_104)) (fun _ h9 => h9) dX11_flown_55 (fun x9 ex9 bx9 => ?_)
            refine fm_ci (va_runV (As := [.int p2, .int x9]) (rest := []) ⟨hx, hb, hml, hown, hts⟩ (fc_X0_addFlown l D ad C nb M hI p1.toNatClampNeg khr1 p2 x9 (by omega) (by omega) (by rw [← ex7]; omega)) (cwV 2 hts gX11_flown_X0_addFlown rfl rfl rfl (by decide +kernel) ⟨Nat.le_of_ble_eq_true rfl, Nat.le_of_ble_eq_true rfl⟩) (fm_preV hc hw hS (kl_50 khr1) sh_50 rfl) rfl rfl hl.1 rfl (lv_room (Nat.le_of_ble_eq_true rfl)) dX11_flown_58 ⟨by decide +kernel, by decide +kernel⟩) hS hc (fun r10 M11 H locs hr10 hw hS => ?_)
            obtain ⟨hI, hEM11, hr10⟩ := hr10
            have hE := hE.tr hEM11 (by decide)
            have qx5 : x5.toInt = (M.1 16 0 1).toInt := by rw [ex5]
            have qx7 : x7.toInt = (M.1 50 p1.toNatClampNeg 12).toInt := by rw [ex7]
            exact W.iret (v := r10) hx hb hr (fun t ht hW => ⟨⟨r10, M11, rfl, ⟨hI, hE, Or.inr (Or.inr ⟨by omega, by omega, hr10.1, hr10.2⟩)⟩, by show fm_at D ad C nb _ t.heap; rw [ht]; exact hw⟩, hS.F ht⟩) hS.2.2 dX11_flown_61
          · refine lv_bipush (v := (-4)) hx hb dX11_flown_48 (by decide) ?_
            have qx5 : x5.toInt = (M.1 16 0 1).toInt := by rw [ex5]
            have qx7 : x7.toInt = (M.1 50 p1.toNatClampNeg 12).toInt := by rw [ex7]
            exact W.iret (v := (-4)) hx hb hr (fun t ht hW => ⟨⟨(-4), M, rfl, ⟨hI, hE, Or.inr (Or.inl ⟨by omega, by omega, zk_m4, fun _ => rfl⟩)⟩, by show fm_at D ad C nb _ t.heap; rw [ht]; exact hw⟩, hS.F ht⟩) hS.2.2 dX11_flown_50
        · refine lv_bipush (v := (-2)) hx hb dX11_flown_35 (by decide) ?_
          have qx5 : x5.toInt = (M.1 16 0 1).toInt := by rw [ex5]
          exact W.iret (v := (-2)) hx hb hr (fun t ht hW => ⟨⟨(-2), M, rfl, ⟨hI, hE, Or.inl ⟨by omega, zk_m2, fun _ => rfl⟩⟩, by show fm_at D ad C nb _ t.heap; rw [ht]; exact hw⟩, hS.F ht⟩) hS.2.2 dX11_flown_37
set_option maxHeartbeats 400000 in
set_option maxRecDepth 20000 in
theorem fc_X11_share (l : Launch) (D : va_G) (ad : Nat → Nat → Nat) (C : Nat → Nat → ClassId) (nb : Nat) (M : fm_M) (hI : fm_I nb ad M) (p0 p1 p2 : Int32) : Met l yX11_share wsX11_share ({ frames := 4, cells := 0, slots := 0, locals := 104 }) (va_Pc [.ref (ad 0 0), .int p0, .int p1, .int p2] (fm_P D ad C nb M)) (va_Ql (fun (r : Int64) (u : fm_M) => fm_I nb ad u ∧ fm_same [16003, 18000, 50014, 56000] M u ∧ True) (fun u t => fm_at D ad C nb u t.heap) (fm_A nb ad)) 0 0 (fm_A nb ad) := by
  refine Met.ofW (cc := cX11_share) (maxL := 5) (ret := (some .long)) (by decide) rfl ?_
  intro p e s m args below meth c s₁ B hml hv
  obtain ⟨rfl, hw, hc⟩ := hv
  have hx := B.exec
  have hb := B.bytes
  have hr := B.returns
  have hts := atoms_spec (ws := wsX11_share) B.pre
  have hown : s.vm.findClass RX11 = some m.cls := findClass_of_methodNamed B.named
  have hinX11 : ∀ w ∈ u_ws RX11 TX11 13, w ∈ wsX11_share := fun w h => List.mem_cons_of_mem _ (iT_X11 w h)
  have hS : va_S (fm_A nb ad) s.heap s.heap [] := va_S.rf
  have hE : fm_same [16003, 18000, 50014, 56000] M M := fm_same.rf
  have hl := lv_entry ([.ref (ad 0 0), .int p0, .int p1, .int p2]) (n := 5) (Nat.le_of_ble_eq_true rfl)
  rw [lg_entry_eq]
  generalize (lg_sl ([.ref (ad 0 0), .int p0, .int p1, .int p2]) ++ List.replicate (5 - (lg_sl ([.ref (ad 0 0), .int p0, .int p1, .int p2])).length) Slot.unset).toArray = ls at hl ⊢
  have hl : lv_has ls 5 [(0, .ref (ad 0 0)), (1, .int p0), (2, .int p1), (3, .int p2)] := hl
  refine lv_aload_n hx hb dX11_share_0 rfl (lv_at hl 0 rfl) ?_
  refine lv_iload_n hx hb dX11_share_1 rfl (lv_at hl 1 rfl) ?_
  refine va_csq (va_Run.run (va_runV (As := [.int p0]) (rest := []) ⟨hx, hb, hml, hown, hts⟩ (fc_X11_bodyAt l D ad C nb M hI p0) (cwV 1 hts gX11_share_X11_bodyAt rfl rfl rfl (by decide +kernel) ⟨Nat.le_of_ble_eq_true rfl, Nat.le_of_ble_eq_true rfl⟩) (fm_preV hc hw hS kl_0 sh_0 rfl) rfl rfl hl.1 rfl (lv_room (Nat.le_of_ble_eq_true rfl)) dX11_share_2 ⟨by decide +kernel, by decide +kernel⟩)) (fun r1 hr1 => ?_)
  rcases hr1 with ⟨rfl, hr1n⟩ | ⟨hr1l, hr1u, rfl⟩
  · refine lv_astoreN (lv' := [(4, .null), (0, .ref (ad 0 0)), (1, .int p0), (2, .int p1), (3, .int p2)]) hx hb dX11_share_5 hl (by decide) rfl (fun ls hl => ?_)
    refine lv_aloadN hx hb dX11_share_7 (lv_at hl 0 rfl) ?_
    refine lv_ifnullN (tgt := 28) hx hb dX11_share_9 (by decide) ?_
    refine lv_ldc2 (v := (-4611686018427387904)) hx hb hown (hts (.constantLong RX11 148 (-4611686018427387904)) (List.mem_cons_of_mem _ tw_3_42)) dX11_share_28 ?_
    exact W.lret (v := (-4611686018427387904)) hx hb hr (fun t ht hW => ⟨⟨(-4611686018427387904), M, rfl, ⟨hI, hE, trivial⟩, by show fm_at D ad C nb _ t.heap; rw [ht]; exact hw⟩, hS.F ht⟩) hS.2.2 dX11_share_31
  · have khr1 : p0.toNatClampNeg < nb := zi_cln ⟨hr1l, hr1u⟩
    have nhr1 : nb ≤ 12 := hI.2.2.2.2.2.2.2
    refine lv_astore (lv' := [(4, .ref (ad 50 p0.toNatClampNeg)), (0, .ref (ad 0 0)), (1, .int p0), (2, .int p1), (3, .int p2)]) hx hb dX11_share_5 hl (by decide) rfl (fun ls hl => ?_)
    refine lv_aload hx hb dX11_share_7 (lv_at hl 0 rfl) ?_
    refine lv_ifnull hx hb dX11_share_9 ?_
    refine lv_iload_n hx hb dX11_share_12 rfl (lv_at hl 3 rfl) ?_
    refine vp_callSi (va_Run.run (va_runS (As := [.int p1]) (rest := []) ⟨hx, hb, hml, hown, hts⟩ (fc_X11_isCell l p1) (va_cwS 1 hts gX11_share_X11_isCell rfl rfl rfl (by decide +kernel) ⟨Nat.le_of_ble_eq_true rfl, Nat.le_of_ble_eq_true rfl⟩) ⟨fun a U g mk q => q, fun U hU hW => ⟨rfl, trivial⟩⟩ rfl rfl hl.1 rfl (lv_room (Nat.le_of_ble_eq_true rfl)) dX11_share_13 ⟨by decide +kernel, by decide +kernel⟩)) (fun r2 hr2 => ?_)
    rcases hr2 with ⟨rfl, c3⟩ | ⟨rfl, c3⟩
    · refine fx_if_eq (tgt := 28) hx hb dX11_share_16 (by decide) zk_1 (fun c4 => by exfalso; omega) (fun c4 => ?_)
      refine lv_iload_n hx hb dX11_share_19 rfl (lv_at hl 4 rfl) ?_
      refine fx_if_lt (tgt := 28) hx hb dX11_share_20 (by decide) rfl (fun c5 => ?_) (fun c5 => ?_)
      · refine lv_ldc2 (v := (-4611686018427387904)) hx hb hown (hts (.constantLong RX11 148 (-4611686018427387904)) (List.mem_cons_of_mem _ tw_3_42)) dX11_share_28 ?_
        exact W.lret (v := (-4611686018427387904)) hx hb hr (fun t ht hW => ⟨⟨(-4611686018427387904), M, rfl, ⟨hI, hE, trivial⟩, by show fm_at D ad C nb _ t.heap; rw [ht]; exact hw⟩, hS.F ht⟩) hS.2.2 dX11_share_31
      · refine lv_iload_n hx hb dX11_share_23 rfl (lv_at hl 4 rfl) ?_
        refine lv_iconst (v := 1) hx hb dX11_share_24 (by decide) ?_
        refine fx_icmp_le (tgt := 32) hx hb dX11_share_25 (by decide) rfl zk_1 (fun c6 => ?_) (fun c6 => ?_)
        · refine lv_aload_n hx hb dX11_share_32 rfl (lv_at hl 1 rfl) ?_
          refine fm_getG (a := 0) (j := 3) (T := TX11) (N := 13) hx hb hts hinX11 hown hc hw kl_0 sh_0 rfl (by decide) rfl (hI.to kl_0 tg_0_3) (hts (.fieldLink RX11 32 "RedTent" "search" "LRedTent$Search;") (List.mem_cons_of_mem _ tw_2_98)) (fun _ h9 => h9) dX11_share_33 ?_
          refine lv_aload hx hb dX11_share_36 (lv_at hl 0 rfl) ?_
          refine lv_aload hx hb dX11_share_38 (lv_at hl 0 rfl) ?_
          refine lv_aload_n hx hb dX11_share_40 rfl (lv_at hl 1 rfl) ?_
          refine fm_getG (a := 0) (j := 0) (T := TX11) (N := 13) hx hb hts hinX11 hown hc hw kl_0 sh_0 rfl (by decide) rfl (hI.to kl_0 tg_0_0) (hts (.fieldLink RX11 10 "RedTent" "weather" "LRedTent$Weather;") (List.mem_cons_of_mem _ tw_2_95)) (fun _ h9 => h9) dX11_share_41 ?_
          refine lv_aload_n hx hb dX11_share_44 rfl (lv_at hl 1 rfl) ?_
          refine fm_getI (a := 0) (j := 9) (T := TX11) (N := 13) hx hb hts hinX11 hown hc hw hI kl_0 sh_0 rfl (by decide) rfl bd_0_9 (hts (.fieldLink RX11 71 "RedTent" "now" "I") (List.mem_cons_of_mem _ tw_2_104)) (fun _ h9 => h9) dX11_share_45 (fun x7 ex7 bx7 => ?_)
          refine fm_cl (va_runV (As := [.ref (ad 1 0), .int x7]) (rest := [.ref (ad 50 p0.toNatClampNeg), .ref (ad 16 0)]) ⟨hx, hb, hml, hown, hts⟩ (fc_X0_placesNow l D ad C nb M hI p0.toNatClampNeg khr1 x7) (cwV 2 hts gX11_share_X0_placesNow rfl rfl rfl (by decide +kernel) ⟨Nat.le_of_ble_eq_true rfl, Nat.le_of_ble_eq_true rfl⟩) (fm_preV hc hw hS (kl_50 khr1) sh_50 rfl) rfl rfl hl.1 rfl (lv_room (Nat.le_of_ble_eq_true rfl)) dX11_share_48 ⟨by decide +kernel, by decide +kernel⟩) hS hc (fun r8 M9 H locs hr8 hw hS => ?_)
          obtain ⟨hI, hEM9, hr8⟩ := hr8
          have hE := hE.tr hEM9 (by decide)
          refine lv_aload_n hx hb dX11_share_51 rfl (lv_at hl 1 rfl) ?_
          refine fm_getG (a := 0) (j := 0) (T := TX11) (N := 13) hx hb hts hinX11 hown hc hw kl_0 sh_0 rfl (by decide) rfl (hI.to kl_0 tg_0_0) (hts (.fieldLink RX11 10 "RedTent" "weather" "LRedTent$Weather;") (List.mem_cons_of_mem _ tw_2_95)) (fun _ h9 => h9) dX11_share_52 ?_
          refine fm_cv (va_runV (As := [.ref (ad 50 p0.toNatClampNeg), .long r8, .ref (ad 1 0)]) (rest := []) ⟨hx, hb, hml, hown, hts⟩ (fc_X6_weigh l D ad C nb M9 hI p0.toNatClampNeg khr1 r8) (cwV 3 hts gX11_share_X6_weigh rfl rfl rfl (by decide +kernel) ⟨Nat.le_of_ble_eq_true rfl, Nat.le_of_ble_eq_true rfl⟩) (fm_preV hc hw hS kl_16 sh_16 rfl) rfl rfl hl.1 rfl (lv_room (Nat.le_of_ble_eq_true rfl)) dX11_share_55 ⟨by decide +kernel, by decide +kernel⟩) hS hc (fun M11 H locs hr10 hw hS => ?_)
          obtain ⟨hI, hEM11, hr10⟩ := hr10
          have hE := hE.tr hEM11 (by decide)
          refine lv_aload_n hx hb dX11_share_58 rfl (lv_at hl 1 rfl) ?_
          refine fm_getG (a := 0) (j := 3) (T := TX11) (N := 13) hx hb hts hinX11 hown hc hw kl_0 sh_0 rfl (by decide) rfl (hI.to kl_0 tg_0_3) (hts (.fieldLink RX11 32 "RedTent" "search" "LRedTent$Search;") (List.mem_cons_of_mem _ tw_2_98)) (fun _ h9 => h9) dX11_share_59 ?_
          refine lv_iload_n hx hb dX11_share_62 rfl (lv_at hl 3 rfl) ?_
          refine lv_iload_n hx hb dX11_share_63 rfl (lv_at hl 4 rfl) ?_
          refine vp_callSl (va_Run.run (va_runV (As := [.int p1, .int p2]) (rest := []) ⟨hx, hb, hml, hown, hts⟩ (fc_X6_shareOf l D ad C nb M11 hI p1 p2 (by omega)) (cwV 2 hts gX11_share_X6_shareOf rfl rfl rfl (by decide +kernel) ⟨Nat.le_of_ble_eq_true rfl, Nat.le_of_ble_eq_true rfl⟩) (fm_preV hc hw hS kl_16 sh_16 rfl) rfl rfl hl.1 rfl (lv_room (Nat.le_of_ble_eq_true rfl)) dX11_share_64 ⟨by decide +kernel, by decide +kernel⟩)) (fun r12 hr12 => ?_)
          exact W.lret (v := r12) hx hb hr (fun t ht hW => ⟨⟨r12, M11, rfl, ⟨hI, hE, trivial⟩, by show fm_at D ad C nb _ t.heap; rw [ht]; exact hw⟩, hS.F ht⟩) hS.2.2 dX11_share_67
        · refine lv_ldc2 (v := (-4611686018427387904)) hx hb hown (hts (.constantLong RX11 148 (-4611686018427387904)) (List.mem_cons_of_mem _ tw_3_42)) dX11_share_28 ?_
          exact W.lret (v := (-4611686018427387904)) hx hb hr (fun t ht hW => ⟨⟨(-4611686018427387904), M, rfl, ⟨hI, hE, trivial⟩, by show fm_at D ad C nb _ t.heap; rw [ht]; exact hw⟩, hS.F ht⟩) hS.2.2 dX11_share_31
    · refine fx_if_eq (tgt := 28) hx hb dX11_share_16 (by decide) zk_0 (fun c13 => ?_) (fun c13 => by exfalso; omega)
      refine lv_ldc2 (v := (-4611686018427387904)) hx hb hown (hts (.constantLong RX11 148 (-4611686018427387904)) (List.mem_cons_of_mem _ tw_3_42)) dX11_share_28 ?_
      exact W.lret (v := (-4611686018427387904)) hx hb hr (fun t ht hW => ⟨⟨(-4611686018427387904), M, rfl, ⟨hI, hE, trivial⟩, by show fm_at D ad C nb _ t.heap; rw [ht]; exact hw⟩, hS.F ht⟩) hS.2.2 dX11_share_31
set_option maxHeartbeats 400000 in
set_option maxRecDepth 20000 in
theorem fc_X11_parted (l : Launch) (D : va_G) (ad : Nat → Nat → Nat) (C : Nat → Nat → ClassId) (nb : Nat) (M : fm_M) (hI : fm_I nb ad M) (p0 p1 p2 p3 : Int32) : Met l yX11_parted wsX11_parted ({ frames := 7, cells := 0, slots := 0, locals := 195 }) (va_Pc [.ref (ad 0 0), .int p0, .int p1, .int p2, .int p3] (fm_P D ad C nb M)) (va_Qi (fun (r : Int32) (u : fm_M) => fm_I nb ad u ∧ fm_same [16003, 16006, 18000, 19000, 20000, 50014, 56000] M u ∧ True) (fun u t => fm_at D ad C nb u t.heap) (fm_A nb ad)) 0 0 (fm_A nb ad) := by
  refine Met.ofW (cc := cX11_parted) (maxL := 7) (ret := (some .int)) (by decide) rfl ?_
  intro p e s m args below meth c s₁ B hml hv
  obtain ⟨rfl, hw, hc⟩ := hv
  have hx := B.exec
  have hb := B.bytes
  have hr := B.returns
  have hts := atoms_spec (ws := wsX11_parted) B.pre
  have hown : s.vm.findClass RX11 = some m.cls := findClass_of_methodNamed B.named
  have hinX11 : ∀ w ∈ u_ws RX11 TX11 13, w ∈ wsX11_parted := fun w h => List.mem_cons_of_mem _ (iT_X11 w h)
  have hinX6 : ∀ w ∈ u_ws RX6 TX6 7, w ∈ wsX11_parted := fun w h => List.mem_cons_of_mem _ (iT_X6 w h)
  have hS : va_S (fm_A nb ad) s.heap s.heap [] := va_S.rf
  have hE : fm_same [16003, 16006, 18000, 19000, 20000, 50014, 56000] M M := fm_same.rf
  have hl := lv_entry ([.ref (ad 0 0), .int p0, .int p1, .int p2, .int p3]) (n := 7) (Nat.le_of_ble_eq_true rfl)
  rw [lg_entry_eq]
  generalize (lg_sl ([.ref (ad 0 0), .int p0, .int p1, .int p2, .int p3]) ++ List.replicate (7 - (lg_sl ([.ref (ad 0 0), .int p0, .int p1, .int p2, .int p3])).length) Slot.unset).toArray = ls at hl ⊢
  have hl : lv_has ls 7 [(0, .ref (ad 0 0)), (1, .int p0), (2, .int p1), (3, .int p2), (4, .int p3)] := hl
  refine lv_aload_n hx hb dX11_parted_0 rfl (lv_at hl 0 rfl) ?_
  refine lv_iload_n hx hb dX11_parted_1 rfl (lv_at hl 1 rfl) ?_
  refine va_csq (va_Run.run (va_runV (As := [.int p0]) (rest := []) ⟨hx, hb, hml, hown, hts⟩ (fc_X11_bodyAt l D ad C nb M hI p0) (cwV 1 hts gX11_parted_X11_bodyAt rfl rfl rfl (by decide +kernel) ⟨Nat.le_of_ble_eq_true rfl, Nat.le_of_ble_eq_true rfl⟩) (fm_preV hc hw hS kl_0 sh_0 rfl) rfl rfl hl.1 rfl (lv_room (Nat.le_of_ble_eq_true rfl)) dX11_parted_2 ⟨by decide +kernel, by decide +kernel⟩)) (fun r1 hr1 => ?_)
  rcases hr1 with ⟨rfl, hr1n⟩ | ⟨hr1l, hr1u, rfl⟩
  · refine lv_astoreN (lv' := [(5, .null), (0, .ref (ad 0 0)), (1, .int p0), (2, .int p1), (3, .int p2), (4, .int p3)]) hx hb dX11_parted_5 hl (by decide) rfl (fun ls hl => ?_)
    refine lv_aloadN hx hb dX11_parted_7 (lv_at hl 0 rfl) ?_
    refine lv_ifnullN (tgt := 37) hx hb dX11_parted_9 (by decide) ?_
    refine lv_bipush (v := (-2)) hx hb dX11_parted_37 (by decide) ?_
    exact W.iret (v := (-2)) hx hb hr (fun t ht hW => ⟨⟨(-2), M, rfl, ⟨hI, hE, trivial⟩, by show fm_at D ad C nb _ t.heap; rw [ht]; exact hw⟩, hS.F ht⟩) hS.2.2 dX11_parted_39
  · have khr1 : p0.toNatClampNeg < nb := zi_cln ⟨hr1l, hr1u⟩
    have nhr1 : nb ≤ 12 := hI.2.2.2.2.2.2.2
    refine lv_astore (lv' := [(5, .ref (ad 50 p0.toNatClampNeg)), (0, .ref (ad 0 0)), (1, .int p0), (2, .int p1), (3, .int p2), (4, .int p3)]) hx hb dX11_parted_5 hl (by decide) rfl (fun ls hl => ?_)
    refine lv_aload hx hb dX11_parted_7 (lv_at hl 0 rfl) ?_
    refine lv_ifnull hx hb dX11_parted_9 ?_
    refine lv_aload_n hx hb dX11_parted_12 rfl (lv_at hl 1 rfl) ?_
    refine lv_iload_n hx hb dX11_parted_13 rfl (lv_at hl 3 rfl) ?_
    refine vp_callSi (va_Run.run (va_runV (As := [.int p1]) (rest := []) ⟨hx, hb, hml, hown, hts⟩ (fc_X11_areSeekers l D ad C nb M hI p1) (cwV 1 hts gX11_parted_X11_areSeekers rfl rfl rfl (by decide +kernel) ⟨Nat.le_of_ble_eq_true rfl, Nat.le_of_ble_eq_true rfl⟩) (fm_preV hc hw hS kl_0 sh_0 rfl) rfl rfl hl.1 rfl (lv_room (Nat.le_of_ble_eq_true rfl)) dX11_parted_14 ⟨by decide +kernel, by decide +kernel⟩)) (fun r2 hr2 => ?_)
    rcases hr2 with ⟨rfl, c3⟩ | ⟨rfl, c3⟩
    · refine fx_if_eq (tgt := 37) hx hb dX11_parted_17 (by decide) zk_1 (fun c4 => by exfalso; omega) (fun c4 => ?_)
      have jt : ∀  (M_jt : fm_M), fm_I nb ad M_jt → fm_same [16003, 16006, 18000, 19000, 20000, 50014, 56000] M M_jt → ∀ (H : Heap) (locs : List Loc), fm_at D ad C nb M_jt H → va_S (fm_A nb ad) s.heap H locs → ∀ (ls : Array Slot), lv_has ls 7 [(5, .ref (ad 50 p0.toNatClampNeg)), (0, .ref (ad 0 0)), (1, .int p0), (2, .int p1), (3, .int p2), (4, .int p3)] → W p l e (headSpec wsX11_parted ({ frames := 7, cells := 0, slots := 0, locals := 195 })).room s m ([.ref (ad 0 0), .int p0, .int p1, .int p2, .int p3] : List Value).toArray below meth c H locs 0 0 (MQ below (va_Qi (fun (r : Int32) (u : fm_M) => fm_I nb ad u ∧ fm_same [16003, 16006, 18000, 19000, 20000, 50014, 56000] M u ∧ True) (fun u t => fm_at D ad C nb u t.heap) (fm_A nb ad)) ([.ref (ad 0 0), .int p0, .int p1, .int p2, .int p3] : List Value).toArray s 0 0 (fm_A nb ad)) (F0 m 40 ls []) := by
        intro  M_jt hI hE H locs hw hS ls hl
        refine lv_iload_n hx hb dX11_parted_40 rfl (lv_at hl 3 rfl) ?_
        refine vp_callSi (va_Run.run (va_runS (As := [.int p1]) (rest := []) ⟨hx, hb, hml, hown, hts⟩ (fc_J6_bitCount_0f7a4 l p1) (va_cwS 1 hts gX11_parted_J6_bitCount_0f7a4 rfl rfl rfl (by decide +kernel) ⟨Nat.le_of_ble_eq_true rfl, Nat.le_of_ble_eq_true rfl⟩) ⟨fun a U g mk q => q, fun U hU hW => ⟨rfl, trivial⟩⟩ rfl rfl hl.1 rfl (lv_room (Nat.le_of_ble_eq_true rfl)) dX11_parted_41 ⟨by decide +kernel, by decide +kernel⟩)) (fun r5 hr5 => ?_)
        have qr5 : r5.toInt = (rt_bc p1).toInt := by rw [hr5]
        refine lv_istore (lv' := [(6, .int r5), (5, .ref (ad 50 p0.toNatClampNeg)), (0, .ref (ad 0 0)), (1, .int p0), (2, .int p1), (3, .int p2), (4, .int p3)]) hx hb dX11_parted_44 hl (by decide) rfl (fun ls hl => ?_)
        refine lv_iload_n hx hb dX11_parted_46 rfl (lv_at hl 5 rfl) ?_
        refine vp_callSi (va_Run.run (va_runS (As := [.int p2]) (rest := []) ⟨hx, hb, hml, hown, hts⟩ (fc_J6_bitCount_0f7a4 l p2) (va_cwS 1 hts gX11_parted_J6_bitCount_0f7a4 rfl rfl rfl (by decide +kernel) ⟨Nat.le_of_ble_eq_true rfl, Nat.le_of_ble_eq_true rfl⟩) ⟨fun a U g mk q => q, fun U hU hW => ⟨rfl, trivial⟩⟩ rfl rfl hl.1 rfl (lv_room (Nat.le_of_ble_eq_true rfl)) dX11_parted_47 ⟨by decide +kernel, by decide +kernel⟩)) (fun r6 hr6 => ?_)
        have qr6 : r6.toInt = (rt_bc p2).toInt := by rw [hr6]
        refine lv_iload hx hb dX11_parted_50 (lv_at hl 0 rfl) ?_
        refine fx_icmp_ge (tgt := 58) hx hb dX11_parted_52 (by decide) rfl rfl (fun c7 => ?_) (fun c7 => ?_)
        · refine lv_iload hx hb dX11_parted_58 (lv_at hl 6 rfl) ?_
          refine lv_iconst (v := (-1)) hx hb dX11_parted_60 (by decide) ?_
          refine fx_icmp_lt (tgt := 71) hx hb dX11_parted_61 (by decide) rfl zk_m1 (fun c8 => ?_) (fun c8 => ?_)
          · refine lv_iconst (v := (-1)) hx hb dX11_parted_71 (by decide) ?_
            exact W.iret (v := (-1)) hx hb hr (fun t ht hW => ⟨⟨(-1), M_jt, rfl, ⟨hI, hE, trivial⟩, by show fm_at D ad C nb _ t.heap; rw [ht]; exact hw⟩, hS.F ht⟩) hS.2.2 dX11_parted_72
          · refine lv_iload hx hb dX11_parted_64 (lv_at hl 6 rfl) ?_
            refine lv_iload hx hb dX11_parted_66 (lv_at hl 0 rfl) ?_
            refine fx_icmp_lt (tgt := 73) hx hb dX11_parted_68 (by decide) rfl rfl (fun c9 => ?_) (fun c9 => ?_)
            · refine lv_aload_n hx hb dX11_parted_73 rfl (lv_at hl 2 rfl) ?_
              refine fm_getG (a := 0) (j := 3) (T := TX11) (N := 13) hx hb hts hinX11 hown hc hw kl_0 sh_0 rfl (by decide) rfl (hI.to kl_0 tg_0_3) (hts (.fieldLink RX11 32 "RedTent" "search" "LRedTent$Search;") (List.mem_cons_of_mem _ tw_2_98)) (fun _ h9 => h9) dX11_parted_74 ?_
              refine lv_aload hx hb dX11_parted_77 (lv_at hl 1 rfl) ?_
              refine lv_aload hx hb dX11_parted_79 (lv_at hl 1 rfl) ?_
              refine lv_aload_n hx hb dX11_parted_81 rfl (lv_at hl 2 rfl) ?_
              refine fm_getG (a := 0) (j := 0) (T := TX11) (N := 13) hx hb hts hinX11 hown hc hw kl_0 sh_0 rfl (by decide) rfl (hI.to kl_0 tg_0_0) (hts (.fieldLink RX11 10 "RedTent" "weather" "LRedTent$Weather;") (List.mem_cons_of_mem _ tw_2_95)) (fun _ h9 => h9) dX11_parted_82 ?_
              refine lv_aload_n hx hb dX11_parted_85 rfl (lv_at hl 2 rfl) ?_
              refine fm_getI (a := 0) (j := 9) (T := TX11) (N := 13) hx hb hts hinX11 hown hc hw hI kl_0 sh_0 rfl (by decide) rfl bd_0_9 (hts (.fieldLink RX11 71 "RedTent" "now" "I") (List.mem_cons_of_mem _ tw_2_104)) (fun _ h9 => h9) dX11_parted_86 (fun x10 ex10 bx10 => ?_)
              refine fm_cl (va_runV (As := [.ref (ad 1 0), .int x10]) (rest := [.ref (ad 50 p0.toNatClampNeg), .ref (ad 16 0)]) ⟨hx, hb, hml, hown, hts⟩ (fc_X0_placesNow l D ad C nb M_jt hI p0.toNatClampNeg khr1 x10) (cwV 2 hts gX11_parted_X0_placesNow rfl rfl rfl (by decide +kernel) ⟨Nat.le_of_ble_eq_true rfl, Nat.le_of_ble_eq_true rfl⟩) (fm_preV hc hw hS (kl_50 khr1) sh_50 rfl) rfl rfl hl.1 rfl (lv_room (Nat.le_of_ble_eq_true rfl)) dX11_parted_89 ⟨by decide +kernel, by decide +kernel⟩) hS hc (fun r11 M12 H locs hr11 hw hS => ?_)
              obtain ⟨hI, hEM12, hr11⟩ := hr11
              have hE := hE.tr hEM12 (by decide)
              refine lv_aload_n hx hb dX11_parted_92 rfl (lv_at hl 2 rfl) ?_
              refine fm_getG (a := 0) (j := 0) (T := TX11) (N := 13) hx hb hts hinX11 hown hc hw kl_0 sh_0 rfl (by decide) rfl (hI.to kl_0 tg_0_0) (hts (.fieldLink RX11 10 "RedTent" "weather" "LRedTent$Weather;") (List.mem_cons_of_mem _ tw_2_95)) (fun _ h9 => h9) dX11_parted_93 ?_
              refine fm_cv (va_runV (As := [.ref (ad 50 p0.toNatClampNeg), .long r11, .ref (ad 1 0)]) (rest := []) ⟨hx, hb, hml, hown, hts⟩ (fc_X6_weigh l D ad C nb M12 hI p0.toNatClampNeg khr1 r11) (cwV 3 hts gX11_parted_X6_weigh rfl rfl rfl (by decide +kernel) ⟨Nat.le_of_ble_eq_true rfl, Nat.le_of_ble_eq_true rfl⟩) (fm_preV hc hw hS kl_16 sh_16 rfl) rfl rfl hl.1 rfl (lv_room (Nat.le_of_ble_eq_true rfl)) dX11_parted_96 ⟨by decide +kernel, by decide +kernel⟩) hS hc (fun M14 H locs hr13 hw hS => ?_)
              obtain ⟨hI, hEM14, hr13⟩ := hr13
              have hE := hE.tr hEM14 (by decide)
              refine lv_aload_n hx hb dX11_parted_99 rfl (lv_at hl 2 rfl) ?_
              refine fm_getG (a := 0) (j := 3) (T := TX11) (N := 13) hx hb hts hinX11 hown hc hw kl_0 sh_0 rfl (by decide) rfl (hI.to kl_0 tg_0_3) (hts (.fieldLink RX11 32 "RedTent" "search" "LRedTent$Search;") (List.mem_cons_of_mem _ tw_2_98)) (fun _ h9 => h9) dX11_parted_100 ?_
              refine lv_iload_n hx hb dX11_parted_103 rfl (lv_at hl 5 rfl) ?_
              refine lv_iload hx hb dX11_parted_104 (lv_at hl 0 rfl) ?_
              refine fm_cv (va_runV (As := [.int p2, .int r5]) (rest := []) ⟨hx, hb, hml, hown, hts⟩ (fc_X6_choose l D ad C nb M14 hI p2 r5) (cwV 2 hts gX11_parted_X6_choose rfl rfl rfl (by decide +kernel) ⟨Nat.le_of_ble_eq_true rfl, Nat.le_of_ble_eq_true rfl⟩) (fm_preV hc hw hS kl_16 sh_16 rfl) rfl rfl hl.1 rfl (lv_room (Nat.le_of_ble_eq_true rfl)) dX11_parted_106 ⟨by decide +kernel, by decide +kernel⟩) hS hc (fun M16 H locs hr15 hw hS => ?_)
              obtain ⟨hI, hEM16, hr15⟩ := hr15
              have hE := hE.tr hEM16 (by decide)
              refine lv_iload hx hb dX11_parted_109 (lv_at hl 6 rfl) ?_
              refine lv_iconst (v := (-1)) hx hb dX11_parted_111 (by decide) ?_
              refine fx_icmp_ne (tgt := 125) hx hb dX11_parted_112 (by decide) rfl zk_m1 (fun c17 => ?_) (fun c17 => ?_)
              · refine lv_aload_n hx hb dX11_parted_125 rfl (lv_at hl 2 rfl) ?_
                refine fm_getG (a := 0) (j := 3) (T := TX11) (N := 13) hx hb hts hinX11 hown hc hw kl_0 sh_0 rfl (by decide) rfl (hI.to kl_0 tg_0_3) (hts (.fieldLink RX11 32 "RedTent" "search" "LRedTent$Search;") (List.mem_cons_of_mem _ tw_2_98)) (fun _ h9 => h9) dX11_parted_126 ?_
                refine fm_getG (a := 16) (j := 5) (T := TX6) (N := 7) hx hb hts hinX6 hown hc hw kl_16 sh_16 rfl (by decide) rfl (hI.to kl_16 tg_16_5) (hts (.fieldLink RX11 250 "RedTent$Search" "chosen" "[I") (List.mem_cons_of_mem _ tw_1_118)) (fun _ h9 => h9) dX11_parted_129 ?_
                refine lv_iload hx hb dX11_parted_132 (lv_at hl 6 rfl) ?_
                refine fm_iald (a := 20) hx hb hc hw hI kl_20 sh_20 ty_20 bd_20 (by omega) dX11_parted_134 (fun x18 ex18 bx18 => ?_)
                exact W.iret (v := x18) hx hb hr (fun t ht hW => ⟨⟨x18, M16, rfl, ⟨hI, hE, trivial⟩, by show fm_at D ad C nb _ t.heap; rw [ht]; exact hw⟩, hS.F ht⟩) hS.2.2 dX11_parted_135
              · refine lv_aload_n hx hb dX11_parted_115 rfl (lv_at hl 2 rfl) ?_
                refine fm_getG (a := 0) (j := 3) (T := TX11) (N := 13) hx hb hts hinX11 hown hc hw kl_0 sh_0 rfl (by decide) rfl (hI.to kl_0 tg_0_3) (hts (.fieldLink RX11 32 "RedTent" "search" "LRedTent$Search;") (List.mem_cons_of_mem _ tw_2_98)) (fun _ h9 => h9) dX11_parted_116 ?_
                refine vp_callSi (va_Run.run (va_runV (As := []) (rest := []) ⟨hx, hb, hml, hown, hts⟩ (fc_X6_thousandths l D ad C nb M16 hI) (cwV 0 hts gX11_parted_X6_thousandths rfl rfl rfl (by decide +kernel) ⟨Nat.le_of_ble_eq_true rfl, Nat.le_of_ble_eq_true rfl⟩) (fm_preV hc hw hS kl_16 sh_16 rfl) rfl rfl hl.1 rfl (lv_room (Nat.le_of_ble_eq_true rfl)) dX11_parted_119 ⟨by decide +kernel, by decide +kernel⟩)) (fun r19 hr19 => ?_)
                refine lv_goto (tgt := 135) hx hb dX11_parted_122 (by decide) ?_
                exact W.iret (v := r19) hx hb hr (fun t ht hW => ⟨⟨r19, M16, rfl, ⟨hI, hE, trivial⟩, by show fm_at D ad C nb _ t.heap; rw [ht]; exact hw⟩, hS.F ht⟩) hS.2.2 dX11_parted_135
            · refine lv_iconst (v := (-1)) hx hb dX11_parted_71 (by decide) ?_
              exact W.iret (v := (-1)) hx hb hr (fun t ht hW => ⟨⟨(-1), M_jt, rfl, ⟨hI, hE, trivial⟩, by show fm_at D ad C nb _ t.heap; rw [ht]; exact hw⟩, hS.F ht⟩) hS.2.2 dX11_parted_72
        · refine lv_bipush (v := (-3)) hx hb dX11_parted_55 (by decide) ?_
          exact W.iret (v := (-3)) hx hb hr (fun t ht hW => ⟨⟨(-3), M_jt, rfl, ⟨hI, hE, trivial⟩, by show fm_at D ad C nb _ t.heap; rw [ht]; exact hw⟩, hS.F ht⟩) hS.2.2 dX11_parted_57
      refine lv_iload_n hx hb dX11_parted_20 rfl (lv_at hl 4 rfl) ?_
      refine fx_if_lt (tgt := 37) hx hb dX11_parted_21 (by decide) rfl (fun c20 => ?_) (fun c20 => ?_)
      · refine lv_bipush (v := (-2)) hx hb dX11_parted_37 (by decide) ?_
        exact W.iret (v := (-2)) hx hb hr (fun t ht hW => ⟨⟨(-2), M, rfl, ⟨hI, hE, trivial⟩, by show fm_at D ad C nb _ t.heap; rw [ht]; exact hw⟩, hS.F ht⟩) hS.2.2 dX11_parted_39
      · refine lv_iload_n hx hb dX11_parted_24 rfl (lv_at hl 4 rfl) ?_
        refine lv_iconst (v := 1) hx hb dX11_parted_25 (by decide) ?_
        refine lv_aload_n hx hb dX11_parted_26 rfl (lv_at hl 1 rfl) ?_
        refine fm_getG (a := 0) (j := 3) (T := TX11) (N := 13) hx hb hts hinX11 hown hc hw kl_0 sh_0 rfl (by decide) rfl (hI.to kl_0 tg_0_3) (hts (.fieldLink RX11 32 "RedTent" "search" "LRedTent$Search;") (List.mem_cons_of_mem _ tw_2_98)) (fun _ h9 => h9) dX11_parted_27 ?_
        refine fm_getI (a := 16) (j := 1) (T := TX6) (N := 7) hx hb hts hinX6 hown hc hw hI kl_16 sh_16 rfl (by decide) rfl bd_16_1 (hts (.fieldLink RX11 207 "RedTent$Search" "laneCount" "I") (List.mem_cons_of_mem _ tw_1_113)) (fun _ h9 => h9) dX11_parted_30 (fun x21 ex21 bx21 => ?_)
        refine lv_ishl hx hb dX11_parted_33 ?_
        refine lv_topi (fun y22 ey22 => ?_)
        refine fx_icmp_lt (tgt := 40) hx hb dX11_parted_34 (by decide) rfl rfl (fun c23 => ?_) (fun c23 => ?_)
        · exact jt M hI hE _ _ hw hS ls (lv_sub hl [0, 1, 2, 3, 4, 5] rfl)
        · refine lv_bipush (v := (-2)) hx hb dX11_parted_37 (by decide) ?_
          exact W.iret (v := (-2)) hx hb hr (fun t ht hW => ⟨⟨(-2), M, rfl, ⟨hI, hE, trivial⟩, by show fm_at D ad C nb _ t.heap; rw [ht]; exact hw⟩, hS.F ht⟩) hS.2.2 dX11_parted_39
    · refine fx_if_eq (tgt := 37) hx hb dX11_parted_17 (by decide) zk_0 (fun c24 => ?_) (fun c24 => by exfalso; omega)
      refine lv_bipush (v := (-2)) hx hb dX11_parted_37 (by decide) ?_
      exact W.iret (v := (-2)) hx hb hr (fun t ht hW => ⟨⟨(-2), M, rfl, ⟨hI, hE, trivial⟩, by show fm_at D ad C nb _ t.heap; rw [ht]; exact hw⟩, hS.F ht⟩) hS.2.2 dX11_parted_39

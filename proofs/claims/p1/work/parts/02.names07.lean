theorem dX12_next_13 : decode cX12_next 13 = .ok (.getfield 337, 3) := by decide +kernel
theorem dX12_next_16 : decode cX12_next 16 = .ok (.invokevirtual 334, 3) := by decide +kernel
theorem dX12_next_19 : decode cX12_next 19 = .ok (.bipush 32, 2) := by decide +kernel
theorem dX12_next_21 : decode cX12_next 21 = .ok (.if_icmp .eq 16, 3) := by decide +kernel
theorem dX12_next_24 : decode cX12_next 24 = .ok (.aload_n 0, 1) := by decide +kernel
theorem dX12_next_25 : decode cX12_next 25 = .ok (.aload_n 0, 1) := by decide +kernel
theorem dX12_next_26 : decode cX12_next 26 = .ok (.getfield 337, 3) := by decide +kernel
theorem dX12_next_29 : decode cX12_next 29 = .ok (.invokevirtual 334, 3) := by decide +kernel
theorem dX12_next_32 : decode cX12_next 32 = .ok (.bipush 10, 2) := by decide +kernel
theorem dX12_next_34 : decode cX12_next 34 = .ok (.if_icmp .ne 16, 3) := by decide +kernel
theorem dX12_next_37 : decode cX12_next 37 = .ok (.aload_n 0, 1) := by decide +kernel
theorem dX12_next_38 : decode cX12_next 38 = .ok (.dup, 1) := by decide +kernel
theorem dX12_next_39 : decode cX12_next 39 = .ok (.getfield 337, 3) := by decide +kernel
theorem dX12_next_42 : decode cX12_next 42 = .ok (.iconst 1, 1) := by decide +kernel
theorem dX12_next_43 : decode cX12_next 43 = .ok (.iadd, 1) := by decide +kernel
theorem dX12_next_44 : decode cX12_next 44 = .ok (.putfield 337, 3) := by decide +kernel
theorem dX12_next_47 : decode cX12_next 47 = .ok (.goto (-47), 3) := by decide +kernel
theorem dX12_next_50 : decode cX12_next 50 = .ok (.aload_n 0, 1) := by decide +kernel
theorem dX12_next_51 : decode cX12_next 51 = .ok (.aload_n 0, 1) := by decide +kernel
theorem dX12_next_52 : decode cX12_next 52 = .ok (.getfield 337, 3) := by decide +kernel
theorem dX12_next_55 : decode cX12_next 55 = .ok (.putfield 340, 3) := by decide +kernel
theorem dX12_next_58 : decode cX12_next 58 = .ok (.aload_n 0, 1) := by decide +kernel
theorem dX12_next_59 : decode cX12_next 59 = .ok (.aload_n 0, 1) := by decide +kernel
theorem dX12_next_60 : decode cX12_next 60 = .ok (.getfield 340, 3) := by decide +kernel
theorem dX12_next_63 : decode cX12_next 63 = .ok (.invokevirtual 343, 3) := by decide +kernel
theorem dX12_next_66 : decode cX12_next 66 = .ok (.ifCond .eq 27, 3) := by decide +kernel
theorem dX12_next_69 : decode cX12_next 69 = .ok (.aload_n 0, 1) := by decide +kernel
theorem dX12_next_70 : decode cX12_next 70 = .ok (.aload_n 0, 1) := by decide +kernel
theorem dX12_next_71 : decode cX12_next 71 = .ok (.getfield 337, 3) := by decide +kernel
theorem dX12_next_74 : decode cX12_next 74 = .ok (.invokevirtual 343, 3) := by decide +kernel
theorem dX12_next_77 : decode cX12_next 77 = .ok (.ifCond .eq 76, 3) := by decide +kernel
theorem dX12_next_80 : decode cX12_next 80 = .ok (.aload_n 0, 1) := by decide +kernel
theorem dX12_next_81 : decode cX12_next 81 = .ok (.dup, 1) := by decide +kernel
theorem dX12_next_82 : decode cX12_next 82 = .ok (.getfield 337, 3) := by decide +kernel
theorem dX12_next_85 : decode cX12_next 85 = .ok (.iconst 1, 1) := by decide +kernel
theorem dX12_next_86 : decode cX12_next 86 = .ok (.iadd, 1) := by decide +kernel
theorem dX12_next_87 : decode cX12_next 87 = .ok (.putfield 337, 3) := by decide +kernel
theorem dX12_next_90 : decode cX12_next 90 = .ok (.goto (-21), 3) := by decide +kernel
theorem dX12_next_93 : decode cX12_next 93 = .ok (.aload_n 0, 1) := by decide +kernel
theorem dX12_next_94 : decode cX12_next 94 = .ok (.aload_n 0, 1) := by decide +kernel
theorem dX12_next_95 : decode cX12_next 95 = .ok (.getfield 340, 3) := by decide +kernel
theorem dX12_next_98 : decode cX12_next 98 = .ok (.invokevirtual 346, 3) := by decide +kernel
theorem dX12_next_101 : decode cX12_next 101 = .ok (.ifCond .eq 27, 3) := by decide +kernel
theorem dX12_next_104 : decode cX12_next 104 = .ok (.aload_n 0, 1) := by decide +kernel
theorem dX12_next_105 : decode cX12_next 105 = .ok (.aload_n 0, 1) := by decide +kernel
theorem dX12_next_106 : decode cX12_next 106 = .ok (.getfield 337, 3) := by decide +kernel
theorem dX12_next_109 : decode cX12_next 109 = .ok (.invokevirtual 346, 3) := by decide +kernel
theorem dX12_next_112 : decode cX12_next 112 = .ok (.ifCond .eq 41, 3) := by decide +kernel
theorem dX12_next_115 : decode cX12_next 115 = .ok (.aload_n 0, 1) := by decide +kernel
theorem dX12_next_116 : decode cX12_next 116 = .ok (.dup, 1) := by decide +kernel
theorem dX12_next_117 : decode cX12_next 117 = .ok (.getfield 337, 3) := by decide +kernel
theorem dX12_next_120 : decode cX12_next 120 = .ok (.iconst 1, 1) := by decide +kernel
theorem dX12_next_121 : decode cX12_next 121 = .ok (.iadd, 1) := by decide +kernel
theorem dX12_next_122 : decode cX12_next 122 = .ok (.putfield 337, 3) := by decide +kernel
theorem dX12_next_125 : decode cX12_next 125 = .ok (.goto (-21), 3) := by decide +kernel
theorem dX12_next_128 : decode cX12_next 128 = .ok (.aload_n 0, 1) := by decide +kernel
theorem dX12_next_129 : decode cX12_next 129 = .ok (.dup, 1) := by decide +kernel
theorem dX12_next_130 : decode cX12_next 130 = .ok (.getfield 337, 3) := by decide +kernel
theorem dX12_next_133 : decode cX12_next 133 = .ok (.aload_n 0, 1) := by decide +kernel
theorem dX12_next_134 : decode cX12_next 134 = .ok (.getfield 340, 3) := by decide +kernel
theorem dX12_next_137 : decode cX12_next 137 = .ok (.aload_n 0, 1) := by decide +kernel
theorem dX12_next_138 : decode cX12_next 138 = .ok (.getfield 328, 3) := by decide +kernel
theorem dX12_next_141 : decode cX12_next 141 = .ok (.if_icmp .ge 7, 3) := by decide +kernel
theorem dX12_next_144 : decode cX12_next 144 = .ok (.iconst 1, 1) := by decide +kernel
theorem dX12_next_145 : decode cX12_next 145 = .ok (.goto 4, 3) := by decide +kernel
theorem dX12_next_148 : decode cX12_next 148 = .ok (.iconst 0, 1) := by decide +kernel
theorem dX12_next_149 : decode cX12_next 149 = .ok (.iadd, 1) := by decide +kernel
theorem dX12_next_150 : decode cX12_next 150 = .ok (.putfield 337, 3) := by decide +kernel
theorem dX12_next_153 : decode cX12_next 153 = .ok (.return_, 1) := by decide +kernel
set_option maxRecDepth 20000 in
theorem ggX12_is_J0_length_8abf5 : GoodIn wsX12_is wsJ0_length_8abf5 := goodIn_r _ [8, 9, 10, 11, 12, 7, 13, 14, 15] (by decide +kernel) (by decide +kernel)
set_option maxRecDepth 20000 in
theorem gX12_is_J0_length_8abf5 : GoodIn wsX12_is (wsV RX12 172 RJ0 yJ0_length_8abf5 wsJ0_length_8abf5) := goodIn_app (goodIn_of _ (by decide +kernel)) ggX12_is_J0_length_8abf5
set_option maxRecDepth 20000 in
theorem ggX12_is_X12_byteAt : GoodIn wsX12_is wsX12_byteAt := goodIn_r _ [20, 2, 21, 22, 23, 61, 62, 63, 64, 65, 66, 67, 68, 69, 70, 71, 72, 73, 74, 75, 76, 77, 78, 79, 80, 81, 82, 83, 84, 85, 86, 87, 88, 89, 90, 91, 92, 93, 94, 95, 96, 97, 98, 99, 100, 101, 102, 103, 104, 105, 106, 107, 108, 109, 110, 111, 112, 113, 114, 115, 116, 117, 118, 119, 120, 121, 122, 123, 124, 125, 126, 127, 128, 129, 130, 131, 132, 133, 134, 135, 136, 137, 138, 139] (by decide +kernel) (by decide +kernel)
set_option maxRecDepth 20000 in
theorem gX12_is_X12_byteAt : GoodIn wsX12_is (wsV RX12 334 RX12 yX12_byteAt wsX12_byteAt) := goodIn_app (goodIn_of _ (by decide +kernel)) ggX12_is_X12_byteAt
set_option maxRecDepth 20000 in
theorem ggX12_is_J0_charAt_5068e : GoodIn wsX12_is wsJ0_charAt_5068e := goodIn_r _ [27, 9, 28, 29, 30, 7, 31, 14, 15, 32, 33, 34, 35, 36, 37, 38, 39, 40, 41, 42, 43, 44, 45, 46, 47, 48, 49, 50, 51, 52, 53, 54, 55, 56, 57, 58, 59, 60] (by decide +kernel) (by decide +kernel)
set_option maxRecDepth 20000 in
theorem gX12_is_J0_charAt_5068e : GoodIn wsX12_is (wsV RX12 178 RJ0 yJ0_charAt_5068e wsJ0_charAt_5068e) := goodIn_app (goodIn_of _ (by decide +kernel)) ggX12_is_J0_charAt_5068e
theorem dX12_is_0 : decode cX12_is 0 = .ok (.aload_n 0, 1) := by decide +kernel
theorem dX12_is_1 : decode cX12_is 1 = .ok (.getfield 340, 3) := by decide +kernel
theorem dX12_is_4 : decode cX12_is 4 = .ok (.aload_n 0, 1) := by decide +kernel
theorem dX12_is_5 : decode cX12_is 5 = .ok (.getfield 328, 3) := by decide +kernel
theorem dX12_is_8 : decode cX12_is 8 = .ok (.if_icmp .ge 23, 3) := by decide +kernel
theorem dX12_is_11 : decode cX12_is 11 = .ok (.aload_n 0, 1) := by decide +kernel
theorem dX12_is_12 : decode cX12_is 12 = .ok (.getfield 337, 3) := by decide +kernel
theorem dX12_is_15 : decode cX12_is 15 = .ok (.aload_n 0, 1) := by decide +kernel
theorem dX12_is_16 : decode cX12_is 16 = .ok (.getfield 340, 3) := by decide +kernel
theorem dX12_is_19 : decode cX12_is 19 = .ok (.isub, 1) := by decide +kernel
theorem dX12_is_20 : decode cX12_is 20 = .ok (.aload_n 1, 1) := by decide +kernel
theorem dX12_is_21 : decode cX12_is 21 = .ok (.invokevirtual 172, 3) := by decide +kernel
theorem dX12_is_24 : decode cX12_is 24 = .ok (.if_icmp .ne 7, 3) := by decide +kernel
theorem dX12_is_27 : decode cX12_is 27 = .ok (.iconst 1, 1) := by decide +kernel
theorem dX12_is_28 : decode cX12_is 28 = .ok (.goto 4, 3) := by decide +kernel
theorem dX12_is_31 : decode cX12_is 31 = .ok (.iconst 0, 1) := by decide +kernel
theorem dX12_is_32 : decode cX12_is 32 = .ok (.istore_n 2, 1) := by decide +kernel
theorem dX12_is_33 : decode cX12_is 33 = .ok (.iconst 0, 1) := by decide +kernel
theorem dX12_is_34 : decode cX12_is 34 = .ok (.istore_n 3, 1) := by decide +kernel
theorem dX12_is_35 : decode cX12_is 35 = .ok (.iload_n 3, 1) := by decide +kernel
theorem dX12_is_36 : decode cX12_is 36 = .ok (.aload_n 1, 1) := by decide +kernel
theorem dX12_is_37 : decode cX12_is 37 = .ok (.invokevirtual 172, 3) := by decide +kernel
theorem dX12_is_40 : decode cX12_is 40 = .ok (.if_icmp .ge 37, 3) := by decide +kernel
theorem dX12_is_43 : decode cX12_is 43 = .ok (.iload_n 2, 1) := by decide +kernel
theorem dX12_is_44 : decode cX12_is 44 = .ok (.ifCond .eq 33, 3) := by decide +kernel
theorem dX12_is_47 : decode cX12_is 47 = .ok (.aload_n 0, 1) := by decide +kernel
theorem dX12_is_48 : decode cX12_is 48 = .ok (.aload_n 0, 1) := by decide +kernel
theorem dX12_is_49 : decode cX12_is 49 = .ok (.getfield 340, 3) := by decide +kernel
theorem dX12_is_52 : decode cX12_is 52 = .ok (.iload_n 3, 1) := by decide +kernel
theorem dX12_is_53 : decode cX12_is 53 = .ok (.iadd, 1) := by decide +kernel
theorem dX12_is_54 : decode cX12_is 54 = .ok (.invokevirtual 334, 3) := by decide +kernel
theorem dX12_is_57 : decode cX12_is 57 = .ok (.aload_n 1, 1) := by decide +kernel
theorem dX12_is_58 : decode cX12_is 58 = .ok (.iload_n 3, 1) := by decide +kernel
theorem dX12_is_59 : decode cX12_is 59 = .ok (.invokevirtual 178, 3) := by decide +kernel
theorem dX12_is_62 : decode cX12_is 62 = .ok (.if_icmp .ne 7, 3) := by decide +kernel
theorem dX12_is_65 : decode cX12_is 65 = .ok (.iconst 1, 1) := by decide +kernel
theorem dX12_is_66 : decode cX12_is 66 = .ok (.goto 4, 3) := by decide +kernel
theorem dX12_is_69 : decode cX12_is 69 = .ok (.iconst 0, 1) := by decide +kernel
theorem dX12_is_70 : decode cX12_is 70 = .ok (.istore_n 2, 1) := by decide +kernel
theorem dX12_is_71 : decode cX12_is 71 = .ok (.iinc 3 1, 3) := by decide +kernel
theorem dX12_is_74 : decode cX12_is 74 = .ok (.goto (-39), 3) := by decide +kernel
theorem dX12_is_77 : decode cX12_is 77 = .ok (.iload_n 2, 1) := by decide +kernel
theorem dX12_is_78 : decode cX12_is 78 = .ok (.ireturn, 1) := by decide +kernel
set_option maxRecDepth 20000 in
theorem ggX12_take_X12_is : GoodIn wsX12_take wsX12_is := goodIn_r _ [6, 7, 8, 9, 10, 11, 12, 13, 14, 15, 16, 17, 18, 19, 20, 21, 22, 23, 24, 5, 25, 26, 27, 28, 29, 30, 31, 32, 33, 34, 35, 36, 37, 38, 39, 40, 41, 42, 43, 44, 45, 46, 47, 48, 49, 50, 51, 52, 53, 54, 55, 56, 57, 58, 59, 60, 61, 62, 63, 64, 65, 81, 82, 83, 84, 85, 86, 87, 88, 89, 90, 91, 92, 93, 94, 95, 96, 97, 98, 99, 100, 101, 102, 103, 104, 105, 106, 107, 108, 109, 110, 111, 112, 113, 114, 115, 116, 117, 118, 119, 120, 121, 122, 123, 124, 125, 126, 127, 128, 129, 130, 131, 132, 133, 134, 135, 136, 137, 138, 139, 140, 141, 142, 143, 144, 145, 146, 147, 148, 149, 150, 151, 152, 153, 154, 155, 156, 157, 158, 159] (by decide +kernel) (by decide +kernel)
set_option maxRecDepth 20000 in
theorem gX12_take_X12_is : GoodIn wsX12_take (wsV RX12 352 RX12 yX12_is wsX12_is) := goodIn_app (goodIn_of _ (by decide +kernel)) ggX12_take_X12_is
set_option maxRecDepth 20000 in
theorem ggX12_take_X12_next : GoodIn wsX12_take wsX12_next := goodIn_r _ [69, 9, 8, 7, 22, 23, 24, 5, 25, 26, 27, 28, 70, 71, 72, 73, 74, 75, 76, 77, 78, 79, 80, 81, 82, 83, 84, 85, 86, 87, 88, 89, 90, 91, 92, 93, 94, 95, 96, 97, 98, 99, 100, 101, 102, 103, 104, 105, 106, 107, 108, 109, 110, 111, 112, 113, 114, 115, 116, 117, 118, 119, 120, 121, 122, 123, 124, 125, 126, 127, 128, 129, 130, 131, 132, 133, 134, 135, 136, 137, 138, 139, 140, 141, 142, 143, 144, 145, 146, 147, 148, 149, 150, 151, 152, 153, 154, 155, 156, 157, 158, 159] (by decide +kernel) (by decide +kernel)
set_option maxRecDepth 20000 in
theorem gX12_take_X12_next : GoodIn wsX12_take (wsV RX12 356 RX12 yX12_next wsX12_next) := goodIn_app (goodIn_of _ (by decide +kernel)) ggX12_take_X12_next
theorem dX12_take_0 : decode cX12_take 0 = .ok (.aload_n 0, 1) := by decide +kernel
theorem dX12_take_1 : decode cX12_take 1 = .ok (.getfield 349, 3) := by decide +kernel
theorem dX12_take_4 : decode cX12_take 4 = .ok (.ifCond .ge 11, 3) := by decide +kernel
theorem dX12_take_7 : decode cX12_take 7 = .ok (.aload_n 0, 1) := by decide +kernel
theorem dX12_take_8 : decode cX12_take 8 = .ok (.aload_n 1, 1) := by decide +kernel
theorem dX12_take_9 : decode cX12_take 9 = .ok (.invokevirtual 352, 3) := by decide +kernel
theorem dX12_take_12 : decode cX12_take 12 = .ok (.ifCond .ne 5, 3) := by decide +kernel
theorem dX12_take_15 : decode cX12_take 15 = .ok (.iconst 0, 1) := by decide +kernel
theorem dX12_take_16 : decode cX12_take 16 = .ok (.ireturn, 1) := by decide +kernel
theorem dX12_take_17 : decode cX12_take 17 = .ok (.aload_n 0, 1) := by decide +kernel
theorem dX12_take_18 : decode cX12_take 18 = .ok (.invokevirtual 356, 3) := by decide +kernel
theorem dX12_take_21 : decode cX12_take 21 = .ok (.iconst 1, 1) := by decide +kernel
theorem dX12_take_22 : decode cX12_take 22 = .ok (.ireturn, 1) := by decide +kernel
theorem dX12_wrong_0 : decode cX12_wrong 0 = .ok (.aload_n 0, 1) := by decide +kernel
theorem dX12_wrong_1 : decode cX12_wrong 1 = .ok (.aload_n 0, 1) := by decide +kernel
theorem dX12_wrong_2 : decode cX12_wrong 2 = .ok (.getfield 349, 3) := by decide +kernel
theorem dX12_wrong_5 : decode cX12_wrong 5 = .ok (.ifCond .ge 10, 3) := by decide +kernel
theorem dX12_wrong_8 : decode cX12_wrong 8 = .ok (.aload_n 0, 1) := by decide +kernel
theorem dX12_wrong_9 : decode cX12_wrong 9 = .ok (.getfield 340, 3) := by decide +kernel
theorem dX12_wrong_12 : decode cX12_wrong 12 = .ok (.goto 7, 3) := by decide +kernel
theorem dX12_wrong_15 : decode cX12_wrong 15 = .ok (.aload_n 0, 1) := by decide +kernel
theorem dX12_wrong_16 : decode cX12_wrong 16 = .ok (.getfield 349, 3) := by decide +kernel
theorem dX12_wrong_19 : decode cX12_wrong 19 = .ok (.putfield 349, 3) := by decide +kernel
theorem dX12_wrong_22 : decode cX12_wrong 22 = .ok (.iconst 0, 1) := by decide +kernel
theorem dX12_wrong_23 : decode cX12_wrong 23 = .ok (.ireturn, 1) := by decide +kernel
set_option maxRecDepth 20000 in
theorem ggX12_either_X12_both : GoodIn wsX12_either wsX12_both := goodIn_r _ [88, 89, 90, 91, 4, 5, 6, 7, 8, 9, 10, 11, 12, 13, 14, 15, 16, 17, 18, 19, 20, 21, 22, 23, 24, 25, 26, 27, 28, 29, 30, 31, 32, 33, 34, 35, 36, 37, 38, 39, 40, 41, 42, 43, 44, 45, 46, 47, 48, 49, 50, 51, 52, 53, 54, 55, 56, 57, 58, 59, 60, 61, 62, 63, 64, 65, 66, 67, 68, 69, 70, 71, 72, 73, 74, 75, 76, 77, 78, 79, 80, 81, 82, 83, 84, 85, 86, 87, 0, 1, 2, 3, 92, 93, 94, 95, 96, 97, 98, 99, 100, 101, 102, 103, 104, 105, 106, 107, 108, 109, 110, 111, 112, 113, 114, 115, 116, 117, 118, 119, 120, 121, 122, 123, 124, 125, 126, 127, 128, 129, 130, 131, 132, 133, 134, 135, 136, 137, 138, 139, 140, 141, 142, 143, 144, 145, 146, 147, 148, 149, 150, 151, 152, 153, 154, 155, 156, 157, 158, 159, 160, 161, 162, 163, 164, 165, 166, 167, 168, 169, 170, 171, 172, 173, 174, 175, 176, 177, 178, 179, 180, 181, 182, 183, 184, 185, 186, 187, 188, 189, 190, 191, 192, 193, 194, 195, 196] (by decide +kernel) (by decide +kernel)
set_option maxRecDepth 20000 in
theorem gX12_either_X12_both : GoodIn wsX12_either (wsV RX12 359 RX12 yX12_both wsX12_both) := goodIn_app (goodIn_of _ (by decide +kernel)) ggX12_either_X12_both
set_option maxRecDepth 20000 in
theorem ggX12_either_X12_take : GoodIn wsX12_either wsX12_take := goodIn_r _ [8, 9, 10, 11, 12, 4, 13, 14, 15, 16, 17, 18, 19, 20, 21, 22, 23, 24, 25, 26, 27, 28, 29, 30, 31, 32, 33, 34, 35, 36, 37, 38, 39, 40, 41, 42, 43, 44, 45, 46, 47, 48, 49, 50, 51, 52, 53, 54, 55, 56, 57, 58, 59, 60, 61, 62, 63, 64, 65, 66, 67, 68, 69, 70, 71, 72, 73, 74, 75, 76, 77, 78, 79, 80, 81, 82, 83, 84, 85, 86, 87, 118, 119, 120, 121, 122, 123, 124, 125, 126, 127, 128, 129, 130, 131, 132, 133, 134, 135, 136, 137, 138, 139, 140, 141, 142, 143, 144, 145, 146, 147, 148, 149, 150, 151, 152, 153, 154, 155, 156, 157, 158, 159, 160, 161, 162, 163, 164, 165, 166, 167, 168, 169, 170, 171, 172, 173, 174, 175, 176, 177, 178, 179, 180, 181, 182, 183, 184, 185, 186, 187, 188, 189, 190, 191, 192, 193, 194, 195, 196] (by decide +kernel) (by decide +kernel)
set_option maxRecDepth 20000 in
theorem gX12_either_X12_take : GoodIn wsX12_either (wsV RX12 364 RX12 yX12_take wsX12_take) := goodIn_app (goodIn_of _ (by decide +kernel)) ggX12_either_X12_take
theorem dX12_either_0 : decode cX12_either 0 = .ok (.aload_n 0, 1) := by decide +kernel
theorem dX12_either_1 : decode cX12_either 1 = .ok (.invokevirtual 359, 3) := by decide +kernel
theorem dX12_either_4 : decode cX12_either 4 = .ok (.istore_n 1, 1) := by decide +kernel
theorem dX12_either_5 : decode cX12_either 5 = .ok (.aload_n 0, 1) := by decide +kernel
theorem dX12_either_6 : decode cX12_either 6 = .ok (.ldc_w 362, 3) := by decide +kernel
theorem dX12_either_9 : decode cX12_either 9 = .ok (.invokevirtual 364, 3) := by decide +kernel
theorem dX12_either_12 : decode cX12_either 12 = .ok (.ifCond .eq 25, 3) := by decide +kernel
theorem dX12_either_15 : decode cX12_either 15 = .ok (.aload_n 0, 1) := by decide +kernel
theorem dX12_either_16 : decode cX12_either 16 = .ok (.invokevirtual 359, 3) := by decide +kernel
theorem dX12_either_19 : decode cX12_either 19 = .ok (.istore_n 2, 1) := by decide +kernel
theorem dX12_either_20 : decode cX12_either 20 = .ok (.iload_n 1, 1) := by decide +kernel
theorem dX12_either_21 : decode cX12_either 21 = .ok (.ifCond .ne 7, 3) := by decide +kernel
theorem dX12_either_24 : decode cX12_either 24 = .ok (.iload_n 2, 1) := by decide +kernel
theorem dX12_either_25 : decode cX12_either 25 = .ok (.ifCond .eq 7, 3) := by decide +kernel
theorem dX12_either_28 : decode cX12_either 28 = .ok (.iconst 1, 1) := by decide +kernel
theorem dX12_either_29 : decode cX12_either 29 = .ok (.goto 4, 3) := by decide +kernel
theorem dX12_either_32 : decode cX12_either 32 = .ok (.iconst 0, 1) := by decide +kernel
theorem dX12_either_33 : decode cX12_either 33 = .ok (.istore_n 1, 1) := by decide +kernel
theorem dX12_either_34 : decode cX12_either 34 = .ok (.goto (-29), 3) := by decide +kernel
theorem dX12_either_37 : decode cX12_either 37 = .ok (.iload_n 1, 1) := by decide +kernel
theorem dX12_either_38 : decode cX12_either 38 = .ok (.ireturn, 1) := by decide +kernel
set_option maxRecDepth 20000 in
theorem ggX12_both_X12_turned : GoodIn wsX12_both wsX12_turned := goodIn_r _ [114, 9, 93, 10, 11, 12, 4, 13, 14, 15, 16, 17, 18, 19, 20, 21, 22, 23, 24, 25, 26, 27, 28, 29, 30, 31, 32, 33, 34, 35, 36, 37, 38, 39, 40, 41, 42, 43, 44, 45, 46, 47, 48, 49, 50, 51, 52, 53, 54, 55, 56, 57, 58, 59, 60, 61, 62, 63, 64, 65, 66, 67, 68, 69, 70, 71, 72, 95, 96, 97, 98, 99, 100, 101, 102, 73, 74, 75, 76, 77, 78, 79, 80, 81, 82, 83, 84, 85, 86, 87, 1, 2, 3, 115, 116, 117, 5, 6, 7, 8, 0, 88, 89, 90, 91, 92, 94, 103, 104, 105, 106, 107, 108, 109, 110, 111, 112, 113, 118, 119, 120, 121, 122, 123, 124, 125, 126, 127, 128, 129, 130, 131, 132, 133, 134, 135, 136, 137, 138, 139, 140, 141, 142, 143, 144, 145, 146, 147, 148, 149, 150, 151, 152, 153, 154, 155, 156, 157, 158, 159, 160, 161, 162, 163, 164, 165, 166, 167, 168, 169, 170, 171, 172, 173, 174, 175, 176, 177, 178, 179, 180, 181, 182, 183, 184, 185, 186, 187, 188, 189, 190, 191, 192, 193, 194, 195, 196] (by decide +kernel) (by decide +kernel)
set_option maxRecDepth 20000 in
theorem gX12_both_X12_turned : GoodIn wsX12_both (wsV RX12 367 RX12 yX12_turned wsX12_turned) := goodIn_app (goodIn_of _ (by decide +kernel)) ggX12_both_X12_turned
set_option maxRecDepth 20000 in
theorem ggX12_both_X12_take : GoodIn wsX12_both wsX12_take := goodIn_r _ [8, 9, 10, 11, 12, 4, 13, 14, 15, 16, 17, 18, 19, 20, 21, 22, 23, 24, 25, 26, 27, 28, 29, 30, 31, 32, 33, 34, 35, 36, 37, 38, 39, 40, 41, 42, 43, 44, 45, 46, 47, 48, 49, 50, 51, 52, 53, 54, 55, 56, 57, 58, 59, 60, 61, 62, 63, 64, 65, 66, 67, 68, 69, 70, 71, 72, 73, 74, 75, 76, 77, 78, 79, 80, 81, 82, 83, 84, 85, 86, 87, 118, 119, 120, 121, 122, 123, 124, 125, 126, 127, 128, 129, 130, 131, 132, 133, 134, 135, 136, 137, 138, 139, 140, 141, 142, 143, 144, 145, 146, 147, 148, 149, 150, 151, 152, 153, 154, 155, 156, 157, 158, 159, 160, 161, 162, 163, 164, 165, 166, 167, 168, 169, 170, 171, 172, 173, 174, 175, 176, 177, 178, 179, 180, 181, 182, 183, 184, 185, 186, 187, 188, 189, 190, 191, 192, 193, 194, 195, 196] (by decide +kernel) (by decide +kernel)
set_option maxRecDepth 20000 in
theorem gX12_both_X12_take : GoodIn wsX12_both (wsV RX12 364 RX12 yX12_take wsX12_take) := goodIn_app (goodIn_of _ (by decide +kernel)) ggX12_both_X12_take
theorem dX12_both_0 : decode cX12_both 0 = .ok (.aload_n 0, 1) := by decide +kernel
theorem dX12_both_1 : decode cX12_both 1 = .ok (.invokevirtual 367, 3) := by decide +kernel
theorem dX12_both_4 : decode cX12_both 4 = .ok (.istore_n 1, 1) := by decide +kernel
theorem dX12_both_5 : decode cX12_both 5 = .ok (.aload_n 0, 1) := by decide +kernel
theorem dX12_both_6 : decode cX12_both 6 = .ok (.ldc_w 370, 3) := by decide +kernel
theorem dX12_both_9 : decode cX12_both 9 = .ok (.invokevirtual 364, 3) := by decide +kernel
theorem dX12_both_12 : decode cX12_both 12 = .ok (.ifCond .eq 25, 3) := by decide +kernel
theorem dX12_both_15 : decode cX12_both 15 = .ok (.aload_n 0, 1) := by decide +kernel
theorem dX12_both_16 : decode cX12_both 16 = .ok (.invokevirtual 367, 3) := by decide +kernel
theorem dX12_both_19 : decode cX12_both 19 = .ok (.istore_n 2, 1) := by decide +kernel
theorem dX12_both_20 : decode cX12_both 20 = .ok (.iload_n 1, 1) := by decide +kernel
theorem dX12_both_21 : decode cX12_both 21 = .ok (.ifCond .eq 11, 3) := by decide +kernel
theorem dX12_both_24 : decode cX12_both 24 = .ok (.iload_n 2, 1) := by decide +kernel
theorem dX12_both_25 : decode cX12_both 25 = .ok (.ifCond .eq 7, 3) := by decide +kernel
theorem dX12_both_28 : decode cX12_both 28 = .ok (.iconst 1, 1) := by decide +kernel
theorem dX12_both_29 : decode cX12_both 29 = .ok (.goto 4, 3) := by decide +kernel
theorem dX12_both_32 : decode cX12_both 32 = .ok (.iconst 0, 1) := by decide +kernel
theorem dX12_both_33 : decode cX12_both 33 = .ok (.istore_n 1, 1) := by decide +kernel
theorem dX12_both_34 : decode cX12_both 34 = .ok (.goto (-29), 3) := by decide +kernel
theorem dX12_both_37 : decode cX12_both 37 = .ok (.iload_n 1, 1) := by decide +kernel
theorem dX12_both_38 : decode cX12_both 38 = .ok (.ireturn, 1) := by decide +kernel
set_option maxRecDepth 20000 in
theorem ggX12_opens_X12_wrong : GoodIn wsX12_opens wsX12_wrong := goodIn_r _ [6, 7, 8, 33, 34, 35, 36, 37, 38, 39, 40, 41, 42, 43, 44, 45, 46, 47, 48, 49, 50, 51, 52, 53, 54, 55, 56, 57, 58, 59, 60, 61, 62, 63, 64, 65, 66, 67, 68, 69, 70, 71, 72, 73, 74, 75, 76, 77, 78, 79, 80, 81, 82, 83, 84, 85, 86, 87, 88, 89, 90, 91, 92, 93, 94, 95, 96, 97, 98, 99, 100, 101, 102, 103, 104, 105, 106, 107, 108, 109, 110, 111] (by decide +kernel) (by decide +kernel)
set_option maxRecDepth 20000 in
theorem gX12_opens_X12_wrong : GoodIn wsX12_opens (wsV RX12 375 RX12 yX12_wrong wsX12_wrong) := goodIn_app (goodIn_of _ (by decide +kernel)) ggX12_opens_X12_wrong
set_option maxRecDepth 20000 in
theorem ggX12_opens_X12_next : GoodIn wsX12_opens wsX12_next := goodIn_r _ [12, 13, 14, 8, 15, 16, 17, 5, 18, 19, 20, 21, 22, 23, 24, 25, 26, 27, 28, 29, 30, 31, 32, 33, 34, 35, 36, 37, 38, 39, 40, 41, 42, 43, 44, 45, 46, 47, 48, 49, 50, 51, 52, 53, 54, 55, 56, 57, 58, 59, 60, 61, 62, 63, 64, 65, 66, 67, 68, 69, 70, 71, 72, 73, 74, 75, 76, 77, 78, 79, 80, 81, 82, 83, 84, 85, 86, 87, 88, 89, 90, 91, 92, 93, 94, 95, 96, 97, 98, 99, 100, 101, 102, 103, 104, 105, 106, 107, 108, 109, 110, 111] (by decide +kernel) (by decide +kernel)
set_option maxRecDepth 20000 in
theorem gX12_opens_X12_next : GoodIn wsX12_opens (wsV RX12 356 RX12 yX12_next wsX12_next) := goodIn_app (goodIn_of _ (by decide +kernel)) ggX12_opens_X12_next
theorem dX12_opens_0 : decode cX12_opens 0 = .ok (.aload_n 0, 1) := by decide +kernel
theorem dX12_opens_1 : decode cX12_opens 1 = .ok (.getfield 372, 3) := by decide +kernel
theorem dX12_opens_4 : decode cX12_opens 4 = .ok (.iconst 5, 1) := by decide +kernel
theorem dX12_opens_5 : decode cX12_opens 5 = .ok (.if_icmp .ne 10, 3) := by decide +kernel
theorem dX12_opens_8 : decode cX12_opens 8 = .ok (.aload_n 0, 1) := by decide +kernel
theorem dX12_opens_9 : decode cX12_opens 9 = .ok (.invokevirtual 375, 3) := by decide +kernel
theorem dX12_opens_12 : decode cX12_opens 12 = .ok (.istore_n 1, 1) := by decide +kernel
theorem dX12_opens_13 : decode cX12_opens 13 = .ok (.iconst 0, 1) := by decide +kernel
theorem dX12_opens_14 : decode cX12_opens 14 = .ok (.ireturn, 1) := by decide +kernel
theorem dX12_opens_15 : decode cX12_opens 15 = .ok (.aload_n 0, 1) := by decide +kernel
theorem dX12_opens_16 : decode cX12_opens 16 = .ok (.dup, 1) := by decide +kernel
theorem dX12_opens_17 : decode cX12_opens 17 = .ok (.getfield 372, 3) := by decide +kernel
theorem dX12_opens_20 : decode cX12_opens 20 = .ok (.iconst 1, 1) := by decide +kernel
theorem dX12_opens_21 : decode cX12_opens 21 = .ok (.iadd, 1) := by decide +kernel
theorem dX12_opens_22 : decode cX12_opens 22 = .ok (.putfield 372, 3) := by decide +kernel
theorem dX12_opens_25 : decode cX12_opens 25 = .ok (.aload_n 0, 1) := by decide +kernel
theorem dX12_opens_26 : decode cX12_opens 26 = .ok (.invokevirtual 356, 3) := by decide +kernel
theorem dX12_opens_29 : decode cX12_opens 29 = .ok (.iconst 1, 1) := by decide +kernel
theorem dX12_opens_30 : decode cX12_opens 30 = .ok (.ireturn, 1) := by decide +kernel
set_option maxRecDepth 20000 in
theorem ggX12_turned_X12_is : GoodIn wsX12_turned wsX12_is := goodIn_r _ [7, 8, 9, 10, 11, 12, 13, 14, 15, 16, 17, 18, 19, 20, 21, 22, 23, 24, 25, 6, 26, 27, 28, 29, 30, 31, 32, 33, 34, 35, 36, 37, 38, 39, 40, 41, 42, 43, 44, 45, 46, 47, 48, 49, 50, 51, 52, 53, 54, 55, 56, 57, 58, 59, 60, 61, 62, 63, 64, 65, 66, 118, 119, 120, 121, 122, 123, 124, 125, 126, 127, 128, 129, 130, 131, 132, 133, 134, 135, 136, 137, 138, 139, 140, 141, 142, 143, 144, 145, 146, 147, 148, 149, 150, 151, 152, 153, 154, 155, 156, 157, 158, 159, 160, 161, 162, 163, 164, 165, 166, 167, 168, 169, 170, 171, 172, 173, 174, 175, 176, 177, 178, 179, 180, 181, 182, 183, 184, 185, 186, 187, 188, 189, 190, 191, 192, 193, 194, 195, 196] (by decide +kernel) (by decide +kernel)
set_option maxRecDepth 20000 in
theorem gX12_turned_X12_is : GoodIn wsX12_turned (wsV RX12 352 RX12 yX12_is wsX12_is) := goodIn_app (goodIn_of _ (by decide +kernel)) ggX12_turned_X12_is
set_option maxRecDepth 20000 in
theorem ggX12_turned_X12_opens : GoodIn wsX12_turned wsX12_opens := goodIn_r _ [70, 2, 71, 72, 73, 6, 74, 1, 8, 75, 76, 77, 78, 10, 9, 23, 24, 25, 26, 27, 28, 29, 79, 80, 81, 82, 83, 84, 85, 86, 87, 88, 89, 118, 119, 120, 121, 122, 123, 124, 125, 126, 127, 128, 129, 130, 131, 132, 133, 134, 135, 136, 137, 138, 139, 140, 141, 142, 143, 144, 145, 146, 147, 148, 149, 150, 151, 152, 153, 154, 155, 156, 157, 158, 159, 160, 161, 162, 163, 164, 165, 166, 167, 168, 169, 170, 171, 172, 173, 174, 175, 176, 177, 178, 179, 180, 181, 182, 183, 184, 185, 186, 187, 188, 189, 190, 191, 192, 193, 194, 195, 196] (by decide +kernel) (by decide +kernel)
set_option maxRecDepth 20000 in
theorem gX12_turned_X12_opens : GoodIn wsX12_turned (wsV RX12 380 RX12 yX12_opens wsX12_opens) := goodIn_app (goodIn_of _ (by decide +kernel)) ggX12_turned_X12_opens
set_option maxRecDepth 20000 in
theorem ggX12_turned_X12_turned : GoodIn wsX12_turned wsX12_turned := goodIn_r _ [0, 1, 2, 3, 4, 5, 6, 7, 8, 9, 10, 11, 12, 13, 14, 15, 16, 17, 18, 19, 20, 21, 22, 23, 24, 25, 26, 27, 28, 29, 30, 31, 32, 33, 34, 35, 36, 37, 38, 39, 40, 41, 42, 43, 44, 45, 46, 47, 48, 49, 50, 51, 52, 53, 54, 55, 56, 57, 58, 59, 60, 61, 62, 63, 64, 65, 66, 67, 68, 69, 70, 71, 72, 73, 74, 75, 76, 77, 78, 79, 80, 81, 82, 83, 84, 85, 86, 87, 88, 89, 90, 91, 92, 93, 94, 95, 96, 97, 98, 99, 100, 101, 102, 103, 104, 105, 106, 107, 108, 109, 110, 111, 112, 113, 114, 115, 116, 117, 118, 119, 120, 121, 122, 123, 124, 125, 126, 127, 128, 129, 130, 131, 132, 133, 134, 135, 136, 137, 138, 139, 140, 141, 142, 143, 144, 145, 146, 147, 148, 149, 150, 151, 152, 153, 154, 155, 156, 157, 158, 159, 160, 161, 162, 163, 164, 165, 166, 167, 168, 169, 170, 171, 172, 173, 174, 175, 176, 177, 178, 179, 180, 181, 182, 183, 184, 185, 186, 187, 188, 189, 190, 191, 192, 193, 194, 195, 196] (by decide +kernel) (by decide +kernel)
set_option maxRecDepth 20000 in
theorem gX12_turned_X12_turned : GoodIn wsX12_turned (wsV RX12 367 RX12 yX12_turned wsX12_turned) := goodIn_app (goodIn_of _ (by decide +kernel)) ggX12_turned_X12_turned
set_option maxRecDepth 20000 in
theorem ggX12_turned_X12_sum : GoodIn wsX12_turned wsX12_sum := goodIn_r _ [114, 115, 116, 117, 6, 96, 97, 98, 99, 1, 3, 4, 5, 7, 8, 9, 10, 11, 12, 13, 14, 15, 16, 17, 18, 19, 20, 21, 22, 23, 24, 25, 26, 27, 28, 29, 30, 31, 32, 33, 34, 35, 36, 37, 38, 39, 40, 41, 42, 43, 44, 45, 46, 47, 48, 49, 50, 51, 52, 53, 54, 55, 56, 57, 58, 59, 60, 61, 62, 63, 64, 65, 66, 75, 76, 77, 78, 79, 80, 81, 82, 83, 84, 85, 86, 87, 88, 89, 100, 90, 91, 92, 101, 102, 103, 104, 105, 2, 106, 67, 68, 69, 70, 71, 72, 73, 74, 107, 108, 109, 110, 111, 112, 113, 0, 93, 94, 95, 118, 119, 120, 121, 122, 123, 124, 125, 126, 127, 128, 129, 130, 131, 132, 133, 134, 135, 136, 137, 138, 139, 140, 141, 142, 143, 144, 145, 146, 147, 148, 149, 150, 151, 152, 153, 154, 155, 156, 157, 158, 159, 160, 161, 162, 163, 164, 165, 166, 167, 168, 169, 170, 171, 172, 173, 174, 175, 176, 177, 178, 179, 180, 181, 182, 183, 184, 185, 186, 187, 188, 189, 190, 191, 192, 193, 194, 195, 196] (by decide +kernel) (by decide +kernel)
set_option maxRecDepth 20000 in
theorem gX12_turned_X12_sum : GoodIn wsX12_turned (wsV RX12 384 RX12 yX12_sum wsX12_sum) := goodIn_app (goodIn_of _ (by decide +kernel)) ggX12_turned_X12_sum
set_option maxRecDepth 20000 in
theorem ggX12_turned_X12_take : GoodIn wsX12_turned wsX12_take := goodIn_r _ [99, 1, 3, 4, 5, 6, 7, 8, 9, 10, 11, 12, 13, 14, 15, 16, 17, 18, 19, 20, 21, 22, 23, 24, 25, 26, 27, 28, 29, 30, 31, 32, 33, 34, 35, 36, 37, 38, 39, 40, 41, 42, 43, 44, 45, 46, 47, 48, 49, 50, 51, 52, 53, 54, 55, 56, 57, 58, 59, 60, 61, 62, 63, 64, 65, 66, 75, 76, 77, 78, 79, 80, 81, 82, 83, 84, 85, 86, 87, 88, 89, 118, 119, 120, 121, 122, 123, 124, 125, 126, 127, 128, 129, 130, 131, 132, 133, 134, 135, 136, 137, 138, 139, 140, 141, 142, 143, 144, 145, 146, 147, 148, 149, 150, 151, 152, 153, 154, 155, 156, 157, 158, 159, 160, 161, 162, 163, 164, 165, 166, 167, 168, 169, 170, 171, 172, 173, 174, 175, 176, 177, 178, 179, 180, 181, 182, 183, 184, 185, 186, 187, 188, 189, 190, 191, 192, 193, 194, 195, 196] (by decide +kernel) (by decide +kernel)
set_option maxRecDepth 20000 in
theorem gX12_turned_X12_take : GoodIn wsX12_turned (wsV RX12 364 RX12 yX12_take wsX12_take) := goodIn_app (goodIn_of _ (by decide +kernel)) ggX12_turned_X12_take
theorem dX12_turned_0 : decode cX12_turned 0 = .ok (.aload_n 0, 1) := by decide +kernel
theorem dX12_turned_1 : decode cX12_turned 1 = .ok (.getfield 349, 3) := by decide +kernel
theorem dX12_turned_4 : decode cX12_turned 4 = .ok (.ifCond .lt 5, 3) := by decide +kernel
theorem dX12_turned_7 : decode cX12_turned 7 = .ok (.iconst 0, 1) := by decide +kernel
theorem dX12_turned_8 : decode cX12_turned 8 = .ok (.ireturn, 1) := by decide +kernel
theorem dX12_turned_9 : decode cX12_turned 9 = .ok (.aload_n 0, 1) := by decide +kernel
theorem dX12_turned_10 : decode cX12_turned 10 = .ok (.ldc_w 378, 3) := by decide +kernel
theorem dX12_turned_13 : decode cX12_turned 13 = .ok (.invokevirtual 352, 3) := by decide +kernel
theorem dX12_turned_16 : decode cX12_turned 16 = .ok (.ifCond .eq 37, 3) := by decide +kernel
theorem dX12_turned_19 : decode cX12_turned 19 = .ok (.aload_n 0, 1) := by decide +kernel
theorem dX12_turned_20 : decode cX12_turned 20 = .ok (.invokevirtual 380, 3) := by decide +kernel
theorem dX12_turned_23 : decode cX12_turned 23 = .ok (.ifCond .ne 5, 3) := by decide +kernel
theorem dX12_turned_26 : decode cX12_turned 26 = .ok (.iconst 0, 1) := by decide +kernel
theorem dX12_turned_27 : decode cX12_turned 27 = .ok (.ireturn, 1) := by decide +kernel
theorem dX12_turned_28 : decode cX12_turned 28 = .ok (.aload_n 0, 1) := by decide +kernel
theorem dX12_turned_29 : decode cX12_turned 29 = .ok (.invokevirtual 367, 3) := by decide +kernel
theorem dX12_turned_32 : decode cX12_turned 32 = .ok (.istore_n 1, 1) := by decide +kernel
theorem dX12_turned_33 : decode cX12_turned 33 = .ok (.aload_n 0, 1) := by decide +kernel
theorem dX12_turned_34 : decode cX12_turned 34 = .ok (.dup, 1) := by decide +kernel
theorem dX12_turned_35 : decode cX12_turned 35 = .ok (.getfield 372, 3) := by decide +kernel
theorem dX12_turned_38 : decode cX12_turned 38 = .ok (.iconst 1, 1) := by decide +kernel
theorem dX12_turned_39 : decode cX12_turned 39 = .ok (.isub, 1) := by decide +kernel
theorem dX12_turned_40 : decode cX12_turned 40 = .ok (.putfield 372, 3) := by decide +kernel
theorem dX12_turned_43 : decode cX12_turned 43 = .ok (.iload_n 1, 1) := by decide +kernel
theorem dX12_turned_44 : decode cX12_turned 44 = .ok (.ifCond .ne 7, 3) := by decide +kernel
theorem dX12_turned_47 : decode cX12_turned 47 = .ok (.iconst 1, 1) := by decide +kernel
theorem dX12_turned_48 : decode cX12_turned 48 = .ok (.goto 4, 3) := by decide +kernel
theorem dX12_turned_51 : decode cX12_turned 51 = .ok (.iconst 0, 1) := by decide +kernel
theorem dX12_turned_52 : decode cX12_turned 52 = .ok (.ireturn, 1) := by decide +kernel
theorem dX12_turned_53 : decode cX12_turned 53 = .ok (.aload_n 0, 1) := by decide +kernel
theorem dX12_turned_54 : decode cX12_turned 54 = .ok (.invokevirtual 384, 3) := by decide +kernel
theorem dX12_turned_57 : decode cX12_turned 57 = .ok (.istore_n 1, 1) := by decide +kernel
theorem dX12_turned_58 : decode cX12_turned 58 = .ok (.aload_n 0, 1) := by decide +kernel
theorem dX12_turned_59 : decode cX12_turned 59 = .ok (.ldc_w 387, 3) := by decide +kernel
theorem dX12_turned_62 : decode cX12_turned 62 = .ok (.invokevirtual 364, 3) := by decide +kernel
theorem dX12_turned_65 : decode cX12_turned 65 = .ok (.ifCond .eq 17, 3) := by decide +kernel
theorem dX12_turned_68 : decode cX12_turned 68 = .ok (.iload_n 1, 1) := by decide +kernel
theorem dX12_turned_69 : decode cX12_turned 69 = .ok (.aload_n 0, 1) := by decide +kernel
theorem dX12_turned_70 : decode cX12_turned 70 = .ok (.invokevirtual 384, 3) := by decide +kernel
theorem dX12_turned_73 : decode cX12_turned 73 = .ok (.if_icmp .ge 7, 3) := by decide +kernel
theorem dX12_turned_76 : decode cX12_turned 76 = .ok (.iconst 1, 1) := by decide +kernel
theorem dX12_turned_77 : decode cX12_turned 77 = .ok (.goto 4, 3) := by decide +kernel
theorem dX12_turned_80 : decode cX12_turned 80 = .ok (.iconst 0, 1) := by decide +kernel
theorem dX12_turned_81 : decode cX12_turned 81 = .ok (.ireturn, 1) := by decide +kernel
theorem dX12_turned_82 : decode cX12_turned 82 = .ok (.aload_n 0, 1) := by decide +kernel
theorem dX12_turned_83 : decode cX12_turned 83 = .ok (.ldc_w 389, 3) := by decide +kernel
theorem dX12_turned_86 : decode cX12_turned 86 = .ok (.invokevirtual 364, 3) := by decide +kernel
theorem dX12_turned_89 : decode cX12_turned 89 = .ok (.ifCond .eq 17, 3) := by decide +kernel
theorem dX12_turned_92 : decode cX12_turned 92 = .ok (.iload_n 1, 1) := by decide +kernel
theorem dX12_turned_93 : decode cX12_turned 93 = .ok (.aload_n 0, 1) := by decide +kernel
theorem dX12_turned_94 : decode cX12_turned 94 = .ok (.invokevirtual 384, 3) := by decide +kernel
theorem dX12_turned_97 : decode cX12_turned 97 = .ok (.if_icmp .ne 7, 3) := by decide +kernel
theorem dX12_turned_100 : decode cX12_turned 100 = .ok (.iconst 1, 1) := by decide +kernel
theorem dX12_turned_101 : decode cX12_turned 101 = .ok (.goto 4, 3) := by decide +kernel
theorem dX12_turned_104 : decode cX12_turned 104 = .ok (.iconst 0, 1) := by decide +kernel
theorem dX12_turned_105 : decode cX12_turned 105 = .ok (.ireturn, 1) := by decide +kernel
theorem dX12_turned_106 : decode cX12_turned 106 = .ok (.iload_n 1, 1) := by decide +kernel
theorem dX12_turned_107 : decode cX12_turned 107 = .ok (.ireturn, 1) := by decide +kernel
set_option maxRecDepth 20000 in
theorem ggX12_sum_X12_product : GoodIn wsX12_sum wsX12_product := goodIn_r _ [113, 107, 108, 109, 4, 5, 6, 7, 8, 9, 10, 11, 12, 13, 14, 15, 16, 17, 18, 19, 20, 21, 22, 23, 24, 25, 26, 27, 28, 29, 30, 31, 32, 33, 34, 35, 36, 37, 38, 39, 40, 41, 42, 43, 44, 45, 46, 47, 48, 49, 50, 51, 52, 53, 54, 55, 56, 57, 58, 59, 60, 61, 62, 63, 64, 65, 66, 67, 68, 69, 70, 71, 72, 73, 74, 75, 76, 77, 78, 79, 80, 81, 82, 83, 84, 85, 86, 87, 88, 89, 90, 91, 92, 93, 94, 95, 96, 97, 98, 99, 100, 101, 102, 103, 104, 105, 106, 110, 111, 112, 0, 1, 2, 3, 114, 115, 116, 117, 118, 119, 120, 121, 122, 123, 124, 125, 126, 127, 128, 129, 130, 131, 132, 133, 134, 135, 136, 137, 138, 139, 140, 141, 142, 143, 144, 145, 146, 147, 148, 149, 150, 151, 152, 153, 154, 155, 156, 157, 158, 159, 160, 161, 162, 163, 164, 165, 166, 167, 168, 169, 170, 171, 172, 173, 174, 175, 176, 177, 178, 179, 180, 181, 182, 183, 184, 185, 186, 187, 188, 189, 190, 191, 192, 193, 194, 195, 196] (by decide +kernel) (by decide +kernel)
set_option maxRecDepth 20000 in
theorem gX12_sum_X12_product : GoodIn wsX12_sum (wsV RX12 391 RX12 yX12_product wsX12_product) := goodIn_app (goodIn_of _ (by decide +kernel)) ggX12_sum_X12_product
set_option maxRecDepth 20000 in
theorem ggX12_sum_X12_take : GoodIn wsX12_sum wsX12_take := goodIn_r _ [8, 9, 10, 11, 12, 4, 13, 14, 15, 16, 17, 18, 19, 20, 21, 22, 23, 24, 25, 26, 27, 28, 29, 30, 31, 32, 33, 34, 35, 36, 37, 38, 39, 40, 41, 42, 43, 44, 45, 46, 47, 48, 49, 50, 51, 52, 53, 54, 55, 56, 57, 58, 59, 60, 61, 62, 63, 64, 65, 66, 67, 68, 69, 70, 71, 72, 73, 74, 75, 76, 77, 78, 79, 80, 81, 82, 83, 84, 85, 86, 87, 118, 119, 120, 121, 122, 123, 124, 125, 126, 127, 128, 129, 130, 131, 132, 133, 134, 135, 136, 137, 138, 139, 140, 141, 142, 143, 144, 145, 146, 147, 148, 149, 150, 151, 152, 153, 154, 155, 156, 157, 158, 159, 160, 161, 162, 163, 164, 165, 166, 167, 168, 169, 170, 171, 172, 173, 174, 175, 176, 177, 178, 179, 180, 181, 182, 183, 184, 185, 186, 187, 188, 189, 190, 191, 192, 193, 194, 195, 196] (by decide +kernel) (by decide +kernel)
set_option maxRecDepth 20000 in
theorem gX12_sum_X12_take : GoodIn wsX12_sum (wsV RX12 364 RX12 yX12_take wsX12_take) := goodIn_app (goodIn_of _ (by decide +kernel)) ggX12_sum_X12_take
theorem dX12_sum_0 : decode cX12_sum 0 = .ok (.aload_n 0, 1) := by decide +kernel
theorem dX12_sum_1 : decode cX12_sum 1 = .ok (.invokevirtual 391, 3) := by decide +kernel
theorem dX12_sum_4 : decode cX12_sum 4 = .ok (.istore_n 1, 1) := by decide +kernel
theorem dX12_sum_5 : decode cX12_sum 5 = .ok (.iconst 1, 1) := by decide +kernel
theorem dX12_sum_6 : decode cX12_sum 6 = .ok (.istore_n 2, 1) := by decide +kernel
theorem dX12_sum_7 : decode cX12_sum 7 = .ok (.iload_n 2, 1) := by decide +kernel
theorem dX12_sum_8 : decode cX12_sum 8 = .ok (.ifCond .eq 48, 3) := by decide +kernel
theorem dX12_sum_11 : decode cX12_sum 11 = .ok (.aload_n 0, 1) := by decide +kernel
theorem dX12_sum_12 : decode cX12_sum 12 = .ok (.ldc_w 394, 3) := by decide +kernel
theorem dX12_sum_15 : decode cX12_sum 15 = .ok (.invokevirtual 364, 3) := by decide +kernel
theorem dX12_sum_18 : decode cX12_sum 18 = .ok (.ifCond .eq 13, 3) := by decide +kernel
theorem dX12_sum_21 : decode cX12_sum 21 = .ok (.iload_n 1, 1) := by decide +kernel
theorem dX12_sum_22 : decode cX12_sum 22 = .ok (.aload_n 0, 1) := by decide +kernel
theorem dX12_sum_23 : decode cX12_sum 23 = .ok (.invokevirtual 391, 3) := by decide +kernel
theorem dX12_sum_26 : decode cX12_sum 26 = .ok (.iadd, 1) := by decide +kernel
theorem dX12_sum_27 : decode cX12_sum 27 = .ok (.istore_n 1, 1) := by decide +kernel
theorem dX12_sum_28 : decode cX12_sum 28 = .ok (.goto (-21), 3) := by decide +kernel
theorem dX12_sum_31 : decode cX12_sum 31 = .ok (.aload_n 0, 1) := by decide +kernel
theorem dX12_sum_32 : decode cX12_sum 32 = .ok (.ldc_w 396, 3) := by decide +kernel
theorem dX12_sum_35 : decode cX12_sum 35 = .ok (.invokevirtual 364, 3) := by decide +kernel
theorem dX12_sum_38 : decode cX12_sum 38 = .ok (.ifCond .eq 13, 3) := by decide +kernel
theorem dX12_sum_41 : decode cX12_sum 41 = .ok (.iload_n 1, 1) := by decide +kernel
theorem dX12_sum_42 : decode cX12_sum 42 = .ok (.aload_n 0, 1) := by decide +kernel
theorem dX12_sum_43 : decode cX12_sum 43 = .ok (.invokevirtual 391, 3) := by decide +kernel
theorem dX12_sum_46 : decode cX12_sum 46 = .ok (.isub, 1) := by decide +kernel
theorem dX12_sum_47 : decode cX12_sum 47 = .ok (.istore_n 1, 1) := by decide +kernel
theorem dX12_sum_48 : decode cX12_sum 48 = .ok (.goto (-41), 3) := by decide +kernel
theorem dX12_sum_51 : decode cX12_sum 51 = .ok (.iconst 0, 1) := by decide +kernel
theorem dX12_sum_52 : decode cX12_sum 52 = .ok (.istore_n 2, 1) := by decide +kernel
theorem dX12_sum_53 : decode cX12_sum 53 = .ok (.goto (-46), 3) := by decide +kernel
theorem dX12_sum_56 : decode cX12_sum 56 = .ok (.iload_n 1, 1) := by decide +kernel
theorem dX12_sum_57 : decode cX12_sum 57 = .ok (.ireturn, 1) := by decide +kernel
set_option maxRecDepth 20000 in
theorem ggX12_product_X12_one : GoodIn wsX12_product wsX12_one := goodIn_r _ [96, 9, 97, 14, 16, 98, 10, 11, 12, 4, 13, 15, 17, 18, 19, 20, 21, 22, 23, 24, 25, 26, 27, 28, 29, 30, 31, 32, 33, 34, 35, 36, 37, 38, 39, 40, 41, 42, 43, 44, 45, 46, 47, 48, 49, 50, 51, 52, 53, 54, 55, 56, 57, 58, 59, 60, 61, 62, 63, 64, 65, 66, 67, 68, 69, 70, 71, 72, 99, 100, 101, 102, 103, 104, 105, 106, 73, 74, 75, 76, 77, 78, 79, 80, 81, 82, 83, 84, 85, 86, 87, 1, 2, 3, 107, 108, 109, 5, 6, 7, 8, 88, 89, 90, 91, 92, 93, 94, 95, 0, 110, 111, 112, 113, 114, 115, 116, 117, 118, 119, 120, 121, 122, 123, 124, 125, 126, 127, 128, 129, 130, 131, 132, 133, 134, 135, 136, 137, 138, 139, 140, 141, 142, 143, 144, 145, 146, 147, 148, 149, 150, 151, 152, 153, 154, 155, 156, 157, 158, 159, 160, 161, 162, 163, 164, 165, 166, 167, 168, 169, 170, 171, 172, 173, 174, 175, 176, 177, 178, 179, 180, 181, 182, 183, 184, 185, 186, 187, 188, 189, 190, 191, 192, 193, 194, 195, 196] (by decide +kernel) (by decide +kernel)
set_option maxRecDepth 20000 in
theorem gX12_product_X12_one : GoodIn wsX12_product (wsV RX12 398 RX12 yX12_one wsX12_one) := goodIn_app (goodIn_of _ (by decide +kernel)) ggX12_product_X12_one
set_option maxRecDepth 20000 in
theorem ggX12_product_X12_take : GoodIn wsX12_product wsX12_take := goodIn_r _ [8, 9, 10, 11, 12, 4, 13, 14, 15, 16, 17, 18, 19, 20, 21, 22, 23, 24, 25, 26, 27, 28, 29, 30, 31, 32, 33, 34, 35, 36, 37, 38, 39, 40, 41, 42, 43, 44, 45, 46, 47, 48, 49, 50, 51, 52, 53, 54, 55, 56, 57, 58, 59, 60, 61, 62, 63, 64, 65, 66, 67, 68, 69, 70, 71, 72, 73, 74, 75, 76, 77, 78, 79, 80, 81, 82, 83, 84, 85, 86, 87, 118, 119, 120, 121, 122, 123, 124, 125, 126, 127, 128, 129, 130, 131, 132, 133, 134, 135, 136, 137, 138, 139, 140, 141, 142, 143, 144, 145, 146, 147, 148, 149, 150, 151, 152, 153, 154, 155, 156, 157, 158, 159, 160, 161, 162, 163, 164, 165, 166, 167, 168, 169, 170, 171, 172, 173, 174, 175, 176, 177, 178, 179, 180, 181, 182, 183, 184, 185, 186, 187, 188, 189, 190, 191, 192, 193, 194, 195, 196] (by decide +kernel) (by decide +kernel)
set_option maxRecDepth 20000 in
theorem gX12_product_X12_take : GoodIn wsX12_product (wsV RX12 364 RX12 yX12_take wsX12_take) := goodIn_app (goodIn_of _ (by decide +kernel)) ggX12_product_X12_take
theorem dX12_product_0 : decode cX12_product 0 = .ok (.aload_n 0, 1) := by decide +kernel
theorem dX12_product_1 : decode cX12_product 1 = .ok (.invokevirtual 398, 3) := by decide +kernel
theorem dX12_product_4 : decode cX12_product 4 = .ok (.istore_n 1, 1) := by decide +kernel
theorem dX12_product_5 : decode cX12_product 5 = .ok (.aload_n 0, 1) := by decide +kernel
theorem dX12_product_6 : decode cX12_product 6 = .ok (.ldc_w 401, 3) := by decide +kernel
theorem dX12_product_9 : decode cX12_product 9 = .ok (.invokevirtual 364, 3) := by decide +kernel
theorem dX12_product_12 : decode cX12_product 12 = .ok (.ifCond .eq 13, 3) := by decide +kernel
theorem dX12_product_15 : decode cX12_product 15 = .ok (.iload_n 1, 1) := by decide +kernel
theorem dX12_product_16 : decode cX12_product 16 = .ok (.aload_n 0, 1) := by decide +kernel
theorem dX12_product_17 : decode cX12_product 17 = .ok (.invokevirtual 398, 3) := by decide +kernel
theorem dX12_product_20 : decode cX12_product 20 = .ok (.imul, 1) := by decide +kernel
theorem dX12_product_21 : decode cX12_product 21 = .ok (.istore_n 1, 1) := by decide +kernel
theorem dX12_product_22 : decode cX12_product 22 = .ok (.goto (-17), 3) := by decide +kernel
theorem dX12_product_25 : decode cX12_product 25 = .ok (.iload_n 1, 1) := by decide +kernel
theorem dX12_product_26 : decode cX12_product 26 = .ok (.ireturn, 1) := by decide +kernel
set_option maxRecDepth 20000 in
theorem ggX12_one_X12_is : GoodIn wsX12_one wsX12_is := goodIn_r _ [10, 3, 11, 4, 12, 13, 14, 15, 16, 17, 18, 19, 20, 21, 22, 23, 24, 25, 26, 9, 27, 28, 29, 30, 31, 32, 33, 34, 35, 36, 37, 38, 39, 40, 41, 42, 43, 44, 45, 46, 47, 48, 49, 50, 51, 52, 53, 54, 55, 56, 57, 58, 59, 60, 61, 62, 63, 64, 65, 66, 67, 118, 119, 120, 121, 122, 123, 124, 125, 126, 127, 128, 129, 130, 131, 132, 133, 134, 135, 136, 137, 138, 139, 140, 141, 142, 143, 144, 145, 146, 147, 148, 149, 150, 151, 152, 153, 154, 155, 156, 157, 158, 159, 160, 161, 162, 163, 164, 165, 166, 167, 168, 169, 170, 171, 172, 173, 174, 175, 176, 177, 178, 179, 180, 181, 182, 183, 184, 185, 186, 187, 188, 189, 190, 191, 192, 193, 194, 195, 196] (by decide +kernel) (by decide +kernel)
set_option maxRecDepth 20000 in
theorem gX12_one_X12_is : GoodIn wsX12_one (wsV RX12 352 RX12 yX12_is wsX12_is) := goodIn_app (goodIn_of _ (by decide +kernel)) ggX12_one_X12_is
set_option maxRecDepth 20000 in
theorem ggX12_one_X12_opens : GoodIn wsX12_one wsX12_opens := goodIn_r _ [71, 2, 72, 73, 74, 9, 75, 1, 3, 76, 77, 78, 79, 4, 11, 24, 25, 26, 27, 28, 29, 30, 80, 81, 82, 83, 84, 85, 86, 87, 88, 89, 90, 118, 119, 120, 121, 122, 123, 124, 125, 126, 127, 128, 129, 130, 131, 132, 133, 134, 135, 136, 137, 138, 139, 140, 141, 142, 143, 144, 145, 146, 147, 148, 149, 150, 151, 152, 153, 154, 155, 156, 157, 158, 159, 160, 161, 162, 163, 164, 165, 166, 167, 168, 169, 170, 171, 172, 173, 174, 175, 176, 177, 178, 179, 180, 181, 182, 183, 184, 185, 186, 187, 188, 189, 190, 191, 192, 193, 194, 195, 196] (by decide +kernel) (by decide +kernel)
set_option maxRecDepth 20000 in
theorem gX12_one_X12_opens : GoodIn wsX12_one (wsV RX12 380 RX12 yX12_opens wsX12_opens) := goodIn_app (goodIn_of _ (by decide +kernel)) ggX12_one_X12_opens
set_option maxRecDepth 20000 in
theorem ggX12_one_X12_one : GoodIn wsX12_one wsX12_one := goodIn_r _ [0, 1, 2, 3, 4, 5, 6, 7, 8, 9, 10, 11, 12, 13, 14, 15, 16, 17, 18, 19, 20, 21, 22, 23, 24, 25, 26, 27, 28, 29, 30, 31, 32, 33, 34, 35, 36, 37, 38, 39, 40, 41, 42, 43, 44, 45, 46, 47, 48, 49, 50, 51, 52, 53, 54, 55, 56, 57, 58, 59, 60, 61, 62, 63, 64, 65, 66, 67, 68, 69, 70, 71, 72, 73, 74, 75, 76, 77, 78, 79, 80, 81, 82, 83, 84, 85, 86, 87, 88, 89, 90, 91, 92, 93, 94, 95, 96, 97, 98, 99, 100, 101, 102, 103, 104, 105, 106, 107, 108, 109, 110, 111, 112, 113, 114, 115, 116, 117, 118, 119, 120, 121, 122, 123, 124, 125, 126, 127, 128, 129, 130, 131, 132, 133, 134, 135, 136, 137, 138, 139, 140, 141, 142, 143, 144, 145, 146, 147, 148, 149, 150, 151, 152, 153, 154, 155, 156, 157, 158, 159, 160, 161, 162, 163, 164, 165, 166, 167, 168, 169, 170, 171, 172, 173, 174, 175, 176, 177, 178, 179, 180, 181, 182, 183, 184, 185, 186, 187, 188, 189, 190, 191, 192, 193, 194, 195, 196] (by decide +kernel) (by decide +kernel)
set_option maxRecDepth 20000 in
theorem gX12_one_X12_one : GoodIn wsX12_one (wsV RX12 398 RX12 yX12_one wsX12_one) := goodIn_app (goodIn_of _ (by decide +kernel)) ggX12_one_X12_one
set_option maxRecDepth 20000 in
theorem ggX12_one_X12_either : GoodIn wsX12_one wsX12_either := goodIn_r _ [105, 106, 107, 108, 9, 97, 98, 99, 100, 1, 6, 7, 8, 10, 3, 11, 4, 12, 13, 14, 15, 16, 17, 18, 19, 20, 21, 22, 23, 24, 25, 26, 27, 28, 29, 30, 31, 32, 33, 34, 35, 36, 37, 38, 39, 40, 41, 42, 43, 44, 45, 46, 47, 48, 49, 50, 51, 52, 53, 54, 55, 56, 57, 58, 59, 60, 61, 62, 63, 64, 65, 66, 67, 76, 77, 78, 79, 80, 81, 82, 83, 84, 85, 86, 87, 88, 89, 90, 101, 102, 103, 104, 0, 2, 5, 68, 69, 70, 71, 72, 73, 74, 75, 91, 92, 93, 94, 95, 96, 109, 110, 111, 112, 113, 114, 115, 116, 117, 118, 119, 120, 121, 122, 123, 124, 125, 126, 127, 128, 129, 130, 131, 132, 133, 134, 135, 136, 137, 138, 139, 140, 141, 142, 143, 144, 145, 146, 147, 148, 149, 150, 151, 152, 153, 154, 155, 156, 157, 158, 159, 160, 161, 162, 163, 164, 165, 166, 167, 168, 169, 170, 171, 172, 173, 174, 175, 176, 177, 178, 179, 180, 181, 182, 183, 184, 185, 186, 187, 188, 189, 190, 191, 192, 193, 194, 195, 196] (by decide +kernel) (by decide +kernel)
set_option maxRecDepth 20000 in
theorem gX12_one_X12_either : GoodIn wsX12_one (wsV RX12 405 RX12 yX12_either wsX12_either) := goodIn_app (goodIn_of _ (by decide +kernel)) ggX12_one_X12_either
set_option maxRecDepth 20000 in
theorem ggX12_one_X12_take : GoodIn wsX12_one wsX12_take := goodIn_r _ [100, 1, 6, 7, 8, 9, 10, 3, 11, 4, 12, 13, 14, 15, 16, 17, 18, 19, 20, 21, 22, 23, 24, 25, 26, 27, 28, 29, 30, 31, 32, 33, 34, 35, 36, 37, 38, 39, 40, 41, 42, 43, 44, 45, 46, 47, 48, 49, 50, 51, 52, 53, 54, 55, 56, 57, 58, 59, 60, 61, 62, 63, 64, 65, 66, 67, 76, 77, 78, 79, 80, 81, 82, 83, 84, 85, 86, 87, 88, 89, 90, 118, 119, 120, 121, 122, 123, 124, 125, 126, 127, 128, 129, 130, 131, 132, 133, 134, 135, 136, 137, 138, 139, 140, 141, 142, 143, 144, 145, 146, 147, 148, 149, 150, 151, 152, 153, 154, 155, 156, 157, 158, 159, 160, 161, 162, 163, 164, 165, 166, 167, 168, 169, 170, 171, 172, 173, 174, 175, 176, 177, 178, 179, 180, 181, 182, 183, 184, 185, 186, 187, 188, 189, 190, 191, 192, 193, 194, 195, 196] (by decide +kernel) (by decide +kernel)
set_option maxRecDepth 20000 in
theorem gX12_one_X12_take : GoodIn wsX12_one (wsV RX12 364 RX12 yX12_take wsX12_take) := goodIn_app (goodIn_of _ (by decide +kernel)) ggX12_one_X12_take
set_option maxRecDepth 20000 in
theorem ggX12_one_X12_wrong : GoodIn wsX12_one wsX12_wrong := goodIn_r _ [75, 1, 3, 118, 119, 120, 121, 122, 123, 124, 125, 126, 127, 128, 129, 130, 131, 132, 133, 134, 135, 136, 137, 138, 139, 140, 141, 142, 143, 144, 145, 146, 147, 148, 149, 150, 151, 152, 153, 154, 155, 156, 157, 158, 159, 160, 161, 162, 163, 164, 165, 166, 167, 168, 169, 170, 171, 172, 173, 174, 175, 176, 177, 178, 179, 180, 181, 182, 183, 184, 185, 186, 187, 188, 189, 190, 191, 192, 193, 194, 195, 196] (by decide +kernel) (by decide +kernel)
set_option maxRecDepth 20000 in
theorem gX12_one_X12_wrong : GoodIn wsX12_one (wsV RX12 375 RX12 yX12_wrong wsX12_wrong) := goodIn_app (goodIn_of _ (by decide +kernel)) ggX12_one_X12_wrong
set_option maxRecDepth 20000 in
theorem ggX12_one_X12_isDigit : GoodIn wsX12_one wsX12_isDigit := goodIn_r _ [90, 11, 24, 25, 26, 9, 27, 28, 29, 30, 84, 85, 86, 118, 119, 120, 121, 122, 123, 124, 125, 126, 127, 128, 129, 130, 131, 132, 133, 134, 135, 136, 137, 138, 139, 140, 141, 142, 143, 144, 145, 146, 147, 148, 149, 150, 151, 152, 153, 154, 155, 156, 157, 158, 159, 160, 161, 162, 163, 164, 165, 166, 167, 168, 169, 170, 171, 172, 173, 174, 175, 176, 177, 178, 179, 180, 181, 182, 183, 184, 185, 186, 187, 188, 189, 190, 191, 192, 193, 194, 195, 196] (by decide +kernel) (by decide +kernel)
set_option maxRecDepth 20000 in
theorem gX12_one_X12_isDigit : GoodIn wsX12_one (wsV RX12 346 RX12 yX12_isDigit wsX12_isDigit) := goodIn_app (goodIn_of _ (by decide +kernel)) ggX12_one_X12_isDigit
set_option maxRecDepth 20000 in
theorem ggX12_one_X12_byteAt : GoodIn wsX12_one wsX12_byteAt := goodIn_r _ [27, 11, 28, 29, 30, 118, 119, 120, 121, 122, 123, 124, 125, 126, 127, 128, 129, 130, 131, 132, 133, 134, 135, 136, 137, 138, 139, 140, 141, 142, 143, 144, 145, 146, 147, 148, 149, 150, 151, 152, 153, 154, 155, 156, 157, 158, 159, 160, 161, 162, 163, 164, 165, 166, 167, 168, 169, 170, 171, 172, 173, 174, 175, 176, 177, 178, 179, 180, 181, 182, 183, 184, 185, 186, 187, 188, 189, 190, 191, 192, 193, 194, 195, 196] (by decide +kernel) (by decide +kernel)
set_option maxRecDepth 20000 in
theorem gX12_one_X12_byteAt : GoodIn wsX12_one (wsV RX12 334 RX12 yX12_byteAt wsX12_byteAt) := goodIn_app (goodIn_of _ (by decide +kernel)) ggX12_one_X12_byteAt
set_option maxRecDepth 20000 in
theorem ggX12_one_X12_next : GoodIn wsX12_one wsX12_next := goodIn_r _ [79, 4, 11, 3, 24, 25, 26, 9, 27, 28, 29, 30, 80, 81, 82, 83, 84, 85, 86, 87, 88, 89, 90, 118, 119, 120, 121, 122, 123, 124, 125, 126, 127, 128, 129, 130, 131, 132, 133, 134, 135, 136, 137, 138, 139, 140, 141, 142, 143, 144, 145, 146, 147, 148, 149, 150, 151, 152, 153, 154, 155, 156, 157, 158, 159, 160, 161, 162, 163, 164, 165, 166, 167, 168, 169, 170, 171, 172, 173, 174, 175, 176, 177, 178, 179, 180, 181, 182, 183, 184, 185, 186, 187, 188, 189, 190, 191, 192, 193, 194, 195, 196] (by decide +kernel) (by decide +kernel)
set_option maxRecDepth 20000 in
theorem gX12_one_X12_next : GoodIn wsX12_one (wsV RX12 356 RX12 yX12_next wsX12_next) := goodIn_app (goodIn_of _ (by decide +kernel)) ggX12_one_X12_next
theorem dX12_one_0 : decode cX12_one 0 = .ok (.aload_n 0, 1) := by decide +kernel
theorem dX12_one_1 : decode cX12_one 1 = .ok (.getfield 349, 3) := by decide +kernel
theorem dX12_one_4 : decode cX12_one 4 = .ok (.ifCond .lt 5, 3) := by decide +kernel
theorem dX12_one_7 : decode cX12_one 7 = .ok (.iconst 0, 1) := by decide +kernel
theorem dX12_one_8 : decode cX12_one 8 = .ok (.ireturn, 1) := by decide +kernel
theorem dX12_one_9 : decode cX12_one 9 = .ok (.aload_n 0, 1) := by decide +kernel
theorem dX12_one_10 : decode cX12_one 10 = .ok (.ldc_w 396, 3) := by decide +kernel
theorem dX12_one_13 : decode cX12_one 13 = .ok (.invokevirtual 352, 3) := by decide +kernel
theorem dX12_one_16 : decode cX12_one 16 = .ok (.ifCond .eq 30, 3) := by decide +kernel
theorem dX12_one_19 : decode cX12_one 19 = .ok (.aload_n 0, 1) := by decide +kernel
theorem dX12_one_20 : decode cX12_one 20 = .ok (.invokevirtual 380, 3) := by decide +kernel
theorem dX12_one_23 : decode cX12_one 23 = .ok (.ifCond .ne 5, 3) := by decide +kernel
theorem dX12_one_26 : decode cX12_one 26 = .ok (.iconst 0, 1) := by decide +kernel
theorem dX12_one_27 : decode cX12_one 27 = .ok (.ireturn, 1) := by decide +kernel
theorem dX12_one_28 : decode cX12_one 28 = .ok (.aload_n 0, 1) := by decide +kernel
theorem dX12_one_29 : decode cX12_one 29 = .ok (.invokevirtual 398, 3) := by decide +kernel
theorem dX12_one_32 : decode cX12_one 32 = .ok (.istore_n 1, 1) := by decide +kernel
theorem dX12_one_33 : decode cX12_one 33 = .ok (.aload_n 0, 1) := by decide +kernel
theorem dX12_one_34 : decode cX12_one 34 = .ok (.dup, 1) := by decide +kernel
theorem dX12_one_35 : decode cX12_one 35 = .ok (.getfield 372, 3) := by decide +kernel
theorem dX12_one_38 : decode cX12_one 38 = .ok (.iconst 1, 1) := by decide +kernel
theorem dX12_one_39 : decode cX12_one 39 = .ok (.isub, 1) := by decide +kernel
theorem dX12_one_40 : decode cX12_one 40 = .ok (.putfield 372, 3) := by decide +kernel
theorem dX12_one_43 : decode cX12_one 43 = .ok (.iload_n 1, 1) := by decide +kernel
theorem dX12_one_44 : decode cX12_one 44 = .ok (.ineg, 1) := by decide +kernel
theorem dX12_one_45 : decode cX12_one 45 = .ok (.ireturn, 1) := by decide +kernel
theorem dX12_one_46 : decode cX12_one 46 = .ok (.aload_n 0, 1) := by decide +kernel
theorem dX12_one_47 : decode cX12_one 47 = .ok (.ldc_w 403, 3) := by decide +kernel
theorem dX12_one_50 : decode cX12_one 50 = .ok (.invokevirtual 352, 3) := by decide +kernel
theorem dX12_one_53 : decode cX12_one 53 = .ok (.ifCond .eq 44, 3) := by decide +kernel
theorem dX12_one_56 : decode cX12_one 56 = .ok (.aload_n 0, 1) := by decide +kernel
theorem dX12_one_57 : decode cX12_one 57 = .ok (.invokevirtual 380, 3) := by decide +kernel
theorem dX12_one_60 : decode cX12_one 60 = .ok (.ifCond .ne 5, 3) := by decide +kernel
theorem dX12_one_63 : decode cX12_one 63 = .ok (.iconst 0, 1) := by decide +kernel
theorem dX12_one_64 : decode cX12_one 64 = .ok (.ireturn, 1) := by decide +kernel
theorem dX12_one_65 : decode cX12_one 65 = .ok (.aload_n 0, 1) := by decide +kernel
theorem dX12_one_66 : decode cX12_one 66 = .ok (.invokevirtual 405, 3) := by decide +kernel
theorem dX12_one_69 : decode cX12_one 69 = .ok (.istore_n 1, 1) := by decide +kernel
theorem dX12_one_70 : decode cX12_one 70 = .ok (.aload_n 0, 1) := by decide +kernel
theorem dX12_one_71 : decode cX12_one 71 = .ok (.ldc_w 408, 3) := by decide +kernel
theorem dX12_one_74 : decode cX12_one 74 = .ok (.invokevirtual 364, 3) := by decide +kernel
theorem dX12_one_77 : decode cX12_one 77 = .ok (.ifCond .ne 8, 3) := by decide +kernel
theorem dX12_one_80 : decode cX12_one 80 = .ok (.aload_n 0, 1) := by decide +kernel
theorem dX12_one_81 : decode cX12_one 81 = .ok (.invokevirtual 375, 3) := by decide +kernel
theorem dX12_one_84 : decode cX12_one 84 = .ok (.ireturn, 1) := by decide +kernel
theorem dX12_one_85 : decode cX12_one 85 = .ok (.aload_n 0, 1) := by decide +kernel
theorem dX12_one_86 : decode cX12_one 86 = .ok (.dup, 1) := by decide +kernel
theorem dX12_one_87 : decode cX12_one 87 = .ok (.getfield 372, 3) := by decide +kernel
theorem dX12_one_90 : decode cX12_one 90 = .ok (.iconst 1, 1) := by decide +kernel
theorem dX12_one_91 : decode cX12_one 91 = .ok (.isub, 1) := by decide +kernel
theorem dX12_one_92 : decode cX12_one 92 = .ok (.putfield 372, 3) := by decide +kernel
theorem dX12_one_95 : decode cX12_one 95 = .ok (.iload_n 1, 1) := by decide +kernel
theorem dX12_one_96 : decode cX12_one 96 = .ok (.ireturn, 1) := by decide +kernel
theorem dX12_one_97 : decode cX12_one 97 = .ok (.aload_n 0, 1) := by decide +kernel
theorem dX12_one_98 : decode cX12_one 98 = .ok (.aload_n 0, 1) := by decide +kernel
theorem dX12_one_99 : decode cX12_one 99 = .ok (.getfield 340, 3) := by decide +kernel
theorem dX12_one_102 : decode cX12_one 102 = .ok (.invokevirtual 346, 3) := by decide +kernel
theorem dX12_one_105 : decode cX12_one 105 = .ok (.ifCond .eq 62, 3) := by decide +kernel
theorem dX12_one_108 : decode cX12_one 108 = .ok (.aload_n 0, 1) := by decide +kernel
theorem dX12_one_109 : decode cX12_one 109 = .ok (.getfield 337, 3) := by decide +kernel
theorem dX12_one_112 : decode cX12_one 112 = .ok (.aload_n 0, 1) := by decide +kernel
theorem dX12_one_113 : decode cX12_one 113 = .ok (.getfield 340, 3) := by decide +kernel
theorem dX12_one_116 : decode cX12_one 116 = .ok (.isub, 1) := by decide +kernel
theorem dX12_one_117 : decode cX12_one 117 = .ok (.iconst 4, 1) := by decide +kernel
theorem dX12_one_118 : decode cX12_one 118 = .ok (.if_icmp .le 8, 3) := by decide +kernel
theorem dX12_one_121 : decode cX12_one 121 = .ok (.aload_n 0, 1) := by decide +kernel
theorem dX12_one_122 : decode cX12_one 122 = .ok (.invokevirtual 375, 3) := by decide +kernel
theorem dX12_one_125 : decode cX12_one 125 = .ok (.ireturn, 1) := by decide +kernel
theorem dX12_one_126 : decode cX12_one 126 = .ok (.iconst 0, 1) := by decide +kernel
theorem dX12_one_127 : decode cX12_one 127 = .ok (.istore_n 1, 1) := by decide +kernel
theorem dX12_one_128 : decode cX12_one 128 = .ok (.aload_n 0, 1) := by decide +kernel
theorem dX12_one_129 : decode cX12_one 129 = .ok (.getfield 340, 3) := by decide +kernel
theorem dX12_one_132 : decode cX12_one 132 = .ok (.istore_n 2, 1) := by decide +kernel
theorem dX12_one_133 : decode cX12_one 133 = .ok (.iload_n 2, 1) := by decide +kernel
theorem dX12_one_134 : decode cX12_one 134 = .ok (.aload_n 0, 1) := by decide +kernel
theorem dX12_one_135 : decode cX12_one 135 = .ok (.getfield 337, 3) := by decide +kernel
theorem dX12_one_138 : decode cX12_one 138 = .ok (.if_icmp .ge 23, 3) := by decide +kernel
theorem dX12_one_141 : decode cX12_one 141 = .ok (.bipush 10, 2) := by decide +kernel
theorem dX12_one_143 : decode cX12_one 143 = .ok (.iload_n 1, 1) := by decide +kernel
theorem dX12_one_144 : decode cX12_one 144 = .ok (.imul, 1) := by decide +kernel
theorem dX12_one_145 : decode cX12_one 145 = .ok (.aload_n 0, 1) := by decide +kernel
theorem dX12_one_146 : decode cX12_one 146 = .ok (.iload_n 2, 1) := by decide +kernel
theorem dX12_one_147 : decode cX12_one 147 = .ok (.invokevirtual 334, 3) := by decide +kernel
theorem dX12_one_150 : decode cX12_one 150 = .ok (.iadd, 1) := by decide +kernel
theorem dX12_one_151 : decode cX12_one 151 = .ok (.bipush 48, 2) := by decide +kernel
theorem dX12_one_153 : decode cX12_one 153 = .ok (.isub, 1) := by decide +kernel
theorem dX12_one_154 : decode cX12_one 154 = .ok (.istore_n 1, 1) := by decide +kernel
theorem dX12_one_155 : decode cX12_one 155 = .ok (.iinc 2 1, 3) := by decide +kernel
theorem dX12_one_158 : decode cX12_one 158 = .ok (.goto (-25), 3) := by decide +kernel
theorem dX12_one_161 : decode cX12_one 161 = .ok (.aload_n 0, 1) := by decide +kernel
theorem dX12_one_162 : decode cX12_one 162 = .ok (.invokevirtual 356, 3) := by decide +kernel
theorem dX12_one_165 : decode cX12_one 165 = .ok (.iload_n 1, 1) := by decide +kernel
theorem dX12_one_166 : decode cX12_one 166 = .ok (.ireturn, 1) := by decide +kernel
theorem dX12_one_167 : decode cX12_one 167 = .ok (.aload_n 0, 1) := by decide +kernel
theorem dX12_one_168 : decode cX12_one 168 = .ok (.ldc_w 410, 3) := by decide +kernel
theorem dX12_one_171 : decode cX12_one 171 = .ok (.invokevirtual 352, 3) := by decide +kernel
theorem dX12_one_174 : decode cX12_one 174 = .ok (.ifCond .eq 7, 3) := by decide +kernel
theorem dX12_one_177 : decode cX12_one 177 = .ok (.iconst 0, 1) := by decide +kernel
theorem dX12_one_178 : decode cX12_one 178 = .ok (.goto 74, 3) := by decide +kernel
theorem dX12_one_181 : decode cX12_one 181 = .ok (.aload_n 0, 1) := by decide +kernel
theorem dX12_one_182 : decode cX12_one 182 = .ok (.ldc_w 411, 3) := by decide +kernel
theorem dX12_one_185 : decode cX12_one 185 = .ok (.invokevirtual 352, 3) := by decide +kernel
theorem dX12_one_188 : decode cX12_one 188 = .ok (.ifCond .eq 7, 3) := by decide +kernel
theorem dX12_one_191 : decode cX12_one 191 = .ok (.iconst 1, 1) := by decide +kernel
theorem dX12_one_192 : decode cX12_one 192 = .ok (.goto 60, 3) := by decide +kernel
theorem dX12_one_195 : decode cX12_one 195 = .ok (.aload_n 0, 1) := by decide +kernel
theorem dX12_one_196 : decode cX12_one 196 = .ok (.ldc_w 412, 3) := by decide +kernel
theorem dX12_one_199 : decode cX12_one 199 = .ok (.invokevirtual 352, 3) := by decide +kernel
theorem dX12_one_202 : decode cX12_one 202 = .ok (.ifCond .eq 7, 3) := by decide +kernel
theorem dX12_one_205 : decode cX12_one 205 = .ok (.iconst 2, 1) := by decide +kernel
theorem dX12_one_206 : decode cX12_one 206 = .ok (.goto 46, 3) := by decide +kernel
theorem dX12_one_209 : decode cX12_one 209 = .ok (.aload_n 0, 1) := by decide +kernel
theorem dX12_one_210 : decode cX12_one 210 = .ok (.ldc_w 413, 3) := by decide +kernel
theorem dX12_one_213 : decode cX12_one 213 = .ok (.invokevirtual 352, 3) := by decide +kernel
theorem dX12_one_216 : decode cX12_one 216 = .ok (.ifCond .eq 7, 3) := by decide +kernel
theorem dX12_one_219 : decode cX12_one 219 = .ok (.iconst 3, 1) := by decide +kernel
theorem dX12_one_220 : decode cX12_one 220 = .ok (.goto 32, 3) := by decide +kernel
theorem dX12_one_223 : decode cX12_one 223 = .ok (.aload_n 0, 1) := by decide +kernel
theorem dX12_one_224 : decode cX12_one 224 = .ok (.ldc_w 414, 3) := by decide +kernel
theorem dX12_one_227 : decode cX12_one 227 = .ok (.invokevirtual 352, 3) := by decide +kernel
theorem dX12_one_230 : decode cX12_one 230 = .ok (.ifCond .eq 7, 3) := by decide +kernel
theorem dX12_one_233 : decode cX12_one 233 = .ok (.iconst 4, 1) := by decide +kernel
theorem dX12_one_234 : decode cX12_one 234 = .ok (.goto 18, 3) := by decide +kernel
theorem dX12_one_237 : decode cX12_one 237 = .ok (.aload_n 0, 1) := by decide +kernel
theorem dX12_one_238 : decode cX12_one 238 = .ok (.ldc_w 415, 3) := by decide +kernel
theorem dX12_one_241 : decode cX12_one 241 = .ok (.invokevirtual 352, 3) := by decide +kernel
theorem dX12_one_244 : decode cX12_one 244 = .ok (.ifCond .eq 7, 3) := by decide +kernel
theorem dX12_one_247 : decode cX12_one 247 = .ok (.iconst 5, 1) := by decide +kernel
theorem dX12_one_248 : decode cX12_one 248 = .ok (.goto 4, 3) := by decide +kernel
theorem dX12_one_251 : decode cX12_one 251 = .ok (.iconst (-1), 1) := by decide +kernel
theorem dX12_one_252 : decode cX12_one 252 = .ok (.istore_n 1, 1) := by decide +kernel
theorem dX12_one_253 : decode cX12_one 253 = .ok (.iload_n 1, 1) := by decide +kernel
theorem dX12_one_254 : decode cX12_one 254 = .ok (.ifCond .ge 8, 3) := by decide +kernel
theorem dX12_one_257 : decode cX12_one 257 = .ok (.aload_n 0, 1) := by decide +kernel
theorem dX12_one_258 : decode cX12_one 258 = .ok (.invokevirtual 375, 3) := by decide +kernel
theorem dX12_one_261 : decode cX12_one 261 = .ok (.ireturn, 1) := by decide +kernel
theorem dX12_one_262 : decode cX12_one 262 = .ok (.aload_n 0, 1) := by decide +kernel
theorem dX12_one_263 : decode cX12_one 263 = .ok (.invokevirtual 356, 3) := by decide +kernel
theorem dX12_one_266 : decode cX12_one 266 = .ok (.aload_n 0, 1) := by decide +kernel
theorem dX12_one_267 : decode cX12_one 267 = .ok (.getfield 143, 3) := by decide +kernel
theorem dX12_one_270 : decode cX12_one 270 = .ok (.iload_n 1, 1) := by decide +kernel
theorem dX12_one_271 : decode cX12_one 271 = .ok (.iaload, 1) := by decide +kernel
theorem dX12_one_272 : decode cX12_one 272 = .ok (.ireturn, 1) := by decide +kernel
set_option maxRecDepth 20000 in
theorem ggX12_goThrough_X12_next : GoodIn wsX12_goThrough wsX12_next := goodIn_r _ [13, 3, 2, 8, 14, 15, 16, 12, 17, 1, 18, 19, 20, 21, 22, 23, 24, 25, 26, 27, 28, 29, 30, 121, 122, 123, 124, 125, 126, 127, 128, 129, 130, 131, 132, 133, 134, 135, 136, 137, 138, 139, 140, 141, 142, 143, 144, 145, 146, 147, 148, 149, 150, 151, 152, 153, 154, 155, 156, 157, 158, 159, 160, 161, 162, 163, 164, 165, 166, 167, 168, 169, 170, 171, 172, 173, 174, 175, 176, 177, 178, 179, 180, 181, 182, 183, 184, 185, 186, 187, 188, 189, 190, 191, 192, 193, 194, 195, 196, 197, 198, 199] (by decide +kernel) (by decide +kernel)
set_option maxRecDepth 20000 in
theorem gX12_goThrough_X12_next : GoodIn wsX12_goThrough (wsV RX12 356 RX12 yX12_next wsX12_next) := goodIn_app (goodIn_of _ (by decide +kernel)) ggX12_goThrough_X12_next
set_option maxRecDepth 20000 in
theorem ggX12_goThrough_X12_take : GoodIn wsX12_goThrough wsX12_take := goodIn_r _ [34, 5, 35, 36, 37, 12, 38, 8, 2, 3, 39, 40, 41, 42, 43, 44, 45, 46, 47, 48, 49, 50, 14, 15, 16, 17, 1, 18, 19, 51, 52, 53, 54, 55, 56, 57, 58, 59, 60, 61, 62, 63, 64, 65, 66, 67, 68, 69, 70, 71, 72, 73, 74, 75, 76, 77, 78, 79, 80, 81, 82, 83, 84, 85, 86, 87, 9, 10, 11, 13, 20, 21, 22, 23, 24, 25, 26, 27, 28, 29, 30, 121, 122, 123, 124, 125, 126, 127, 128, 129, 130, 131, 132, 133, 134, 135, 136, 137, 138, 139, 140, 141, 142, 143, 144, 145, 146, 147, 148, 149, 150, 151, 152, 153, 154, 155, 156, 157, 158, 159, 160, 161, 162, 163, 164, 165, 166, 167, 168, 169, 170, 171, 172, 173, 174, 175, 176, 177, 178, 179, 180, 181, 182, 183, 184, 185, 186, 187, 188, 189, 190, 191, 192, 193, 194, 195, 196, 197, 198, 199] (by decide +kernel) (by decide +kernel)
set_option maxRecDepth 20000 in
theorem gX12_goThrough_X12_take : GoodIn wsX12_goThrough (wsV RX12 364 RX12 yX12_take wsX12_take) := goodIn_app (goodIn_of _ (by decide +kernel)) ggX12_goThrough_X12_take
set_option maxRecDepth 20000 in
theorem ggX12_goThrough_X12_either : GoodIn wsX12_goThrough wsX12_either := goodIn_r _ [91, 92, 93, 94, 12, 31, 32, 33, 34, 5, 35, 36, 37, 38, 8, 2, 3, 39, 40, 41, 42, 43, 44, 45, 46, 47, 48, 49, 50, 14, 15, 16, 17, 1, 18, 19, 51, 52, 53, 54, 55, 56, 57, 58, 59, 60, 61, 62, 63, 64, 65, 66, 67, 68, 69, 70, 71, 72, 73, 74, 75, 76, 77, 78, 79, 80, 81, 82, 83, 84, 85, 86, 87, 9, 10, 11, 13, 20, 21, 22, 23, 24, 25, 26, 27, 28, 29, 30, 95, 96, 97, 98, 99, 4, 100, 101, 102, 103, 104, 105, 106, 107, 108, 109, 110, 111, 88, 89, 90, 112, 113, 114, 115, 116, 117, 118, 119, 120, 121, 122, 123, 124, 125, 126, 127, 128, 129, 130, 131, 132, 133, 134, 135, 136, 137, 138, 139, 140, 141, 142, 143, 144, 145, 146, 147, 148, 149, 150, 151, 152, 153, 154, 155, 156, 157, 158, 159, 160, 161, 162, 163, 164, 165, 166, 167, 168, 169, 170, 171, 172, 173, 174, 175, 176, 177, 178, 179, 180, 181, 182, 183, 184, 185, 186, 187, 188, 189, 190, 191, 192, 193, 194, 195, 196, 197, 198, 199] (by decide +kernel) (by decide +kernel)
set_option maxRecDepth 20000 in
theorem gX12_goThrough_X12_either : GoodIn wsX12_goThrough (wsV RX12 405 RX12 yX12_either wsX12_either) := goodIn_app (goodIn_of _ (by decide +kernel)) ggX12_goThrough_X12_either
set_option maxRecDepth 20000 in
theorem ggX12_goThrough_X12_wrong : GoodIn wsX12_goThrough wsX12_wrong := goodIn_r _ [108, 5, 8, 121, 122, 123, 124, 125, 126, 127, 128, 129, 130, 131, 132, 133, 134, 135, 136, 137, 138, 139, 140, 141, 142, 143, 144, 145, 146, 147, 148, 149, 150, 151, 152, 153, 154, 155, 156, 157, 158, 159, 160, 161, 162, 163, 164, 165, 166, 167, 168, 169, 170, 171, 172, 173, 174, 175, 176, 177, 178, 179, 180, 181, 182, 183, 184, 185, 186, 187, 188, 189, 190, 191, 192, 193, 194, 195, 196, 197, 198, 199] (by decide +kernel) (by decide +kernel)
set_option maxRecDepth 20000 in
theorem gX12_goThrough_X12_wrong : GoodIn wsX12_goThrough (wsV RX12 375 RX12 yX12_wrong wsX12_wrong) := goodIn_app (goodIn_of _ (by decide +kernel)) ggX12_goThrough_X12_wrong
theorem dX12_goThrough_0 : decode cX12_goThrough 0 = .ok (.aload_n 0, 1) := by decide +kernel
theorem dX12_goThrough_1 : decode cX12_goThrough 1 = .ok (.iload_n 1, 1) := by decide +kernel
theorem dX12_goThrough_2 : decode cX12_goThrough 2 = .ok (.putfield 331, 3) := by decide +kernel
theorem dX12_goThrough_5 : decode cX12_goThrough 5 = .ok (.aload_n 0, 1) := by decide +kernel
theorem dX12_goThrough_6 : decode cX12_goThrough 6 = .ok (.iload_n 2, 1) := by decide +kernel
theorem dX12_goThrough_7 : decode cX12_goThrough 7 = .ok (.putfield 328, 3) := by decide +kernel
theorem dX12_goThrough_10 : decode cX12_goThrough 10 = .ok (.aload_n 0, 1) := by decide +kernel
theorem dX12_goThrough_11 : decode cX12_goThrough 11 = .ok (.iconst 0, 1) := by decide +kernel
theorem dX12_goThrough_12 : decode cX12_goThrough 12 = .ok (.putfield 337, 3) := by decide +kernel
theorem dX12_goThrough_15 : decode cX12_goThrough 15 = .ok (.aload_n 0, 1) := by decide +kernel
theorem dX12_goThrough_16 : decode cX12_goThrough 16 = .ok (.iconst 0, 1) := by decide +kernel
theorem dX12_goThrough_17 : decode cX12_goThrough 17 = .ok (.putfield 372, 3) := by decide +kernel
theorem dX12_goThrough_20 : decode cX12_goThrough 20 = .ok (.aload_n 0, 1) := by decide +kernel
theorem dX12_goThrough_21 : decode cX12_goThrough 21 = .ok (.iconst (-1), 1) := by decide +kernel
theorem dX12_goThrough_22 : decode cX12_goThrough 22 = .ok (.putfield 349, 3) := by decide +kernel
theorem dX12_goThrough_25 : decode cX12_goThrough 25 = .ok (.aload_n 0, 1) := by decide +kernel
theorem dX12_goThrough_26 : decode cX12_goThrough 26 = .ok (.invokevirtual 356, 3) := by decide +kernel
theorem dX12_goThrough_29 : decode cX12_goThrough 29 = .ok (.aload_n 0, 1) := by decide +kernel
theorem dX12_goThrough_30 : decode cX12_goThrough 30 = .ok (.aload_n 0, 1) := by decide +kernel
theorem dX12_goThrough_31 : decode cX12_goThrough 31 = .ok (.ldc_w 417, 3) := by decide +kernel
theorem dX12_goThrough_34 : decode cX12_goThrough 34 = .ok (.invokevirtual 364, 3) := by decide +kernel
theorem dX12_goThrough_37 : decode cX12_goThrough 37 = .ok (.ifCond .eq 10, 3) := by decide +kernel
theorem dX12_goThrough_40 : decode cX12_goThrough 40 = .ok (.aload_n 0, 1) := by decide +kernel
theorem dX12_goThrough_41 : decode cX12_goThrough 41 = .ok (.invokevirtual 405, 3) := by decide +kernel
theorem dX12_goThrough_44 : decode cX12_goThrough 44 = .ok (.goto 7, 3) := by decide +kernel
theorem dX12_goThrough_47 : decode cX12_goThrough 47 = .ok (.aload_n 0, 1) := by decide +kernel
theorem dX12_goThrough_48 : decode cX12_goThrough 48 = .ok (.invokevirtual 375, 3) := by decide +kernel
theorem dX12_goThrough_51 : decode cX12_goThrough 51 = .ok (.putfield 418, 3) := by decide +kernel
theorem dX12_goThrough_54 : decode cX12_goThrough 54 = .ok (.aload_n 0, 1) := by decide +kernel
theorem dX12_goThrough_55 : decode cX12_goThrough 55 = .ok (.ldc_w 421, 3) := by decide +kernel
theorem dX12_goThrough_58 : decode cX12_goThrough 58 = .ok (.invokevirtual 364, 3) := by decide +kernel
theorem dX12_goThrough_61 : decode cX12_goThrough 61 = .ok (.ifCond .ne 8, 3) := by decide +kernel
theorem dX12_goThrough_64 : decode cX12_goThrough 64 = .ok (.aload_n 0, 1) := by decide +kernel
theorem dX12_goThrough_65 : decode cX12_goThrough 65 = .ok (.invokevirtual 375, 3) := by decide +kernel
theorem dX12_goThrough_68 : decode cX12_goThrough 68 = .ok (.istore_n 3, 1) := by decide +kernel
theorem dX12_goThrough_69 : decode cX12_goThrough 69 = .ok (.aload_n 0, 1) := by decide +kernel
theorem dX12_goThrough_70 : decode cX12_goThrough 70 = .ok (.aload_n 0, 1) := by decide +kernel
theorem dX12_goThrough_71 : decode cX12_goThrough 71 = .ok (.ldc_w 423, 3) := by decide +kernel
theorem dX12_goThrough_74 : decode cX12_goThrough 74 = .ok (.invokevirtual 364, 3) := by decide +kernel
theorem dX12_goThrough_77 : decode cX12_goThrough 77 = .ok (.ifCond .eq 10, 3) := by decide +kernel
theorem dX12_goThrough_80 : decode cX12_goThrough 80 = .ok (.aload_n 0, 1) := by decide +kernel
theorem dX12_goThrough_81 : decode cX12_goThrough 81 = .ok (.invokevirtual 405, 3) := by decide +kernel
theorem dX12_goThrough_84 : decode cX12_goThrough 84 = .ok (.goto 7, 3) := by decide +kernel
theorem dX12_goThrough_87 : decode cX12_goThrough 87 = .ok (.aload_n 0, 1) := by decide +kernel
theorem dX12_goThrough_88 : decode cX12_goThrough 88 = .ok (.invokevirtual 375, 3) := by decide +kernel
theorem dX12_goThrough_91 : decode cX12_goThrough 91 = .ok (.putfield 425, 3) := by decide +kernel
theorem dX12_goThrough_94 : decode cX12_goThrough 94 = .ok (.aload_n 0, 1) := by decide +kernel
theorem dX12_goThrough_95 : decode cX12_goThrough 95 = .ok (.ldc_w 421, 3) := by decide +kernel
theorem dX12_goThrough_98 : decode cX12_goThrough 98 = .ok (.invokevirtual 364, 3) := by decide +kernel
theorem dX12_goThrough_101 : decode cX12_goThrough 101 = .ok (.ifCond .ne 8, 3) := by decide +kernel
theorem dX12_goThrough_104 : decode cX12_goThrough 104 = .ok (.aload_n 0, 1) := by decide +kernel
theorem dX12_goThrough_105 : decode cX12_goThrough 105 = .ok (.invokevirtual 375, 3) := by decide +kernel
theorem dX12_goThrough_108 : decode cX12_goThrough 108 = .ok (.istore_n 3, 1) := by decide +kernel
theorem dX12_goThrough_109 : decode cX12_goThrough 109 = .ok (.aload_n 0, 1) := by decide +kernel
theorem dX12_goThrough_110 : decode cX12_goThrough 110 = .ok (.getfield 340, 3) := by decide +kernel
theorem dX12_goThrough_113 : decode cX12_goThrough 113 = .ok (.aload_n 0, 1) := by decide +kernel
theorem dX12_goThrough_114 : decode cX12_goThrough 114 = .ok (.getfield 328, 3) := by decide +kernel
theorem dX12_goThrough_117 : decode cX12_goThrough 117 = .ok (.if_icmp .ge 8, 3) := by decide +kernel
theorem dX12_goThrough_120 : decode cX12_goThrough 120 = .ok (.aload_n 0, 1) := by decide +kernel
theorem dX12_goThrough_121 : decode cX12_goThrough 121 = .ok (.invokevirtual 375, 3) := by decide +kernel
theorem dX12_goThrough_124 : decode cX12_goThrough 124 = .ok (.istore_n 3, 1) := by decide +kernel
theorem dX12_goThrough_125 : decode cX12_goThrough 125 = .ok (.aload_n 0, 1) := by decide +kernel
theorem dX12_goThrough_126 : decode cX12_goThrough 126 = .ok (.getfield 349, 3) := by decide +kernel
theorem dX12_goThrough_129 : decode cX12_goThrough 129 = .ok (.ireturn, 1) := by decide +kernel
set_option maxRecDepth 20000 in
theorem ggX12_text_X12_goThrough : GoodIn wsX12_text wsX12_goThrough := goodIn_r _ [10, 11, 12, 13, 14, 15, 16, 17, 18, 19, 20, 21, 9, 22, 23, 24, 25, 26, 4, 3, 27, 28, 29, 30, 31, 32, 33, 34, 35, 36, 37, 38, 39, 40, 41, 42, 43, 44, 45, 46, 47, 48, 49, 50, 51, 52, 53, 54, 55, 56, 57, 58, 59, 60, 61, 62, 63, 64, 65, 66, 67, 68, 69, 70, 71, 72, 73, 74, 75, 76, 77, 78, 79, 80, 81, 82, 83, 84, 85, 86, 87, 88, 89, 90, 91, 92, 93, 94, 95, 96, 97, 98, 99, 100, 101, 102, 103, 104, 105, 106, 107, 108, 109, 110, 111, 112, 113, 114, 115, 116, 117, 118, 119, 120, 121, 122, 123, 124, 125, 126, 127, 128, 129, 130, 131, 132, 133, 134, 135, 136, 137, 138, 139, 140, 141, 142, 143, 144, 145, 146, 147, 148, 149, 150, 151, 152, 153, 154, 155, 156, 157, 158, 159, 160, 161, 162, 163, 164, 165, 166, 167, 168, 169, 170, 171, 172, 173, 174, 175, 176, 177, 178, 179, 180, 181, 182, 183, 184, 185, 186, 187, 188, 189, 190, 191, 192, 193, 194, 195, 196, 197, 198, 199, 200, 201, 202, 203, 204, 205, 206] (by decide +kernel) (by decide +kernel)
set_option maxRecDepth 20000 in
theorem gX12_text_X12_goThrough : GoodIn wsX12_text (wsV RX12 428 RX12 yX12_goThrough wsX12_goThrough) := goodIn_app (goodIn_of _ (by decide +kernel)) ggX12_text_X12_goThrough
theorem dX12_text_0 : decode cX12_text 0 = .ok (.aload_n 0, 1) := by decide +kernel
theorem dX12_text_1 : decode cX12_text 1 = .ok (.getfield 182, 3) := by decide +kernel
theorem dX12_text_4 : decode cX12_text 4 = .ok (.bipush 6, 2) := by decide +kernel
theorem dX12_text_6 : decode cX12_text 6 = .ok (.if_icmp .ne 6, 3) := by decide +kernel
theorem dX12_text_9 : decode cX12_text 9 = .ok (.bipush (-4), 2) := by decide +kernel
theorem dX12_text_11 : decode cX12_text 11 = .ok (.ireturn, 1) := by decide +kernel
theorem dX12_text_12 : decode cX12_text 12 = .ok (.aload_n 0, 1) := by decide +kernel
theorem dX12_text_13 : decode cX12_text 13 = .ok (.iconst (-1), 1) := by decide +kernel
theorem dX12_text_14 : decode cX12_text 14 = .ok (.aload_n 0, 1) := by decide +kernel
theorem dX12_text_15 : decode cX12_text 15 = .ok (.getfield 323, 3) := by decide +kernel
theorem dX12_text_18 : decode cX12_text 18 = .ok (.invokevirtual 428, 3) := by decide +kernel
theorem dX12_text_21 : decode cX12_text 21 = .ok (.istore_n 1, 1) := by decide +kernel
theorem dX12_text_22 : decode cX12_text 22 = .ok (.aload_n 0, 1) := by decide +kernel
theorem dX12_text_23 : decode cX12_text 23 = .ok (.getfield 323, 3) := by decide +kernel
theorem dX12_text_26 : decode cX12_text 26 = .ok (.istore_n 2, 1) := by decide +kernel
theorem dX12_text_27 : decode cX12_text 27 = .ok (.aload_n 0, 1) := by decide +kernel
theorem dX12_text_28 : decode cX12_text 28 = .ok (.iconst 0, 1) := by decide +kernel
theorem dX12_text_29 : decode cX12_text 29 = .ok (.putfield 323, 3) := by decide +kernel
theorem dX12_text_32 : decode cX12_text 32 = .ok (.iload_n 1, 1) := by decide +kernel
theorem dX12_text_33 : decode cX12_text 33 = .ok (.ifCond .lt 8, 3) := by decide +kernel
theorem dX12_text_36 : decode cX12_text 36 = .ok (.bipush (-100), 2) := by decide +kernel
theorem dX12_text_38 : decode cX12_text 38 = .ok (.iload_n 1, 1) := by decide +kernel
theorem dX12_text_39 : decode cX12_text 39 = .ok (.isub, 1) := by decide +kernel
theorem dX12_text_40 : decode cX12_text 40 = .ok (.ireturn, 1) := by decide +kernel
theorem dX12_text_41 : decode cX12_text 41 = .ok (.iconst 0, 1) := by decide +kernel
theorem dX12_text_42 : decode cX12_text 42 = .ok (.istore_n 3, 1) := by decide +kernel
theorem dX12_text_43 : decode cX12_text 43 = .ok (.iload_n 3, 1) := by decide +kernel
theorem dX12_text_44 : decode cX12_text 44 = .ok (.iload_n 2, 1) := by decide +kernel
theorem dX12_text_45 : decode cX12_text 45 = .ok (.if_icmp .ge 30, 3) := by decide +kernel
theorem dX12_text_48 : decode cX12_text 48 = .ok (.aload_n 0, 1) := by decide +kernel
theorem dX12_text_49 : decode cX12_text 49 = .ok (.getfield 128, 3) := by decide +kernel
theorem dX12_text_52 : decode cX12_text 52 = .ok (.sipush 160, 3) := by decide +kernel
theorem dX12_text_55 : decode cX12_text 55 = .ok (.aload_n 0, 1) := by decide +kernel
theorem dX12_text_56 : decode cX12_text 56 = .ok (.getfield 182, 3) := by decide +kernel
theorem dX12_text_59 : decode cX12_text 59 = .ok (.imul, 1) := by decide +kernel
theorem dX12_text_60 : decode cX12_text 60 = .ok (.iload_n 3, 1) := by decide +kernel
theorem dX12_text_61 : decode cX12_text 61 = .ok (.iadd, 1) := by decide +kernel
theorem dX12_text_62 : decode cX12_text 62 = .ok (.aload_n 0, 1) := by decide +kernel
theorem dX12_text_63 : decode cX12_text 63 = .ok (.getfield 125, 3) := by decide +kernel
theorem dX12_text_66 : decode cX12_text 66 = .ok (.iload_n 3, 1) := by decide +kernel
theorem dX12_text_67 : decode cX12_text 67 = .ok (.iaload, 1) := by decide +kernel
theorem dX12_text_68 : decode cX12_text 68 = .ok (.iastore, 1) := by decide +kernel
theorem dX12_text_69 : decode cX12_text 69 = .ok (.iinc 3 1, 3) := by decide +kernel
theorem dX12_text_72 : decode cX12_text 72 = .ok (.goto (-29), 3) := by decide +kernel
theorem dX12_text_75 : decode cX12_text 75 = .ok (.aload_n 0, 1) := by decide +kernel
theorem dX12_text_76 : decode cX12_text 76 = .ok (.getfield 131, 3) := by decide +kernel
theorem dX12_text_79 : decode cX12_text 79 = .ok (.aload_n 0, 1) := by decide +kernel
theorem dX12_text_80 : decode cX12_text 80 = .ok (.getfield 182, 3) := by decide +kernel
theorem dX12_text_83 : decode cX12_text 83 = .ok (.iload_n 2, 1) := by decide +kernel
theorem dX12_text_84 : decode cX12_text 84 = .ok (.iastore, 1) := by decide +kernel
theorem dX12_text_85 : decode cX12_text 85 = .ok (.aload_n 0, 1) := by decide +kernel
theorem dX12_text_86 : decode cX12_text 86 = .ok (.dup, 1) := by decide +kernel
theorem dX12_text_87 : decode cX12_text 87 = .ok (.getfield 182, 3) := by decide +kernel
theorem dX12_text_90 : decode cX12_text 90 = .ok (.iconst 1, 1) := by decide +kernel
theorem dX12_text_91 : decode cX12_text 91 = .ok (.iadd, 1) := by decide +kernel
theorem dX12_text_92 : decode cX12_text 92 = .ok (.putfield 182, 3) := by decide +kernel
theorem dX12_text_95 : decode cX12_text 95 = .ok (.aload_n 0, 1) := by decide +kernel
theorem dX12_text_96 : decode cX12_text 96 = .ok (.getfield 182, 3) := by decide +kernel
theorem dX12_text_99 : decode cX12_text 99 = .ok (.iconst 1, 1) := by decide +kernel
theorem dX12_text_100 : decode cX12_text 100 = .ok (.isub, 1) := by decide +kernel
theorem dX12_text_101 : decode cX12_text 101 = .ok (.ireturn, 1) := by decide +kernel
theorem dX12_force_0 : decode cX12_force 0 = .ok (.iload_n 1, 1) := by decide +kernel
theorem dX12_force_1 : decode cX12_force 1 = .ok (.ifCond .lt 11, 3) := by decide +kernel
theorem dX12_force_4 : decode cX12_force 4 = .ok (.iload_n 1, 1) := by decide +kernel
theorem dX12_force_5 : decode cX12_force 5 = .ok (.aload_n 0, 1) := by decide +kernel
theorem dX12_force_6 : decode cX12_force 6 = .ok (.getfield 182, 3) := by decide +kernel
theorem dX12_force_9 : decode cX12_force 9 = .ok (.if_icmp .lt 6, 3) := by decide +kernel
theorem dX12_force_12 : decode cX12_force 12 = .ok (.bipush (-2), 2) := by decide +kernel
theorem dX12_force_14 : decode cX12_force 14 = .ok (.ireturn, 1) := by decide +kernel
theorem dX12_force_15 : decode cX12_force 15 = .ok (.aload_n 0, 1) := by decide +kernel
theorem dX12_force_16 : decode cX12_force 16 = .ok (.getfield 431, 3) := by decide +kernel
theorem dX12_force_19 : decode cX12_force 19 = .ok (.istore_n 2, 1) := by decide +kernel
theorem dX12_force_20 : decode cX12_force 20 = .ok (.aload_n 0, 1) := by decide +kernel
theorem dX12_force_21 : decode cX12_force 21 = .ok (.iload_n 1, 1) := by decide +kernel
theorem dX12_force_22 : decode cX12_force 22 = .ok (.putfield 431, 3) := by decide +kernel
theorem dX12_force_25 : decode cX12_force 25 = .ok (.iload_n 2, 1) := by decide +kernel
theorem dX12_force_26 : decode cX12_force 26 = .ok (.ireturn, 1) := by decide +kernel
set_option maxRecDepth 20000 in
theorem ggX12_takeOf_X12_goThrough : GoodIn wsX12_takeOf wsX12_goThrough := goodIn_r _ [15, 16, 17, 18, 19, 20, 10, 21, 22, 23, 24, 25, 14, 26, 27, 28, 29, 30, 31, 32, 33, 34, 35, 36, 37, 38, 39, 40, 41, 42, 43, 44, 45, 46, 47, 48, 49, 50, 51, 52, 53, 54, 55, 56, 57, 58, 59, 60, 61, 62, 63, 64, 65, 66, 67, 68, 69, 70, 71, 72, 73, 74, 75, 76, 77, 78, 79, 80, 81, 82, 83, 84, 85, 86, 87, 88, 89, 90, 91, 92, 93, 94, 95, 96, 97, 98, 99, 100, 101, 102, 103, 104, 105, 106, 107, 108, 109, 110, 111, 112, 1, 113, 114, 115, 116, 117, 118, 119, 120, 121, 122, 123, 124, 125, 126, 127, 128, 129, 130, 131, 132, 133, 134, 135, 136, 137, 138, 139, 140, 141, 142, 143, 144, 145, 146, 147, 148, 149, 150, 151, 152, 153, 154, 155, 156, 157, 158, 159, 160, 161, 162, 163, 164, 165, 166, 167, 168, 169, 170, 171, 172, 173, 174, 175, 176, 177, 178, 179, 180, 181, 182, 183, 184, 185, 186, 187, 188, 189, 190, 191, 192, 193, 194, 195, 196, 197, 198, 199, 200, 201, 202, 203, 204, 205, 206, 207, 208, 209, 210, 211] (by decide +kernel) (by decide +kernel)
set_option maxRecDepth 20000 in
theorem gX12_takeOf_X12_goThrough : GoodIn wsX12_takeOf (wsV RX12 428 RX12 yX12_goThrough wsX12_goThrough) := goodIn_app (goodIn_of _ (by decide +kernel)) ggX12_takeOf_X12_goThrough
theorem dX12_takeOf_0 : decode cX12_takeOf 0 = .ok (.aload_n 0, 1) := by decide +kernel
theorem dX12_takeOf_1 : decode cX12_takeOf 1 = .ok (.getfield 143, 3) := by decide +kernel
theorem dX12_takeOf_4 : decode cX12_takeOf 4 = .ok (.iconst 0, 1) := by decide +kernel
theorem dX12_takeOf_5 : decode cX12_takeOf 5 = .ok (.aload_n 0, 1) := by decide +kernel
theorem dX12_takeOf_6 : decode cX12_takeOf 6 = .ok (.getfield 104, 3) := by decide +kernel
theorem dX12_takeOf_9 : decode cX12_takeOf 9 = .ok (.iload_n 1, 1) := by decide +kernel
theorem dX12_takeOf_10 : decode cX12_takeOf 10 = .ok (.iaload, 1) := by decide +kernel
theorem dX12_takeOf_11 : decode cX12_takeOf 11 = .ok (.iastore, 1) := by decide +kernel
theorem dX12_takeOf_12 : decode cX12_takeOf 12 = .ok (.aload_n 0, 1) := by decide +kernel
theorem dX12_takeOf_13 : decode cX12_takeOf 13 = .ok (.getfield 143, 3) := by decide +kernel
theorem dX12_takeOf_16 : decode cX12_takeOf 16 = .ok (.iconst 1, 1) := by decide +kernel
theorem dX12_takeOf_17 : decode cX12_takeOf 17 = .ok (.aload_n 0, 1) := by decide +kernel
theorem dX12_takeOf_18 : decode cX12_takeOf 18 = .ok (.getfield 107, 3) := by decide +kernel
theorem dX12_takeOf_21 : decode cX12_takeOf 21 = .ok (.iload_n 1, 1) := by decide +kernel
theorem dX12_takeOf_22 : decode cX12_takeOf 22 = .ok (.iaload, 1) := by decide +kernel
theorem dX12_takeOf_23 : decode cX12_takeOf 23 = .ok (.iastore, 1) := by decide +kernel
theorem dX12_takeOf_24 : decode cX12_takeOf 24 = .ok (.aload_n 0, 1) := by decide +kernel
theorem dX12_takeOf_25 : decode cX12_takeOf 25 = .ok (.getfield 143, 3) := by decide +kernel
theorem dX12_takeOf_28 : decode cX12_takeOf 28 = .ok (.iconst 2, 1) := by decide +kernel
theorem dX12_takeOf_29 : decode cX12_takeOf 29 = .ok (.aload_n 0, 1) := by decide +kernel
theorem dX12_takeOf_30 : decode cX12_takeOf 30 = .ok (.getfield 110, 3) := by decide +kernel
theorem dX12_takeOf_33 : decode cX12_takeOf 33 = .ok (.iload_n 1, 1) := by decide +kernel
theorem dX12_takeOf_34 : decode cX12_takeOf 34 = .ok (.iaload, 1) := by decide +kernel
theorem dX12_takeOf_35 : decode cX12_takeOf 35 = .ok (.iastore, 1) := by decide +kernel
theorem dX12_takeOf_36 : decode cX12_takeOf 36 = .ok (.aload_n 0, 1) := by decide +kernel
theorem dX12_takeOf_37 : decode cX12_takeOf 37 = .ok (.getfield 143, 3) := by decide +kernel
theorem dX12_takeOf_40 : decode cX12_takeOf 40 = .ok (.iconst 3, 1) := by decide +kernel
theorem dX12_takeOf_41 : decode cX12_takeOf 41 = .ok (.aload_n 0, 1) := by decide +kernel
theorem dX12_takeOf_42 : decode cX12_takeOf 42 = .ok (.getfield 201, 3) := by decide +kernel
theorem dX12_takeOf_45 : decode cX12_takeOf 45 = .ok (.iastore, 1) := by decide +kernel
theorem dX12_takeOf_46 : decode cX12_takeOf 46 = .ok (.aload_n 0, 1) := by decide +kernel
theorem dX12_takeOf_47 : decode cX12_takeOf 47 = .ok (.getfield 143, 3) := by decide +kernel
theorem dX12_takeOf_50 : decode cX12_takeOf 50 = .ok (.iconst 4, 1) := by decide +kernel
theorem dX12_takeOf_51 : decode cX12_takeOf 51 = .ok (.aload_n 0, 1) := by decide +kernel
theorem dX12_takeOf_52 : decode cX12_takeOf 52 = .ok (.getfield 43, 3) := by decide +kernel
theorem dX12_takeOf_55 : decode cX12_takeOf 55 = .ok (.aload_n 0, 1) := by decide +kernel
theorem dX12_takeOf_56 : decode cX12_takeOf 56 = .ok (.getfield 101, 3) := by decide +kernel
theorem dX12_takeOf_59 : decode cX12_takeOf 59 = .ok (.iload_n 1, 1) := by decide +kernel
theorem dX12_takeOf_60 : decode cX12_takeOf 60 = .ok (.iaload, 1) := by decide +kernel
theorem dX12_takeOf_61 : decode cX12_takeOf 61 = .ok (.iaload, 1) := by decide +kernel
theorem dX12_takeOf_62 : decode cX12_takeOf 62 = .ok (.iastore, 1) := by decide +kernel
theorem dX12_takeOf_63 : decode cX12_takeOf 63 = .ok (.aload_n 0, 1) := by decide +kernel
theorem dX12_takeOf_64 : decode cX12_takeOf 64 = .ok (.getfield 143, 3) := by decide +kernel
theorem dX12_takeOf_67 : decode cX12_takeOf 67 = .ok (.iconst 5, 1) := by decide +kernel
theorem dX12_takeOf_68 : decode cX12_takeOf 68 = .ok (.iconst 0, 1) := by decide +kernel
theorem dX12_takeOf_69 : decode cX12_takeOf 69 = .ok (.iastore, 1) := by decide +kernel
theorem dX12_takeOf_70 : decode cX12_takeOf 70 = .ok (.aload_n 0, 1) := by decide +kernel
theorem dX12_takeOf_71 : decode cX12_takeOf 71 = .ok (.sipush 160, 3) := by decide +kernel
theorem dX12_takeOf_74 : decode cX12_takeOf 74 = .ok (.aload_n 0, 1) := by decide +kernel
theorem dX12_takeOf_75 : decode cX12_takeOf 75 = .ok (.getfield 431, 3) := by decide +kernel
theorem dX12_takeOf_78 : decode cX12_takeOf 78 = .ok (.imul, 1) := by decide +kernel
theorem dX12_takeOf_79 : decode cX12_takeOf 79 = .ok (.aload_n 0, 1) := by decide +kernel
theorem dX12_takeOf_80 : decode cX12_takeOf 80 = .ok (.getfield 131, 3) := by decide +kernel
theorem dX12_takeOf_83 : decode cX12_takeOf 83 = .ok (.aload_n 0, 1) := by decide +kernel
theorem dX12_takeOf_84 : decode cX12_takeOf 84 = .ok (.getfield 431, 3) := by decide +kernel
theorem dX12_takeOf_87 : decode cX12_takeOf 87 = .ok (.iaload, 1) := by decide +kernel
theorem dX12_takeOf_88 : decode cX12_takeOf 88 = .ok (.invokevirtual 428, 3) := by decide +kernel
theorem dX12_takeOf_91 : decode cX12_takeOf 91 = .ok (.istore_n 2, 1) := by decide +kernel
theorem dX12_takeOf_92 : decode cX12_takeOf 92 = .ok (.aload_n 0, 1) := by decide +kernel
theorem dX12_takeOf_93 : decode cX12_takeOf 93 = .ok (.getfield 418, 3) := by decide +kernel
theorem dX12_takeOf_96 : decode cX12_takeOf 96 = .ok (.ireturn, 1) := by decide +kernel
set_option maxRecDepth 20000 in
theorem ggX12_goOf_X12_patchOf : GoodIn wsX12_goOf wsX12_patchOf := goodIn_r _ [12, 13, 2, 14, 15, 16, 11, 17, 18, 19, 20, 21, 22, 23, 24, 25, 26, 27, 28, 29, 30, 31, 32, 33, 34, 35, 160, 161, 162, 163, 164, 165, 166, 167, 168, 169, 170, 171, 172, 173, 174, 175, 176, 177, 178, 179, 180, 181, 182, 183, 184, 185, 186, 187, 188, 189, 190, 191, 192, 193, 194, 195, 196, 197, 198, 199, 200, 201, 202, 203, 204, 205, 206, 207, 208, 209, 210, 211, 212, 213, 214, 215, 216, 217, 218, 219, 220, 221, 222, 223, 224, 225, 226, 227, 228, 229, 230, 231, 232, 233, 234, 235, 236, 237, 238] (by decide +kernel) (by decide +kernel)
set_option maxRecDepth 20000 in
theorem gX12_goOf_X12_patchOf : GoodIn wsX12_goOf (wsV RX12 238 RX12 yX12_patchOf wsX12_patchOf) := goodIn_app (goodIn_of _ (by decide +kernel)) ggX12_goOf_X12_patchOf
set_option maxRecDepth 20000 in
theorem ggX12_goOf_X12_apart : GoodIn wsX12_goOf wsX12_apart := goodIn_r _ [38, 39, 40, 11, 41] (by decide +kernel) (by decide +kernel)
set_option maxRecDepth 20000 in
theorem gX12_goOf_X12_apart : GoodIn wsX12_goOf (va_wsS RX12 258 yX12_apart wsX12_apart) := goodIn_app (goodIn_of _ (by decide +kernel)) ggX12_goOf_X12_apart
set_option maxRecDepth 20000 in
theorem ggX12_goOf_X12_goThrough : GoodIn wsX12_goOf wsX12_goThrough := goodIn_r _ [45, 46, 47, 48, 49, 50, 51, 7, 52, 53, 54, 55, 11, 56, 57, 58, 59, 60, 61, 62, 63, 64, 65, 66, 33, 34, 35, 67, 68, 69, 70, 71, 72, 73, 74, 75, 76, 77, 78, 79, 80, 81, 82, 83, 84, 85, 86, 87, 88, 89, 90, 91, 92, 93, 94, 95, 96, 97, 98, 99, 100, 101, 102, 103, 104, 105, 106, 107, 108, 109, 110, 111, 112, 113, 114, 115, 116, 117, 118, 119, 120, 121, 122, 123, 124, 125, 126, 127, 128, 129, 130, 131, 132, 133, 134, 135, 136, 137, 138, 139, 3, 140, 141, 142, 143, 144, 145, 146, 147, 148, 149, 150, 151, 152, 153, 154, 155, 156, 157, 158, 159, 160, 161, 162, 163, 164, 165, 166, 167, 168, 169, 170, 171, 172, 173, 174, 175, 176, 177, 178, 179, 180, 181, 182, 183, 184, 185, 186, 187, 188, 189, 190, 191, 192, 193, 194, 195, 196, 197, 198, 199, 200, 201, 202, 203, 204, 205, 206, 207, 208, 209, 210, 211, 212, 213, 214, 215, 216, 217, 218, 219, 220, 221, 222, 223, 224, 225, 226, 227, 228, 229, 230, 231, 232, 233, 234, 235, 236, 237, 238] (by decide +kernel) (by decide +kernel)
set_option maxRecDepth 20000 in
theorem gX12_goOf_X12_goThrough : GoodIn wsX12_goOf (wsV RX12 428 RX12 yX12_goThrough wsX12_goThrough) := goodIn_app (goodIn_of _ (by decide +kernel)) ggX12_goOf_X12_goThrough
theorem dX12_goOf_0 : decode cX12_goOf 0 = .ok (.aload_n 0, 1) := by decide +kernel
theorem dX12_goOf_1 : decode cX12_goOf 1 = .ok (.iload_n 2, 1) := by decide +kernel
theorem dX12_goOf_2 : decode cX12_goOf 2 = .ok (.aload_n 0, 1) := by decide +kernel
theorem dX12_goOf_3 : decode cX12_goOf 3 = .ok (.getfield 201, 3) := by decide +kernel
theorem dX12_goOf_6 : decode cX12_goOf 6 = .ok (.aload_n 0, 1) := by decide +kernel
theorem dX12_goOf_7 : decode cX12_goOf 7 = .ok (.getfield 201, 3) := by decide +kernel
theorem dX12_goOf_10 : decode cX12_goOf 10 = .ok (.invokevirtual 238, 3) := by decide +kernel
theorem dX12_goOf_13 : decode cX12_goOf 13 = .ok (.lstore_n 3, 1) := by decide +kernel
theorem dX12_goOf_14 : decode cX12_goOf 14 = .ok (.bipush 99, 2) := by decide +kernel
theorem dX12_goOf_16 : decode cX12_goOf 16 = .ok (.istore 5, 2) := by decide +kernel
theorem dX12_goOf_18 : decode cX12_goOf 18 = .ok (.iconst 0, 1) := by decide +kernel
theorem dX12_goOf_19 : decode cX12_goOf 19 = .ok (.istore 6, 2) := by decide +kernel
theorem dX12_goOf_21 : decode cX12_goOf 21 = .ok (.iload 6, 2) := by decide +kernel
theorem dX12_goOf_23 : decode cX12_goOf 23 = .ok (.bipush 64, 2) := by decide +kernel
theorem dX12_goOf_25 : decode cX12_goOf 25 = .ok (.if_icmp .ge 49, 3) := by decide +kernel
theorem dX12_goOf_28 : decode cX12_goOf 28 = .ok (.iload 6, 2) := by decide +kernel
theorem dX12_goOf_30 : decode cX12_goOf 30 = .ok (.aload_n 0, 1) := by decide +kernel
theorem dX12_goOf_31 : decode cX12_goOf 31 = .ok (.getfield 34, 3) := by decide +kernel
theorem dX12_goOf_34 : decode cX12_goOf 34 = .ok (.iload_n 1, 1) := by decide +kernel
theorem dX12_goOf_35 : decode cX12_goOf 35 = .ok (.iaload, 1) := by decide +kernel
theorem dX12_goOf_36 : decode cX12_goOf 36 = .ok (.invokestatic 258, 3) := by decide +kernel
theorem dX12_goOf_39 : decode cX12_goOf 39 = .ok (.istore 7, 2) := by decide +kernel
theorem dX12_goOf_41 : decode cX12_goOf 41 = .ok (.lload_n 3, 1) := by decide +kernel
theorem dX12_goOf_42 : decode cX12_goOf 42 = .ok (.iload 6, 2) := by decide +kernel
theorem dX12_goOf_44 : decode cX12_goOf 44 = .ok (.lushr, 1) := by decide +kernel
theorem dX12_goOf_45 : decode cX12_goOf 45 = .ok (.lconst 1, 1) := by decide +kernel
theorem dX12_goOf_46 : decode cX12_goOf 46 = .ok (.land, 1) := by decide +kernel
theorem dX12_goOf_47 : decode cX12_goOf 47 = .ok (.lconst 1, 1) := by decide +kernel
theorem dX12_goOf_48 : decode cX12_goOf 48 = .ok (.lcmp, 1) := by decide +kernel
theorem dX12_goOf_49 : decode cX12_goOf 49 = .ok (.ifCond .ne 15, 3) := by decide +kernel
theorem dX12_goOf_52 : decode cX12_goOf 52 = .ok (.iload 7, 2) := by decide +kernel
theorem dX12_goOf_54 : decode cX12_goOf 54 = .ok (.iload 5, 2) := by decide +kernel
theorem dX12_goOf_56 : decode cX12_goOf 56 = .ok (.if_icmp .ge 8, 3) := by decide +kernel
theorem dX12_goOf_59 : decode cX12_goOf 59 = .ok (.iload 7, 2) := by decide +kernel
theorem dX12_goOf_61 : decode cX12_goOf 61 = .ok (.goto 5, 3) := by decide +kernel
theorem dX12_goOf_64 : decode cX12_goOf 64 = .ok (.iload 5, 2) := by decide +kernel
theorem dX12_goOf_66 : decode cX12_goOf 66 = .ok (.istore 5, 2) := by decide +kernel
theorem dX12_goOf_68 : decode cX12_goOf 68 = .ok (.iinc 6 1, 3) := by decide +kernel
theorem dX12_goOf_71 : decode cX12_goOf 71 = .ok (.goto (-50), 3) := by decide +kernel
theorem dX12_goOf_74 : decode cX12_goOf 74 = .ok (.aload_n 0, 1) := by decide +kernel
theorem dX12_goOf_75 : decode cX12_goOf 75 = .ok (.getfield 143, 3) := by decide +kernel
theorem dX12_goOf_78 : decode cX12_goOf 78 = .ok (.iconst 0, 1) := by decide +kernel
theorem dX12_goOf_79 : decode cX12_goOf 79 = .ok (.iconst 0, 1) := by decide +kernel
theorem dX12_goOf_80 : decode cX12_goOf 80 = .ok (.iastore, 1) := by decide +kernel
theorem dX12_goOf_81 : decode cX12_goOf 81 = .ok (.aload_n 0, 1) := by decide +kernel
theorem dX12_goOf_82 : decode cX12_goOf 82 = .ok (.getfield 143, 3) := by decide +kernel
theorem dX12_goOf_85 : decode cX12_goOf 85 = .ok (.iconst 1, 1) := by decide +kernel
theorem dX12_goOf_86 : decode cX12_goOf 86 = .ok (.iconst 0, 1) := by decide +kernel
theorem dX12_goOf_87 : decode cX12_goOf 87 = .ok (.iastore, 1) := by decide +kernel
theorem dX12_goOf_88 : decode cX12_goOf 88 = .ok (.aload_n 0, 1) := by decide +kernel
theorem dX12_goOf_89 : decode cX12_goOf 89 = .ok (.getfield 143, 3) := by decide +kernel
theorem dX12_goOf_92 : decode cX12_goOf 92 = .ok (.iconst 2, 1) := by decide +kernel
theorem dX12_goOf_93 : decode cX12_goOf 93 = .ok (.iconst 0, 1) := by decide +kernel
theorem dX12_goOf_94 : decode cX12_goOf 94 = .ok (.iastore, 1) := by decide +kernel
theorem dX12_goOf_95 : decode cX12_goOf 95 = .ok (.aload_n 0, 1) := by decide +kernel
theorem dX12_goOf_96 : decode cX12_goOf 96 = .ok (.getfield 143, 3) := by decide +kernel
theorem dX12_goOf_99 : decode cX12_goOf 99 = .ok (.iconst 3, 1) := by decide +kernel
theorem dX12_goOf_100 : decode cX12_goOf 100 = .ok (.aload_n 0, 1) := by decide +kernel
theorem dX12_goOf_101 : decode cX12_goOf 101 = .ok (.getfield 201, 3) := by decide +kernel
theorem dX12_goOf_104 : decode cX12_goOf 104 = .ok (.iastore, 1) := by decide +kernel
theorem dX12_goOf_105 : decode cX12_goOf 105 = .ok (.aload_n 0, 1) := by decide +kernel
theorem dX12_goOf_106 : decode cX12_goOf 106 = .ok (.getfield 143, 3) := by decide +kernel
theorem dX12_goOf_109 : decode cX12_goOf 109 = .ok (.iconst 4, 1) := by decide +kernel
theorem dX12_goOf_110 : decode cX12_goOf 110 = .ok (.aload_n 0, 1) := by decide +kernel
theorem dX12_goOf_111 : decode cX12_goOf 111 = .ok (.getfield 43, 3) := by decide +kernel
theorem dX12_goOf_114 : decode cX12_goOf 114 = .ok (.iload_n 1, 1) := by decide +kernel
theorem dX12_goOf_115 : decode cX12_goOf 115 = .ok (.iaload, 1) := by decide +kernel
theorem dX12_goOf_116 : decode cX12_goOf 116 = .ok (.iastore, 1) := by decide +kernel
theorem dX12_goOf_117 : decode cX12_goOf 117 = .ok (.aload_n 0, 1) := by decide +kernel
theorem dX12_goOf_118 : decode cX12_goOf 118 = .ok (.getfield 143, 3) := by decide +kernel
theorem dX12_goOf_121 : decode cX12_goOf 121 = .ok (.iconst 5, 1) := by decide +kernel
theorem dX12_goOf_122 : decode cX12_goOf 122 = .ok (.iload 5, 2) := by decide +kernel
theorem dX12_goOf_124 : decode cX12_goOf 124 = .ok (.iastore, 1) := by decide +kernel
theorem dX12_goOf_125 : decode cX12_goOf 125 = .ok (.aload_n 0, 1) := by decide +kernel
theorem dX12_goOf_126 : decode cX12_goOf 126 = .ok (.sipush 160, 3) := by decide +kernel
theorem dX12_goOf_129 : decode cX12_goOf 129 = .ok (.aload_n 0, 1) := by decide +kernel
theorem dX12_goOf_130 : decode cX12_goOf 130 = .ok (.getfield 431, 3) := by decide +kernel
theorem dX12_goOf_133 : decode cX12_goOf 133 = .ok (.imul, 1) := by decide +kernel
theorem dX12_goOf_134 : decode cX12_goOf 134 = .ok (.aload_n 0, 1) := by decide +kernel
theorem dX12_goOf_135 : decode cX12_goOf 135 = .ok (.getfield 131, 3) := by decide +kernel
theorem dX12_goOf_138 : decode cX12_goOf 138 = .ok (.aload_n 0, 1) := by decide +kernel
theorem dX12_goOf_139 : decode cX12_goOf 139 = .ok (.getfield 431, 3) := by decide +kernel
theorem dX12_goOf_142 : decode cX12_goOf 142 = .ok (.iaload, 1) := by decide +kernel
theorem dX12_goOf_143 : decode cX12_goOf 143 = .ok (.invokevirtual 428, 3) := by decide +kernel
theorem dX12_goOf_146 : decode cX12_goOf 146 = .ok (.istore 6, 2) := by decide +kernel
theorem dX12_goOf_148 : decode cX12_goOf 148 = .ok (.aload_n 0, 1) := by decide +kernel
theorem dX12_goOf_149 : decode cX12_goOf 149 = .ok (.getfield 425, 3) := by decide +kernel
theorem dX12_goOf_152 : decode cX12_goOf 152 = .ok (.ireturn, 1) := by decide +kernel
set_option maxRecDepth 20000 in
theorem ggX12_says_X12_takeOf : GoodIn wsX12_says wsX12_takeOf := goodIn_r _ [7, 8, 9, 10, 11, 12, 13, 14, 15, 16, 17, 18, 19, 20, 6, 21, 22, 23, 24, 25, 26, 27, 28, 29, 30, 31, 32, 33, 34, 35, 36, 37, 38, 39, 40, 41, 42, 43, 44, 45, 46, 47, 48, 49, 50, 51, 52, 53, 54, 55, 56, 57, 58, 59, 60, 61, 62, 63, 64, 65, 66, 67, 68, 69, 70, 71, 72, 73, 74, 75, 76, 77, 78, 79, 80, 81, 82, 83, 84, 85, 86, 87, 88, 89, 90, 91, 92, 93, 94, 95, 96, 97, 98, 99, 100, 101, 102, 103, 104, 105, 106, 107, 108, 109, 110, 111, 112, 113, 114, 115, 116, 117, 118, 119, 120, 121, 122, 123, 124, 125, 126, 127, 128, 129, 130, 131, 132, 133, 134, 135, 136, 137, 138, 183, 184, 185, 186, 187, 188, 189, 190, 191, 192, 193, 194, 195, 196, 197, 198, 199, 200, 201, 202, 203, 204, 205, 206, 207, 208, 209, 210, 211, 212, 213, 214, 215, 216, 217, 218, 219, 220, 221, 222, 223, 224, 225, 226, 227, 228, 229, 230, 231, 232, 233, 234, 235, 236, 237, 238, 239, 240, 241, 242, 243, 244, 245, 246, 247, 248, 249, 250, 251, 252, 253, 254, 255, 256, 257, 258, 259, 260, 261] (by decide +kernel) (by decide +kernel)
set_option maxRecDepth 20000 in
theorem gX12_says_X12_takeOf : GoodIn wsX12_says (wsV RX12 434 RX12 yX12_takeOf wsX12_takeOf) := goodIn_app (goodIn_of _ (by decide +kernel)) ggX12_says_X12_takeOf
set_option maxRecDepth 20000 in
theorem ggX12_says_X12_isSeeker : GoodIn wsX12_says wsX12_isSeeker := goodIn_r _ [142, 143, 144, 145, 146, 6, 147, 148, 183, 184, 185, 186, 187, 188, 189, 190, 191, 192, 193, 194, 195, 196, 197, 198, 199, 200, 201, 202, 203, 204, 205, 206, 207, 208, 209, 210, 211, 212, 213, 214, 215, 216, 217, 218, 219, 220, 221, 222, 223, 224, 225, 226, 227, 228, 229, 230, 231, 232, 233, 234, 235, 236, 237, 238, 239, 240, 241, 242, 243, 244, 245, 246, 247, 248, 249, 250, 251, 252, 253, 254, 255, 256, 257, 258, 259, 260, 261] (by decide +kernel) (by decide +kernel)
set_option maxRecDepth 20000 in
theorem gX12_says_X12_isSeeker : GoodIn wsX12_says (wsV RX12 275 RX12 yX12_isSeeker wsX12_isSeeker) := goodIn_app (goodIn_of _ (by decide +kernel)) ggX12_says_X12_isSeeker
set_option maxRecDepth 20000 in
theorem ggX12_says_X12_isBody : GoodIn wsX12_says wsX12_isBody := goodIn_r _ [147, 148, 183, 184, 185, 186, 187, 188, 189, 190, 191, 192, 193, 194, 195, 196, 197, 198, 199, 200, 201, 202, 203, 204, 205, 206, 207, 208, 209, 210, 211, 212, 213, 214, 215, 216, 217, 218, 219, 220, 221, 222, 223, 224, 225, 226, 227, 228, 229, 230, 231, 232, 233, 234, 235, 236, 237, 238, 239, 240, 241, 242, 243, 244, 245, 246, 247, 248, 249, 250, 251, 252, 253, 254, 255, 256, 257, 258, 259, 260, 261] (by decide +kernel) (by decide +kernel)
set_option maxRecDepth 20000 in
theorem gX12_says_X12_isBody : GoodIn wsX12_says (wsV RX12 193 RX12 yX12_isBody wsX12_isBody) := goodIn_app (goodIn_of _ (by decide +kernel)) ggX12_says_X12_isBody
set_option maxRecDepth 20000 in
theorem ggX12_says_X12_goOf : GoodIn wsX12_says wsX12_goOf := goodIn_r _ [152, 12, 153, 8, 13, 15, 16, 27, 154, 155, 156, 6, 157, 158, 159, 160, 161, 162, 163, 164, 165, 166, 167, 168, 169, 170, 171, 172, 173, 174, 175, 176, 143, 43, 44, 45, 177, 178, 179, 180, 181, 182, 18, 19, 20, 21, 22, 23, 24, 25, 26, 17, 28, 29, 30, 31, 32, 33, 34, 35, 36, 37, 38, 39, 40, 41, 42, 46, 47, 48, 49, 50, 51, 52, 53, 54, 55, 56, 57, 58, 59, 60, 61, 62, 63, 64, 65, 66, 67, 68, 69, 70, 71, 72, 73, 74, 75, 76, 77, 78, 79, 80, 81, 82, 83, 84, 85, 86, 87, 88, 89, 90, 91, 92, 93, 94, 95, 96, 97, 98, 99, 100, 101, 102, 103, 104, 105, 106, 107, 108, 109, 110, 111, 112, 113, 114, 115, 116, 117, 118, 119, 120, 121, 122, 123, 124, 125, 126, 127, 128, 129, 130, 131, 132, 133, 134, 135, 136, 137, 138, 183, 184, 185, 186, 187, 188, 189, 190, 191, 192, 193, 194, 195, 196, 197, 198, 199, 200, 201, 202, 203, 204, 205, 206, 207, 208, 209, 210, 211, 212, 213, 214, 215, 216, 217, 218, 219, 220, 221, 222, 223, 224, 225, 226, 227, 228, 229, 230, 231, 232, 233, 234, 235, 236, 237, 238, 239, 240, 241, 242, 243, 244, 245, 246, 247, 248, 249, 250, 251, 252, 253, 254, 255, 256, 257, 258, 259, 260, 261] (by decide +kernel) (by decide +kernel)
set_option maxRecDepth 20000 in
theorem gX12_says_X12_goOf : GoodIn wsX12_says (wsV RX12 437 RX12 yX12_goOf wsX12_goOf) := goodIn_app (goodIn_of _ (by decide +kernel)) ggX12_says_X12_goOf
theorem dX12_says_0 : decode cX12_says 0 = .ok (.iload_n 1, 1) := by decide +kernel
theorem dX12_says_1 : decode cX12_says 1 = .ok (.ifCond .ne 22, 3) := by decide +kernel
theorem dX12_says_4 : decode cX12_says 4 = .ok (.iload_n 2, 1) := by decide +kernel
theorem dX12_says_5 : decode cX12_says 5 = .ok (.ifCond .lt 18, 3) := by decide +kernel
theorem dX12_says_8 : decode cX12_says 8 = .ok (.iload_n 2, 1) := by decide +kernel
theorem dX12_says_9 : decode cX12_says 9 = .ok (.aload_n 0, 1) := by decide +kernel
theorem dX12_says_10 : decode cX12_says 10 = .ok (.getfield 320, 3) := by decide +kernel
theorem dX12_says_13 : decode cX12_says 13 = .ok (.if_icmp .ge 10, 3) := by decide +kernel
theorem dX12_says_16 : decode cX12_says 16 = .ok (.aload_n 0, 1) := by decide +kernel
theorem dX12_says_17 : decode cX12_says 17 = .ok (.iload_n 2, 1) := by decide +kernel
theorem dX12_says_18 : decode cX12_says 18 = .ok (.invokevirtual 434, 3) := by decide +kernel
theorem dX12_says_21 : decode cX12_says 21 = .ok (.i2l, 1) := by decide +kernel
theorem dX12_says_22 : decode cX12_says 22 = .ok (.lreturn, 1) := by decide +kernel
theorem dX12_says_23 : decode cX12_says 23 = .ok (.iload_n 1, 1) := by decide +kernel
theorem dX12_says_24 : decode cX12_says 24 = .ok (.iconst 1, 1) := by decide +kernel
theorem dX12_says_25 : decode cX12_says 25 = .ok (.if_icmp .ne 29, 3) := by decide +kernel
theorem dX12_says_28 : decode cX12_says 28 = .ok (.aload_n 0, 1) := by decide +kernel
theorem dX12_says_29 : decode cX12_says 29 = .ok (.iload_n 2, 1) := by decide +kernel
theorem dX12_says_30 : decode cX12_says 30 = .ok (.invokevirtual 275, 3) := by decide +kernel
theorem dX12_says_33 : decode cX12_says 33 = .ok (.ifCond .eq 21, 3) := by decide +kernel
theorem dX12_says_36 : decode cX12_says 36 = .ok (.aload_n 0, 1) := by decide +kernel
theorem dX12_says_37 : decode cX12_says 37 = .ok (.iload_n 3, 1) := by decide +kernel
theorem dX12_says_38 : decode cX12_says 38 = .ok (.invokevirtual 193, 3) := by decide +kernel
theorem dX12_says_41 : decode cX12_says 41 = .ok (.ifCond .eq 13, 3) := by decide +kernel
theorem dX12_says_44 : decode cX12_says 44 = .ok (.aload_n 0, 1) := by decide +kernel
theorem dX12_says_45 : decode cX12_says 45 = .ok (.iload_n 2, 1) := by decide +kernel
theorem dX12_says_46 : decode cX12_says 46 = .ok (.iload_n 3, 1) := by decide +kernel
theorem dX12_says_47 : decode cX12_says 47 = .ok (.invokevirtual 437, 3) := by decide +kernel
theorem dX12_says_50 : decode cX12_says 50 = .ok (.i2l, 1) := by decide +kernel
theorem dX12_says_51 : decode cX12_says 51 = .ok (.goto 6, 3) := by decide +kernel
theorem dX12_says_54 : decode cX12_says 54 = .ok (.ldc2_w 236, 3) := by decide +kernel
theorem dX12_says_57 : decode cX12_says 57 = .ok (.lreturn, 1) := by decide +kernel
set_option maxRecDepth 20000 in
theorem ggX12_first_X12_isBody : GoodIn wsX12_first wsX12_isBody := goodIn_r _ [9, 10, 145, 146, 147, 148, 149, 150, 151, 152, 153, 154, 155, 156, 157, 158, 159, 160, 161, 162, 163, 164, 165, 166, 167, 168, 169, 170, 171, 172, 173, 174, 175, 176, 177, 178, 179, 180, 181, 182, 183, 184, 185, 186, 187, 188, 189, 190, 191, 192, 193, 194, 195, 196, 197, 198, 199, 200, 201, 202, 203, 204, 205, 206, 207, 208, 209, 210, 211, 212, 213, 214, 215, 216, 217, 218, 219, 220, 221, 222, 223] (by decide +kernel) (by decide +kernel)
set_option maxRecDepth 20000 in
theorem gX12_first_X12_isBody : GoodIn wsX12_first (wsV RX12 193 RX12 yX12_isBody wsX12_isBody) := goodIn_app (goodIn_of _ (by decide +kernel)) ggX12_first_X12_isBody
set_option maxRecDepth 20000 in
theorem ggX12_first_X12_takeOf : GoodIn wsX12_first wsX12_takeOf := goodIn_r _ [14, 15, 16, 17, 18, 19, 20, 2, 21, 22, 23, 24, 25, 26, 8, 27, 28, 29, 30, 31, 32, 33, 34, 35, 36, 37, 38, 39, 40, 41, 42, 43, 44, 45, 46, 47, 48, 49, 50, 51, 52, 53, 54, 55, 56, 57, 58, 59, 60, 61, 62, 63, 64, 65, 66, 67, 68, 69, 70, 71, 72, 73, 74, 75, 76, 77, 78, 79, 80, 81, 82, 83, 84, 85, 86, 87, 88, 89, 90, 91, 92, 93, 94, 95, 96, 97, 98, 99, 100, 101, 102, 103, 104, 105, 106, 107, 108, 109, 110, 111, 112, 113, 114, 115, 116, 117, 118, 119, 120, 121, 122, 123, 124, 125, 126, 127, 128, 129, 130, 131, 132, 133, 134, 135, 136, 137, 138, 139, 140, 141, 142, 143, 144, 145, 146, 147, 148, 149, 150, 151, 152, 153, 154, 155, 156, 157, 158, 159, 160, 161, 162, 163, 164, 165, 166, 167, 168, 169, 170, 171, 172, 173, 174, 175, 176, 177, 178, 179, 180, 181, 182, 183, 184, 185, 186, 187, 188, 189, 190, 191, 192, 193, 194, 195, 196, 197, 198, 199, 200, 201, 202, 203, 204, 205, 206, 207, 208, 209, 210, 211, 212, 213, 214, 215, 216, 217, 218, 219, 220, 221, 222, 223] (by decide +kernel) (by decide +kernel)
set_option maxRecDepth 20000 in
theorem gX12_first_X12_takeOf : GoodIn wsX12_first (wsV RX12 434 RX12 yX12_takeOf wsX12_takeOf) := goodIn_app (goodIn_of _ (by decide +kernel)) ggX12_first_X12_takeOf
theorem dX12_first_0 : decode cX12_first 0 = .ok (.aload_n 0, 1) := by decide +kernel
theorem dX12_first_1 : decode cX12_first 1 = .ok (.iload_n 1, 1) := by decide +kernel
theorem dX12_first_2 : decode cX12_first 2 = .ok (.invokevirtual 193, 3) := by decide +kernel
theorem dX12_first_5 : decode cX12_first 5 = .ok (.ifCond .ne 6, 3) := by decide +kernel
theorem dX12_first_8 : decode cX12_first 8 = .ok (.bipush (-2), 2) := by decide +kernel
theorem dX12_first_10 : decode cX12_first 10 = .ok (.ireturn, 1) := by decide +kernel
theorem dX12_first_11 : decode cX12_first 11 = .ok (.iconst 0, 1) := by decide +kernel
theorem dX12_first_12 : decode cX12_first 12 = .ok (.istore_n 3, 1) := by decide +kernel
theorem dX12_first_13 : decode cX12_first 13 = .ok (.iconst 0, 1) := by decide +kernel
theorem dX12_first_14 : decode cX12_first 14 = .ok (.istore 4, 2) := by decide +kernel
theorem dX12_first_16 : decode cX12_first 16 = .ok (.iload 4, 2) := by decide +kernel
theorem dX12_first_18 : decode cX12_first 18 = .ok (.aload_n 0, 1) := by decide +kernel
theorem dX12_first_19 : decode cX12_first 19 = .ok (.getfield 320, 3) := by decide +kernel
theorem dX12_first_22 : decode cX12_first 22 = .ok (.if_icmp .ge 99, 3) := by decide +kernel
theorem dX12_first_25 : decode cX12_first 25 = .ok (.aload_n 0, 1) := by decide +kernel
theorem dX12_first_26 : decode cX12_first 26 = .ok (.getfield 101, 3) := by decide +kernel
theorem dX12_first_29 : decode cX12_first 29 = .ok (.iload 4, 2) := by decide +kernel
theorem dX12_first_31 : decode cX12_first 31 = .ok (.iaload, 1) := by decide +kernel
theorem dX12_first_32 : decode cX12_first 32 = .ok (.iload_n 1, 1) := by decide +kernel
theorem dX12_first_33 : decode cX12_first 33 = .ok (.if_icmp .ne 82, 3) := by decide +kernel
theorem dX12_first_36 : decode cX12_first 36 = .ok (.aload_n 0, 1) := by decide +kernel
theorem dX12_first_37 : decode cX12_first 37 = .ok (.getfield 146, 3) := by decide +kernel
theorem dX12_first_40 : decode cX12_first 40 = .ok (.iload 4, 2) := by decide +kernel
theorem dX12_first_42 : decode cX12_first 42 = .ok (.aload_n 0, 1) := by decide +kernel
theorem dX12_first_43 : decode cX12_first 43 = .ok (.iload 4, 2) := by decide +kernel
theorem dX12_first_45 : decode cX12_first 45 = .ok (.invokevirtual 434, 3) := by decide +kernel
theorem dX12_first_48 : decode cX12_first 48 = .ok (.iastore, 1) := by decide +kernel
theorem dX12_first_49 : decode cX12_first 49 = .ok (.iload_n 3, 1) := by decide +kernel
theorem dX12_first_50 : decode cX12_first 50 = .ok (.istore 5, 2) := by decide +kernel
theorem dX12_first_52 : decode cX12_first 52 = .ok (.iload 5, 2) := by decide +kernel
theorem dX12_first_54 : decode cX12_first 54 = .ok (.ifCond .le 49, 3) := by decide +kernel
theorem dX12_first_57 : decode cX12_first 57 = .ok (.aload_n 0, 1) := by decide +kernel
theorem dX12_first_58 : decode cX12_first 58 = .ok (.getfield 146, 3) := by decide +kernel
theorem dX12_first_61 : decode cX12_first 61 = .ok (.aload_n 0, 1) := by decide +kernel
theorem dX12_first_62 : decode cX12_first 62 = .ok (.getfield 149, 3) := by decide +kernel
theorem dX12_first_65 : decode cX12_first 65 = .ok (.iload 5, 2) := by decide +kernel
theorem dX12_first_67 : decode cX12_first 67 = .ok (.iconst 1, 1) := by decide +kernel
theorem dX12_first_68 : decode cX12_first 68 = .ok (.isub, 1) := by decide +kernel
theorem dX12_first_69 : decode cX12_first 69 = .ok (.iaload, 1) := by decide +kernel
theorem dX12_first_70 : decode cX12_first 70 = .ok (.iaload, 1) := by decide +kernel
theorem dX12_first_71 : decode cX12_first 71 = .ok (.aload_n 0, 1) := by decide +kernel
theorem dX12_first_72 : decode cX12_first 72 = .ok (.getfield 146, 3) := by decide +kernel
theorem dX12_first_75 : decode cX12_first 75 = .ok (.iload 4, 2) := by decide +kernel
theorem dX12_first_77 : decode cX12_first 77 = .ok (.iaload, 1) := by decide +kernel
theorem dX12_first_78 : decode cX12_first 78 = .ok (.if_icmp .ge 25, 3) := by decide +kernel
theorem dX12_first_81 : decode cX12_first 81 = .ok (.aload_n 0, 1) := by decide +kernel
theorem dX12_first_82 : decode cX12_first 82 = .ok (.getfield 149, 3) := by decide +kernel
theorem dX12_first_85 : decode cX12_first 85 = .ok (.iload 5, 2) := by decide +kernel
theorem dX12_first_87 : decode cX12_first 87 = .ok (.aload_n 0, 1) := by decide +kernel
theorem dX12_first_88 : decode cX12_first 88 = .ok (.getfield 149, 3) := by decide +kernel
theorem dX12_first_91 : decode cX12_first 91 = .ok (.iload 5, 2) := by decide +kernel
theorem dX12_first_93 : decode cX12_first 93 = .ok (.iconst 1, 1) := by decide +kernel
theorem dX12_first_94 : decode cX12_first 94 = .ok (.isub, 1) := by decide +kernel
theorem dX12_first_95 : decode cX12_first 95 = .ok (.iaload, 1) := by decide +kernel
theorem dX12_first_96 : decode cX12_first 96 = .ok (.iastore, 1) := by decide +kernel
theorem dX12_first_97 : decode cX12_first 97 = .ok (.iinc 5 (-1), 3) := by decide +kernel
theorem dX12_first_100 : decode cX12_first 100 = .ok (.goto (-48), 3) := by decide +kernel
theorem dX12_first_103 : decode cX12_first 103 = .ok (.aload_n 0, 1) := by decide +kernel
theorem dX12_first_104 : decode cX12_first 104 = .ok (.getfield 149, 3) := by decide +kernel
theorem dX12_first_107 : decode cX12_first 107 = .ok (.iload 5, 2) := by decide +kernel
theorem dX12_first_109 : decode cX12_first 109 = .ok (.iload 4, 2) := by decide +kernel
theorem dX12_first_111 : decode cX12_first 111 = .ok (.iastore, 1) := by decide +kernel
theorem dX12_first_112 : decode cX12_first 112 = .ok (.iinc 3 1, 3) := by decide +kernel
theorem dX12_first_115 : decode cX12_first 115 = .ok (.iinc 4 1, 3) := by decide +kernel
theorem dX12_first_118 : decode cX12_first 118 = .ok (.goto (-102), 3) := by decide +kernel
theorem dX12_first_121 : decode cX12_first 121 = .ok (.iload_n 2, 1) := by decide +kernel
theorem dX12_first_122 : decode cX12_first 122 = .ok (.ifCond .lt 17, 3) := by decide +kernel
theorem dX12_first_125 : decode cX12_first 125 = .ok (.iload_n 2, 1) := by decide +kernel
theorem dX12_first_126 : decode cX12_first 126 = .ok (.iload_n 3, 1) := by decide +kernel
theorem dX12_first_127 : decode cX12_first 127 = .ok (.if_icmp .ge 12, 3) := by decide +kernel
theorem dX12_first_130 : decode cX12_first 130 = .ok (.aload_n 0, 1) := by decide +kernel
theorem dX12_first_131 : decode cX12_first 131 = .ok (.getfield 149, 3) := by decide +kernel
theorem dX12_first_134 : decode cX12_first 134 = .ok (.iload_n 2, 1) := by decide +kernel
theorem dX12_first_135 : decode cX12_first 135 = .ok (.iaload, 1) := by decide +kernel
theorem dX12_first_136 : decode cX12_first 136 = .ok (.goto 4, 3) := by decide +kernel
theorem dX12_first_139 : decode cX12_first 139 = .ok (.iconst (-1), 1) := by decide +kernel
theorem dX12_first_140 : decode cX12_first 140 = .ok (.ireturn, 1) := by decide +kernel
set_option maxRecDepth 20000 in
theorem ggX12_story_X12_isBody : GoodIn wsX12_story wsX12_isBody := goodIn_r _ [11, 12, 19, 20, 21, 22, 23, 24, 25, 26, 27, 28, 29, 30, 31, 32, 33, 34, 35, 36, 37, 38, 39, 40, 41, 42, 43, 44, 45, 46, 47, 48, 49, 50, 51, 52, 53, 54, 55, 56, 57, 58, 59, 60, 61, 62, 63, 64, 65, 66, 67, 68, 69, 70, 71, 72, 73, 74, 75, 76, 77, 78, 79, 80, 81, 82, 83, 84, 85, 86, 87, 88, 89, 90, 91, 92, 93, 94, 95, 96, 97] (by decide +kernel) (by decide +kernel)
set_option maxRecDepth 20000 in
theorem gX12_story_X12_isBody : GoodIn wsX12_story (wsV RX12 193 RX12 yX12_isBody wsX12_isBody) := goodIn_app (goodIn_of _ (by decide +kernel)) ggX12_story_X12_isBody
set_option maxRecDepth 20000 in
theorem ggX12_story_X12_isCell : GoodIn wsX12_story wsX12_isCell := goodIn_r _ [15, 16, 17, 10, 18] (by decide +kernel) (by decide +kernel)
set_option maxRecDepth 20000 in
theorem gX12_story_X12_isCell : GoodIn wsX12_story (va_wsS RX12 217 yX12_isCell wsX12_isCell) := goodIn_app (goodIn_of _ (by decide +kernel)) ggX12_story_X12_isCell
set_option maxRecDepth 20000 in
theorem ggX12_story_X12_within : GoodIn wsX12_story wsX12_within := goodIn_r _ [18] (by decide +kernel) (by decide +kernel)
set_option maxRecDepth 20000 in
theorem gX12_story_X12_within : GoodIn wsX12_story (va_wsS RX12 186 yX12_within wsX12_within) := goodIn_app (goodIn_of _ (by decide +kernel)) ggX12_story_X12_within
theorem dX12_story_0 : decode cX12_story 0 = .ok (.aload_n 0, 1) := by decide +kernel
theorem dX12_story_1 : decode cX12_story 1 = .ok (.iload_n 1, 1) := by decide +kernel
theorem dX12_story_2 : decode cX12_story 2 = .ok (.invokevirtual 193, 3) := by decide +kernel
theorem dX12_story_5 : decode cX12_story 5 = .ok (.ifCond .eq 27, 3) := by decide +kernel
theorem dX12_story_8 : decode cX12_story 8 = .ok (.iload_n 2, 1) := by decide +kernel
theorem dX12_story_9 : decode cX12_story 9 = .ok (.invokestatic 217, 3) := by decide +kernel
theorem dX12_story_12 : decode cX12_story 12 = .ok (.ifCond .eq 20, 3) := by decide +kernel
theorem dX12_story_15 : decode cX12_story 15 = .ok (.iload_n 3, 1) := by decide +kernel
theorem dX12_story_16 : decode cX12_story 16 = .ok (.aload_n 0, 1) := by decide +kernel
theorem dX12_story_17 : decode cX12_story 17 = .ok (.getfield 31, 3) := by decide +kernel
theorem dX12_story_20 : decode cX12_story 20 = .ok (.iload_n 1, 1) := by decide +kernel
theorem dX12_story_21 : decode cX12_story 21 = .ok (.iaload, 1) := by decide +kernel
theorem dX12_story_22 : decode cX12_story 22 = .ok (.aload_n 0, 1) := by decide +kernel
theorem dX12_story_23 : decode cX12_story 23 = .ok (.getfield 201, 3) := by decide +kernel
theorem dX12_story_26 : decode cX12_story 26 = .ok (.invokestatic 186, 3) := by decide +kernel
theorem dX12_story_29 : decode cX12_story 29 = .ok (.ifCond .ne 6, 3) := by decide +kernel
theorem dX12_story_32 : decode cX12_story 32 = .ok (.bipush (-2), 2) := by decide +kernel
theorem dX12_story_34 : decode cX12_story 34 = .ok (.ireturn, 1) := by decide +kernel
theorem dX12_story_35 : decode cX12_story 35 = .ok (.aload_n 0, 1) := by decide +kernel
theorem dX12_story_36 : decode cX12_story 36 = .ok (.getfield 440, 3) := by decide +kernel
theorem dX12_story_39 : decode cX12_story 39 = .ok (.bipush 20, 2) := by decide +kernel
theorem dX12_story_41 : decode cX12_story 41 = .ok (.if_icmp .ne 6, 3) := by decide +kernel
theorem dX12_story_44 : decode cX12_story 44 = .ok (.bipush (-4), 2) := by decide +kernel
theorem dX12_story_46 : decode cX12_story 46 = .ok (.ireturn, 1) := by decide +kernel
theorem dX12_story_47 : decode cX12_story 47 = .ok (.aload_n 0, 1) := by decide +kernel
theorem dX12_story_48 : decode cX12_story 48 = .ok (.getfield 113, 3) := by decide +kernel
theorem dX12_story_51 : decode cX12_story 51 = .ok (.aload_n 0, 1) := by decide +kernel
theorem dX12_story_52 : decode cX12_story 52 = .ok (.getfield 440, 3) := by decide +kernel
theorem dX12_story_55 : decode cX12_story 55 = .ok (.iload_n 1, 1) := by decide +kernel
theorem dX12_story_56 : decode cX12_story 56 = .ok (.iastore, 1) := by decide +kernel
theorem dX12_story_57 : decode cX12_story 57 = .ok (.aload_n 0, 1) := by decide +kernel
theorem dX12_story_58 : decode cX12_story 58 = .ok (.getfield 116, 3) := by decide +kernel
theorem dX12_story_61 : decode cX12_story 61 = .ok (.aload_n 0, 1) := by decide +kernel
theorem dX12_story_62 : decode cX12_story 62 = .ok (.getfield 440, 3) := by decide +kernel
theorem dX12_story_65 : decode cX12_story 65 = .ok (.iload_n 2, 1) := by decide +kernel
theorem dX12_story_66 : decode cX12_story 66 = .ok (.iastore, 1) := by decide +kernel
theorem dX12_story_67 : decode cX12_story 67 = .ok (.aload_n 0, 1) := by decide +kernel
theorem dX12_story_68 : decode cX12_story 68 = .ok (.getfield 119, 3) := by decide +kernel
theorem dX12_story_71 : decode cX12_story 71 = .ok (.aload_n 0, 1) := by decide +kernel
theorem dX12_story_72 : decode cX12_story 72 = .ok (.getfield 440, 3) := by decide +kernel
theorem dX12_story_75 : decode cX12_story 75 = .ok (.iload_n 3, 1) := by decide +kernel
theorem dX12_story_76 : decode cX12_story 76 = .ok (.iastore, 1) := by decide +kernel
theorem dX12_story_77 : decode cX12_story 77 = .ok (.aload_n 0, 1) := by decide +kernel
theorem dX12_story_78 : decode cX12_story 78 = .ok (.dup, 1) := by decide +kernel
theorem dX12_story_79 : decode cX12_story 79 = .ok (.getfield 440, 3) := by decide +kernel
theorem dX12_story_82 : decode cX12_story 82 = .ok (.iconst 1, 1) := by decide +kernel
theorem dX12_story_83 : decode cX12_story 83 = .ok (.iadd, 1) := by decide +kernel
theorem dX12_story_84 : decode cX12_story 84 = .ok (.putfield 440, 3) := by decide +kernel
theorem dX12_story_87 : decode cX12_story 87 = .ok (.aload_n 0, 1) := by decide +kernel
theorem dX12_story_88 : decode cX12_story 88 = .ok (.getfield 440, 3) := by decide +kernel
theorem dX12_story_91 : decode cX12_story 91 = .ok (.iconst 1, 1) := by decide +kernel
theorem dX12_story_92 : decode cX12_story 92 = .ok (.isub, 1) := by decide +kernel
theorem dX12_story_93 : decode cX12_story 93 = .ok (.ireturn, 1) := by decide +kernel
set_option maxRecDepth 20000 in
theorem ggX12_unfit_X12_patchOf : GoodIn wsX12_unfit wsX12_patchOf := goodIn_r _ [10, 11, 12, 13, 14, 15, 9, 16, 17, 18, 19, 20, 21, 22, 23, 24, 25, 26, 27, 28, 29, 30, 31, 32, 33, 34, 35, 36, 37, 38, 39, 40, 41, 42, 43, 44, 45, 46, 47, 48, 49, 50, 51, 52, 53, 54, 55, 56, 57, 58, 59, 60, 61, 62, 63, 64, 65, 66, 67, 68, 69, 70, 71, 72, 73, 74, 75, 76, 77, 78, 79, 80, 81, 82, 83, 84, 85, 86, 87, 88, 89, 90, 91, 92, 93, 94, 95, 96, 97, 98, 99, 100, 101, 102, 103, 104, 105, 106, 107, 108, 109, 110, 111, 112, 113] (by decide +kernel) (by decide +kernel)
set_option maxRecDepth 20000 in
theorem gX12_unfit_X12_patchOf : GoodIn wsX12_unfit (wsV RX12 238 RX12 yX12_patchOf wsX12_patchOf) := goodIn_app (goodIn_of _ (by decide +kernel)) ggX12_unfit_X12_patchOf
theorem dX12_unfit_0 : decode cX12_unfit 0 = .ok (.iconst 0, 1) := by decide +kernel
theorem dX12_unfit_1 : decode cX12_unfit 1 = .ok (.istore_n 1, 1) := by decide +kernel
theorem dX12_unfit_2 : decode cX12_unfit 2 = .ok (.iconst 0, 1) := by decide +kernel
theorem dX12_unfit_3 : decode cX12_unfit 3 = .ok (.istore_n 2, 1) := by decide +kernel
theorem dX12_unfit_4 : decode cX12_unfit 4 = .ok (.iload_n 2, 1) := by decide +kernel
theorem dX12_unfit_5 : decode cX12_unfit 5 = .ok (.aload_n 0, 1) := by decide +kernel
theorem dX12_unfit_6 : decode cX12_unfit 6 = .ok (.getfield 440, 3) := by decide +kernel
theorem dX12_unfit_9 : decode cX12_unfit 9 = .ok (.if_icmp .ge 55, 3) := by decide +kernel
theorem dX12_unfit_12 : decode cX12_unfit 12 = .ok (.aload_n 0, 1) := by decide +kernel
theorem dX12_unfit_13 : decode cX12_unfit 13 = .ok (.aload_n 0, 1) := by decide +kernel
theorem dX12_unfit_14 : decode cX12_unfit 14 = .ok (.getfield 113, 3) := by decide +kernel
theorem dX12_unfit_17 : decode cX12_unfit 17 = .ok (.iload_n 2, 1) := by decide +kernel
theorem dX12_unfit_18 : decode cX12_unfit 18 = .ok (.iaload, 1) := by decide +kernel
theorem dX12_unfit_19 : decode cX12_unfit 19 = .ok (.aload_n 0, 1) := by decide +kernel
theorem dX12_unfit_20 : decode cX12_unfit 20 = .ok (.getfield 119, 3) := by decide +kernel
theorem dX12_unfit_23 : decode cX12_unfit 23 = .ok (.iload_n 2, 1) := by decide +kernel
theorem dX12_unfit_24 : decode cX12_unfit 24 = .ok (.iaload, 1) := by decide +kernel
theorem dX12_unfit_25 : decode cX12_unfit 25 = .ok (.aload_n 0, 1) := by decide +kernel
theorem dX12_unfit_26 : decode cX12_unfit 26 = .ok (.getfield 201, 3) := by decide +kernel
theorem dX12_unfit_29 : decode cX12_unfit 29 = .ok (.invokevirtual 238, 3) := by decide +kernel
theorem dX12_unfit_32 : decode cX12_unfit 32 = .ok (.lstore_n 3, 1) := by decide +kernel
theorem dX12_unfit_33 : decode cX12_unfit 33 = .ok (.iload_n 1, 1) := by decide +kernel
theorem dX12_unfit_34 : decode cX12_unfit 34 = .ok (.lload_n 3, 1) := by decide +kernel
theorem dX12_unfit_35 : decode cX12_unfit 35 = .ok (.aload_n 0, 1) := by decide +kernel
theorem dX12_unfit_36 : decode cX12_unfit 36 = .ok (.getfield 116, 3) := by decide +kernel
theorem dX12_unfit_39 : decode cX12_unfit 39 = .ok (.iload_n 2, 1) := by decide +kernel
theorem dX12_unfit_40 : decode cX12_unfit 40 = .ok (.iaload, 1) := by decide +kernel
theorem dX12_unfit_41 : decode cX12_unfit 41 = .ok (.lushr, 1) := by decide +kernel
theorem dX12_unfit_42 : decode cX12_unfit 42 = .ok (.lconst 1, 1) := by decide +kernel
theorem dX12_unfit_43 : decode cX12_unfit 43 = .ok (.land, 1) := by decide +kernel
theorem dX12_unfit_44 : decode cX12_unfit 44 = .ok (.lconst 1, 1) := by decide +kernel
theorem dX12_unfit_45 : decode cX12_unfit 45 = .ok (.lcmp, 1) := by decide +kernel
theorem dX12_unfit_46 : decode cX12_unfit 46 = .ok (.ifCond .ne 7, 3) := by decide +kernel
theorem dX12_unfit_49 : decode cX12_unfit 49 = .ok (.iconst 0, 1) := by decide +kernel
theorem dX12_unfit_50 : decode cX12_unfit 50 = .ok (.goto 6, 3) := by decide +kernel
theorem dX12_unfit_53 : decode cX12_unfit 53 = .ok (.iconst 1, 1) := by decide +kernel
theorem dX12_unfit_54 : decode cX12_unfit 54 = .ok (.iload_n 2, 1) := by decide +kernel
theorem dX12_unfit_55 : decode cX12_unfit 55 = .ok (.ishl, 1) := by decide +kernel
theorem dX12_unfit_56 : decode cX12_unfit 56 = .ok (.ior, 1) := by decide +kernel
theorem dX12_unfit_57 : decode cX12_unfit 57 = .ok (.istore_n 1, 1) := by decide +kernel
theorem dX12_unfit_58 : decode cX12_unfit 58 = .ok (.iinc 2 1, 3) := by decide +kernel
theorem dX12_unfit_61 : decode cX12_unfit 61 = .ok (.goto (-57), 3) := by decide +kernel
theorem dX12_unfit_64 : decode cX12_unfit 64 = .ok (.iload_n 1, 1) := by decide +kernel
theorem dX12_unfit_65 : decode cX12_unfit 65 = .ok (.ireturn, 1) := by decide +kernel
theorem dX12_isStory_0 : decode cX12_isStory 0 = .ok (.iload_n 1, 1) := by decide +kernel
theorem dX12_isStory_1 : decode cX12_isStory 1 = .ok (.ifCond .lt 15, 3) := by decide +kernel
theorem dX12_isStory_4 : decode cX12_isStory 4 = .ok (.iload_n 1, 1) := by decide +kernel
theorem dX12_isStory_5 : decode cX12_isStory 5 = .ok (.aload_n 0, 1) := by decide +kernel
theorem dX12_isStory_6 : decode cX12_isStory 6 = .ok (.getfield 440, 3) := by decide +kernel
theorem dX12_isStory_9 : decode cX12_isStory 9 = .ok (.if_icmp .ge 7, 3) := by decide +kernel
theorem dX12_isStory_12 : decode cX12_isStory 12 = .ok (.iconst 1, 1) := by decide +kernel
theorem dX12_isStory_13 : decode cX12_isStory 13 = .ok (.goto 4, 3) := by decide +kernel
theorem dX12_isStory_16 : decode cX12_isStory 16 = .ok (.iconst 0, 1) := by decide +kernel
theorem dX12_isStory_17 : decode cX12_isStory 17 = .ok (.ireturn, 1) := by decide +kernel
set_option maxRecDepth 20000 in
theorem ggX12_clash_X12_isStory : GoodIn wsX12_clash wsX12_isStory := goodIn_r _ [8, 9, 22, 23, 24, 25, 26, 27, 28, 29, 30, 31, 32, 33, 34, 35, 36, 37, 38, 39, 40, 41, 42, 43, 44, 45, 46, 47, 48, 49, 50, 51, 52, 53, 54, 55, 56, 57, 58, 59, 60, 61, 62, 63, 64, 65, 66, 67, 68, 69, 70, 71, 72, 73, 74, 75, 76, 77, 78, 79, 80, 81, 82, 83, 84, 85, 86, 87, 88, 89, 90, 91, 92, 93, 94, 95, 96, 97, 98, 99, 100] (by decide +kernel) (by decide +kernel)
set_option maxRecDepth 20000 in
theorem gX12_clash_X12_isStory : GoodIn wsX12_clash (wsV RX12 443 RX12 yX12_isStory wsX12_isStory) := goodIn_app (goodIn_of _ (by decide +kernel)) ggX12_clash_X12_isStory
set_option maxRecDepth 20000 in
theorem ggX12_clash_X12_drifted : GoodIn wsX12_clash wsX12_drifted := goodIn_r _ [13, 14, 15, 16, 17, 18, 19, 20, 7, 21, 22, 23, 24, 25, 26, 27, 28, 29, 30, 31, 32, 33, 34, 35, 36, 37, 38, 39, 40, 41, 42, 43, 44, 45, 46, 47, 48, 49, 50, 51, 52, 53, 54, 55, 56, 57, 58, 59, 60, 61, 62, 63, 64, 65, 66, 67, 68, 69, 70, 71, 72, 73, 74, 75, 76, 77, 78, 79, 80, 81, 82, 83, 84, 85, 86, 87, 88, 89, 90, 91, 92, 93, 94, 95, 96, 97, 98, 99, 100] (by decide +kernel) (by decide +kernel)
set_option maxRecDepth 20000 in
theorem gX12_clash_X12_drifted : GoodIn wsX12_clash (wsV RX12 232 RX12 yX12_drifted wsX12_drifted) := goodIn_app (goodIn_of _ (by decide +kernel)) ggX12_clash_X12_drifted
theorem dX12_clash_0 : decode cX12_clash 0 = .ok (.aload_n 0, 1) := by decide +kernel
theorem dX12_clash_1 : decode cX12_clash 1 = .ok (.iload_n 1, 1) := by decide +kernel
theorem dX12_clash_2 : decode cX12_clash 2 = .ok (.invokevirtual 443, 3) := by decide +kernel
theorem dX12_clash_5 : decode cX12_clash 5 = .ok (.ifCond .eq 31, 3) := by decide +kernel
theorem dX12_clash_8 : decode cX12_clash 8 = .ok (.aload_n 0, 1) := by decide +kernel
theorem dX12_clash_9 : decode cX12_clash 9 = .ok (.iload_n 2, 1) := by decide +kernel
theorem dX12_clash_10 : decode cX12_clash 10 = .ok (.invokevirtual 443, 3) := by decide +kernel
theorem dX12_clash_13 : decode cX12_clash 13 = .ok (.ifCond .eq 23, 3) := by decide +kernel
theorem dX12_clash_16 : decode cX12_clash 16 = .ok (.iload_n 1, 1) := by decide +kernel
theorem dX12_clash_17 : decode cX12_clash 17 = .ok (.iload_n 2, 1) := by decide +kernel
theorem dX12_clash_18 : decode cX12_clash 18 = .ok (.if_icmp .eq 18, 3) := by decide +kernel
theorem dX12_clash_21 : decode cX12_clash 21 = .ok (.aload_n 0, 1) := by decide +kernel
theorem dX12_clash_22 : decode cX12_clash 22 = .ok (.getfield 113, 3) := by decide +kernel
theorem dX12_clash_25 : decode cX12_clash 25 = .ok (.iload_n 1, 1) := by decide +kernel
theorem dX12_clash_26 : decode cX12_clash 26 = .ok (.iaload, 1) := by decide +kernel
theorem dX12_clash_27 : decode cX12_clash 27 = .ok (.aload_n 0, 1) := by decide +kernel
theorem dX12_clash_28 : decode cX12_clash 28 = .ok (.getfield 113, 3) := by decide +kernel
theorem dX12_clash_31 : decode cX12_clash 31 = .ok (.iload_n 2, 1) := by decide +kernel
theorem dX12_clash_32 : decode cX12_clash 32 = .ok (.iaload, 1) := by decide +kernel
theorem dX12_clash_33 : decode cX12_clash 33 = .ok (.if_icmp .eq 6, 3) := by decide +kernel
theorem dX12_clash_36 : decode cX12_clash 36 = .ok (.bipush (-2), 2) := by decide +kernel
theorem dX12_clash_38 : decode cX12_clash 38 = .ok (.ireturn, 1) := by decide +kernel
theorem dX12_clash_39 : decode cX12_clash 39 = .ok (.aload_n 0, 1) := by decide +kernel
theorem dX12_clash_40 : decode cX12_clash 40 = .ok (.getfield 119, 3) := by decide +kernel
theorem dX12_clash_43 : decode cX12_clash 43 = .ok (.iload_n 1, 1) := by decide +kernel
theorem dX12_clash_44 : decode cX12_clash 44 = .ok (.iaload, 1) := by decide +kernel
theorem dX12_clash_45 : decode cX12_clash 45 = .ok (.aload_n 0, 1) := by decide +kernel
theorem dX12_clash_46 : decode cX12_clash 46 = .ok (.getfield 119, 3) := by decide +kernel
theorem dX12_clash_49 : decode cX12_clash 49 = .ok (.iload_n 2, 1) := by decide +kernel
theorem dX12_clash_50 : decode cX12_clash 50 = .ok (.iaload, 1) := by decide +kernel
theorem dX12_clash_51 : decode cX12_clash 51 = .ok (.if_icmp .gt 7, 3) := by decide +kernel
theorem dX12_clash_54 : decode cX12_clash 54 = .ok (.iload_n 1, 1) := by decide +kernel
theorem dX12_clash_55 : decode cX12_clash 55 = .ok (.goto 4, 3) := by decide +kernel
theorem dX12_clash_58 : decode cX12_clash 58 = .ok (.iload_n 2, 1) := by decide +kernel
theorem dX12_clash_59 : decode cX12_clash 59 = .ok (.istore_n 3, 1) := by decide +kernel
theorem dX12_clash_60 : decode cX12_clash 60 = .ok (.iload_n 3, 1) := by decide +kernel
theorem dX12_clash_61 : decode cX12_clash 61 = .ok (.iload_n 1, 1) := by decide +kernel
theorem dX12_clash_62 : decode cX12_clash 62 = .ok (.if_icmp .ne 7, 3) := by decide +kernel
theorem dX12_clash_65 : decode cX12_clash 65 = .ok (.iload_n 2, 1) := by decide +kernel
theorem dX12_clash_66 : decode cX12_clash 66 = .ok (.goto 4, 3) := by decide +kernel
theorem dX12_clash_69 : decode cX12_clash 69 = .ok (.iload_n 1, 1) := by decide +kernel
theorem dX12_clash_70 : decode cX12_clash 70 = .ok (.istore 4, 2) := by decide +kernel
theorem dX12_clash_72 : decode cX12_clash 72 = .ok (.lconst 1, 1) := by decide +kernel
theorem dX12_clash_73 : decode cX12_clash 73 = .ok (.aload_n 0, 1) := by decide +kernel
theorem dX12_clash_74 : decode cX12_clash 74 = .ok (.getfield 116, 3) := by decide +kernel
theorem dX12_clash_77 : decode cX12_clash 77 = .ok (.iload_n 3, 1) := by decide +kernel
theorem dX12_clash_78 : decode cX12_clash 78 = .ok (.iaload, 1) := by decide +kernel
theorem dX12_clash_79 : decode cX12_clash 79 = .ok (.lshl, 1) := by decide +kernel
theorem dX12_clash_80 : decode cX12_clash 80 = .ok (.lstore 5, 2) := by decide +kernel
theorem dX12_clash_82 : decode cX12_clash 82 = .ok (.aload_n 0, 1) := by decide +kernel
theorem dX12_clash_83 : decode cX12_clash 83 = .ok (.getfield 119, 3) := by decide +kernel
theorem dX12_clash_86 : decode cX12_clash 86 = .ok (.iload_n 3, 1) := by decide +kernel
theorem dX12_clash_87 : decode cX12_clash 87 = .ok (.iaload, 1) := by decide +kernel
theorem dX12_clash_88 : decode cX12_clash 88 = .ok (.istore 7, 2) := by decide +kernel
theorem dX12_clash_90 : decode cX12_clash 90 = .ok (.iload 7, 2) := by decide +kernel
theorem dX12_clash_92 : decode cX12_clash 92 = .ok (.aload_n 0, 1) := by decide +kernel
theorem dX12_clash_93 : decode cX12_clash 93 = .ok (.getfield 119, 3) := by decide +kernel
theorem dX12_clash_96 : decode cX12_clash 96 = .ok (.iload 4, 2) := by decide +kernel
theorem dX12_clash_98 : decode cX12_clash 98 = .ok (.iaload, 1) := by decide +kernel
theorem dX12_clash_99 : decode cX12_clash 99 = .ok (.if_icmp .ge 25, 3) := by decide +kernel
theorem dX12_clash_102 : decode cX12_clash 102 = .ok (.aload_n 0, 1) := by decide +kernel
theorem dX12_clash_103 : decode cX12_clash 103 = .ok (.aload_n 0, 1) := by decide +kernel
theorem dX12_clash_104 : decode cX12_clash 104 = .ok (.getfield 113, 3) := by decide +kernel
theorem dX12_clash_107 : decode cX12_clash 107 = .ok (.iload_n 1, 1) := by decide +kernel
theorem dX12_clash_108 : decode cX12_clash 108 = .ok (.iaload, 1) := by decide +kernel
theorem dX12_clash_109 : decode cX12_clash 109 = .ok (.iload 7, 2) := by decide +kernel
theorem dX12_clash_111 : decode cX12_clash 111 = .ok (.lload 5, 2) := by decide +kernel
theorem dX12_clash_113 : decode cX12_clash 113 = .ok (.invokevirtual 232, 3) := by decide +kernel
theorem dX12_clash_116 : decode cX12_clash 116 = .ok (.lstore 5, 2) := by decide +kernel
theorem dX12_clash_118 : decode cX12_clash 118 = .ok (.iinc 7 1, 3) := by decide +kernel
theorem dX12_clash_121 : decode cX12_clash 121 = .ok (.goto (-31), 3) := by decide +kernel
theorem dX12_clash_124 : decode cX12_clash 124 = .ok (.lload 5, 2) := by decide +kernel
theorem dX12_clash_126 : decode cX12_clash 126 = .ok (.aload_n 0, 1) := by decide +kernel
theorem dX12_clash_127 : decode cX12_clash 127 = .ok (.getfield 116, 3) := by decide +kernel
theorem dX12_clash_130 : decode cX12_clash 130 = .ok (.iload 4, 2) := by decide +kernel
theorem dX12_clash_132 : decode cX12_clash 132 = .ok (.iaload, 1) := by decide +kernel
theorem dX12_clash_133 : decode cX12_clash 133 = .ok (.lushr, 1) := by decide +kernel
theorem dX12_clash_134 : decode cX12_clash 134 = .ok (.lconst 1, 1) := by decide +kernel
theorem dX12_clash_135 : decode cX12_clash 135 = .ok (.land, 1) := by decide +kernel
theorem dX12_clash_136 : decode cX12_clash 136 = .ok (.lconst 1, 1) := by decide +kernel
theorem dX12_clash_137 : decode cX12_clash 137 = .ok (.lcmp, 1) := by decide +kernel
theorem dX12_clash_138 : decode cX12_clash 138 = .ok (.ifCond .ne 7, 3) := by decide +kernel
theorem dX12_clash_141 : decode cX12_clash 141 = .ok (.iconst 0, 1) := by decide +kernel
theorem dX12_clash_142 : decode cX12_clash 142 = .ok (.goto 4, 3) := by decide +kernel
theorem dX12_clash_145 : decode cX12_clash 145 = .ok (.iconst 1, 1) := by decide +kernel
theorem dX12_clash_146 : decode cX12_clash 146 = .ok (.ireturn, 1) := by decide +kernel
theorem dX12_row_0 : decode cX12_row 0 = .ok (.lload_n 1, 1) := by decide +kernel
theorem dX12_row_1 : decode cX12_row 1 = .ok (.lconst 0, 1) := by decide +kernel
theorem dX12_row_2 : decode cX12_row 2 = .ok (.lcmp, 1) := by decide +kernel
theorem dX12_row_3 : decode cX12_row 3 = .ok (.ifCond .lt 11, 3) := by decide +kernel
theorem dX12_row_6 : decode cX12_row 6 = .ok (.lload_n 1, 1) := by decide +kernel
theorem dX12_row_7 : decode cX12_row 7 = .ok (.ldc2_w 446, 3) := by decide +kernel
theorem dX12_row_10 : decode cX12_row 10 = .ok (.lcmp, 1) := by decide +kernel
theorem dX12_row_11 : decode cX12_row 11 = .ok (.ifCond .le 6, 3) := by decide +kernel
theorem dX12_row_14 : decode cX12_row 14 = .ok (.bipush (-2), 2) := by decide +kernel
theorem dX12_row_16 : decode cX12_row 16 = .ok (.ireturn, 1) := by decide +kernel
theorem dX12_row_17 : decode cX12_row 17 = .ok (.aload_n 0, 1) := by decide +kernel
theorem dX12_row_18 : decode cX12_row 18 = .ok (.getfield 448, 3) := by decide +kernel
theorem dX12_row_21 : decode cX12_row 21 = .ok (.iconst 4, 1) := by decide +kernel
theorem dX12_row_22 : decode cX12_row 22 = .ok (.if_icmp .ne 6, 3) := by decide +kernel
theorem dX12_row_25 : decode cX12_row 25 = .ok (.bipush (-4), 2) := by decide +kernel
theorem dX12_row_27 : decode cX12_row 27 = .ok (.ireturn, 1) := by decide +kernel
theorem dX12_row_28 : decode cX12_row 28 = .ok (.lload_n 1, 1) := by decide +kernel
theorem dX12_row_29 : decode cX12_row 29 = .ok (.lstore_n 3, 1) := by decide +kernel
theorem dX12_row_30 : decode cX12_row 30 = .ok (.iconst 0, 1) := by decide +kernel
theorem dX12_row_31 : decode cX12_row 31 = .ok (.istore 5, 2) := by decide +kernel
theorem dX12_row_33 : decode cX12_row 33 = .ok (.iload 5, 2) := by decide +kernel
theorem dX12_row_35 : decode cX12_row 35 = .ok (.bipush 15, 2) := by decide +kernel
theorem dX12_row_37 : decode cX12_row 37 = .ok (.if_icmp .ge 36, 3) := by decide +kernel
theorem dX12_row_40 : decode cX12_row 40 = .ok (.aload_n 0, 1) := by decide +kernel
theorem dX12_row_41 : decode cX12_row 41 = .ok (.getfield 122, 3) := by decide +kernel
theorem dX12_row_44 : decode cX12_row 44 = .ok (.bipush 15, 2) := by decide +kernel
theorem dX12_row_46 : decode cX12_row 46 = .ok (.aload_n 0, 1) := by decide +kernel
theorem dX12_row_47 : decode cX12_row 47 = .ok (.getfield 448, 3) := by decide +kernel
theorem dX12_row_50 : decode cX12_row 50 = .ok (.imul, 1) := by decide +kernel
theorem dX12_row_51 : decode cX12_row 51 = .ok (.iload 5, 2) := by decide +kernel
theorem dX12_row_53 : decode cX12_row 53 = .ok (.iadd, 1) := by decide +kernel
theorem dX12_row_54 : decode cX12_row 54 = .ok (.lload_n 3, 1) := by decide +kernel
theorem dX12_row_55 : decode cX12_row 55 = .ok (.ldc2_w 451, 3) := by decide +kernel
theorem dX12_row_58 : decode cX12_row 58 = .ok (.lrem, 1) := by decide +kernel
theorem dX12_row_59 : decode cX12_row 59 = .ok (.l2i, 1) := by decide +kernel
theorem dX12_row_60 : decode cX12_row 60 = .ok (.iastore, 1) := by decide +kernel
theorem dX12_row_61 : decode cX12_row 61 = .ok (.lload_n 3, 1) := by decide +kernel
theorem dX12_row_62 : decode cX12_row 62 = .ok (.ldc2_w 451, 3) := by decide +kernel
theorem dX12_row_65 : decode cX12_row 65 = .ok (.ldiv, 1) := by decide +kernel
theorem dX12_row_66 : decode cX12_row 66 = .ok (.lstore_n 3, 1) := by decide +kernel
theorem dX12_row_67 : decode cX12_row 67 = .ok (.iinc 5 1, 3) := by decide +kernel
theorem dX12_row_70 : decode cX12_row 70 = .ok (.goto (-37), 3) := by decide +kernel
theorem dX12_row_73 : decode cX12_row 73 = .ok (.aload_n 0, 1) := by decide +kernel
theorem dX12_row_74 : decode cX12_row 74 = .ok (.dup, 1) := by decide +kernel
theorem dX12_row_75 : decode cX12_row 75 = .ok (.getfield 448, 3) := by decide +kernel
theorem dX12_row_78 : decode cX12_row 78 = .ok (.iconst 1, 1) := by decide +kernel
theorem dX12_row_79 : decode cX12_row 79 = .ok (.iadd, 1) := by decide +kernel
theorem dX12_row_80 : decode cX12_row 80 = .ok (.putfield 448, 3) := by decide +kernel
theorem dX12_row_83 : decode cX12_row 83 = .ok (.aload_n 0, 1) := by decide +kernel
theorem dX12_row_84 : decode cX12_row 84 = .ok (.getfield 448, 3) := by decide +kernel
theorem dX12_row_87 : decode cX12_row 87 = .ok (.iconst 1, 1) := by decide +kernel
theorem dX12_row_88 : decode cX12_row 88 = .ok (.isub, 1) := by decide +kernel
theorem dX12_row_89 : decode cX12_row 89 = .ok (.ireturn, 1) := by decide +kernel
theorem dX12_goesIn_0 : decode cX12_goesIn 0 = .ok (.iload_n 3, 1) := by decide +kernel
theorem dX12_goesIn_1 : decode cX12_goesIn 1 = .ok (.istore 4, 2) := by decide +kernel
theorem dX12_goesIn_3 : decode cX12_goesIn 3 = .ok (.iconst 0, 1) := by decide +kernel
theorem dX12_goesIn_4 : decode cX12_goesIn 4 = .ok (.istore 5, 2) := by decide +kernel
theorem dX12_goesIn_6 : decode cX12_goesIn 6 = .ok (.iconst 0, 1) := by decide +kernel
theorem dX12_goesIn_7 : decode cX12_goesIn 7 = .ok (.istore 6, 2) := by decide +kernel
theorem dX12_goesIn_9 : decode cX12_goesIn 9 = .ok (.iload 6, 2) := by decide +kernel
theorem dX12_goesIn_11 : decode cX12_goesIn 11 = .ok (.iload_n 2, 1) := by decide +kernel
theorem dX12_goesIn_12 : decode cX12_goesIn 12 = .ok (.if_icmp .ge 59, 3) := by decide +kernel
theorem dX12_goesIn_15 : decode cX12_goesIn 15 = .ok (.aload_n 0, 1) := by decide +kernel
theorem dX12_goesIn_16 : decode cX12_goesIn 16 = .ok (.getfield 122, 3) := by decide +kernel
theorem dX12_goesIn_19 : decode cX12_goesIn 19 = .ok (.bipush 15, 2) := by decide +kernel
theorem dX12_goesIn_21 : decode cX12_goesIn 21 = .ok (.iload_n 1, 1) := by decide +kernel
theorem dX12_goesIn_22 : decode cX12_goesIn 22 = .ok (.imul, 1) := by decide +kernel
theorem dX12_goesIn_23 : decode cX12_goesIn 23 = .ok (.iconst 3, 1) := by decide +kernel
theorem dX12_goesIn_24 : decode cX12_goesIn 24 = .ok (.iload 6, 2) := by decide +kernel
theorem dX12_goesIn_26 : decode cX12_goesIn 26 = .ok (.imul, 1) := by decide +kernel
theorem dX12_goesIn_27 : decode cX12_goesIn 27 = .ok (.iadd, 1) := by decide +kernel
theorem dX12_goesIn_28 : decode cX12_goesIn 28 = .ok (.aload_n 0, 1) := by decide +kernel
theorem dX12_goesIn_29 : decode cX12_goesIn 29 = .ok (.getfield 152, 3) := by decide +kernel
theorem dX12_goesIn_32 : decode cX12_goesIn 32 = .ok (.iload 6, 2) := by decide +kernel
theorem dX12_goesIn_34 : decode cX12_goesIn 34 = .ok (.iaload, 1) := by decide +kernel
theorem dX12_goesIn_35 : decode cX12_goesIn 35 = .ok (.iadd, 1) := by decide +kernel
theorem dX12_goesIn_36 : decode cX12_goesIn 36 = .ok (.iaload, 1) := by decide +kernel
theorem dX12_goesIn_37 : decode cX12_goesIn 37 = .ok (.istore 7, 2) := by decide +kernel
theorem dX12_goesIn_39 : decode cX12_goesIn 39 = .ok (.iload 4, 2) := by decide +kernel
theorem dX12_goesIn_41 : decode cX12_goesIn 41 = .ok (.iload 7, 2) := by decide +kernel
theorem dX12_goesIn_43 : decode cX12_goesIn 43 = .ok (.if_icmp .le 22, 3) := by decide +kernel
theorem dX12_goesIn_46 : decode cX12_goesIn 46 = .ok (.iload 4, 2) := by decide +kernel
theorem dX12_goesIn_48 : decode cX12_goesIn 48 = .ok (.iload 7, 2) := by decide +kernel
theorem dX12_goesIn_50 : decode cX12_goesIn 50 = .ok (.iconst 1, 1) := by decide +kernel
theorem dX12_goesIn_51 : decode cX12_goesIn 51 = .ok (.iadd, 1) := by decide +kernel
theorem dX12_goesIn_52 : decode cX12_goesIn 52 = .ok (.isub, 1) := by decide +kernel
theorem dX12_goesIn_53 : decode cX12_goesIn 53 = .ok (.istore 4, 2) := by decide +kernel
theorem dX12_goesIn_55 : decode cX12_goesIn 55 = .ok (.iload 5, 2) := by decide +kernel
theorem dX12_goesIn_57 : decode cX12_goesIn 57 = .ok (.bipush 9, 2) := by decide +kernel
theorem dX12_goesIn_59 : decode cX12_goesIn 59 = .ok (.iload 7, 2) := by decide +kernel
theorem dX12_goesIn_61 : decode cX12_goesIn 61 = .ok (.isub, 1) := by decide +kernel
theorem dX12_goesIn_62 : decode cX12_goesIn 62 = .ok (.iadd, 1) := by decide +kernel
theorem dX12_goesIn_63 : decode cX12_goesIn 63 = .ok (.istore 5, 2) := by decide +kernel
theorem dX12_goesIn_65 : decode cX12_goesIn 65 = .ok (.iinc 6 1, 3) := by decide +kernel
theorem dX12_goesIn_68 : decode cX12_goesIn 68 = .ok (.goto (-59), 3) := by decide +kernel
theorem dX12_goesIn_71 : decode cX12_goesIn 71 = .ok (.iload 5, 2) := by decide +kernel
theorem dX12_goesIn_73 : decode cX12_goesIn 73 = .ok (.ireturn, 1) := by decide +kernel
set_option maxRecDepth 20000 in
theorem ggX12_days_X12_within : GoodIn wsX12_days wsX12_within := goodIn_r _ [7] (by decide +kernel) (by decide +kernel)
set_option maxRecDepth 20000 in
theorem gX12_days_X12_within : GoodIn wsX12_days (va_wsS RX12 186 yX12_within wsX12_within) := goodIn_app (goodIn_of _ (by decide +kernel)) ggX12_days_X12_within
set_option maxRecDepth 20000 in
theorem ggX12_days_X12_goesIn : GoodIn wsX12_days wsX12_goesIn := goodIn_r _ [11, 12, 1, 13, 14, 15, 16, 17, 18, 19, 20, 21, 22, 23, 24, 25, 26, 27, 28, 29, 30, 31, 32, 33, 34, 35, 36, 37, 38, 39, 40, 41, 42, 43, 44, 45, 46, 47, 48, 49, 50, 51, 52, 53, 54, 55, 56, 57, 58, 59, 60, 61, 62, 63, 64, 65, 66, 67, 68, 69, 70, 71, 72, 73, 74, 75, 76, 77, 78, 79, 80, 81, 82, 83, 84, 85, 86, 87, 88, 89, 90, 91] (by decide +kernel) (by decide +kernel)
set_option maxRecDepth 20000 in
theorem gX12_days_X12_goesIn : GoodIn wsX12_days (wsV RX12 453 RX12 yX12_goesIn wsX12_goesIn) := goodIn_app (goodIn_of _ (by decide +kernel)) ggX12_days_X12_goesIn
theorem dX12_days_0 : decode cX12_days 0 = .ok (.iload_n 1, 1) := by decide +kernel
theorem dX12_days_1 : decode cX12_days 1 = .ok (.iconst 1, 1) := by decide +kernel
theorem dX12_days_2 : decode cX12_days 2 = .ok (.iconst 5, 1) := by decide +kernel
theorem dX12_days_3 : decode cX12_days 3 = .ok (.invokestatic 186, 3) := by decide +kernel
theorem dX12_days_6 : decode cX12_days 6 = .ok (.ifCond .eq 13, 3) := by decide +kernel
theorem dX12_days_9 : decode cX12_days 9 = .ok (.iload_n 2, 1) := by decide +kernel
theorem dX12_days_10 : decode cX12_days 10 = .ok (.iconst 0, 1) := by decide +kernel
theorem dX12_days_11 : decode cX12_days 11 = .ok (.bipush 99, 2) := by decide +kernel
theorem dX12_days_13 : decode cX12_days 13 = .ok (.invokestatic 186, 3) := by decide +kernel
theorem dX12_days_16 : decode cX12_days 16 = .ok (.ifCond .ne 6, 3) := by decide +kernel
theorem dX12_days_19 : decode cX12_days 19 = .ok (.bipush (-2), 2) := by decide +kernel
theorem dX12_days_21 : decode cX12_days 21 = .ok (.ireturn, 1) := by decide +kernel
theorem dX12_days_22 : decode cX12_days 22 = .ok (.iload_n 3, 1) := by decide +kernel
theorem dX12_days_23 : decode cX12_days 23 = .ok (.iconst (-1), 1) := by decide +kernel
theorem dX12_days_24 : decode cX12_days 24 = .ok (.iload_n 1, 1) := by decide +kernel
theorem dX12_days_25 : decode cX12_days 25 = .ok (.iconst 1, 1) := by decide +kernel
theorem dX12_days_26 : decode cX12_days 26 = .ok (.isub, 1) := by decide +kernel
theorem dX12_days_27 : decode cX12_days 27 = .ok (.invokestatic 186, 3) := by decide +kernel
theorem dX12_days_30 : decode cX12_days 30 = .ok (.ifCond .ne 5, 3) := by decide +kernel
theorem dX12_days_33 : decode cX12_days 33 = .ok (.iconst (-1), 1) := by decide +kernel
theorem dX12_days_34 : decode cX12_days 34 = .ok (.ireturn, 1) := by decide +kernel
theorem dX12_days_35 : decode cX12_days 35 = .ok (.iconst 1, 1) := by decide +kernel
theorem dX12_days_36 : decode cX12_days 36 = .ok (.istore 4, 2) := by decide +kernel
theorem dX12_days_38 : decode cX12_days 38 = .ok (.iconst 0, 1) := by decide +kernel
theorem dX12_days_39 : decode cX12_days 39 = .ok (.istore 5, 2) := by decide +kernel
theorem dX12_days_41 : decode cX12_days 41 = .ok (.iload 5, 2) := by decide +kernel
theorem dX12_days_43 : decode cX12_days 43 = .ok (.iload_n 1, 1) := by decide +kernel
theorem dX12_days_44 : decode cX12_days 44 = .ok (.if_icmp .ge 15, 3) := by decide +kernel
theorem dX12_days_47 : decode cX12_days 47 = .ok (.iload 4, 2) := by decide +kernel
theorem dX12_days_49 : decode cX12_days 49 = .ok (.iconst 3, 1) := by decide +kernel
theorem dX12_days_50 : decode cX12_days 50 = .ok (.imul, 1) := by decide +kernel
theorem dX12_days_51 : decode cX12_days 51 = .ok (.istore 4, 2) := by decide +kernel
theorem dX12_days_53 : decode cX12_days 53 = .ok (.iinc 5 1, 3) := by decide +kernel
theorem dX12_days_56 : decode cX12_days 56 = .ok (.goto (-15), 3) := by decide +kernel
theorem dX12_days_59 : decode cX12_days 59 = .ok (.iconst (-1), 1) := by decide +kernel
theorem dX12_days_60 : decode cX12_days 60 = .ok (.istore 5, 2) := by decide +kernel
theorem dX12_days_62 : decode cX12_days 62 = .ok (.iconst 0, 1) := by decide +kernel
theorem dX12_days_63 : decode cX12_days 63 = .ok (.istore 6, 2) := by decide +kernel
theorem dX12_days_65 : decode cX12_days 65 = .ok (.iload 6, 2) := by decide +kernel
theorem dX12_days_67 : decode cX12_days 67 = .ok (.iload 4, 2) := by decide +kernel
theorem dX12_days_69 : decode cX12_days 69 = .ok (.if_icmp .ge 146, 3) := by decide +kernel
theorem dX12_days_72 : decode cX12_days 72 = .ok (.iload 6, 2) := by decide +kernel
theorem dX12_days_74 : decode cX12_days 74 = .ok (.istore 7, 2) := by decide +kernel
theorem dX12_days_76 : decode cX12_days 76 = .ok (.iload_n 1, 1) := by decide +kernel
theorem dX12_days_77 : decode cX12_days 77 = .ok (.iconst 1, 1) := by decide +kernel
theorem dX12_days_78 : decode cX12_days 78 = .ok (.isub, 1) := by decide +kernel
theorem dX12_days_79 : decode cX12_days 79 = .ok (.istore 8, 2) := by decide +kernel
theorem dX12_days_81 : decode cX12_days 81 = .ok (.iload 8, 2) := by decide +kernel
theorem dX12_days_83 : decode cX12_days 83 = .ok (.ifCond .lt 26, 3) := by decide +kernel
theorem dX12_days_86 : decode cX12_days 86 = .ok (.aload_n 0, 1) := by decide +kernel
theorem dX12_days_87 : decode cX12_days 87 = .ok (.getfield 152, 3) := by decide +kernel
theorem dX12_days_90 : decode cX12_days 90 = .ok (.iload 8, 2) := by decide +kernel
theorem dX12_days_92 : decode cX12_days 92 = .ok (.iload 7, 2) := by decide +kernel
theorem dX12_days_94 : decode cX12_days 94 = .ok (.iconst 3, 1) := by decide +kernel
theorem dX12_days_95 : decode cX12_days 95 = .ok (.irem, 1) := by decide +kernel
theorem dX12_days_96 : decode cX12_days 96 = .ok (.iastore, 1) := by decide +kernel
theorem dX12_days_97 : decode cX12_days 97 = .ok (.iload 7, 2) := by decide +kernel
theorem dX12_days_99 : decode cX12_days 99 = .ok (.iconst 3, 1) := by decide +kernel
theorem dX12_days_100 : decode cX12_days 100 = .ok (.idiv, 1) := by decide +kernel
theorem dX12_days_101 : decode cX12_days 101 = .ok (.istore 7, 2) := by decide +kernel
theorem dX12_days_103 : decode cX12_days 103 = .ok (.iinc 8 (-1), 3) := by decide +kernel
theorem dX12_days_106 : decode cX12_days 106 = .ok (.goto (-25), 3) := by decide +kernel
theorem dX12_days_109 : decode cX12_days 109 = .ok (.aload_n 0, 1) := by decide +kernel
theorem dX12_days_110 : decode cX12_days 110 = .ok (.getfield 448, 3) := by decide +kernel
theorem dX12_days_113 : decode cX12_days 113 = .ok (.ifCond .ne 7, 3) := by decide +kernel
theorem dX12_days_116 : decode cX12_days 116 = .ok (.iconst 0, 1) := by decide +kernel
theorem dX12_days_117 : decode cX12_days 117 = .ok (.goto 6, 3) := by decide +kernel
theorem dX12_days_120 : decode cX12_days 120 = .ok (.sipush 9999, 3) := by decide +kernel
theorem dX12_days_123 : decode cX12_days 123 = .ok (.istore 8, 2) := by decide +kernel
theorem dX12_days_125 : decode cX12_days 125 = .ok (.iconst 0, 1) := by decide +kernel
theorem dX12_days_126 : decode cX12_days 126 = .ok (.istore 9, 2) := by decide +kernel
theorem dX12_days_128 : decode cX12_days 128 = .ok (.iload 9, 2) := by decide +kernel
theorem dX12_days_130 : decode cX12_days 130 = .ok (.aload_n 0, 1) := by decide +kernel
theorem dX12_days_131 : decode cX12_days 131 = .ok (.getfield 448, 3) := by decide +kernel
theorem dX12_days_134 : decode cX12_days 134 = .ok (.if_icmp .ge 35, 3) := by decide +kernel
theorem dX12_days_137 : decode cX12_days 137 = .ok (.aload_n 0, 1) := by decide +kernel
theorem dX12_days_138 : decode cX12_days 138 = .ok (.iload 9, 2) := by decide +kernel
theorem dX12_days_140 : decode cX12_days 140 = .ok (.iload_n 1, 1) := by decide +kernel
theorem dX12_days_141 : decode cX12_days 141 = .ok (.iload_n 2, 1) := by decide +kernel
theorem dX12_days_142 : decode cX12_days 142 = .ok (.invokevirtual 453, 3) := by decide +kernel
theorem dX12_days_145 : decode cX12_days 145 = .ok (.istore 10, 2) := by decide +kernel
theorem dX12_days_147 : decode cX12_days 147 = .ok (.iload 10, 2) := by decide +kernel
theorem dX12_days_149 : decode cX12_days 149 = .ok (.iload 8, 2) := by decide +kernel
theorem dX12_days_151 : decode cX12_days 151 = .ok (.if_icmp .ge 8, 3) := by decide +kernel
theorem dX12_days_154 : decode cX12_days 154 = .ok (.iload 10, 2) := by decide +kernel
theorem dX12_days_156 : decode cX12_days 156 = .ok (.goto 5, 3) := by decide +kernel
theorem dX12_days_159 : decode cX12_days 159 = .ok (.iload 8, 2) := by decide +kernel
theorem dX12_days_161 : decode cX12_days 161 = .ok (.istore 8, 2) := by decide +kernel
theorem dX12_days_163 : decode cX12_days 163 = .ok (.iinc 9 1, 3) := by decide +kernel
theorem dX12_days_166 : decode cX12_days 166 = .ok (.goto (-38), 3) := by decide +kernel
theorem dX12_days_169 : decode cX12_days 169 = .ok (.iload 8, 2) := by decide +kernel
theorem dX12_days_171 : decode cX12_days 171 = .ok (.iload 5, 2) := by decide +kernel
theorem dX12_days_173 : decode cX12_days 173 = .ok (.if_icmp .le 36, 3) := by decide +kernel
theorem dX12_days_176 : decode cX12_days 176 = .ok (.iload 8, 2) := by decide +kernel
theorem dX12_days_178 : decode cX12_days 178 = .ok (.istore 5, 2) := by decide +kernel
theorem dX12_days_180 : decode cX12_days 180 = .ok (.iconst 0, 1) := by decide +kernel
theorem dX12_days_181 : decode cX12_days 181 = .ok (.istore 9, 2) := by decide +kernel
theorem dX12_days_183 : decode cX12_days 183 = .ok (.iload 9, 2) := by decide +kernel
theorem dX12_days_185 : decode cX12_days 185 = .ok (.iload_n 1, 1) := by decide +kernel
theorem dX12_days_186 : decode cX12_days 186 = .ok (.if_icmp .ge 23, 3) := by decide +kernel
theorem dX12_days_189 : decode cX12_days 189 = .ok (.aload_n 0, 1) := by decide +kernel
theorem dX12_days_190 : decode cX12_days 190 = .ok (.getfield 155, 3) := by decide +kernel
theorem dX12_days_193 : decode cX12_days 193 = .ok (.iload 9, 2) := by decide +kernel
theorem dX12_days_195 : decode cX12_days 195 = .ok (.aload_n 0, 1) := by decide +kernel
theorem dX12_days_196 : decode cX12_days 196 = .ok (.getfield 152, 3) := by decide +kernel
theorem dX12_days_199 : decode cX12_days 199 = .ok (.iload 9, 2) := by decide +kernel
theorem dX12_days_201 : decode cX12_days 201 = .ok (.iaload, 1) := by decide +kernel
theorem dX12_days_202 : decode cX12_days 202 = .ok (.iastore, 1) := by decide +kernel
theorem dX12_days_203 : decode cX12_days 203 = .ok (.iinc 9 1, 3) := by decide +kernel
theorem dX12_days_206 : decode cX12_days 206 = .ok (.goto (-23), 3) := by decide +kernel
theorem dX12_days_209 : decode cX12_days 209 = .ok (.iinc 6 1, 3) := by decide +kernel
theorem dX12_days_212 : decode cX12_days 212 = .ok (.goto (-147), 3) := by decide +kernel
theorem dX12_days_215 : decode cX12_days 215 = .ok (.iload_n 3, 1) := by decide +kernel
theorem dX12_days_216 : decode cX12_days 216 = .ok (.ifCond .ge 8, 3) := by decide +kernel
theorem dX12_days_219 : decode cX12_days 219 = .ok (.iload 5, 2) := by decide +kernel
theorem dX12_days_221 : decode cX12_days 221 = .ok (.goto 9, 3) := by decide +kernel
theorem dX12_days_224 : decode cX12_days 224 = .ok (.aload_n 0, 1) := by decide +kernel
theorem dX12_days_225 : decode cX12_days 225 = .ok (.getfield 155, 3) := by decide +kernel
theorem dX12_days_228 : decode cX12_days 228 = .ok (.iload_n 3, 1) := by decide +kernel
theorem dX12_days_229 : decode cX12_days 229 = .ok (.iaload, 1) := by decide +kernel
theorem dX12_days_230 : decode cX12_days 230 = .ok (.ireturn, 1) := by decide +kernel
theorem dX12_count_0 : decode cX12_count 0 = .ok (.iload_n 1, 1) := by decide +kernel
theorem dX12_count_1 : decode cX12_count 1 = .ok (.tableswitch 150 0 14 #[75, 80, 85, 90, 95, 100, 105, 110, 115, 120, 125, 130, 135, 140, 145], 75) := by decide +kernel
theorem dX12_count_76 : decode cX12_count 76 = .ok (.aload_n 0, 1) := by decide +kernel
theorem dX12_count_77 : decode cX12_count 77 = .ok (.getfield 201, 3) := by decide +kernel
theorem dX12_count_80 : decode cX12_count 80 = .ok (.ireturn, 1) := by decide +kernel
theorem dX12_count_81 : decode cX12_count 81 = .ok (.aload_n 0, 1) := by decide +kernel
theorem dX12_count_82 : decode cX12_count 82 = .ok (.getfield 190, 3) := by decide +kernel
theorem dX12_count_85 : decode cX12_count 85 = .ok (.ireturn, 1) := by decide +kernel
theorem dX12_count_86 : decode cX12_count 86 = .ok (.aload_n 0, 1) := by decide +kernel
theorem dX12_count_87 : decode cX12_count 87 = .ok (.getfield 211, 3) := by decide +kernel
theorem dX12_count_90 : decode cX12_count 90 = .ok (.ireturn, 1) := by decide +kernel
theorem dX12_count_91 : decode cX12_count 91 = .ok (.aload_n 0, 1) := by decide +kernel
theorem dX12_count_92 : decode cX12_count 92 = .ok (.getfield 223, 3) := by decide +kernel
theorem dX12_count_95 : decode cX12_count 95 = .ok (.ireturn, 1) := by decide +kernel
theorem dX12_count_96 : decode cX12_count 96 = .ok (.aload_n 0, 1) := by decide +kernel
theorem dX12_count_97 : decode cX12_count 97 = .ok (.getfield 246, 3) := by decide +kernel
theorem dX12_count_100 : decode cX12_count 100 = .ok (.ireturn, 1) := by decide +kernel
theorem dX12_count_101 : decode cX12_count 101 = .ok (.aload_n 0, 1) := by decide +kernel
theorem dX12_count_102 : decode cX12_count 102 = .ok (.getfield 252, 3) := by decide +kernel
theorem dX12_count_105 : decode cX12_count 105 = .ok (.ireturn, 1) := by decide +kernel
theorem dX12_count_106 : decode cX12_count 106 = .ok (.aload_n 0, 1) := by decide +kernel
theorem dX12_count_107 : decode cX12_count 107 = .ok (.getfield 263, 3) := by decide +kernel
theorem dX12_count_110 : decode cX12_count 110 = .ok (.ireturn, 1) := by decide +kernel
theorem dX12_count_111 : decode cX12_count 111 = .ok (.aload_n 0, 1) := by decide +kernel
theorem dX12_count_112 : decode cX12_count 112 = .ok (.getfield 272, 3) := by decide +kernel
theorem dX12_count_115 : decode cX12_count 115 = .ok (.ireturn, 1) := by decide +kernel
theorem dX12_count_116 : decode cX12_count 116 = .ok (.aload_n 0, 1) := by decide +kernel
theorem dX12_count_117 : decode cX12_count 117 = .ok (.getfield 320, 3) := by decide +kernel
theorem dX12_count_120 : decode cX12_count 120 = .ok (.ireturn, 1) := by decide +kernel
theorem dX12_count_121 : decode cX12_count 121 = .ok (.aload_n 0, 1) := by decide +kernel
theorem dX12_count_122 : decode cX12_count 122 = .ok (.getfield 440, 3) := by decide +kernel
theorem dX12_count_125 : decode cX12_count 125 = .ok (.ireturn, 1) := by decide +kernel
theorem dX12_count_126 : decode cX12_count 126 = .ok (.aload_n 0, 1) := by decide +kernel
theorem dX12_count_127 : decode cX12_count 127 = .ok (.getfield 448, 3) := by decide +kernel
theorem dX12_count_130 : decode cX12_count 130 = .ok (.ireturn, 1) := by decide +kernel
theorem dX12_count_131 : decode cX12_count 131 = .ok (.aload_n 0, 1) := by decide +kernel
theorem dX12_count_132 : decode cX12_count 132 = .ok (.getfield 182, 3) := by decide +kernel
theorem dX12_count_135 : decode cX12_count 135 = .ok (.ireturn, 1) := by decide +kernel
theorem dX12_count_136 : decode cX12_count 136 = .ok (.aload_n 0, 1) := by decide +kernel
theorem dX12_count_137 : decode cX12_count 137 = .ok (.getfield 323, 3) := by decide +kernel
theorem dX12_count_140 : decode cX12_count 140 = .ok (.ireturn, 1) := by decide +kernel
theorem dX12_count_141 : decode cX12_count 141 = .ok (.aload_n 0, 1) := by decide +kernel
theorem dX12_count_142 : decode cX12_count 142 = .ok (.getfield 431, 3) := by decide +kernel
theorem dX12_count_145 : decode cX12_count 145 = .ok (.ireturn, 1) := by decide +kernel
theorem dX12_count_146 : decode cX12_count 146 = .ok (.aload_n 0, 1) := by decide +kernel
theorem dX12_count_147 : decode cX12_count 147 = .ok (.getfield 307, 3) := by decide +kernel
theorem dX12_count_150 : decode cX12_count 150 = .ok (.ireturn, 1) := by decide +kernel
theorem dX12_count_151 : decode cX12_count 151 = .ok (.bipush (-2), 2) := by decide +kernel
theorem dX12_count_153 : decode cX12_count 153 = .ok (.ireturn, 1) := by decide +kernel
set_option maxRecDepth 20000 in
theorem ggX12_isSheet_X12_within : GoodIn wsX12_isSheet wsX12_within := goodIn_r _ [4] (by decide +kernel) (by decide +kernel)
set_option maxRecDepth 20000 in
theorem gX12_isSheet_X12_within : GoodIn wsX12_isSheet (va_wsS RX12 186 yX12_within wsX12_within) := goodIn_app (goodIn_of _ (by decide +kernel)) ggX12_isSheet_X12_within
theorem dX12_isSheet_0 : decode cX12_isSheet 0 = .ok (.iload_n 0, 1) := by decide +kernel
theorem dX12_isSheet_1 : decode cX12_isSheet 1 = .ok (.iconst 0, 1) := by decide +kernel
theorem dX12_isSheet_2 : decode cX12_isSheet 2 = .ok (.iconst 3, 1) := by decide +kernel
theorem dX12_isSheet_3 : decode cX12_isSheet 3 = .ok (.invokestatic 186, 3) := by decide +kernel
theorem dX12_isSheet_6 : decode cX12_isSheet 6 = .ok (.ireturn, 1) := by decide +kernel
set_option maxRecDepth 20000 in
theorem ggX12_sheet_X12_isSheet : GoodIn wsX12_sheet wsX12_isSheet := goodIn_r _ [7, 8, 9, 6, 10] (by decide +kernel) (by decide +kernel)
set_option maxRecDepth 20000 in
theorem gX12_sheet_X12_isSheet : GoodIn wsX12_sheet (va_wsS RX12 457 yX12_isSheet wsX12_isSheet) := goodIn_app (goodIn_of _ (by decide +kernel)) ggX12_sheet_X12_isSheet
set_option maxRecDepth 20000 in
theorem ggX12_sheet_X12_within : GoodIn wsX12_sheet wsX12_within := goodIn_r _ [10] (by decide +kernel) (by decide +kernel)
set_option maxRecDepth 20000 in
theorem gX12_sheet_X12_within : GoodIn wsX12_sheet (va_wsS RX12 186 yX12_within wsX12_within) := goodIn_app (goodIn_of _ (by decide +kernel)) ggX12_sheet_X12_within
theorem dX12_sheet_0 : decode cX12_sheet 0 = .ok (.iload_n 1, 1) := by decide +kernel
theorem dX12_sheet_1 : decode cX12_sheet 1 = .ok (.invokestatic 457, 3) := by decide +kernel
theorem dX12_sheet_4 : decode cX12_sheet 4 = .ok (.ifCond .eq 22, 3) := by decide +kernel
theorem dX12_sheet_7 : decode cX12_sheet 7 = .ok (.iload_n 2, 1) := by decide +kernel
theorem dX12_sheet_8 : decode cX12_sheet 8 = .ok (.iconst (-1), 1) := by decide +kernel
theorem dX12_sheet_9 : decode cX12_sheet 9 = .ok (.iconst 2, 1) := by decide +kernel
theorem dX12_sheet_10 : decode cX12_sheet 10 = .ok (.invokestatic 186, 3) := by decide +kernel
theorem dX12_sheet_13 : decode cX12_sheet 13 = .ok (.ifCond .eq 13, 3) := by decide +kernel
theorem dX12_sheet_16 : decode cX12_sheet 16 = .ok (.iload_n 2, 1) := by decide +kernel
theorem dX12_sheet_17 : decode cX12_sheet 17 = .ok (.ifCond .lt 12, 3) := by decide +kernel
theorem dX12_sheet_20 : decode cX12_sheet 20 = .ok (.iload_n 3, 1) := by decide +kernel
theorem dX12_sheet_21 : decode cX12_sheet 21 = .ok (.bipush 40, 2) := by decide +kernel
theorem dX12_sheet_23 : decode cX12_sheet 23 = .ok (.if_icmp .le 6, 3) := by decide +kernel
theorem dX12_sheet_26 : decode cX12_sheet 26 = .ok (.bipush (-2), 2) := by decide +kernel
theorem dX12_sheet_28 : decode cX12_sheet 28 = .ok (.ireturn, 1) := by decide +kernel
theorem dX12_sheet_29 : decode cX12_sheet 29 = .ok (.iload_n 2, 1) := by decide +kernel
theorem dX12_sheet_30 : decode cX12_sheet 30 = .ok (.ifCond .lt 10, 3) := by decide +kernel
theorem dX12_sheet_33 : decode cX12_sheet 33 = .ok (.iload_n 3, 1) := by decide +kernel
theorem dX12_sheet_34 : decode cX12_sheet 34 = .ok (.ifCond .ge 6, 3) := by decide +kernel
theorem dX12_sheet_37 : decode cX12_sheet 37 = .ok (.bipush (-14), 2) := by decide +kernel
theorem dX12_sheet_39 : decode cX12_sheet 39 = .ok (.ireturn, 1) := by decide +kernel
theorem dX12_sheet_40 : decode cX12_sheet 40 = .ok (.aload_n 0, 1) := by decide +kernel
theorem dX12_sheet_41 : decode cX12_sheet 41 = .ok (.getfield 158, 3) := by decide +kernel
theorem dX12_sheet_44 : decode cX12_sheet 44 = .ok (.iload_n 1, 1) := by decide +kernel
theorem dX12_sheet_45 : decode cX12_sheet 45 = .ok (.iload_n 2, 1) := by decide +kernel
theorem dX12_sheet_46 : decode cX12_sheet 46 = .ok (.iastore, 1) := by decide +kernel
theorem dX12_sheet_47 : decode cX12_sheet 47 = .ok (.aload_n 0, 1) := by decide +kernel
theorem dX12_sheet_48 : decode cX12_sheet 48 = .ok (.getfield 161, 3) := by decide +kernel
theorem dX12_sheet_51 : decode cX12_sheet 51 = .ok (.iload_n 1, 1) := by decide +kernel
theorem dX12_sheet_52 : decode cX12_sheet 52 = .ok (.iload_n 2, 1) := by decide +kernel
theorem dX12_sheet_53 : decode cX12_sheet 53 = .ok (.ifCond .ge 7, 3) := by decide +kernel
theorem dX12_sheet_56 : decode cX12_sheet 56 = .ok (.iconst 0, 1) := by decide +kernel
theorem dX12_sheet_57 : decode cX12_sheet 57 = .ok (.goto 4, 3) := by decide +kernel
theorem dX12_sheet_60 : decode cX12_sheet 60 = .ok (.iload_n 3, 1) := by decide +kernel
theorem dX12_sheet_61 : decode cX12_sheet 61 = .ok (.iastore, 1) := by decide +kernel
theorem dX12_sheet_62 : decode cX12_sheet 62 = .ok (.bipush 40, 2) := by decide +kernel
theorem dX12_sheet_64 : decode cX12_sheet 64 = .ok (.iload_n 1, 1) := by decide +kernel
theorem dX12_sheet_65 : decode cX12_sheet 65 = .ok (.imul, 1) := by decide +kernel
theorem dX12_sheet_66 : decode cX12_sheet 66 = .ok (.istore 4, 2) := by decide +kernel
theorem dX12_sheet_68 : decode cX12_sheet 68 = .ok (.iload 4, 2) := by decide +kernel
theorem dX12_sheet_70 : decode cX12_sheet 70 = .ok (.bipush 40, 2) := by decide +kernel
theorem dX12_sheet_72 : decode cX12_sheet 72 = .ok (.iload_n 1, 1) := by decide +kernel
theorem dX12_sheet_73 : decode cX12_sheet 73 = .ok (.imul, 1) := by decide +kernel
theorem dX12_sheet_74 : decode cX12_sheet 74 = .ok (.bipush 40, 2) := by decide +kernel
theorem dX12_sheet_76 : decode cX12_sheet 76 = .ok (.iadd, 1) := by decide +kernel
theorem dX12_sheet_77 : decode cX12_sheet 77 = .ok (.if_icmp .ge 17, 3) := by decide +kernel
theorem dX12_sheet_80 : decode cX12_sheet 80 = .ok (.aload_n 0, 1) := by decide +kernel
theorem dX12_sheet_81 : decode cX12_sheet 81 = .ok (.getfield 164, 3) := by decide +kernel
theorem dX12_sheet_84 : decode cX12_sheet 84 = .ok (.iload 4, 2) := by decide +kernel
theorem dX12_sheet_86 : decode cX12_sheet 86 = .ok (.iconst 0, 1) := by decide +kernel
theorem dX12_sheet_87 : decode cX12_sheet 87 = .ok (.iastore, 1) := by decide +kernel
theorem dX12_sheet_88 : decode cX12_sheet 88 = .ok (.iinc 4 1, 3) := by decide +kernel
theorem dX12_sheet_91 : decode cX12_sheet 91 = .ok (.goto (-23), 3) := by decide +kernel
theorem dX12_sheet_94 : decode cX12_sheet 94 = .ok (.iconst 1, 1) := by decide +kernel
theorem dX12_sheet_95 : decode cX12_sheet 95 = .ok (.ireturn, 1) := by decide +kernel
theorem dX12_isItem_0 : decode cX12_isItem 0 = .ok (.lload_n 2, 1) := by decide +kernel
theorem dX12_isItem_1 : decode cX12_isItem 1 = .ok (.lconst 0, 1) := by decide +kernel
theorem dX12_isItem_2 : decode cX12_isItem 2 = .ok (.lcmp, 1) := by decide +kernel
theorem dX12_isItem_3 : decode cX12_isItem 3 = .ok (.ifCond .lt 19, 3) := by decide +kernel
theorem dX12_isItem_6 : decode cX12_isItem 6 = .ok (.lload_n 2, 1) := by decide +kernel
theorem dX12_isItem_7 : decode cX12_isItem 7 = .ok (.aload_n 0, 1) := by decide +kernel
theorem dX12_isItem_8 : decode cX12_isItem 8 = .ok (.getfield 161, 3) := by decide +kernel
theorem dX12_isItem_11 : decode cX12_isItem 11 = .ok (.iload_n 1, 1) := by decide +kernel
theorem dX12_isItem_12 : decode cX12_isItem 12 = .ok (.iaload, 1) := by decide +kernel
theorem dX12_isItem_13 : decode cX12_isItem 13 = .ok (.i2l, 1) := by decide +kernel
theorem dX12_isItem_14 : decode cX12_isItem 14 = .ok (.lcmp, 1) := by decide +kernel
theorem dX12_isItem_15 : decode cX12_isItem 15 = .ok (.ifCond .ge 7, 3) := by decide +kernel
theorem dX12_isItem_18 : decode cX12_isItem 18 = .ok (.iconst 1, 1) := by decide +kernel
theorem dX12_isItem_19 : decode cX12_isItem 19 = .ok (.goto 4, 3) := by decide +kernel
theorem dX12_isItem_22 : decode cX12_isItem 22 = .ok (.iconst 0, 1) := by decide +kernel
